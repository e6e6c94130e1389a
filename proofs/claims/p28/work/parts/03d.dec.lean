theorem dL_act_0 : decode cL_act 0 = .ok (.iload_n 1, 1) := by decide +kernel
theorem dL_act_1 : decode cL_act 1 = .ok (.ifCond .ne 11, 3) := by decide +kernel
theorem dL_act_4 : decode cL_act 4 = .ok (.aload_n 0, 1) := by decide +kernel
theorem dL_act_5 : decode cL_act 5 = .ok (.iload_n 2, 1) := by decide +kernel
theorem dL_act_6 : decode cL_act 6 = .ok (.invokevirtual 7, 3) := by decide +kernel
theorem dL_act_9 : decode cL_act 9 = .ok (.goto 346, 3) := by decide +kernel
theorem dL_act_12 : decode cL_act 12 = .ok (.iload_n 1, 1) := by decide +kernel
theorem dL_act_13 : decode cL_act 13 = .ok (.iconst 1, 1) := by decide +kernel
theorem dL_act_14 : decode cL_act 14 = .ok (.if_icmp .ne 16, 3) := by decide +kernel
theorem dL_act_17 : decode cL_act 17 = .ok (.aload_n 0, 1) := by decide +kernel
theorem dL_act_18 : decode cL_act 18 = .ok (.iload_n 2, 1) := by decide +kernel
theorem dL_act_19 : decode cL_act 19 = .ok (.iload_n 3, 1) := by decide +kernel
theorem dL_act_20 : decode cL_act 20 = .ok (.iload 4, 2) := by decide +kernel
theorem dL_act_22 : decode cL_act 22 = .ok (.iload 5, 2) := by decide +kernel
theorem dL_act_24 : decode cL_act 24 = .ok (.invokevirtual 13, 3) := by decide +kernel
theorem dL_act_27 : decode cL_act 27 = .ok (.goto 328, 3) := by decide +kernel
theorem dL_act_30 : decode cL_act 30 = .ok (.iload_n 1, 1) := by decide +kernel
theorem dL_act_31 : decode cL_act 31 = .ok (.iconst 2, 1) := by decide +kernel
theorem dL_act_32 : decode cL_act 32 = .ok (.if_icmp .ne 21, 3) := by decide +kernel
theorem dL_act_35 : decode cL_act 35 = .ok (.aload_n 0, 1) := by decide +kernel
theorem dL_act_36 : decode cL_act 36 = .ok (.iload_n 2, 1) := by decide +kernel
theorem dL_act_37 : decode cL_act 37 = .ok (.iload_n 3, 1) := by decide +kernel
theorem dL_act_38 : decode cL_act 38 = .ok (.iconst 1, 1) := by decide +kernel
theorem dL_act_39 : decode cL_act 39 = .ok (.if_icmp .ne 7, 3) := by decide +kernel
theorem dL_act_42 : decode cL_act 42 = .ok (.iconst 1, 1) := by decide +kernel
theorem dL_act_43 : decode cL_act 43 = .ok (.goto 4, 3) := by decide +kernel
theorem dL_act_46 : decode cL_act 46 = .ok (.iconst 0, 1) := by decide +kernel
theorem dL_act_47 : decode cL_act 47 = .ok (.invokevirtual 17, 3) := by decide +kernel
theorem dL_act_50 : decode cL_act 50 = .ok (.goto 305, 3) := by decide +kernel
theorem dL_act_53 : decode cL_act 53 = .ok (.iload_n 1, 1) := by decide +kernel
theorem dL_act_54 : decode cL_act 54 = .ok (.iconst 3, 1) := by decide +kernel
theorem dL_act_55 : decode cL_act 55 = .ok (.if_icmp .ne 14, 3) := by decide +kernel
theorem dL_act_58 : decode cL_act 58 = .ok (.aload_n 0, 1) := by decide +kernel
theorem dL_act_59 : decode cL_act 59 = .ok (.iload_n 2, 1) := by decide +kernel
theorem dL_act_60 : decode cL_act 60 = .ok (.iload_n 3, 1) := by decide +kernel
theorem dL_act_61 : decode cL_act 61 = .ok (.iload 4, 2) := by decide +kernel
theorem dL_act_63 : decode cL_act 63 = .ok (.invokevirtual 21, 3) := by decide +kernel
theorem dL_act_66 : decode cL_act 66 = .ok (.goto 289, 3) := by decide +kernel
theorem dL_act_69 : decode cL_act 69 = .ok (.iload_n 1, 1) := by decide +kernel
theorem dL_act_70 : decode cL_act 70 = .ok (.iconst 4, 1) := by decide +kernel
theorem dL_act_71 : decode cL_act 71 = .ok (.if_icmp .ne 12, 3) := by decide +kernel
theorem dL_act_74 : decode cL_act 74 = .ok (.aload_n 0, 1) := by decide +kernel
theorem dL_act_75 : decode cL_act 75 = .ok (.iload_n 2, 1) := by decide +kernel
theorem dL_act_76 : decode cL_act 76 = .ok (.iload_n 3, 1) := by decide +kernel
theorem dL_act_77 : decode cL_act 77 = .ok (.invokevirtual 25, 3) := by decide +kernel
theorem dL_act_80 : decode cL_act 80 = .ok (.goto 275, 3) := by decide +kernel
theorem dL_act_83 : decode cL_act 83 = .ok (.iload_n 1, 1) := by decide +kernel
theorem dL_act_84 : decode cL_act 84 = .ok (.iconst 5, 1) := by decide +kernel
theorem dL_act_85 : decode cL_act 85 = .ok (.if_icmp .ne 12, 3) := by decide +kernel
theorem dL_act_88 : decode cL_act 88 = .ok (.aload_n 0, 1) := by decide +kernel
theorem dL_act_89 : decode cL_act 89 = .ok (.iload_n 2, 1) := by decide +kernel
theorem dL_act_90 : decode cL_act 90 = .ok (.iload_n 3, 1) := by decide +kernel
theorem dL_act_91 : decode cL_act 91 = .ok (.invokevirtual 29, 3) := by decide +kernel
theorem dL_act_94 : decode cL_act 94 = .ok (.goto 261, 3) := by decide +kernel
theorem dL_act_97 : decode cL_act 97 = .ok (.iload_n 1, 1) := by decide +kernel
theorem dL_act_98 : decode cL_act 98 = .ok (.bipush 6, 2) := by decide +kernel
theorem dL_act_100 : decode cL_act 100 = .ok (.if_icmp .ne 12, 3) := by decide +kernel
theorem dL_act_103 : decode cL_act 103 = .ok (.aload_n 0, 1) := by decide +kernel
theorem dL_act_104 : decode cL_act 104 = .ok (.iload_n 2, 1) := by decide +kernel
theorem dL_act_105 : decode cL_act 105 = .ok (.iload_n 3, 1) := by decide +kernel
theorem dL_act_106 : decode cL_act 106 = .ok (.invokevirtual 32, 3) := by decide +kernel
theorem dL_act_109 : decode cL_act 109 = .ok (.goto 246, 3) := by decide +kernel
theorem dL_act_112 : decode cL_act 112 = .ok (.iload_n 1, 1) := by decide +kernel
theorem dL_act_113 : decode cL_act 113 = .ok (.bipush 7, 2) := by decide +kernel
theorem dL_act_115 : decode cL_act 115 = .ok (.if_icmp .ne 12, 3) := by decide +kernel
theorem dL_act_118 : decode cL_act 118 = .ok (.aload_n 0, 1) := by decide +kernel
theorem dL_act_119 : decode cL_act 119 = .ok (.iload_n 2, 1) := by decide +kernel
theorem dL_act_120 : decode cL_act 120 = .ok (.iload_n 3, 1) := by decide +kernel
theorem dL_act_121 : decode cL_act 121 = .ok (.invokevirtual 35, 3) := by decide +kernel
theorem dL_act_124 : decode cL_act 124 = .ok (.goto 231, 3) := by decide +kernel
theorem dL_act_127 : decode cL_act 127 = .ok (.iload_n 1, 1) := by decide +kernel
theorem dL_act_128 : decode cL_act 128 = .ok (.bipush 8, 2) := by decide +kernel
theorem dL_act_130 : decode cL_act 130 = .ok (.if_icmp .ne 10, 3) := by decide +kernel
theorem dL_act_133 : decode cL_act 133 = .ok (.aload_n 0, 1) := by decide +kernel
theorem dL_act_134 : decode cL_act 134 = .ok (.invokevirtual 38, 3) := by decide +kernel
theorem dL_act_137 : decode cL_act 137 = .ok (.goto 218, 3) := by decide +kernel
theorem dL_act_140 : decode cL_act 140 = .ok (.iload_n 1, 1) := by decide +kernel
theorem dL_act_141 : decode cL_act 141 = .ok (.bipush 9, 2) := by decide +kernel
theorem dL_act_143 : decode cL_act 143 = .ok (.if_icmp .ne 14, 3) := by decide +kernel
theorem dL_act_146 : decode cL_act 146 = .ok (.aload_n 0, 1) := by decide +kernel
theorem dL_act_147 : decode cL_act 147 = .ok (.iload_n 2, 1) := by decide +kernel
theorem dL_act_148 : decode cL_act 148 = .ok (.iload_n 3, 1) := by decide +kernel
theorem dL_act_149 : decode cL_act 149 = .ok (.iload 4, 2) := by decide +kernel
theorem dL_act_151 : decode cL_act 151 = .ok (.invokevirtual 42, 3) := by decide +kernel
theorem dL_act_154 : decode cL_act 154 = .ok (.goto 201, 3) := by decide +kernel
theorem dL_act_157 : decode cL_act 157 = .ok (.iload_n 1, 1) := by decide +kernel
theorem dL_act_158 : decode cL_act 158 = .ok (.bipush 10, 2) := by decide +kernel
theorem dL_act_160 : decode cL_act 160 = .ok (.if_icmp .ne 12, 3) := by decide +kernel
theorem dL_act_163 : decode cL_act 163 = .ok (.aload_n 0, 1) := by decide +kernel
theorem dL_act_164 : decode cL_act 164 = .ok (.iload_n 2, 1) := by decide +kernel
theorem dL_act_165 : decode cL_act 165 = .ok (.iload_n 3, 1) := by decide +kernel
theorem dL_act_166 : decode cL_act 166 = .ok (.invokevirtual 45, 3) := by decide +kernel
theorem dL_act_169 : decode cL_act 169 = .ok (.goto 186, 3) := by decide +kernel
theorem dL_act_172 : decode cL_act 172 = .ok (.iload_n 1, 1) := by decide +kernel
theorem dL_act_173 : decode cL_act 173 = .ok (.bipush 11, 2) := by decide +kernel
theorem dL_act_175 : decode cL_act 175 = .ok (.if_icmp .ne 29, 3) := by decide +kernel
theorem dL_act_178 : decode cL_act 178 = .ok (.aload_n 0, 1) := by decide +kernel
theorem dL_act_179 : decode cL_act 179 = .ok (.iload_n 2, 1) := by decide +kernel
theorem dL_act_180 : decode cL_act 180 = .ok (.iload_n 3, 1) := by decide +kernel
theorem dL_act_181 : decode cL_act 181 = .ok (.iconst 1, 1) := by decide +kernel
theorem dL_act_182 : decode cL_act 182 = .ok (.if_icmp .ne 7, 3) := by decide +kernel
theorem dL_act_185 : decode cL_act 185 = .ok (.iconst 1, 1) := by decide +kernel
theorem dL_act_186 : decode cL_act 186 = .ok (.goto 4, 3) := by decide +kernel
theorem dL_act_189 : decode cL_act 189 = .ok (.iconst 0, 1) := by decide +kernel
theorem dL_act_190 : decode cL_act 190 = .ok (.invokevirtual 48, 3) := by decide +kernel
theorem dL_act_193 : decode cL_act 193 = .ok (.ifCond .eq 7, 3) := by decide +kernel
theorem dL_act_196 : decode cL_act 196 = .ok (.iconst 1, 1) := by decide +kernel
theorem dL_act_197 : decode cL_act 197 = .ok (.goto 158, 3) := by decide +kernel
theorem dL_act_200 : decode cL_act 200 = .ok (.iconst 0, 1) := by decide +kernel
theorem dL_act_201 : decode cL_act 201 = .ok (.goto 154, 3) := by decide +kernel
theorem dL_act_204 : decode cL_act 204 = .ok (.iload_n 1, 1) := by decide +kernel
theorem dL_act_205 : decode cL_act 205 = .ok (.bipush 12, 2) := by decide +kernel
theorem dL_act_207 : decode cL_act 207 = .ok (.if_icmp .ne 14, 3) := by decide +kernel
theorem dL_act_210 : decode cL_act 210 = .ok (.aload_n 0, 1) := by decide +kernel
theorem dL_act_211 : decode cL_act 211 = .ok (.iload_n 2, 1) := by decide +kernel
theorem dL_act_212 : decode cL_act 212 = .ok (.iload_n 3, 1) := by decide +kernel
theorem dL_act_213 : decode cL_act 213 = .ok (.iload 4, 2) := by decide +kernel
theorem dL_act_215 : decode cL_act 215 = .ok (.invokevirtual 52, 3) := by decide +kernel
theorem dL_act_218 : decode cL_act 218 = .ok (.goto 137, 3) := by decide +kernel
theorem dL_act_221 : decode cL_act 221 = .ok (.iload_n 1, 1) := by decide +kernel
theorem dL_act_222 : decode cL_act 222 = .ok (.bipush 13, 2) := by decide +kernel
theorem dL_act_224 : decode cL_act 224 = .ok (.if_icmp .ne 12, 3) := by decide +kernel
theorem dL_act_227 : decode cL_act 227 = .ok (.aload_n 0, 1) := by decide +kernel
theorem dL_act_228 : decode cL_act 228 = .ok (.iload_n 2, 1) := by decide +kernel
theorem dL_act_229 : decode cL_act 229 = .ok (.iload_n 3, 1) := by decide +kernel
theorem dL_act_230 : decode cL_act 230 = .ok (.invokevirtual 55, 3) := by decide +kernel
theorem dL_act_233 : decode cL_act 233 = .ok (.goto 122, 3) := by decide +kernel
theorem dL_act_236 : decode cL_act 236 = .ok (.iload_n 1, 1) := by decide +kernel
theorem dL_act_237 : decode cL_act 237 = .ok (.bipush 14, 2) := by decide +kernel
theorem dL_act_239 : decode cL_act 239 = .ok (.if_icmp .ne 22, 3) := by decide +kernel
theorem dL_act_242 : decode cL_act 242 = .ok (.aload_n 0, 1) := by decide +kernel
theorem dL_act_243 : decode cL_act 243 = .ok (.iload_n 2, 1) := by decide +kernel
theorem dL_act_244 : decode cL_act 244 = .ok (.iload_n 3, 1) := by decide +kernel
theorem dL_act_245 : decode cL_act 245 = .ok (.invokevirtual 58, 3) := by decide +kernel
theorem dL_act_248 : decode cL_act 248 = .ok (.fconst 0, 1) := by decide +kernel
theorem dL_act_249 : decode cL_act 249 = .ok (.fcmp .g, 1) := by decide +kernel
theorem dL_act_250 : decode cL_act 250 = .ok (.ifCond .ge 7, 3) := by decide +kernel
theorem dL_act_253 : decode cL_act 253 = .ok (.iconst 1, 1) := by decide +kernel
theorem dL_act_254 : decode cL_act 254 = .ok (.goto 101, 3) := by decide +kernel
theorem dL_act_257 : decode cL_act 257 = .ok (.iconst 0, 1) := by decide +kernel
theorem dL_act_258 : decode cL_act 258 = .ok (.goto 97, 3) := by decide +kernel
theorem dL_act_261 : decode cL_act 261 = .ok (.iload_n 1, 1) := by decide +kernel
theorem dL_act_262 : decode cL_act 262 = .ok (.bipush 15, 2) := by decide +kernel
theorem dL_act_264 : decode cL_act 264 = .ok (.if_icmp .ne 14, 3) := by decide +kernel
theorem dL_act_267 : decode cL_act 267 = .ok (.aload_n 0, 1) := by decide +kernel
theorem dL_act_268 : decode cL_act 268 = .ok (.iload_n 2, 1) := by decide +kernel
theorem dL_act_269 : decode cL_act 269 = .ok (.iload_n 3, 1) := by decide +kernel
theorem dL_act_270 : decode cL_act 270 = .ok (.iload 4, 2) := by decide +kernel
theorem dL_act_272 : decode cL_act 272 = .ok (.invokevirtual 62, 3) := by decide +kernel
theorem dL_act_275 : decode cL_act 275 = .ok (.goto 80, 3) := by decide +kernel
theorem dL_act_278 : decode cL_act 278 = .ok (.iload_n 1, 1) := by decide +kernel
theorem dL_act_279 : decode cL_act 279 = .ok (.bipush 16, 2) := by decide +kernel
theorem dL_act_281 : decode cL_act 281 = .ok (.if_icmp .ne 11, 3) := by decide +kernel
theorem dL_act_284 : decode cL_act 284 = .ok (.aload_n 0, 1) := by decide +kernel
theorem dL_act_285 : decode cL_act 285 = .ok (.iload_n 2, 1) := by decide +kernel
theorem dL_act_286 : decode cL_act 286 = .ok (.invokevirtual 65, 3) := by decide +kernel
theorem dL_act_289 : decode cL_act 289 = .ok (.goto 66, 3) := by decide +kernel
theorem dL_act_292 : decode cL_act 292 = .ok (.iload_n 1, 1) := by decide +kernel
theorem dL_act_293 : decode cL_act 293 = .ok (.bipush 17, 2) := by decide +kernel
theorem dL_act_295 : decode cL_act 295 = .ok (.if_icmp .ne 11, 3) := by decide +kernel
theorem dL_act_298 : decode cL_act 298 = .ok (.aload_n 0, 1) := by decide +kernel
theorem dL_act_299 : decode cL_act 299 = .ok (.iload_n 2, 1) := by decide +kernel
theorem dL_act_300 : decode cL_act 300 = .ok (.invokevirtual 68, 3) := by decide +kernel
theorem dL_act_303 : decode cL_act 303 = .ok (.goto 52, 3) := by decide +kernel
theorem dL_act_306 : decode cL_act 306 = .ok (.iload_n 1, 1) := by decide +kernel
theorem dL_act_307 : decode cL_act 307 = .ok (.bipush 18, 2) := by decide +kernel
theorem dL_act_309 : decode cL_act 309 = .ok (.if_icmp .ne 14, 3) := by decide +kernel
theorem dL_act_312 : decode cL_act 312 = .ok (.aload_n 0, 1) := by decide +kernel
theorem dL_act_313 : decode cL_act 313 = .ok (.iload_n 2, 1) := by decide +kernel
theorem dL_act_314 : decode cL_act 314 = .ok (.iload_n 3, 1) := by decide +kernel
theorem dL_act_315 : decode cL_act 315 = .ok (.iload 4, 2) := by decide +kernel
theorem dL_act_317 : decode cL_act 317 = .ok (.invokevirtual 71, 3) := by decide +kernel
theorem dL_act_320 : decode cL_act 320 = .ok (.goto 35, 3) := by decide +kernel
theorem dL_act_323 : decode cL_act 323 = .ok (.iload_n 1, 1) := by decide +kernel
theorem dL_act_324 : decode cL_act 324 = .ok (.bipush 19, 2) := by decide +kernel
theorem dL_act_326 : decode cL_act 326 = .ok (.if_icmp .ne 10, 3) := by decide +kernel
theorem dL_act_329 : decode cL_act 329 = .ok (.aload_n 0, 1) := by decide +kernel
theorem dL_act_330 : decode cL_act 330 = .ok (.invokevirtual 74, 3) := by decide +kernel
theorem dL_act_333 : decode cL_act 333 = .ok (.goto 22, 3) := by decide +kernel
theorem dL_act_336 : decode cL_act 336 = .ok (.iload_n 1, 1) := by decide +kernel
theorem dL_act_337 : decode cL_act 337 = .ok (.bipush 20, 2) := by decide +kernel
theorem dL_act_339 : decode cL_act 339 = .ok (.if_icmp .ne 10, 3) := by decide +kernel
theorem dL_act_342 : decode cL_act 342 = .ok (.aload_n 0, 1) := by decide +kernel
theorem dL_act_343 : decode cL_act 343 = .ok (.invokevirtual 77, 3) := by decide +kernel
theorem dL_act_346 : decode cL_act 346 = .ok (.goto 9, 3) := by decide +kernel
theorem dL_act_349 : decode cL_act 349 = .ok (.aload_n 0, 1) := by decide +kernel
theorem dL_act_350 : decode cL_act 350 = .ok (.iload_n 2, 1) := by decide +kernel
theorem dL_act_351 : decode cL_act 351 = .ok (.iload_n 3, 1) := by decide +kernel
theorem dL_act_352 : decode cL_act 352 = .ok (.invokevirtual 80, 3) := by decide +kernel
theorem dL_act_355 : decode cL_act 355 = .ok (.ireturn, 1) := by decide +kernel
theorem dL_act_356 : decode cL_act 356 = .ok (.astore 6, 2) := by decide +kernel
theorem dL_act_358 : decode cL_act 358 = .ok (.ldc 85, 2) := by decide +kernel
theorem dL_act_360 : decode cL_act 360 = .ok (.ireturn, 1) := by decide +kernel
theorem dL_act_361 : decode cL_act 361 = .ok (.astore 6, 2) := by decide +kernel
theorem dL_act_363 : decode cL_act 363 = .ok (.ldc 88, 2) := by decide +kernel
theorem dL_act_365 : decode cL_act 365 = .ok (.ireturn, 1) := by decide +kernel
theorem dL_act_366 : decode cL_act 366 = .ok (.astore 6, 2) := by decide +kernel
theorem dL_act_368 : decode cL_act 368 = .ok (.ldc 91, 2) := by decide +kernel
theorem dL_act_370 : decode cL_act 370 = .ok (.ireturn, 1) := by decide +kernel
theorem dL_refuses_0 : decode cL_refuses 0 = .ok (.ldc 92, 2) := by decide +kernel
theorem dL_refuses_2 : decode cL_refuses 2 = .ok (.istore 4, 2) := by decide +kernel
theorem dL_refuses_4 : decode cL_refuses 4 = .ok (.aload_n 0, 1) := by decide +kernel
theorem dL_refuses_5 : decode cL_refuses 5 = .ok (.invokevirtual 93, 3) := by decide +kernel
theorem dL_refuses_8 : decode cL_refuses 8 = .ok (.istore 5, 2) := by decide +kernel
theorem dL_refuses_10 : decode cL_refuses 10 = .ok (.aload_n 0, 1) := by decide +kernel
theorem dL_refuses_11 : decode cL_refuses 11 = .ok (.invokevirtual 96, 3) := by decide +kernel
theorem dL_refuses_14 : decode cL_refuses 14 = .ok (.lstore 6, 2) := by decide +kernel
theorem dL_refuses_16 : decode cL_refuses 16 = .ok (.iconst 0, 1) := by decide +kernel
theorem dL_refuses_17 : decode cL_refuses 17 = .ok (.istore 8, 2) := by decide +kernel
theorem dL_refuses_19 : decode cL_refuses 19 = .ok (.iload 8, 2) := by decide +kernel
theorem dL_refuses_21 : decode cL_refuses 21 = .ok (.iconst 4, 1) := by decide +kernel
theorem dL_refuses_22 : decode cL_refuses 22 = .ok (.if_icmp .ge 1060, 3) := by decide +kernel
theorem dL_refuses_25 : decode cL_refuses 25 = .ok (.iload 8, 2) := by decide +kernel
theorem dL_refuses_27 : decode cL_refuses 27 = .ok (.ifCond .ne 7, 3) := by decide +kernel
theorem dL_refuses_30 : decode cL_refuses 30 = .ok (.iconst (-1), 1) := by decide +kernel
theorem dL_refuses_31 : decode cL_refuses 31 = .ok (.goto 19, 3) := by decide +kernel
theorem dL_refuses_34 : decode cL_refuses 34 = .ok (.iload 8, 2) := by decide +kernel
theorem dL_refuses_36 : decode cL_refuses 36 = .ok (.iconst 2, 1) := by decide +kernel
theorem dL_refuses_37 : decode cL_refuses 37 = .ok (.if_icmp .ne 8, 3) := by decide +kernel
theorem dL_refuses_40 : decode cL_refuses 40 = .ok (.iload 4, 2) := by decide +kernel
theorem dL_refuses_42 : decode cL_refuses 42 = .ok (.goto 8, 3) := by decide +kernel
theorem dL_refuses_45 : decode cL_refuses 45 = .ok (.iload 4, 2) := by decide +kernel
theorem dL_refuses_47 : decode cL_refuses 47 = .ok (.ineg, 1) := by decide +kernel
theorem dL_refuses_48 : decode cL_refuses 48 = .ok (.iconst 1, 1) := by decide +kernel
theorem dL_refuses_49 : decode cL_refuses 49 = .ok (.isub, 1) := by decide +kernel
theorem dL_refuses_50 : decode cL_refuses 50 = .ok (.istore 9, 2) := by decide +kernel
theorem dL_refuses_52 : decode cL_refuses 52 = .ok (.iload 8, 2) := by decide +kernel
theorem dL_refuses_54 : decode cL_refuses 54 = .ok (.iconst 1, 1) := by decide +kernel
theorem dL_refuses_55 : decode cL_refuses 55 = .ok (.if_icmp .ne 7, 3) := by decide +kernel
theorem dL_refuses_58 : decode cL_refuses 58 = .ok (.iload_n 1, 1) := by decide +kernel
theorem dL_refuses_59 : decode cL_refuses 59 = .ok (.goto 5, 3) := by decide +kernel
theorem dL_refuses_62 : decode cL_refuses 62 = .ok (.iload 9, 2) := by decide +kernel
theorem dL_refuses_64 : decode cL_refuses 64 = .ok (.istore 10, 2) := by decide +kernel
theorem dL_refuses_66 : decode cL_refuses 66 = .ok (.iload 8, 2) := by decide +kernel
theorem dL_refuses_68 : decode cL_refuses 68 = .ok (.iconst 1, 1) := by decide +kernel
theorem dL_refuses_69 : decode cL_refuses 69 = .ok (.if_icmp .ne 7, 3) := by decide +kernel
theorem dL_refuses_72 : decode cL_refuses 72 = .ok (.iload_n 2, 1) := by decide +kernel
theorem dL_refuses_73 : decode cL_refuses 73 = .ok (.goto 5, 3) := by decide +kernel
theorem dL_refuses_76 : decode cL_refuses 76 = .ok (.iload 9, 2) := by decide +kernel
theorem dL_refuses_78 : decode cL_refuses 78 = .ok (.istore 11, 2) := by decide +kernel
theorem dL_refuses_80 : decode cL_refuses 80 = .ok (.iload 8, 2) := by decide +kernel
theorem dL_refuses_82 : decode cL_refuses 82 = .ok (.iconst 1, 1) := by decide +kernel
theorem dL_refuses_83 : decode cL_refuses 83 = .ok (.if_icmp .ne 7, 3) := by decide +kernel
theorem dL_refuses_86 : decode cL_refuses 86 = .ok (.iload_n 3, 1) := by decide +kernel
theorem dL_refuses_87 : decode cL_refuses 87 = .ok (.goto 5, 3) := by decide +kernel
theorem dL_refuses_90 : decode cL_refuses 90 = .ok (.iload 9, 2) := by decide +kernel
theorem dL_refuses_92 : decode cL_refuses 92 = .ok (.istore 12, 2) := by decide +kernel
theorem dL_refuses_94 : decode cL_refuses 94 = .ok (.iload 8, 2) := by decide +kernel
theorem dL_refuses_96 : decode cL_refuses 96 = .ok (.iconst 1, 1) := by decide +kernel
theorem dL_refuses_97 : decode cL_refuses 97 = .ok (.if_icmp .ne 7, 3) := by decide +kernel
theorem dL_refuses_100 : decode cL_refuses 100 = .ok (.iconst 4, 1) := by decide +kernel
theorem dL_refuses_101 : decode cL_refuses 101 = .ok (.goto 5, 3) := by decide +kernel
theorem dL_refuses_104 : decode cL_refuses 104 = .ok (.iload 9, 2) := by decide +kernel
theorem dL_refuses_106 : decode cL_refuses 106 = .ok (.istore 13, 2) := by decide +kernel
theorem dL_refuses_108 : decode cL_refuses 108 = .ok (.iload 8, 2) := by decide +kernel
theorem dL_refuses_110 : decode cL_refuses 110 = .ok (.iconst 1, 1) := by decide +kernel
theorem dL_refuses_111 : decode cL_refuses 111 = .ok (.if_icmp .ne 8, 3) := by decide +kernel
theorem dL_refuses_114 : decode cL_refuses 114 = .ok (.bipush 9, 2) := by decide +kernel
theorem dL_refuses_116 : decode cL_refuses 116 = .ok (.goto 5, 3) := by decide +kernel
theorem dL_refuses_119 : decode cL_refuses 119 = .ok (.iload 9, 2) := by decide +kernel
theorem dL_refuses_121 : decode cL_refuses 121 = .ok (.istore 14, 2) := by decide +kernel
theorem dL_refuses_123 : decode cL_refuses 123 = .ok (.iload 8, 2) := by decide +kernel
theorem dL_refuses_125 : decode cL_refuses 125 = .ok (.ifCond .ne 7, 3) := by decide +kernel
theorem dL_refuses_128 : decode cL_refuses 128 = .ok (.iconst 0, 1) := by decide +kernel
theorem dL_refuses_129 : decode cL_refuses 129 = .ok (.goto 16, 3) := by decide +kernel
theorem dL_refuses_132 : decode cL_refuses 132 = .ok (.iload 8, 2) := by decide +kernel
theorem dL_refuses_134 : decode cL_refuses 134 = .ok (.iconst 1, 1) := by decide +kernel
theorem dL_refuses_135 : decode cL_refuses 135 = .ok (.if_icmp .ne 8, 3) := by decide +kernel
theorem dL_refuses_138 : decode cL_refuses 138 = .ok (.bipush 6, 2) := by decide +kernel
theorem dL_refuses_140 : decode cL_refuses 140 = .ok (.goto 5, 3) := by decide +kernel
theorem dL_refuses_143 : decode cL_refuses 143 = .ok (.iload 9, 2) := by decide +kernel
theorem dL_refuses_145 : decode cL_refuses 145 = .ok (.istore 15, 2) := by decide +kernel
theorem dL_refuses_147 : decode cL_refuses 147 = .ok (.aload_n 0, 1) := by decide +kernel
theorem dL_refuses_148 : decode cL_refuses 148 = .ok (.iconst 0, 1) := by decide +kernel
theorem dL_refuses_149 : decode cL_refuses 149 = .ok (.iload 13, 2) := by decide +kernel
theorem dL_refuses_151 : decode cL_refuses 151 = .ok (.iconst 0, 1) := by decide +kernel
theorem dL_refuses_152 : decode cL_refuses 152 = .ok (.iconst 0, 1) := by decide +kernel
theorem dL_refuses_153 : decode cL_refuses 153 = .ok (.iconst 0, 1) := by decide +kernel
theorem dL_refuses_154 : decode cL_refuses 154 = .ok (.invokestatic 100, 3) := by decide +kernel
theorem dL_refuses_157 : decode cL_refuses 157 = .ok (.ldc 88, 2) := by decide +kernel
theorem dL_refuses_159 : decode cL_refuses 159 = .ok (.if_icmp .ne 537, 3) := by decide +kernel
theorem dL_refuses_162 : decode cL_refuses 162 = .ok (.aload_n 0, 1) := by decide +kernel
theorem dL_refuses_163 : decode cL_refuses 163 = .ok (.iconst 1, 1) := by decide +kernel
theorem dL_refuses_164 : decode cL_refuses 164 = .ok (.iload 10, 2) := by decide +kernel
theorem dL_refuses_166 : decode cL_refuses 166 = .ok (.bipush 99, 2) := by decide +kernel
theorem dL_refuses_168 : decode cL_refuses 168 = .ok (.iconst 0, 1) := by decide +kernel
theorem dL_refuses_169 : decode cL_refuses 169 = .ok (.iconst 0, 1) := by decide +kernel
theorem dL_refuses_170 : decode cL_refuses 170 = .ok (.invokestatic 100, 3) := by decide +kernel
theorem dL_refuses_173 : decode cL_refuses 173 = .ok (.ldc 85, 2) := by decide +kernel
theorem dL_refuses_175 : decode cL_refuses 175 = .ok (.if_icmp .ne 521, 3) := by decide +kernel
theorem dL_refuses_178 : decode cL_refuses 178 = .ok (.aload_n 0, 1) := by decide +kernel
theorem dL_refuses_179 : decode cL_refuses 179 = .ok (.iconst 2, 1) := by decide +kernel
theorem dL_refuses_180 : decode cL_refuses 180 = .ok (.iload 10, 2) := by decide +kernel
theorem dL_refuses_182 : decode cL_refuses 182 = .ok (.iconst 1, 1) := by decide +kernel
theorem dL_refuses_183 : decode cL_refuses 183 = .ok (.iconst 0, 1) := by decide +kernel
theorem dL_refuses_184 : decode cL_refuses 184 = .ok (.iconst 0, 1) := by decide +kernel
theorem dL_refuses_185 : decode cL_refuses 185 = .ok (.invokestatic 100, 3) := by decide +kernel
theorem dL_refuses_188 : decode cL_refuses 188 = .ok (.ldc 85, 2) := by decide +kernel
theorem dL_refuses_190 : decode cL_refuses 190 = .ok (.if_icmp .ne 506, 3) := by decide +kernel
theorem dL_refuses_193 : decode cL_refuses 193 = .ok (.aload_n 0, 1) := by decide +kernel
theorem dL_refuses_194 : decode cL_refuses 194 = .ok (.iconst 3, 1) := by decide +kernel
theorem dL_refuses_195 : decode cL_refuses 195 = .ok (.iload 10, 2) := by decide +kernel
theorem dL_refuses_197 : decode cL_refuses 197 = .ok (.iconst 0, 1) := by decide +kernel
theorem dL_refuses_198 : decode cL_refuses 198 = .ok (.bipush 9, 2) := by decide +kernel
theorem dL_refuses_200 : decode cL_refuses 200 = .ok (.iconst 0, 1) := by decide +kernel
theorem dL_refuses_201 : decode cL_refuses 201 = .ok (.invokestatic 100, 3) := by decide +kernel
theorem dL_refuses_204 : decode cL_refuses 204 = .ok (.ldc 85, 2) := by decide +kernel
theorem dL_refuses_206 : decode cL_refuses 206 = .ok (.if_icmp .ne 490, 3) := by decide +kernel
theorem dL_refuses_209 : decode cL_refuses 209 = .ok (.aload_n 0, 1) := by decide +kernel
theorem dL_refuses_210 : decode cL_refuses 210 = .ok (.iconst 4, 1) := by decide +kernel
theorem dL_refuses_211 : decode cL_refuses 211 = .ok (.iload 10, 2) := by decide +kernel
theorem dL_refuses_213 : decode cL_refuses 213 = .ok (.bipush 9, 2) := by decide +kernel
theorem dL_refuses_215 : decode cL_refuses 215 = .ok (.iconst 0, 1) := by decide +kernel
theorem dL_refuses_216 : decode cL_refuses 216 = .ok (.iconst 0, 1) := by decide +kernel
theorem dL_refuses_217 : decode cL_refuses 217 = .ok (.invokestatic 100, 3) := by decide +kernel
theorem dL_refuses_220 : decode cL_refuses 220 = .ok (.ldc 85, 2) := by decide +kernel
theorem dL_refuses_222 : decode cL_refuses 222 = .ok (.if_icmp .ne 474, 3) := by decide +kernel
theorem dL_refuses_225 : decode cL_refuses 225 = .ok (.aload_n 0, 1) := by decide +kernel
theorem dL_refuses_226 : decode cL_refuses 226 = .ok (.bipush 7, 2) := by decide +kernel
theorem dL_refuses_228 : decode cL_refuses 228 = .ok (.iload 10, 2) := by decide +kernel
theorem dL_refuses_230 : decode cL_refuses 230 = .ok (.iconst 0, 1) := by decide +kernel
theorem dL_refuses_231 : decode cL_refuses 231 = .ok (.iconst 0, 1) := by decide +kernel
theorem dL_refuses_232 : decode cL_refuses 232 = .ok (.iconst 0, 1) := by decide +kernel
theorem dL_refuses_233 : decode cL_refuses 233 = .ok (.invokestatic 100, 3) := by decide +kernel
theorem dL_refuses_236 : decode cL_refuses 236 = .ok (.ldc 85, 2) := by decide +kernel
theorem dL_refuses_238 : decode cL_refuses 238 = .ok (.if_icmp .ne 458, 3) := by decide +kernel
theorem dL_refuses_241 : decode cL_refuses 241 = .ok (.aload_n 0, 1) := by decide +kernel
theorem dL_refuses_242 : decode cL_refuses 242 = .ok (.bipush 9, 2) := by decide +kernel
theorem dL_refuses_244 : decode cL_refuses 244 = .ok (.iload 8, 2) := by decide +kernel
theorem dL_refuses_246 : decode cL_refuses 246 = .ok (.ifCond .ne 8, 3) := by decide +kernel
theorem dL_refuses_249 : decode cL_refuses 249 = .ok (.bipush (-101), 2) := by decide +kernel
theorem dL_refuses_251 : decode cL_refuses 251 = .ok (.goto 16, 3) := by decide +kernel
theorem dL_refuses_254 : decode cL_refuses 254 = .ok (.iload 8, 2) := by decide +kernel
theorem dL_refuses_256 : decode cL_refuses 256 = .ok (.iconst 1, 1) := by decide +kernel
theorem dL_refuses_257 : decode cL_refuses 257 = .ok (.if_icmp .ne 8, 3) := by decide +kernel
theorem dL_refuses_260 : decode cL_refuses 260 = .ok (.bipush 101, 2) := by decide +kernel
theorem dL_refuses_262 : decode cL_refuses 262 = .ok (.goto 5, 3) := by decide +kernel
theorem dL_refuses_265 : decode cL_refuses 265 = .ok (.iload 9, 2) := by decide +kernel
theorem dL_refuses_267 : decode cL_refuses 267 = .ok (.bipush 10, 2) := by decide +kernel
theorem dL_refuses_269 : decode cL_refuses 269 = .ok (.iconst 0, 1) := by decide +kernel
theorem dL_refuses_270 : decode cL_refuses 270 = .ok (.iconst 0, 1) := by decide +kernel
theorem dL_refuses_271 : decode cL_refuses 271 = .ok (.invokestatic 100, 3) := by decide +kernel
theorem dL_refuses_274 : decode cL_refuses 274 = .ok (.ldc 88, 2) := by decide +kernel
theorem dL_refuses_276 : decode cL_refuses 276 = .ok (.if_icmp .ne 420, 3) := by decide +kernel
theorem dL_refuses_279 : decode cL_refuses 279 = .ok (.aload_n 0, 1) := by decide +kernel
theorem dL_refuses_280 : decode cL_refuses 280 = .ok (.bipush 9, 2) := by decide +kernel
theorem dL_refuses_282 : decode cL_refuses 282 = .ok (.iconst 0, 1) := by decide +kernel
theorem dL_refuses_283 : decode cL_refuses 283 = .ok (.iload 8, 2) := by decide +kernel
theorem dL_refuses_285 : decode cL_refuses 285 = .ok (.ifCond .ne 8, 3) := by decide +kernel
theorem dL_refuses_288 : decode cL_refuses 288 = .ok (.bipush 9, 2) := by decide +kernel
theorem dL_refuses_290 : decode cL_refuses 290 = .ok (.goto 16, 3) := by decide +kernel
theorem dL_refuses_293 : decode cL_refuses 293 = .ok (.iload 8, 2) := by decide +kernel
theorem dL_refuses_295 : decode cL_refuses 295 = .ok (.iconst 1, 1) := by decide +kernel
theorem dL_refuses_296 : decode cL_refuses 296 = .ok (.if_icmp .ne 8, 3) := by decide +kernel
theorem dL_refuses_299 : decode cL_refuses 299 = .ok (.bipush 41, 2) := by decide +kernel
theorem dL_refuses_301 : decode cL_refuses 301 = .ok (.goto 5, 3) := by decide +kernel
theorem dL_refuses_304 : decode cL_refuses 304 = .ok (.iload 9, 2) := by decide +kernel
theorem dL_refuses_306 : decode cL_refuses 306 = .ok (.iconst 0, 1) := by decide +kernel
theorem dL_refuses_307 : decode cL_refuses 307 = .ok (.iconst 0, 1) := by decide +kernel
theorem dL_refuses_308 : decode cL_refuses 308 = .ok (.invokestatic 100, 3) := by decide +kernel
theorem dL_refuses_311 : decode cL_refuses 311 = .ok (.ldc 88, 2) := by decide +kernel
theorem dL_refuses_313 : decode cL_refuses 313 = .ok (.if_icmp .ne 383, 3) := by decide +kernel
theorem dL_refuses_316 : decode cL_refuses 316 = .ok (.aload_n 0, 1) := by decide +kernel
theorem dL_refuses_317 : decode cL_refuses 317 = .ok (.bipush 9, 2) := by decide +kernel
theorem dL_refuses_319 : decode cL_refuses 319 = .ok (.iconst 0, 1) := by decide +kernel
theorem dL_refuses_320 : decode cL_refuses 320 = .ok (.bipush 10, 2) := by decide +kernel
theorem dL_refuses_322 : decode cL_refuses 322 = .ok (.iload 8, 2) := by decide +kernel
theorem dL_refuses_324 : decode cL_refuses 324 = .ok (.iconst 1, 1) := by decide +kernel
theorem dL_refuses_325 : decode cL_refuses 325 = .ok (.if_icmp .ne 8, 3) := by decide +kernel
theorem dL_refuses_328 : decode cL_refuses 328 = .ok (.bipush 10, 2) := by decide +kernel
theorem dL_refuses_330 : decode cL_refuses 330 = .ok (.goto 5, 3) := by decide +kernel
theorem dL_refuses_333 : decode cL_refuses 333 = .ok (.iload 9, 2) := by decide +kernel
theorem dL_refuses_335 : decode cL_refuses 335 = .ok (.iconst 0, 1) := by decide +kernel
theorem dL_refuses_336 : decode cL_refuses 336 = .ok (.invokestatic 100, 3) := by decide +kernel
theorem dL_refuses_339 : decode cL_refuses 339 = .ok (.ldc 88, 2) := by decide +kernel
theorem dL_refuses_341 : decode cL_refuses 341 = .ok (.if_icmp .ne 355, 3) := by decide +kernel
theorem dL_refuses_344 : decode cL_refuses 344 = .ok (.aload_n 0, 1) := by decide +kernel
theorem dL_refuses_345 : decode cL_refuses 345 = .ok (.bipush 10, 2) := by decide +kernel
theorem dL_refuses_347 : decode cL_refuses 347 = .ok (.iload 11, 2) := by decide +kernel
theorem dL_refuses_349 : decode cL_refuses 349 = .ok (.sipush 999, 3) := by decide +kernel
theorem dL_refuses_352 : decode cL_refuses 352 = .ok (.iconst 0, 1) := by decide +kernel
theorem dL_refuses_353 : decode cL_refuses 353 = .ok (.iconst 0, 1) := by decide +kernel
theorem dL_refuses_354 : decode cL_refuses 354 = .ok (.invokestatic 100, 3) := by decide +kernel
theorem dL_refuses_357 : decode cL_refuses 357 = .ok (.ldc 85, 2) := by decide +kernel
theorem dL_refuses_359 : decode cL_refuses 359 = .ok (.if_icmp .ne 337, 3) := by decide +kernel
theorem dL_refuses_362 : decode cL_refuses 362 = .ok (.aload_n 0, 1) := by decide +kernel
theorem dL_refuses_363 : decode cL_refuses 363 = .ok (.bipush 11, 2) := by decide +kernel
theorem dL_refuses_365 : decode cL_refuses 365 = .ok (.iload 11, 2) := by decide +kernel
theorem dL_refuses_367 : decode cL_refuses 367 = .ok (.iconst 1, 1) := by decide +kernel
theorem dL_refuses_368 : decode cL_refuses 368 = .ok (.iconst 0, 1) := by decide +kernel
theorem dL_refuses_369 : decode cL_refuses 369 = .ok (.iconst 0, 1) := by decide +kernel
theorem dL_refuses_370 : decode cL_refuses 370 = .ok (.invokestatic 100, 3) := by decide +kernel
theorem dL_refuses_373 : decode cL_refuses 373 = .ok (.ldc 85, 2) := by decide +kernel
theorem dL_refuses_375 : decode cL_refuses 375 = .ok (.if_icmp .ne 321, 3) := by decide +kernel
theorem dL_refuses_378 : decode cL_refuses 378 = .ok (.aload_n 0, 1) := by decide +kernel
theorem dL_refuses_379 : decode cL_refuses 379 = .ok (.bipush 12, 2) := by decide +kernel
theorem dL_refuses_381 : decode cL_refuses 381 = .ok (.iload 8, 2) := by decide +kernel
theorem dL_refuses_383 : decode cL_refuses 383 = .ok (.ifCond .ne 7, 3) := by decide +kernel
theorem dL_refuses_386 : decode cL_refuses 386 = .ok (.iconst 0, 1) := by decide +kernel
theorem dL_refuses_387 : decode cL_refuses 387 = .ok (.goto 16, 3) := by decide +kernel
theorem dL_refuses_390 : decode cL_refuses 390 = .ok (.iload 8, 2) := by decide +kernel
theorem dL_refuses_392 : decode cL_refuses 392 = .ok (.iconst 1, 1) := by decide +kernel
theorem dL_refuses_393 : decode cL_refuses 393 = .ok (.if_icmp .ne 8, 3) := by decide +kernel
theorem dL_refuses_396 : decode cL_refuses 396 = .ok (.bipush 121, 2) := by decide +kernel
theorem dL_refuses_398 : decode cL_refuses 398 = .ok (.goto 5, 3) := by decide +kernel
theorem dL_refuses_401 : decode cL_refuses 401 = .ok (.iload 9, 2) := by decide +kernel
theorem dL_refuses_403 : decode cL_refuses 403 = .ok (.iconst 0, 1) := by decide +kernel
theorem dL_refuses_404 : decode cL_refuses 404 = .ok (.iconst 0, 1) := by decide +kernel
theorem dL_refuses_405 : decode cL_refuses 405 = .ok (.iconst 0, 1) := by decide +kernel
theorem dL_refuses_406 : decode cL_refuses 406 = .ok (.invokestatic 100, 3) := by decide +kernel
theorem dL_refuses_409 : decode cL_refuses 409 = .ok (.ldc 88, 2) := by decide +kernel
theorem dL_refuses_411 : decode cL_refuses 411 = .ok (.if_icmp .ne 285, 3) := by decide +kernel
theorem dL_refuses_414 : decode cL_refuses 414 = .ok (.aload_n 0, 1) := by decide +kernel
theorem dL_refuses_415 : decode cL_refuses 415 = .ok (.bipush 12, 2) := by decide +kernel
theorem dL_refuses_417 : decode cL_refuses 417 = .ok (.iconst 1, 1) := by decide +kernel
theorem dL_refuses_418 : decode cL_refuses 418 = .ok (.iload 8, 2) := by decide +kernel
theorem dL_refuses_420 : decode cL_refuses 420 = .ok (.iconst 1, 1) := by decide +kernel
theorem dL_refuses_421 : decode cL_refuses 421 = .ok (.if_icmp .ne 8, 3) := by decide +kernel
theorem dL_refuses_424 : decode cL_refuses 424 = .ok (.bipush 10, 2) := by decide +kernel
theorem dL_refuses_426 : decode cL_refuses 426 = .ok (.goto 5, 3) := by decide +kernel
theorem dL_refuses_429 : decode cL_refuses 429 = .ok (.iload 9, 2) := by decide +kernel
theorem dL_refuses_431 : decode cL_refuses 431 = .ok (.iconst 0, 1) := by decide +kernel
theorem dL_refuses_432 : decode cL_refuses 432 = .ok (.iconst 0, 1) := by decide +kernel
theorem dL_refuses_433 : decode cL_refuses 433 = .ok (.invokestatic 100, 3) := by decide +kernel
theorem dL_refuses_436 : decode cL_refuses 436 = .ok (.ldc 88, 2) := by decide +kernel
theorem dL_refuses_438 : decode cL_refuses 438 = .ok (.if_icmp .ne 258, 3) := by decide +kernel
theorem dL_refuses_441 : decode cL_refuses 441 = .ok (.aload_n 0, 1) := by decide +kernel
theorem dL_refuses_442 : decode cL_refuses 442 = .ok (.bipush 12, 2) := by decide +kernel
theorem dL_refuses_444 : decode cL_refuses 444 = .ok (.iconst 1, 1) := by decide +kernel
theorem dL_refuses_445 : decode cL_refuses 445 = .ok (.iconst 0, 1) := by decide +kernel
theorem dL_refuses_446 : decode cL_refuses 446 = .ok (.iload 8, 2) := by decide +kernel
theorem dL_refuses_448 : decode cL_refuses 448 = .ok (.iconst 1, 1) := by decide +kernel
theorem dL_refuses_449 : decode cL_refuses 449 = .ok (.if_icmp .ne 8, 3) := by decide +kernel
theorem dL_refuses_452 : decode cL_refuses 452 = .ok (.bipush 41, 2) := by decide +kernel
theorem dL_refuses_454 : decode cL_refuses 454 = .ok (.goto 5, 3) := by decide +kernel
theorem dL_refuses_457 : decode cL_refuses 457 = .ok (.iload 9, 2) := by decide +kernel
theorem dL_refuses_459 : decode cL_refuses 459 = .ok (.iconst 0, 1) := by decide +kernel
theorem dL_refuses_460 : decode cL_refuses 460 = .ok (.invokestatic 100, 3) := by decide +kernel
theorem dL_refuses_463 : decode cL_refuses 463 = .ok (.ldc 88, 2) := by decide +kernel
theorem dL_refuses_465 : decode cL_refuses 465 = .ok (.if_icmp .ne 231, 3) := by decide +kernel
theorem dL_refuses_468 : decode cL_refuses 468 = .ok (.aload_n 0, 1) := by decide +kernel
theorem dL_refuses_469 : decode cL_refuses 469 = .ok (.bipush 13, 2) := by decide +kernel
theorem dL_refuses_471 : decode cL_refuses 471 = .ok (.iload 11, 2) := by decide +kernel
theorem dL_refuses_473 : decode cL_refuses 473 = .ok (.bipush 9, 2) := by decide +kernel
theorem dL_refuses_475 : decode cL_refuses 475 = .ok (.iconst 0, 1) := by decide +kernel
theorem dL_refuses_476 : decode cL_refuses 476 = .ok (.iconst 0, 1) := by decide +kernel
theorem dL_refuses_477 : decode cL_refuses 477 = .ok (.invokestatic 100, 3) := by decide +kernel
theorem dL_refuses_480 : decode cL_refuses 480 = .ok (.ldc 85, 2) := by decide +kernel
theorem dL_refuses_482 : decode cL_refuses 482 = .ok (.if_icmp .ne 214, 3) := by decide +kernel
theorem dL_refuses_485 : decode cL_refuses 485 = .ok (.aload_n 0, 1) := by decide +kernel
theorem dL_refuses_486 : decode cL_refuses 486 = .ok (.bipush 14, 2) := by decide +kernel
theorem dL_refuses_488 : decode cL_refuses 488 = .ok (.iload 11, 2) := by decide +kernel
theorem dL_refuses_490 : decode cL_refuses 490 = .ok (.iconst 0, 1) := by decide +kernel
theorem dL_refuses_491 : decode cL_refuses 491 = .ok (.iconst 0, 1) := by decide +kernel
theorem dL_refuses_492 : decode cL_refuses 492 = .ok (.iconst 0, 1) := by decide +kernel
theorem dL_refuses_493 : decode cL_refuses 493 = .ok (.invokestatic 100, 3) := by decide +kernel
theorem dL_refuses_496 : decode cL_refuses 496 = .ok (.ldc 85, 2) := by decide +kernel
theorem dL_refuses_498 : decode cL_refuses 498 = .ok (.if_icmp .ne 198, 3) := by decide +kernel
theorem dL_refuses_501 : decode cL_refuses 501 = .ok (.aload_n 0, 1) := by decide +kernel
theorem dL_refuses_502 : decode cL_refuses 502 = .ok (.bipush 14, 2) := by decide +kernel
theorem dL_refuses_504 : decode cL_refuses 504 = .ok (.iconst 0, 1) := by decide +kernel
theorem dL_refuses_505 : decode cL_refuses 505 = .ok (.iload 11, 2) := by decide +kernel
theorem dL_refuses_507 : decode cL_refuses 507 = .ok (.iconst 0, 1) := by decide +kernel
theorem dL_refuses_508 : decode cL_refuses 508 = .ok (.iconst 0, 1) := by decide +kernel
theorem dL_refuses_509 : decode cL_refuses 509 = .ok (.invokestatic 100, 3) := by decide +kernel
theorem dL_refuses_512 : decode cL_refuses 512 = .ok (.ldc 85, 2) := by decide +kernel
theorem dL_refuses_514 : decode cL_refuses 514 = .ok (.if_icmp .ne 182, 3) := by decide +kernel
theorem dL_refuses_517 : decode cL_refuses 517 = .ok (.aload_n 0, 1) := by decide +kernel
theorem dL_refuses_518 : decode cL_refuses 518 = .ok (.bipush 15, 2) := by decide +kernel
theorem dL_refuses_520 : decode cL_refuses 520 = .ok (.iload 8, 2) := by decide +kernel
theorem dL_refuses_522 : decode cL_refuses 522 = .ok (.ifCond .ne 7, 3) := by decide +kernel
theorem dL_refuses_525 : decode cL_refuses 525 = .ok (.iconst 0, 1) := by decide +kernel
theorem dL_refuses_526 : decode cL_refuses 526 = .ok (.goto 16, 3) := by decide +kernel
theorem dL_refuses_529 : decode cL_refuses 529 = .ok (.iload 8, 2) := by decide +kernel
theorem dL_refuses_531 : decode cL_refuses 531 = .ok (.iconst 1, 1) := by decide +kernel
theorem dL_refuses_532 : decode cL_refuses 532 = .ok (.if_icmp .ne 8, 3) := by decide +kernel
theorem dL_refuses_535 : decode cL_refuses 535 = .ok (.bipush 121, 2) := by decide +kernel
theorem dL_refuses_537 : decode cL_refuses 537 = .ok (.goto 5, 3) := by decide +kernel
theorem dL_refuses_540 : decode cL_refuses 540 = .ok (.iload 9, 2) := by decide +kernel
theorem dL_refuses_542 : decode cL_refuses 542 = .ok (.iconst 0, 1) := by decide +kernel
theorem dL_refuses_543 : decode cL_refuses 543 = .ok (.iconst 0, 1) := by decide +kernel
theorem dL_refuses_544 : decode cL_refuses 544 = .ok (.iconst 0, 1) := by decide +kernel
theorem dL_refuses_545 : decode cL_refuses 545 = .ok (.invokestatic 100, 3) := by decide +kernel
theorem dL_refuses_548 : decode cL_refuses 548 = .ok (.ldc 88, 2) := by decide +kernel
theorem dL_refuses_550 : decode cL_refuses 550 = .ok (.if_icmp .ne 146, 3) := by decide +kernel
theorem dL_refuses_553 : decode cL_refuses 553 = .ok (.aload_n 0, 1) := by decide +kernel
theorem dL_refuses_554 : decode cL_refuses 554 = .ok (.bipush 15, 2) := by decide +kernel
theorem dL_refuses_556 : decode cL_refuses 556 = .ok (.iconst 1, 1) := by decide +kernel
theorem dL_refuses_557 : decode cL_refuses 557 = .ok (.iload 8, 2) := by decide +kernel
theorem dL_refuses_559 : decode cL_refuses 559 = .ok (.iconst 1, 1) := by decide +kernel
theorem dL_refuses_560 : decode cL_refuses 560 = .ok (.if_icmp .ne 8, 3) := by decide +kernel
theorem dL_refuses_563 : decode cL_refuses 563 = .ok (.bipush 10, 2) := by decide +kernel
theorem dL_refuses_565 : decode cL_refuses 565 = .ok (.goto 5, 3) := by decide +kernel
theorem dL_refuses_568 : decode cL_refuses 568 = .ok (.iload 9, 2) := by decide +kernel
theorem dL_refuses_570 : decode cL_refuses 570 = .ok (.iconst 0, 1) := by decide +kernel
theorem dL_refuses_571 : decode cL_refuses 571 = .ok (.iconst 0, 1) := by decide +kernel
theorem dL_refuses_572 : decode cL_refuses 572 = .ok (.invokestatic 100, 3) := by decide +kernel
theorem dL_refuses_575 : decode cL_refuses 575 = .ok (.ldc 88, 2) := by decide +kernel
theorem dL_refuses_577 : decode cL_refuses 577 = .ok (.if_icmp .ne 119, 3) := by decide +kernel
theorem dL_refuses_580 : decode cL_refuses 580 = .ok (.aload_n 0, 1) := by decide +kernel
theorem dL_refuses_581 : decode cL_refuses 581 = .ok (.bipush 15, 2) := by decide +kernel
theorem dL_refuses_583 : decode cL_refuses 583 = .ok (.iconst 1, 1) := by decide +kernel
theorem dL_refuses_584 : decode cL_refuses 584 = .ok (.iconst 0, 1) := by decide +kernel
theorem dL_refuses_585 : decode cL_refuses 585 = .ok (.iload 8, 2) := by decide +kernel
theorem dL_refuses_587 : decode cL_refuses 587 = .ok (.iconst 1, 1) := by decide +kernel
theorem dL_refuses_588 : decode cL_refuses 588 = .ok (.if_icmp .ne 8, 3) := by decide +kernel
theorem dL_refuses_591 : decode cL_refuses 591 = .ok (.bipush 41, 2) := by decide +kernel
theorem dL_refuses_593 : decode cL_refuses 593 = .ok (.goto 5, 3) := by decide +kernel
theorem dL_refuses_596 : decode cL_refuses 596 = .ok (.iload 9, 2) := by decide +kernel
theorem dL_refuses_598 : decode cL_refuses 598 = .ok (.iconst 0, 1) := by decide +kernel
theorem dL_refuses_599 : decode cL_refuses 599 = .ok (.invokestatic 100, 3) := by decide +kernel
theorem dL_refuses_602 : decode cL_refuses 602 = .ok (.ldc 88, 2) := by decide +kernel
theorem dL_refuses_604 : decode cL_refuses 604 = .ok (.if_icmp .ne 92, 3) := by decide +kernel
theorem dL_refuses_607 : decode cL_refuses 607 = .ok (.aload_n 0, 1) := by decide +kernel
theorem dL_refuses_608 : decode cL_refuses 608 = .ok (.bipush 16, 2) := by decide +kernel
theorem dL_refuses_610 : decode cL_refuses 610 = .ok (.iload 15, 2) := by decide +kernel
theorem dL_refuses_612 : decode cL_refuses 612 = .ok (.iconst 0, 1) := by decide +kernel
theorem dL_refuses_613 : decode cL_refuses 613 = .ok (.iconst 0, 1) := by decide +kernel
theorem dL_refuses_614 : decode cL_refuses 614 = .ok (.iconst 0, 1) := by decide +kernel
theorem dL_refuses_615 : decode cL_refuses 615 = .ok (.invokestatic 100, 3) := by decide +kernel
theorem dL_refuses_618 : decode cL_refuses 618 = .ok (.ldc 88, 2) := by decide +kernel
theorem dL_refuses_620 : decode cL_refuses 620 = .ok (.if_icmp .ne 76, 3) := by decide +kernel
theorem dL_refuses_623 : decode cL_refuses 623 = .ok (.aload_n 0, 1) := by decide +kernel
theorem dL_refuses_624 : decode cL_refuses 624 = .ok (.bipush 17, 2) := by decide +kernel
theorem dL_refuses_626 : decode cL_refuses 626 = .ok (.iload 15, 2) := by decide +kernel
theorem dL_refuses_628 : decode cL_refuses 628 = .ok (.iconst 0, 1) := by decide +kernel
theorem dL_refuses_629 : decode cL_refuses 629 = .ok (.iconst 0, 1) := by decide +kernel
theorem dL_refuses_630 : decode cL_refuses 630 = .ok (.iconst 0, 1) := by decide +kernel
theorem dL_refuses_631 : decode cL_refuses 631 = .ok (.invokestatic 100, 3) := by decide +kernel
theorem dL_refuses_634 : decode cL_refuses 634 = .ok (.ldc 88, 2) := by decide +kernel
theorem dL_refuses_636 : decode cL_refuses 636 = .ok (.if_icmp .ne 60, 3) := by decide +kernel
theorem dL_refuses_639 : decode cL_refuses 639 = .ok (.aload_n 0, 1) := by decide +kernel
theorem dL_refuses_640 : decode cL_refuses 640 = .ok (.bipush 18, 2) := by decide +kernel
theorem dL_refuses_642 : decode cL_refuses 642 = .ok (.iload 13, 2) := by decide +kernel
theorem dL_refuses_644 : decode cL_refuses 644 = .ok (.iconst 0, 1) := by decide +kernel
theorem dL_refuses_645 : decode cL_refuses 645 = .ok (.sipush 999, 3) := by decide +kernel
theorem dL_refuses_648 : decode cL_refuses 648 = .ok (.iconst 0, 1) := by decide +kernel
theorem dL_refuses_649 : decode cL_refuses 649 = .ok (.invokestatic 100, 3) := by decide +kernel
theorem dL_refuses_652 : decode cL_refuses 652 = .ok (.ldc 85, 2) := by decide +kernel
theorem dL_refuses_654 : decode cL_refuses 654 = .ok (.if_icmp .ne 42, 3) := by decide +kernel
theorem dL_refuses_657 : decode cL_refuses 657 = .ok (.aload_n 0, 1) := by decide +kernel
theorem dL_refuses_658 : decode cL_refuses 658 = .ok (.bipush 18, 2) := by decide +kernel
theorem dL_refuses_660 : decode cL_refuses 660 = .ok (.iconst 0, 1) := by decide +kernel
theorem dL_refuses_661 : decode cL_refuses 661 = .ok (.iload 12, 2) := by decide +kernel
theorem dL_refuses_663 : decode cL_refuses 663 = .ok (.sipush 999, 3) := by decide +kernel
theorem dL_refuses_666 : decode cL_refuses 666 = .ok (.iconst 0, 1) := by decide +kernel
theorem dL_refuses_667 : decode cL_refuses 667 = .ok (.invokestatic 100, 3) := by decide +kernel
theorem dL_refuses_670 : decode cL_refuses 670 = .ok (.ldc 85, 2) := by decide +kernel
theorem dL_refuses_672 : decode cL_refuses 672 = .ok (.if_icmp .ne 24, 3) := by decide +kernel
theorem dL_refuses_675 : decode cL_refuses 675 = .ok (.aload_n 0, 1) := by decide +kernel
theorem dL_refuses_676 : decode cL_refuses 676 = .ok (.bipush 21, 2) := by decide +kernel
theorem dL_refuses_678 : decode cL_refuses 678 = .ok (.iload 12, 2) := by decide +kernel
theorem dL_refuses_680 : decode cL_refuses 680 = .ok (.bipush 9, 2) := by decide +kernel
theorem dL_refuses_682 : decode cL_refuses 682 = .ok (.iconst 0, 1) := by decide +kernel
theorem dL_refuses_683 : decode cL_refuses 683 = .ok (.iconst 0, 1) := by decide +kernel
theorem dL_refuses_684 : decode cL_refuses 684 = .ok (.invokestatic 100, 3) := by decide +kernel
theorem dL_refuses_687 : decode cL_refuses 687 = .ok (.ldc 85, 2) := by decide +kernel
theorem dL_refuses_689 : decode cL_refuses 689 = .ok (.if_icmp .ne 7, 3) := by decide +kernel
theorem dL_refuses_692 : decode cL_refuses 692 = .ok (.iconst 1, 1) := by decide +kernel
theorem dL_refuses_693 : decode cL_refuses 693 = .ok (.goto 4, 3) := by decide +kernel
theorem dL_refuses_696 : decode cL_refuses 696 = .ok (.iconst 0, 1) := by decide +kernel
theorem dL_refuses_697 : decode cL_refuses 697 = .ok (.istore 16, 2) := by decide +kernel
theorem dL_refuses_699 : decode cL_refuses 699 = .ok (.iconst 5, 1) := by decide +kernel
theorem dL_refuses_700 : decode cL_refuses 700 = .ok (.istore 17, 2) := by decide +kernel
theorem dL_refuses_702 : decode cL_refuses 702 = .ok (.iload 17, 2) := by decide +kernel
theorem dL_refuses_704 : decode cL_refuses 704 = .ok (.bipush 7, 2) := by decide +kernel
theorem dL_refuses_706 : decode cL_refuses 706 = .ok (.if_icmp .ge 53, 3) := by decide +kernel
theorem dL_refuses_709 : decode cL_refuses 709 = .ok (.iload 16, 2) := by decide +kernel
theorem dL_refuses_711 : decode cL_refuses 711 = .ok (.ifCond .eq 48, 3) := by decide +kernel
theorem dL_refuses_714 : decode cL_refuses 714 = .ok (.aload_n 0, 1) := by decide +kernel
theorem dL_refuses_715 : decode cL_refuses 715 = .ok (.iload 17, 2) := by decide +kernel
theorem dL_refuses_717 : decode cL_refuses 717 = .ok (.iload 10, 2) := by decide +kernel
theorem dL_refuses_719 : decode cL_refuses 719 = .ok (.iconst 0, 1) := by decide +kernel
theorem dL_refuses_720 : decode cL_refuses 720 = .ok (.iconst 0, 1) := by decide +kernel
theorem dL_refuses_721 : decode cL_refuses 721 = .ok (.iconst 0, 1) := by decide +kernel
theorem dL_refuses_722 : decode cL_refuses 722 = .ok (.invokestatic 100, 3) := by decide +kernel
theorem dL_refuses_725 : decode cL_refuses 725 = .ok (.ldc 85, 2) := by decide +kernel
theorem dL_refuses_727 : decode cL_refuses 727 = .ok (.if_icmp .ne 23, 3) := by decide +kernel
theorem dL_refuses_730 : decode cL_refuses 730 = .ok (.aload_n 0, 1) := by decide +kernel
theorem dL_refuses_731 : decode cL_refuses 731 = .ok (.iload 17, 2) := by decide +kernel
theorem dL_refuses_733 : decode cL_refuses 733 = .ok (.iconst 0, 1) := by decide +kernel
theorem dL_refuses_734 : decode cL_refuses 734 = .ok (.iload 10, 2) := by decide +kernel
theorem dL_refuses_736 : decode cL_refuses 736 = .ok (.iconst 0, 1) := by decide +kernel
theorem dL_refuses_737 : decode cL_refuses 737 = .ok (.iconst 0, 1) := by decide +kernel
theorem dL_refuses_738 : decode cL_refuses 738 = .ok (.invokestatic 100, 3) := by decide +kernel
theorem dL_refuses_741 : decode cL_refuses 741 = .ok (.ldc 85, 2) := by decide +kernel
theorem dL_refuses_743 : decode cL_refuses 743 = .ok (.if_icmp .ne 7, 3) := by decide +kernel
theorem dL_refuses_746 : decode cL_refuses 746 = .ok (.iconst 1, 1) := by decide +kernel
theorem dL_refuses_747 : decode cL_refuses 747 = .ok (.goto 4, 3) := by decide +kernel
theorem dL_refuses_750 : decode cL_refuses 750 = .ok (.iconst 0, 1) := by decide +kernel
theorem dL_refuses_751 : decode cL_refuses 751 = .ok (.istore 16, 2) := by decide +kernel
theorem dL_refuses_753 : decode cL_refuses 753 = .ok (.iinc 17 1, 3) := by decide +kernel
theorem dL_refuses_756 : decode cL_refuses 756 = .ok (.goto (-54), 3) := by decide +kernel
theorem dL_refuses_759 : decode cL_refuses 759 = .ok (.iload 16, 2) := by decide +kernel
theorem dL_refuses_761 : decode cL_refuses 761 = .ok (.ifCond .eq 156, 3) := by decide +kernel
theorem dL_refuses_764 : decode cL_refuses 764 = .ok (.iload_n 1, 1) := by decide +kernel
theorem dL_refuses_765 : decode cL_refuses 765 = .ok (.ifCond .eq 148, 3) := by decide +kernel
theorem dL_refuses_768 : decode cL_refuses 768 = .ok (.aload_n 0, 1) := by decide +kernel
theorem dL_refuses_769 : decode cL_refuses 769 = .ok (.iconst 1, 1) := by decide +kernel
theorem dL_refuses_770 : decode cL_refuses 770 = .ok (.iconst 0, 1) := by decide +kernel
theorem dL_refuses_771 : decode cL_refuses 771 = .ok (.iload 14, 2) := by decide +kernel
theorem dL_refuses_773 : decode cL_refuses 773 = .ok (.iconst 1, 1) := by decide +kernel
theorem dL_refuses_774 : decode cL_refuses 774 = .ok (.iconst 0, 1) := by decide +kernel
theorem dL_refuses_775 : decode cL_refuses 775 = .ok (.invokestatic 100, 3) := by decide +kernel
theorem dL_refuses_778 : decode cL_refuses 778 = .ok (.ldc 88, 2) := by decide +kernel
theorem dL_refuses_780 : decode cL_refuses 780 = .ok (.if_icmp .ne 137, 3) := by decide +kernel
theorem dL_refuses_783 : decode cL_refuses 783 = .ok (.aload_n 0, 1) := by decide +kernel
theorem dL_refuses_784 : decode cL_refuses 784 = .ok (.iconst 1, 1) := by decide +kernel
theorem dL_refuses_785 : decode cL_refuses 785 = .ok (.iconst 0, 1) := by decide +kernel
theorem dL_refuses_786 : decode cL_refuses 786 = .ok (.iconst 0, 1) := by decide +kernel
theorem dL_refuses_787 : decode cL_refuses 787 = .ok (.iload 8, 2) := by decide +kernel
theorem dL_refuses_789 : decode cL_refuses 789 = .ok (.ifCond .ne 7, 3) := by decide +kernel
theorem dL_refuses_792 : decode cL_refuses 792 = .ok (.iconst 0, 1) := by decide +kernel
theorem dL_refuses_793 : decode cL_refuses 793 = .ok (.goto 16, 3) := by decide +kernel
theorem dL_refuses_796 : decode cL_refuses 796 = .ok (.iload 8, 2) := by decide +kernel
theorem dL_refuses_798 : decode cL_refuses 798 = .ok (.iconst 1, 1) := by decide +kernel
theorem dL_refuses_799 : decode cL_refuses 799 = .ok (.if_icmp .ne 8, 3) := by decide +kernel
theorem dL_refuses_802 : decode cL_refuses 802 = .ok (.bipush 17, 2) := by decide +kernel
theorem dL_refuses_804 : decode cL_refuses 804 = .ok (.goto 5, 3) := by decide +kernel
theorem dL_refuses_807 : decode cL_refuses 807 = .ok (.iload 9, 2) := by decide +kernel
theorem dL_refuses_809 : decode cL_refuses 809 = .ok (.iconst 0, 1) := by decide +kernel
theorem dL_refuses_810 : decode cL_refuses 810 = .ok (.invokestatic 100, 3) := by decide +kernel
theorem dL_refuses_813 : decode cL_refuses 813 = .ok (.ldc 88, 2) := by decide +kernel
theorem dL_refuses_815 : decode cL_refuses 815 = .ok (.if_icmp .ne 102, 3) := by decide +kernel
theorem dL_refuses_818 : decode cL_refuses 818 = .ok (.aload_n 0, 1) := by decide +kernel
theorem dL_refuses_819 : decode cL_refuses 819 = .ok (.iconst 1, 1) := by decide +kernel
theorem dL_refuses_820 : decode cL_refuses 820 = .ok (.iconst 0, 1) := by decide +kernel
theorem dL_refuses_821 : decode cL_refuses 821 = .ok (.iconst 0, 1) := by decide +kernel
theorem dL_refuses_822 : decode cL_refuses 822 = .ok (.iconst 1, 1) := by decide +kernel
theorem dL_refuses_823 : decode cL_refuses 823 = .ok (.iload 14, 2) := by decide +kernel
theorem dL_refuses_825 : decode cL_refuses 825 = .ok (.invokestatic 100, 3) := by decide +kernel
theorem dL_refuses_828 : decode cL_refuses 828 = .ok (.ldc 88, 2) := by decide +kernel
theorem dL_refuses_830 : decode cL_refuses 830 = .ok (.if_icmp .ne 87, 3) := by decide +kernel
theorem dL_refuses_833 : decode cL_refuses 833 = .ok (.aload_n 0, 1) := by decide +kernel
theorem dL_refuses_834 : decode cL_refuses 834 = .ok (.iconst 3, 1) := by decide +kernel
theorem dL_refuses_835 : decode cL_refuses 835 = .ok (.iconst 0, 1) := by decide +kernel
theorem dL_refuses_836 : decode cL_refuses 836 = .ok (.iload 9, 2) := by decide +kernel
theorem dL_refuses_838 : decode cL_refuses 838 = .ok (.bipush 9, 2) := by decide +kernel
theorem dL_refuses_840 : decode cL_refuses 840 = .ok (.iconst 0, 1) := by decide +kernel
theorem dL_refuses_841 : decode cL_refuses 841 = .ok (.invokestatic 100, 3) := by decide +kernel
theorem dL_refuses_844 : decode cL_refuses 844 = .ok (.ldc 85, 2) := by decide +kernel
theorem dL_refuses_846 : decode cL_refuses 846 = .ok (.if_icmp .ne 71, 3) := by decide +kernel
theorem dL_refuses_849 : decode cL_refuses 849 = .ok (.aload_n 0, 1) := by decide +kernel
theorem dL_refuses_850 : decode cL_refuses 850 = .ok (.iconst 4, 1) := by decide +kernel
theorem dL_refuses_851 : decode cL_refuses 851 = .ok (.iconst 0, 1) := by decide +kernel
theorem dL_refuses_852 : decode cL_refuses 852 = .ok (.iload 8, 2) := by decide +kernel
theorem dL_refuses_854 : decode cL_refuses 854 = .ok (.iconst 1, 1) := by decide +kernel
theorem dL_refuses_855 : decode cL_refuses 855 = .ok (.if_icmp .ne 8, 3) := by decide +kernel
theorem dL_refuses_858 : decode cL_refuses 858 = .ok (.bipush 7, 2) := by decide +kernel
theorem dL_refuses_860 : decode cL_refuses 860 = .ok (.goto 5, 3) := by decide +kernel
theorem dL_refuses_863 : decode cL_refuses 863 = .ok (.iload 9, 2) := by decide +kernel
theorem dL_refuses_865 : decode cL_refuses 865 = .ok (.iconst 0, 1) := by decide +kernel
theorem dL_refuses_866 : decode cL_refuses 866 = .ok (.iconst 0, 1) := by decide +kernel
theorem dL_refuses_867 : decode cL_refuses 867 = .ok (.invokestatic 100, 3) := by decide +kernel
theorem dL_refuses_870 : decode cL_refuses 870 = .ok (.ldc 88, 2) := by decide +kernel
theorem dL_refuses_872 : decode cL_refuses 872 = .ok (.if_icmp .ne 45, 3) := by decide +kernel
theorem dL_refuses_875 : decode cL_refuses 875 = .ok (.aload_n 0, 1) := by decide +kernel
theorem dL_refuses_876 : decode cL_refuses 876 = .ok (.bipush 7, 2) := by decide +kernel
theorem dL_refuses_878 : decode cL_refuses 878 = .ok (.iconst 0, 1) := by decide +kernel
theorem dL_refuses_879 : decode cL_refuses 879 = .ok (.iload 8, 2) := by decide +kernel
theorem dL_refuses_881 : decode cL_refuses 881 = .ok (.ifCond .ne 8, 3) := by decide +kernel
theorem dL_refuses_884 : decode cL_refuses 884 = .ok (.bipush 29, 2) := by decide +kernel
theorem dL_refuses_886 : decode cL_refuses 886 = .ok (.goto 17, 3) := by decide +kernel
theorem dL_refuses_889 : decode cL_refuses 889 = .ok (.iload 8, 2) := by decide +kernel
theorem dL_refuses_891 : decode cL_refuses 891 = .ok (.iconst 1, 1) := by decide +kernel
theorem dL_refuses_892 : decode cL_refuses 892 = .ok (.if_icmp .ne 9, 3) := by decide +kernel
theorem dL_refuses_895 : decode cL_refuses 895 = .ok (.sipush 601, 3) := by decide +kernel
theorem dL_refuses_898 : decode cL_refuses 898 = .ok (.goto 5, 3) := by decide +kernel
theorem dL_refuses_901 : decode cL_refuses 901 = .ok (.iload 9, 2) := by decide +kernel
theorem dL_refuses_903 : decode cL_refuses 903 = .ok (.iconst 0, 1) := by decide +kernel
theorem dL_refuses_904 : decode cL_refuses 904 = .ok (.iconst 0, 1) := by decide +kernel
theorem dL_refuses_905 : decode cL_refuses 905 = .ok (.invokestatic 100, 3) := by decide +kernel
theorem dL_refuses_908 : decode cL_refuses 908 = .ok (.ldc 88, 2) := by decide +kernel
theorem dL_refuses_910 : decode cL_refuses 910 = .ok (.if_icmp .ne 7, 3) := by decide +kernel
theorem dL_refuses_913 : decode cL_refuses 913 = .ok (.iconst 1, 1) := by decide +kernel
theorem dL_refuses_914 : decode cL_refuses 914 = .ok (.goto 4, 3) := by decide +kernel
theorem dL_refuses_917 : decode cL_refuses 917 = .ok (.iconst 0, 1) := by decide +kernel
theorem dL_refuses_918 : decode cL_refuses 918 = .ok (.istore 16, 2) := by decide +kernel
theorem dL_refuses_920 : decode cL_refuses 920 = .ok (.iload 16, 2) := by decide +kernel
theorem dL_refuses_922 : decode cL_refuses 922 = .ok (.ifCond .eq 75, 3) := by decide +kernel
theorem dL_refuses_925 : decode cL_refuses 925 = .ok (.iload_n 2, 1) := by decide +kernel
theorem dL_refuses_926 : decode cL_refuses 926 = .ok (.ifCond .eq 67, 3) := by decide +kernel
theorem dL_refuses_929 : decode cL_refuses 929 = .ok (.aload_n 0, 1) := by decide +kernel
theorem dL_refuses_930 : decode cL_refuses 930 = .ok (.bipush 10, 2) := by decide +kernel
theorem dL_refuses_932 : decode cL_refuses 932 = .ok (.iconst 0, 1) := by decide +kernel
theorem dL_refuses_933 : decode cL_refuses 933 = .ok (.iload 8, 2) := by decide +kernel
theorem dL_refuses_935 : decode cL_refuses 935 = .ok (.ifCond .ne 8, 3) := by decide +kernel
theorem dL_refuses_938 : decode cL_refuses 938 = .ok (.bipush (-101), 2) := by decide +kernel
theorem dL_refuses_940 : decode cL_refuses 940 = .ok (.goto 16, 3) := by decide +kernel
theorem dL_refuses_943 : decode cL_refuses 943 = .ok (.iload 8, 2) := by decide +kernel
theorem dL_refuses_945 : decode cL_refuses 945 = .ok (.iconst 1, 1) := by decide +kernel
theorem dL_refuses_946 : decode cL_refuses 946 = .ok (.if_icmp .ne 8, 3) := by decide +kernel
theorem dL_refuses_949 : decode cL_refuses 949 = .ok (.bipush 101, 2) := by decide +kernel
theorem dL_refuses_951 : decode cL_refuses 951 = .ok (.goto 5, 3) := by decide +kernel
theorem dL_refuses_954 : decode cL_refuses 954 = .ok (.iload 9, 2) := by decide +kernel
theorem dL_refuses_956 : decode cL_refuses 956 = .ok (.iconst 0, 1) := by decide +kernel
theorem dL_refuses_957 : decode cL_refuses 957 = .ok (.iconst 0, 1) := by decide +kernel
theorem dL_refuses_958 : decode cL_refuses 958 = .ok (.invokestatic 100, 3) := by decide +kernel
theorem dL_refuses_961 : decode cL_refuses 961 = .ok (.ldc 88, 2) := by decide +kernel
theorem dL_refuses_963 : decode cL_refuses 963 = .ok (.if_icmp .ne 34, 3) := by decide +kernel
theorem dL_refuses_966 : decode cL_refuses 966 = .ok (.aload_n 0, 1) := by decide +kernel
theorem dL_refuses_967 : decode cL_refuses 967 = .ok (.bipush 13, 2) := by decide +kernel
theorem dL_refuses_969 : decode cL_refuses 969 = .ok (.iconst 0, 1) := by decide +kernel
theorem dL_refuses_970 : decode cL_refuses 970 = .ok (.iload 8, 2) := by decide +kernel
theorem dL_refuses_972 : decode cL_refuses 972 = .ok (.iconst 1, 1) := by decide +kernel
theorem dL_refuses_973 : decode cL_refuses 973 = .ok (.if_icmp .ne 8, 3) := by decide +kernel
theorem dL_refuses_976 : decode cL_refuses 976 = .ok (.bipush 6, 2) := by decide +kernel
theorem dL_refuses_978 : decode cL_refuses 978 = .ok (.goto 5, 3) := by decide +kernel
theorem dL_refuses_981 : decode cL_refuses 981 = .ok (.iload 9, 2) := by decide +kernel
theorem dL_refuses_983 : decode cL_refuses 983 = .ok (.iconst 0, 1) := by decide +kernel
theorem dL_refuses_984 : decode cL_refuses 984 = .ok (.iconst 0, 1) := by decide +kernel
theorem dL_refuses_985 : decode cL_refuses 985 = .ok (.invokestatic 100, 3) := by decide +kernel
theorem dL_refuses_988 : decode cL_refuses 988 = .ok (.ldc 88, 2) := by decide +kernel
theorem dL_refuses_990 : decode cL_refuses 990 = .ok (.if_icmp .ne 7, 3) := by decide +kernel
theorem dL_refuses_993 : decode cL_refuses 993 = .ok (.iconst 1, 1) := by decide +kernel
theorem dL_refuses_994 : decode cL_refuses 994 = .ok (.goto 4, 3) := by decide +kernel
theorem dL_refuses_997 : decode cL_refuses 997 = .ok (.iconst 0, 1) := by decide +kernel
theorem dL_refuses_998 : decode cL_refuses 998 = .ok (.istore 16, 2) := by decide +kernel
theorem dL_refuses_1000 : decode cL_refuses 1000 = .ok (.iload 16, 2) := by decide +kernel
theorem dL_refuses_1002 : decode cL_refuses 1002 = .ok (.ifCond .eq 64, 3) := by decide +kernel
theorem dL_refuses_1005 : decode cL_refuses 1005 = .ok (.iload_n 3, 1) := by decide +kernel
theorem dL_refuses_1006 : decode cL_refuses 1006 = .ok (.ifCond .eq 56, 3) := by decide +kernel
theorem dL_refuses_1009 : decode cL_refuses 1009 = .ok (.aload_n 0, 1) := by decide +kernel
theorem dL_refuses_1010 : decode cL_refuses 1010 = .ok (.bipush 18, 2) := by decide +kernel
theorem dL_refuses_1012 : decode cL_refuses 1012 = .ok (.iconst 0, 1) := by decide +kernel
theorem dL_refuses_1013 : decode cL_refuses 1013 = .ok (.iconst 0, 1) := by decide +kernel
theorem dL_refuses_1014 : decode cL_refuses 1014 = .ok (.iload 8, 2) := by decide +kernel
theorem dL_refuses_1016 : decode cL_refuses 1016 = .ok (.iconst 1, 1) := by decide +kernel
theorem dL_refuses_1017 : decode cL_refuses 1017 = .ok (.if_icmp .ne 8, 3) := by decide +kernel
theorem dL_refuses_1020 : decode cL_refuses 1020 = .ok (.bipush 101, 2) := by decide +kernel
theorem dL_refuses_1022 : decode cL_refuses 1022 = .ok (.goto 5, 3) := by decide +kernel
theorem dL_refuses_1025 : decode cL_refuses 1025 = .ok (.iload 9, 2) := by decide +kernel
theorem dL_refuses_1027 : decode cL_refuses 1027 = .ok (.iconst 0, 1) := by decide +kernel
theorem dL_refuses_1028 : decode cL_refuses 1028 = .ok (.invokestatic 100, 3) := by decide +kernel
theorem dL_refuses_1031 : decode cL_refuses 1031 = .ok (.ldc 88, 2) := by decide +kernel
theorem dL_refuses_1033 : decode cL_refuses 1033 = .ok (.if_icmp .ne 33, 3) := by decide +kernel
theorem dL_refuses_1036 : decode cL_refuses 1036 = .ok (.aload_n 0, 1) := by decide +kernel
theorem dL_refuses_1037 : decode cL_refuses 1037 = .ok (.bipush 21, 2) := by decide +kernel
theorem dL_refuses_1039 : decode cL_refuses 1039 = .ok (.iconst 0, 1) := by decide +kernel
theorem dL_refuses_1040 : decode cL_refuses 1040 = .ok (.iload 8, 2) := by decide +kernel
theorem dL_refuses_1042 : decode cL_refuses 1042 = .ok (.iconst 1, 1) := by decide +kernel
theorem dL_refuses_1043 : decode cL_refuses 1043 = .ok (.if_icmp .ne 7, 3) := by decide +kernel
theorem dL_refuses_1046 : decode cL_refuses 1046 = .ok (.iconst 5, 1) := by decide +kernel
theorem dL_refuses_1047 : decode cL_refuses 1047 = .ok (.goto 5, 3) := by decide +kernel
theorem dL_refuses_1050 : decode cL_refuses 1050 = .ok (.iload 9, 2) := by decide +kernel
theorem dL_refuses_1052 : decode cL_refuses 1052 = .ok (.iconst 0, 1) := by decide +kernel
theorem dL_refuses_1053 : decode cL_refuses 1053 = .ok (.iconst 0, 1) := by decide +kernel
theorem dL_refuses_1054 : decode cL_refuses 1054 = .ok (.invokestatic 100, 3) := by decide +kernel
theorem dL_refuses_1057 : decode cL_refuses 1057 = .ok (.ldc 88, 2) := by decide +kernel
theorem dL_refuses_1059 : decode cL_refuses 1059 = .ok (.if_icmp .ne 7, 3) := by decide +kernel
theorem dL_refuses_1062 : decode cL_refuses 1062 = .ok (.iconst 1, 1) := by decide +kernel
theorem dL_refuses_1063 : decode cL_refuses 1063 = .ok (.goto 4, 3) := by decide +kernel
theorem dL_refuses_1066 : decode cL_refuses 1066 = .ok (.iconst 0, 1) := by decide +kernel
theorem dL_refuses_1067 : decode cL_refuses 1067 = .ok (.istore 16, 2) := by decide +kernel
theorem dL_refuses_1069 : decode cL_refuses 1069 = .ok (.iload 16, 2) := by decide +kernel
theorem dL_refuses_1071 : decode cL_refuses 1071 = .ok (.ifCond .ne 5, 3) := by decide +kernel
theorem dL_refuses_1074 : decode cL_refuses 1074 = .ok (.iconst 0, 1) := by decide +kernel
theorem dL_refuses_1075 : decode cL_refuses 1075 = .ok (.ireturn, 1) := by decide +kernel
theorem dL_refuses_1076 : decode cL_refuses 1076 = .ok (.iinc 8 1, 3) := by decide +kernel
theorem dL_refuses_1079 : decode cL_refuses 1079 = .ok (.goto (-1060), 3) := by decide +kernel
theorem dL_refuses_1082 : decode cL_refuses 1082 = .ok (.aload_n 0, 1) := by decide +kernel
theorem dL_refuses_1083 : decode cL_refuses 1083 = .ok (.invokevirtual 93, 3) := by decide +kernel
theorem dL_refuses_1086 : decode cL_refuses 1086 = .ok (.iload 5, 2) := by decide +kernel
theorem dL_refuses_1088 : decode cL_refuses 1088 = .ok (.if_icmp .ne 17, 3) := by decide +kernel
theorem dL_refuses_1091 : decode cL_refuses 1091 = .ok (.aload_n 0, 1) := by decide +kernel
theorem dL_refuses_1092 : decode cL_refuses 1092 = .ok (.invokevirtual 96, 3) := by decide +kernel
theorem dL_refuses_1095 : decode cL_refuses 1095 = .ok (.lload 6, 2) := by decide +kernel
theorem dL_refuses_1097 : decode cL_refuses 1097 = .ok (.lcmp, 1) := by decide +kernel
theorem dL_refuses_1098 : decode cL_refuses 1098 = .ok (.ifCond .ne 7, 3) := by decide +kernel
theorem dL_refuses_1101 : decode cL_refuses 1101 = .ok (.iconst 1, 1) := by decide +kernel
theorem dL_refuses_1102 : decode cL_refuses 1102 = .ok (.goto 4, 3) := by decide +kernel
theorem dL_refuses_1105 : decode cL_refuses 1105 = .ok (.iconst 0, 1) := by decide +kernel
theorem dL_refuses_1106 : decode cL_refuses 1106 = .ok (.ireturn, 1) := by decide +kernel
theorem dL_played_0 : decode cL_played 0 = .ok (.aload_n 0, 1) := by decide +kernel
theorem dL_played_1 : decode cL_played 1 = .ok (.iload_n 1, 1) := by decide +kernel
theorem dL_played_2 : decode cL_played 2 = .ok (.iload_n 2, 1) := by decide +kernel
theorem dL_played_3 : decode cL_played 3 = .ok (.iconst 0, 1) := by decide +kernel
theorem dL_played_4 : decode cL_played 4 = .ok (.invokevirtual 21, 3) := by decide +kernel
theorem dL_played_7 : decode cL_played 7 = .ok (.iload_n 3, 1) := by decide +kernel
theorem dL_played_8 : decode cL_played 8 = .ok (.if_icmp .ne 55, 3) := by decide +kernel
theorem dL_played_11 : decode cL_played 11 = .ok (.aload_n 0, 1) := by decide +kernel
theorem dL_played_12 : decode cL_played 12 = .ok (.iload_n 1, 1) := by decide +kernel
theorem dL_played_13 : decode cL_played 13 = .ok (.iload_n 2, 1) := by decide +kernel
theorem dL_played_14 : decode cL_played 14 = .ok (.iconst 1, 1) := by decide +kernel
theorem dL_played_15 : decode cL_played 15 = .ok (.invokevirtual 21, 3) := by decide +kernel
theorem dL_played_18 : decode cL_played 18 = .ok (.iload 4, 2) := by decide +kernel
theorem dL_played_20 : decode cL_played 20 = .ok (.if_icmp .ne 43, 3) := by decide +kernel
theorem dL_played_23 : decode cL_played 23 = .ok (.aload_n 0, 1) := by decide +kernel
theorem dL_played_24 : decode cL_played 24 = .ok (.iload_n 1, 1) := by decide +kernel
theorem dL_played_25 : decode cL_played 25 = .ok (.iload_n 2, 1) := by decide +kernel
theorem dL_played_26 : decode cL_played 26 = .ok (.iconst 2, 1) := by decide +kernel
theorem dL_played_27 : decode cL_played 27 = .ok (.invokevirtual 21, 3) := by decide +kernel
theorem dL_played_30 : decode cL_played 30 = .ok (.iload 5, 2) := by decide +kernel
theorem dL_played_32 : decode cL_played 32 = .ok (.if_icmp .ne 31, 3) := by decide +kernel
theorem dL_played_35 : decode cL_played 35 = .ok (.aload_n 0, 1) := by decide +kernel
theorem dL_played_36 : decode cL_played 36 = .ok (.iload_n 1, 1) := by decide +kernel
theorem dL_played_37 : decode cL_played 37 = .ok (.iload_n 2, 1) := by decide +kernel
theorem dL_played_38 : decode cL_played 38 = .ok (.iconst 3, 1) := by decide +kernel
theorem dL_played_39 : decode cL_played 39 = .ok (.invokevirtual 21, 3) := by decide +kernel
theorem dL_played_42 : decode cL_played 42 = .ok (.iload 6, 2) := by decide +kernel
theorem dL_played_44 : decode cL_played 44 = .ok (.if_icmp .ne 19, 3) := by decide +kernel
theorem dL_played_47 : decode cL_played 47 = .ok (.aload_n 0, 1) := by decide +kernel
theorem dL_played_48 : decode cL_played 48 = .ok (.iload_n 1, 1) := by decide +kernel
theorem dL_played_49 : decode cL_played 49 = .ok (.iload_n 2, 1) := by decide +kernel
theorem dL_played_50 : decode cL_played 50 = .ok (.iconst 4, 1) := by decide +kernel
theorem dL_played_51 : decode cL_played 51 = .ok (.invokevirtual 21, 3) := by decide +kernel
theorem dL_played_54 : decode cL_played 54 = .ok (.iload 7, 2) := by decide +kernel
theorem dL_played_56 : decode cL_played 56 = .ok (.if_icmp .ne 7, 3) := by decide +kernel
theorem dL_played_59 : decode cL_played 59 = .ok (.iconst 1, 1) := by decide +kernel
theorem dL_played_60 : decode cL_played 60 = .ok (.goto 4, 3) := by decide +kernel
theorem dL_played_63 : decode cL_played 63 = .ok (.iconst 0, 1) := by decide +kernel
theorem dL_played_64 : decode cL_played 64 = .ok (.ireturn, 1) := by decide +kernel
theorem dL_tune_0 : decode cL_tune 0 = .ok (.aload_n 0, 1) := by decide +kernel
theorem dL_tune_1 : decode cL_tune 1 = .ok (.iload_n 1, 1) := by decide +kernel
theorem dL_tune_2 : decode cL_tune 2 = .ok (.iconst 0, 1) := by decide +kernel
theorem dL_tune_3 : decode cL_tune 3 = .ok (.invokevirtual 25, 3) := by decide +kernel
theorem dL_tune_6 : decode cL_tune 6 = .ok (.iload_n 2, 1) := by decide +kernel
theorem dL_tune_7 : decode cL_tune 7 = .ok (.if_icmp .ne 73, 3) := by decide +kernel
theorem dL_tune_10 : decode cL_tune 10 = .ok (.aload_n 0, 1) := by decide +kernel
theorem dL_tune_11 : decode cL_tune 11 = .ok (.iload_n 1, 1) := by decide +kernel
theorem dL_tune_12 : decode cL_tune 12 = .ok (.iconst 1, 1) := by decide +kernel
theorem dL_tune_13 : decode cL_tune 13 = .ok (.invokevirtual 25, 3) := by decide +kernel
theorem dL_tune_16 : decode cL_tune 16 = .ok (.iload_n 3, 1) := by decide +kernel
theorem dL_tune_17 : decode cL_tune 17 = .ok (.if_icmp .ne 63, 3) := by decide +kernel
theorem dL_tune_20 : decode cL_tune 20 = .ok (.aload_n 0, 1) := by decide +kernel
theorem dL_tune_21 : decode cL_tune 21 = .ok (.iload_n 1, 1) := by decide +kernel
theorem dL_tune_22 : decode cL_tune 22 = .ok (.iconst 2, 1) := by decide +kernel
theorem dL_tune_23 : decode cL_tune 23 = .ok (.invokevirtual 25, 3) := by decide +kernel
theorem dL_tune_26 : decode cL_tune 26 = .ok (.iload 4, 2) := by decide +kernel
theorem dL_tune_28 : decode cL_tune 28 = .ok (.if_icmp .ne 52, 3) := by decide +kernel
theorem dL_tune_31 : decode cL_tune 31 = .ok (.aload_n 0, 1) := by decide +kernel
theorem dL_tune_32 : decode cL_tune 32 = .ok (.iload_n 1, 1) := by decide +kernel
theorem dL_tune_33 : decode cL_tune 33 = .ok (.iconst 3, 1) := by decide +kernel
theorem dL_tune_34 : decode cL_tune 34 = .ok (.invokevirtual 25, 3) := by decide +kernel
theorem dL_tune_37 : decode cL_tune 37 = .ok (.iload 5, 2) := by decide +kernel
theorem dL_tune_39 : decode cL_tune 39 = .ok (.if_icmp .ne 41, 3) := by decide +kernel
theorem dL_tune_42 : decode cL_tune 42 = .ok (.aload_n 0, 1) := by decide +kernel
theorem dL_tune_43 : decode cL_tune 43 = .ok (.iload_n 1, 1) := by decide +kernel
theorem dL_tune_44 : decode cL_tune 44 = .ok (.iconst 4, 1) := by decide +kernel
theorem dL_tune_45 : decode cL_tune 45 = .ok (.invokevirtual 25, 3) := by decide +kernel
theorem dL_tune_48 : decode cL_tune 48 = .ok (.iload 6, 2) := by decide +kernel
theorem dL_tune_50 : decode cL_tune 50 = .ok (.if_icmp .ne 30, 3) := by decide +kernel
theorem dL_tune_53 : decode cL_tune 53 = .ok (.aload_n 0, 1) := by decide +kernel
theorem dL_tune_54 : decode cL_tune 54 = .ok (.iload_n 1, 1) := by decide +kernel
theorem dL_tune_55 : decode cL_tune 55 = .ok (.iconst 5, 1) := by decide +kernel
theorem dL_tune_56 : decode cL_tune 56 = .ok (.invokevirtual 25, 3) := by decide +kernel
theorem dL_tune_59 : decode cL_tune 59 = .ok (.iload 7, 2) := by decide +kernel
theorem dL_tune_61 : decode cL_tune 61 = .ok (.if_icmp .ne 19, 3) := by decide +kernel
theorem dL_tune_64 : decode cL_tune 64 = .ok (.aload_n 0, 1) := by decide +kernel
theorem dL_tune_65 : decode cL_tune 65 = .ok (.iload_n 1, 1) := by decide +kernel
theorem dL_tune_66 : decode cL_tune 66 = .ok (.bipush 6, 2) := by decide +kernel
theorem dL_tune_68 : decode cL_tune 68 = .ok (.invokevirtual 25, 3) := by decide +kernel
theorem dL_tune_71 : decode cL_tune 71 = .ok (.iload 8, 2) := by decide +kernel
theorem dL_tune_73 : decode cL_tune 73 = .ok (.if_icmp .ne 7, 3) := by decide +kernel
theorem dL_tune_76 : decode cL_tune 76 = .ok (.iconst 1, 1) := by decide +kernel
theorem dL_tune_77 : decode cL_tune 77 = .ok (.goto 4, 3) := by decide +kernel
theorem dL_tune_80 : decode cL_tune 80 = .ok (.iconst 0, 1) := by decide +kernel
theorem dL_tune_81 : decode cL_tune 81 = .ok (.ireturn, 1) := by decide +kernel
theorem dL_tunes_0 : decode cL_tunes 0 = .ok (.new 8, 3) := by decide +kernel
theorem dL_tunes_3 : decode cL_tunes 3 = .ok (.dup, 1) := by decide +kernel
theorem dL_tunes_4 : decode cL_tunes 4 = .ok (.invokespecial 106, 3) := by decide +kernel
theorem dL_tunes_7 : decode cL_tunes 7 = .ok (.astore_n 0, 1) := by decide +kernel
theorem dL_tunes_8 : decode cL_tunes 8 = .ok (.aload_n 0, 1) := by decide +kernel
theorem dL_tunes_9 : decode cL_tunes 9 = .ok (.iconst 0, 1) := by decide +kernel
theorem dL_tunes_10 : decode cL_tunes 10 = .ok (.iconst 0, 1) := by decide +kernel
theorem dL_tunes_11 : decode cL_tunes 11 = .ok (.iconst 0, 1) := by decide +kernel
theorem dL_tunes_12 : decode cL_tunes 12 = .ok (.invokestatic 107, 3) := by decide +kernel
theorem dL_tunes_15 : decode cL_tunes 15 = .ok (.ifCond .eq 368, 3) := by decide +kernel
theorem dL_tunes_18 : decode cL_tunes 18 = .ok (.aload_n 0, 1) := by decide +kernel
theorem dL_tunes_19 : decode cL_tunes 19 = .ok (.bipush 8, 2) := by decide +kernel
theorem dL_tunes_21 : decode cL_tunes 21 = .ok (.iconst 0, 1) := by decide +kernel
theorem dL_tunes_22 : decode cL_tunes 22 = .ok (.iconst 0, 1) := by decide +kernel
theorem dL_tunes_23 : decode cL_tunes 23 = .ok (.iconst 0, 1) := by decide +kernel
theorem dL_tunes_24 : decode cL_tunes 24 = .ok (.iconst 0, 1) := by decide +kernel
theorem dL_tunes_25 : decode cL_tunes 25 = .ok (.invokestatic 100, 3) := by decide +kernel
theorem dL_tunes_28 : decode cL_tunes 28 = .ok (.ldc 91, 2) := by decide +kernel
theorem dL_tunes_30 : decode cL_tunes 30 = .ok (.if_icmp .ne 353, 3) := by decide +kernel
theorem dL_tunes_33 : decode cL_tunes 33 = .ok (.aload_n 0, 1) := by decide +kernel
theorem dL_tunes_34 : decode cL_tunes 34 = .ok (.iconst 0, 1) := by decide +kernel
theorem dL_tunes_35 : decode cL_tunes 35 = .ok (.invokevirtual 7, 3) := by decide +kernel
theorem dL_tunes_38 : decode cL_tunes 38 = .ok (.ifCond .ne 345, 3) := by decide +kernel
theorem dL_tunes_41 : decode cL_tunes 41 = .ok (.aload_n 0, 1) := by decide +kernel
theorem dL_tunes_42 : decode cL_tunes 42 = .ok (.iconst 2, 1) := by decide +kernel
theorem dL_tunes_43 : decode cL_tunes 43 = .ok (.iconst 0, 1) := by decide +kernel
theorem dL_tunes_44 : decode cL_tunes 44 = .ok (.iconst 0, 1) := by decide +kernel
theorem dL_tunes_45 : decode cL_tunes 45 = .ok (.iconst 0, 1) := by decide +kernel
theorem dL_tunes_46 : decode cL_tunes 46 = .ok (.iconst 0, 1) := by decide +kernel
theorem dL_tunes_47 : decode cL_tunes 47 = .ok (.invokestatic 100, 3) := by decide +kernel
theorem dL_tunes_50 : decode cL_tunes 50 = .ok (.ldc 91, 2) := by decide +kernel
theorem dL_tunes_52 : decode cL_tunes 52 = .ok (.if_icmp .ne 331, 3) := by decide +kernel
theorem dL_tunes_55 : decode cL_tunes 55 = .ok (.aload_n 0, 1) := by decide +kernel
theorem dL_tunes_56 : decode cL_tunes 56 = .ok (.iconst 0, 1) := by decide +kernel
theorem dL_tunes_57 : decode cL_tunes 57 = .ok (.iconst 4, 1) := by decide +kernel
theorem dL_tunes_58 : decode cL_tunes 58 = .ok (.iconst 4, 1) := by decide +kernel
theorem dL_tunes_59 : decode cL_tunes 59 = .ok (.bipush 7, 2) := by decide +kernel
theorem dL_tunes_61 : decode cL_tunes 61 = .ok (.invokevirtual 13, 3) := by decide +kernel
theorem dL_tunes_64 : decode cL_tunes 64 = .ok (.iconst 1, 1) := by decide +kernel
theorem dL_tunes_65 : decode cL_tunes 65 = .ok (.if_icmp .ne 318, 3) := by decide +kernel
theorem dL_tunes_68 : decode cL_tunes 68 = .ok (.aload_n 0, 1) := by decide +kernel
theorem dL_tunes_69 : decode cL_tunes 69 = .ok (.iconst 1, 1) := by decide +kernel
theorem dL_tunes_70 : decode cL_tunes 70 = .ok (.iconst 0, 1) := by decide +kernel
theorem dL_tunes_71 : decode cL_tunes 71 = .ok (.iconst 4, 1) := by decide +kernel
theorem dL_tunes_72 : decode cL_tunes 72 = .ok (.iconst 4, 1) := by decide +kernel
theorem dL_tunes_73 : decode cL_tunes 73 = .ok (.iconst 0, 1) := by decide +kernel
theorem dL_tunes_74 : decode cL_tunes 74 = .ok (.invokestatic 100, 3) := by decide +kernel
theorem dL_tunes_77 : decode cL_tunes 77 = .ok (.ldc 91, 2) := by decide +kernel
theorem dL_tunes_79 : decode cL_tunes 79 = .ok (.if_icmp .ne 304, 3) := by decide +kernel
theorem dL_tunes_82 : decode cL_tunes 82 = .ok (.aload_n 0, 1) := by decide +kernel
theorem dL_tunes_83 : decode cL_tunes 83 = .ok (.iconst 1, 1) := by decide +kernel
theorem dL_tunes_84 : decode cL_tunes 84 = .ok (.iconst 0, 1) := by decide +kernel
theorem dL_tunes_85 : decode cL_tunes 85 = .ok (.iconst 4, 1) := by decide +kernel
theorem dL_tunes_86 : decode cL_tunes 86 = .ok (.iconst 4, 1) := by decide +kernel
theorem dL_tunes_87 : decode cL_tunes 87 = .ok (.iconst 1, 1) := by decide +kernel
theorem dL_tunes_88 : decode cL_tunes 88 = .ok (.invokestatic 100, 3) := by decide +kernel
theorem dL_tunes_91 : decode cL_tunes 91 = .ok (.ldc 91, 2) := by decide +kernel
theorem dL_tunes_93 : decode cL_tunes 93 = .ok (.if_icmp .ne 290, 3) := by decide +kernel
theorem dL_tunes_96 : decode cL_tunes 96 = .ok (.aload_n 0, 1) := by decide +kernel
theorem dL_tunes_97 : decode cL_tunes 97 = .ok (.iconst 2, 1) := by decide +kernel
theorem dL_tunes_98 : decode cL_tunes 98 = .ok (.iconst 0, 1) := by decide +kernel
theorem dL_tunes_99 : decode cL_tunes 99 = .ok (.iconst 0, 1) := by decide +kernel
theorem dL_tunes_100 : decode cL_tunes 100 = .ok (.iconst 0, 1) := by decide +kernel
theorem dL_tunes_101 : decode cL_tunes 101 = .ok (.iconst 0, 1) := by decide +kernel
theorem dL_tunes_102 : decode cL_tunes 102 = .ok (.invokestatic 100, 3) := by decide +kernel
theorem dL_tunes_105 : decode cL_tunes 105 = .ok (.ldc 91, 2) := by decide +kernel
theorem dL_tunes_107 : decode cL_tunes 107 = .ok (.if_icmp .ne 276, 3) := by decide +kernel
theorem dL_tunes_110 : decode cL_tunes 110 = .ok (.aload_n 0, 1) := by decide +kernel
theorem dL_tunes_111 : decode cL_tunes 111 = .ok (.iconst 0, 1) := by decide +kernel
theorem dL_tunes_112 : decode cL_tunes 112 = .ok (.iconst 4, 1) := by decide +kernel
theorem dL_tunes_113 : decode cL_tunes 113 = .ok (.iconst 4, 1) := by decide +kernel
theorem dL_tunes_114 : decode cL_tunes 114 = .ok (.iconst 2, 1) := by decide +kernel
theorem dL_tunes_115 : decode cL_tunes 115 = .ok (.invokevirtual 13, 3) := by decide +kernel
theorem dL_tunes_118 : decode cL_tunes 118 = .ok (.iconst 2, 1) := by decide +kernel
theorem dL_tunes_119 : decode cL_tunes 119 = .ok (.if_icmp .ne 264, 3) := by decide +kernel
theorem dL_tunes_122 : decode cL_tunes 122 = .ok (.aload_n 0, 1) := by decide +kernel
theorem dL_tunes_123 : decode cL_tunes 123 = .ok (.iconst 0, 1) := by decide +kernel
theorem dL_tunes_124 : decode cL_tunes 124 = .ok (.iconst 1, 1) := by decide +kernel
theorem dL_tunes_125 : decode cL_tunes 125 = .ok (.iconst 5, 1) := by decide +kernel
theorem dL_tunes_126 : decode cL_tunes 126 = .ok (.bipush 8, 2) := by decide +kernel
theorem dL_tunes_128 : decode cL_tunes 128 = .ok (.invokevirtual 13, 3) := by decide +kernel
theorem dL_tunes_131 : decode cL_tunes 131 = .ok (.iconst 3, 1) := by decide +kernel
theorem dL_tunes_132 : decode cL_tunes 132 = .ok (.if_icmp .ne 251, 3) := by decide +kernel
theorem dL_tunes_135 : decode cL_tunes 135 = .ok (.aload_n 0, 1) := by decide +kernel
theorem dL_tunes_136 : decode cL_tunes 136 = .ok (.iconst 1, 1) := by decide +kernel
theorem dL_tunes_137 : decode cL_tunes 137 = .ok (.iconst 0, 1) := by decide +kernel
theorem dL_tunes_138 : decode cL_tunes 138 = .ok (.iconst 0, 1) := by decide +kernel
theorem dL_tunes_139 : decode cL_tunes 139 = .ok (.iconst 4, 1) := by decide +kernel
theorem dL_tunes_140 : decode cL_tunes 140 = .ok (.iconst 0, 1) := by decide +kernel
theorem dL_tunes_141 : decode cL_tunes 141 = .ok (.invokestatic 100, 3) := by decide +kernel
theorem dL_tunes_144 : decode cL_tunes 144 = .ok (.ldc 91, 2) := by decide +kernel
theorem dL_tunes_146 : decode cL_tunes 146 = .ok (.if_icmp .ne 237, 3) := by decide +kernel
theorem dL_tunes_149 : decode cL_tunes 149 = .ok (.aload_n 0, 1) := by decide +kernel
theorem dL_tunes_150 : decode cL_tunes 150 = .ok (.iconst 0, 1) := by decide +kernel
theorem dL_tunes_151 : decode cL_tunes 151 = .ok (.iconst 0, 1) := by decide +kernel
theorem dL_tunes_152 : decode cL_tunes 152 = .ok (.iconst 3, 1) := by decide +kernel
theorem dL_tunes_153 : decode cL_tunes 153 = .ok (.iconst 0, 1) := by decide +kernel
theorem dL_tunes_154 : decode cL_tunes 154 = .ok (.invokevirtual 13, 3) := by decide +kernel
theorem dL_tunes_157 : decode cL_tunes 157 = .ok (.iconst 4, 1) := by decide +kernel
theorem dL_tunes_158 : decode cL_tunes 158 = .ok (.if_icmp .ne 225, 3) := by decide +kernel
theorem dL_tunes_161 : decode cL_tunes 161 = .ok (.aload_n 0, 1) := by decide +kernel
theorem dL_tunes_162 : decode cL_tunes 162 = .ok (.iconst 0, 1) := by decide +kernel
theorem dL_tunes_163 : decode cL_tunes 163 = .ok (.iconst 0, 1) := by decide +kernel
theorem dL_tunes_164 : decode cL_tunes 164 = .ok (.iconst 0, 1) := by decide +kernel
theorem dL_tunes_165 : decode cL_tunes 165 = .ok (.iconst 0, 1) := by decide +kernel
theorem dL_tunes_166 : decode cL_tunes 166 = .ok (.iconst 0, 1) := by decide +kernel
theorem dL_tunes_167 : decode cL_tunes 167 = .ok (.iconst 0, 1) := by decide +kernel
theorem dL_tunes_168 : decode cL_tunes 168 = .ok (.iconst 0, 1) := by decide +kernel
theorem dL_tunes_169 : decode cL_tunes 169 = .ok (.iconst 4, 1) := by decide +kernel
theorem dL_tunes_170 : decode cL_tunes 170 = .ok (.invokestatic 111, 3) := by decide +kernel
theorem dL_tunes_173 : decode cL_tunes 173 = .ok (.ifCond .eq 210, 3) := by decide +kernel
theorem dL_tunes_176 : decode cL_tunes 176 = .ok (.aload_n 0, 1) := by decide +kernel
theorem dL_tunes_177 : decode cL_tunes 177 = .ok (.iconst 0, 1) := by decide +kernel
theorem dL_tunes_178 : decode cL_tunes 178 = .ok (.iconst 1, 1) := by decide +kernel
theorem dL_tunes_179 : decode cL_tunes 179 = .ok (.invokevirtual 17, 3) := by decide +kernel
theorem dL_tunes_182 : decode cL_tunes 182 = .ok (.iconst 2, 1) := by decide +kernel
theorem dL_tunes_183 : decode cL_tunes 183 = .ok (.if_icmp .ne 200, 3) := by decide +kernel
theorem dL_tunes_186 : decode cL_tunes 186 = .ok (.aload_n 0, 1) := by decide +kernel
theorem dL_tunes_187 : decode cL_tunes 187 = .ok (.iconst 2, 1) := by decide +kernel
theorem dL_tunes_188 : decode cL_tunes 188 = .ok (.iconst 0, 1) := by decide +kernel
theorem dL_tunes_189 : decode cL_tunes 189 = .ok (.iconst 1, 1) := by decide +kernel
theorem dL_tunes_190 : decode cL_tunes 190 = .ok (.iconst 0, 1) := by decide +kernel
theorem dL_tunes_191 : decode cL_tunes 191 = .ok (.iconst 0, 1) := by decide +kernel
theorem dL_tunes_192 : decode cL_tunes 192 = .ok (.invokestatic 100, 3) := by decide +kernel
theorem dL_tunes_195 : decode cL_tunes 195 = .ok (.ldc 91, 2) := by decide +kernel
theorem dL_tunes_197 : decode cL_tunes 197 = .ok (.if_icmp .ne 186, 3) := by decide +kernel
theorem dL_tunes_200 : decode cL_tunes 200 = .ok (.aload_n 0, 1) := by decide +kernel
theorem dL_tunes_201 : decode cL_tunes 201 = .ok (.iconst 1, 1) := by decide +kernel
theorem dL_tunes_202 : decode cL_tunes 202 = .ok (.iconst 0, 1) := by decide +kernel
theorem dL_tunes_203 : decode cL_tunes 203 = .ok (.iconst 0, 1) := by decide +kernel
theorem dL_tunes_204 : decode cL_tunes 204 = .ok (.bipush 8, 2) := by decide +kernel
theorem dL_tunes_206 : decode cL_tunes 206 = .ok (.iconst 0, 1) := by decide +kernel
theorem dL_tunes_207 : decode cL_tunes 207 = .ok (.invokestatic 100, 3) := by decide +kernel
theorem dL_tunes_210 : decode cL_tunes 210 = .ok (.ldc 91, 2) := by decide +kernel
theorem dL_tunes_212 : decode cL_tunes 212 = .ok (.if_icmp .ne 171, 3) := by decide +kernel
theorem dL_tunes_215 : decode cL_tunes 215 = .ok (.aload_n 0, 1) := by decide +kernel
theorem dL_tunes_216 : decode cL_tunes 216 = .ok (.iconst 1, 1) := by decide +kernel
theorem dL_tunes_217 : decode cL_tunes 217 = .ok (.iconst 0, 1) := by decide +kernel
theorem dL_tunes_218 : decode cL_tunes 218 = .ok (.iconst 0, 1) := by decide +kernel
theorem dL_tunes_219 : decode cL_tunes 219 = .ok (.bipush 8, 2) := by decide +kernel
theorem dL_tunes_221 : decode cL_tunes 221 = .ok (.bipush 6, 2) := by decide +kernel
theorem dL_tunes_223 : decode cL_tunes 223 = .ok (.invokestatic 100, 3) := by decide +kernel
theorem dL_tunes_226 : decode cL_tunes 226 = .ok (.ldc 91, 2) := by decide +kernel
theorem dL_tunes_228 : decode cL_tunes 228 = .ok (.if_icmp .ne 155, 3) := by decide +kernel
theorem dL_tunes_231 : decode cL_tunes 231 = .ok (.aload_n 0, 1) := by decide +kernel
theorem dL_tunes_232 : decode cL_tunes 232 = .ok (.iconst 0, 1) := by decide +kernel
theorem dL_tunes_233 : decode cL_tunes 233 = .ok (.iconst 0, 1) := by decide +kernel
theorem dL_tunes_234 : decode cL_tunes 234 = .ok (.bipush 8, 2) := by decide +kernel
theorem dL_tunes_236 : decode cL_tunes 236 = .ok (.iconst 1, 1) := by decide +kernel
theorem dL_tunes_237 : decode cL_tunes 237 = .ok (.invokevirtual 13, 3) := by decide +kernel
theorem dL_tunes_240 : decode cL_tunes 240 = .ok (.iconst 5, 1) := by decide +kernel
theorem dL_tunes_241 : decode cL_tunes 241 = .ok (.if_icmp .ne 142, 3) := by decide +kernel
theorem dL_tunes_244 : decode cL_tunes 244 = .ok (.aload_n 0, 1) := by decide +kernel
theorem dL_tunes_245 : decode cL_tunes 245 = .ok (.iconst 0, 1) := by decide +kernel
theorem dL_tunes_246 : decode cL_tunes 246 = .ok (.iconst 0, 1) := by decide +kernel
theorem dL_tunes_247 : decode cL_tunes 247 = .ok (.bipush 8, 2) := by decide +kernel
theorem dL_tunes_249 : decode cL_tunes 249 = .ok (.bipush 32, 2) := by decide +kernel
theorem dL_tunes_251 : decode cL_tunes 251 = .ok (.iconst 0, 1) := by decide +kernel
theorem dL_tunes_252 : decode cL_tunes 252 = .ok (.bipush 16, 2) := by decide +kernel
theorem dL_tunes_254 : decode cL_tunes 254 = .ok (.iconst 1, 1) := by decide +kernel
theorem dL_tunes_255 : decode cL_tunes 255 = .ok (.iconst 1, 1) := by decide +kernel
theorem dL_tunes_256 : decode cL_tunes 256 = .ok (.invokestatic 111, 3) := by decide +kernel
theorem dL_tunes_259 : decode cL_tunes 259 = .ok (.ifCond .eq 124, 3) := by decide +kernel
theorem dL_tunes_262 : decode cL_tunes 262 = .ok (.aload_n 0, 1) := by decide +kernel
theorem dL_tunes_263 : decode cL_tunes 263 = .ok (.iconst 0, 1) := by decide +kernel
theorem dL_tunes_264 : decode cL_tunes 264 = .ok (.iconst 0, 1) := by decide +kernel
theorem dL_tunes_265 : decode cL_tunes 265 = .ok (.invokevirtual 17, 3) := by decide +kernel
theorem dL_tunes_268 : decode cL_tunes 268 = .ok (.iconst 1, 1) := by decide +kernel
theorem dL_tunes_269 : decode cL_tunes 269 = .ok (.if_icmp .ne 114, 3) := by decide +kernel
theorem dL_tunes_272 : decode cL_tunes 272 = .ok (.aload_n 0, 1) := by decide +kernel
theorem dL_tunes_273 : decode cL_tunes 273 = .ok (.iconst 0, 1) := by decide +kernel
theorem dL_tunes_274 : decode cL_tunes 274 = .ok (.iconst 0, 1) := by decide +kernel
theorem dL_tunes_275 : decode cL_tunes 275 = .ok (.bipush 9, 2) := by decide +kernel
theorem dL_tunes_277 : decode cL_tunes 277 = .ok (.bipush 40, 2) := by decide +kernel
theorem dL_tunes_279 : decode cL_tunes 279 = .ok (.iconst 0, 1) := by decide +kernel
theorem dL_tunes_280 : decode cL_tunes 280 = .ok (.bipush 17, 2) := by decide +kernel
theorem dL_tunes_282 : decode cL_tunes 282 = .ok (.iconst 2, 1) := by decide +kernel
theorem dL_tunes_283 : decode cL_tunes 283 = .ok (.iconst 0, 1) := by decide +kernel
theorem dL_tunes_284 : decode cL_tunes 284 = .ok (.invokestatic 111, 3) := by decide +kernel
theorem dL_tunes_287 : decode cL_tunes 287 = .ok (.ifCond .eq 96, 3) := by decide +kernel
theorem dL_tunes_290 : decode cL_tunes 290 = .ok (.aload_n 0, 1) := by decide +kernel
theorem dL_tunes_291 : decode cL_tunes 291 = .ok (.iconst 0, 1) := by decide +kernel
theorem dL_tunes_292 : decode cL_tunes 292 = .ok (.iconst 0, 1) := by decide +kernel
theorem dL_tunes_293 : decode cL_tunes 293 = .ok (.iconst 4, 1) := by decide +kernel
theorem dL_tunes_294 : decode cL_tunes 294 = .ok (.iconst 4, 1) := by decide +kernel
theorem dL_tunes_295 : decode cL_tunes 295 = .ok (.bipush 7, 2) := by decide +kernel
theorem dL_tunes_297 : decode cL_tunes 297 = .ok (.iconst 0, 1) := by decide +kernel
theorem dL_tunes_298 : decode cL_tunes 298 = .ok (.iconst 0, 1) := by decide +kernel
theorem dL_tunes_299 : decode cL_tunes 299 = .ok (.invokestatic 114, 3) := by decide +kernel
theorem dL_tunes_302 : decode cL_tunes 302 = .ok (.ifCond .eq 81, 3) := by decide +kernel
theorem dL_tunes_305 : decode cL_tunes 305 = .ok (.aload_n 0, 1) := by decide +kernel
theorem dL_tunes_306 : decode cL_tunes 306 = .ok (.iconst 0, 1) := by decide +kernel
theorem dL_tunes_307 : decode cL_tunes 307 = .ok (.iconst 3, 1) := by decide +kernel
theorem dL_tunes_308 : decode cL_tunes 308 = .ok (.iconst 0, 1) := by decide +kernel
theorem dL_tunes_309 : decode cL_tunes 309 = .ok (.iconst 3, 1) := by decide +kernel
theorem dL_tunes_310 : decode cL_tunes 310 = .ok (.iconst 0, 1) := by decide +kernel
theorem dL_tunes_311 : decode cL_tunes 311 = .ok (.bipush 13, 2) := by decide +kernel
theorem dL_tunes_313 : decode cL_tunes 313 = .ok (.iconst 0, 1) := by decide +kernel
theorem dL_tunes_314 : decode cL_tunes 314 = .ok (.invokestatic 114, 3) := by decide +kernel
theorem dL_tunes_317 : decode cL_tunes 317 = .ok (.ifCond .eq 66, 3) := by decide +kernel
theorem dL_tunes_320 : decode cL_tunes 320 = .ok (.aload_n 0, 1) := by decide +kernel
theorem dL_tunes_321 : decode cL_tunes 321 = .ok (.iconst 0, 1) := by decide +kernel
theorem dL_tunes_322 : decode cL_tunes 322 = .ok (.iconst 4, 1) := by decide +kernel
theorem dL_tunes_323 : decode cL_tunes 323 = .ok (.iconst 4, 1) := by decide +kernel
theorem dL_tunes_324 : decode cL_tunes 324 = .ok (.iconst 4, 1) := by decide +kernel
theorem dL_tunes_325 : decode cL_tunes 325 = .ok (.bipush 7, 2) := by decide +kernel
theorem dL_tunes_327 : decode cL_tunes 327 = .ok (.bipush 16, 2) := by decide +kernel
theorem dL_tunes_329 : decode cL_tunes 329 = .ok (.iconst 0, 1) := by decide +kernel
theorem dL_tunes_330 : decode cL_tunes 330 = .ok (.invokestatic 114, 3) := by decide +kernel
theorem dL_tunes_333 : decode cL_tunes 333 = .ok (.ifCond .eq 50, 3) := by decide +kernel
theorem dL_tunes_336 : decode cL_tunes 336 = .ok (.aload_n 0, 1) := by decide +kernel
theorem dL_tunes_337 : decode cL_tunes 337 = .ok (.iconst 0, 1) := by decide +kernel
theorem dL_tunes_338 : decode cL_tunes 338 = .ok (.bipush 8, 2) := by decide +kernel
theorem dL_tunes_340 : decode cL_tunes 340 = .ok (.iconst 0, 1) := by decide +kernel
theorem dL_tunes_341 : decode cL_tunes 341 = .ok (.bipush 8, 2) := by decide +kernel
theorem dL_tunes_343 : decode cL_tunes 343 = .ok (.iconst 1, 1) := by decide +kernel
theorem dL_tunes_344 : decode cL_tunes 344 = .ok (.bipush 32, 2) := by decide +kernel
theorem dL_tunes_346 : decode cL_tunes 346 = .ok (.iconst 1, 1) := by decide +kernel
theorem dL_tunes_347 : decode cL_tunes 347 = .ok (.invokestatic 114, 3) := by decide +kernel
theorem dL_tunes_350 : decode cL_tunes 350 = .ok (.ifCond .eq 33, 3) := by decide +kernel
theorem dL_tunes_353 : decode cL_tunes 353 = .ok (.aload_n 0, 1) := by decide +kernel
theorem dL_tunes_354 : decode cL_tunes 354 = .ok (.iconst 3, 1) := by decide +kernel
theorem dL_tunes_355 : decode cL_tunes 355 = .ok (.iconst 0, 1) := by decide +kernel
theorem dL_tunes_356 : decode cL_tunes 356 = .ok (.bipush 9, 2) := by decide +kernel
theorem dL_tunes_358 : decode cL_tunes 358 = .ok (.iconst 0, 1) := by decide +kernel
theorem dL_tunes_359 : decode cL_tunes 359 = .ok (.iconst 0, 1) := by decide +kernel
theorem dL_tunes_360 : decode cL_tunes 360 = .ok (.invokestatic 100, 3) := by decide +kernel
theorem dL_tunes_363 : decode cL_tunes 363 = .ok (.ldc 85, 2) := by decide +kernel
theorem dL_tunes_365 : decode cL_tunes 365 = .ok (.if_icmp .ne 18, 3) := by decide +kernel
theorem dL_tunes_368 : decode cL_tunes 368 = .ok (.aload_n 0, 1) := by decide +kernel
theorem dL_tunes_369 : decode cL_tunes 369 = .ok (.iconst 3, 1) := by decide +kernel
theorem dL_tunes_370 : decode cL_tunes 370 = .ok (.iconst 0, 1) := by decide +kernel
theorem dL_tunes_371 : decode cL_tunes 371 = .ok (.bipush 8, 2) := by decide +kernel
theorem dL_tunes_373 : decode cL_tunes 373 = .ok (.iconst 5, 1) := by decide +kernel
theorem dL_tunes_374 : decode cL_tunes 374 = .ok (.iconst 0, 1) := by decide +kernel
theorem dL_tunes_375 : decode cL_tunes 375 = .ok (.invokestatic 100, 3) := by decide +kernel
theorem dL_tunes_378 : decode cL_tunes 378 = .ok (.ldc 88, 2) := by decide +kernel
theorem dL_tunes_380 : decode cL_tunes 380 = .ok (.if_icmp .eq 5, 3) := by decide +kernel
theorem dL_tunes_383 : decode cL_tunes 383 = .ok (.iconst 0, 1) := by decide +kernel
theorem dL_tunes_384 : decode cL_tunes 384 = .ok (.ireturn, 1) := by decide +kernel
theorem dL_tunes_385 : decode cL_tunes 385 = .ok (.aload_n 0, 1) := by decide +kernel
theorem dL_tunes_386 : decode cL_tunes 386 = .ok (.iconst 3, 1) := by decide +kernel
theorem dL_tunes_387 : decode cL_tunes 387 = .ok (.invokevirtual 7, 3) := by decide +kernel
theorem dL_tunes_390 : decode cL_tunes 390 = .ok (.iconst 1, 1) := by decide +kernel
theorem dL_tunes_391 : decode cL_tunes 391 = .ok (.if_icmp .ne 324, 3) := by decide +kernel
theorem dL_tunes_394 : decode cL_tunes 394 = .ok (.aload_n 0, 1) := by decide +kernel
theorem dL_tunes_395 : decode cL_tunes 395 = .ok (.iconst 1, 1) := by decide +kernel
theorem dL_tunes_396 : decode cL_tunes 396 = .ok (.iconst 1, 1) := by decide +kernel
theorem dL_tunes_397 : decode cL_tunes 397 = .ok (.iconst 2, 1) := by decide +kernel
theorem dL_tunes_398 : decode cL_tunes 398 = .ok (.bipush 7, 2) := by decide +kernel
theorem dL_tunes_400 : decode cL_tunes 400 = .ok (.iconst 0, 1) := by decide +kernel
theorem dL_tunes_401 : decode cL_tunes 401 = .ok (.invokestatic 100, 3) := by decide +kernel
theorem dL_tunes_404 : decode cL_tunes 404 = .ok (.ldc 91, 2) := by decide +kernel
theorem dL_tunes_406 : decode cL_tunes 406 = .ok (.if_icmp .ne 309, 3) := by decide +kernel
theorem dL_tunes_409 : decode cL_tunes 409 = .ok (.aload_n 0, 1) := by decide +kernel
theorem dL_tunes_410 : decode cL_tunes 410 = .ok (.iconst 1, 1) := by decide +kernel
theorem dL_tunes_411 : decode cL_tunes 411 = .ok (.iconst 1, 1) := by decide +kernel
theorem dL_tunes_412 : decode cL_tunes 412 = .ok (.bipush 7, 2) := by decide +kernel
theorem dL_tunes_414 : decode cL_tunes 414 = .ok (.bipush 6, 2) := by decide +kernel
theorem dL_tunes_416 : decode cL_tunes 416 = .ok (.iconst 3, 1) := by decide +kernel
theorem dL_tunes_417 : decode cL_tunes 417 = .ok (.invokestatic 100, 3) := by decide +kernel
theorem dL_tunes_420 : decode cL_tunes 420 = .ok (.ldc 91, 2) := by decide +kernel
theorem dL_tunes_422 : decode cL_tunes 422 = .ok (.if_icmp .ne 293, 3) := by decide +kernel
theorem dL_tunes_425 : decode cL_tunes 425 = .ok (.aload_n 0, 1) := by decide +kernel
theorem dL_tunes_426 : decode cL_tunes 426 = .ok (.iconst 1, 1) := by decide +kernel
theorem dL_tunes_427 : decode cL_tunes 427 = .ok (.iconst 1, 1) := by decide +kernel
theorem dL_tunes_428 : decode cL_tunes 428 = .ok (.bipush 8, 2) := by decide +kernel
theorem dL_tunes_430 : decode cL_tunes 430 = .ok (.bipush 6, 2) := by decide +kernel
theorem dL_tunes_432 : decode cL_tunes 432 = .ok (.iconst 4, 1) := by decide +kernel
theorem dL_tunes_433 : decode cL_tunes 433 = .ok (.invokestatic 100, 3) := by decide +kernel
theorem dL_tunes_436 : decode cL_tunes 436 = .ok (.ldc 91, 2) := by decide +kernel
theorem dL_tunes_438 : decode cL_tunes 438 = .ok (.if_icmp .ne 277, 3) := by decide +kernel
theorem dL_tunes_441 : decode cL_tunes 441 = .ok (.aload_n 0, 1) := by decide +kernel
theorem dL_tunes_442 : decode cL_tunes 442 = .ok (.iconst 1, 1) := by decide +kernel
theorem dL_tunes_443 : decode cL_tunes 443 = .ok (.iconst 1, 1) := by decide +kernel
theorem dL_tunes_444 : decode cL_tunes 444 = .ok (.bipush 7, 2) := by decide +kernel
theorem dL_tunes_446 : decode cL_tunes 446 = .ok (.bipush 6, 2) := by decide +kernel
theorem dL_tunes_448 : decode cL_tunes 448 = .ok (.iconst 5, 1) := by decide +kernel
theorem dL_tunes_449 : decode cL_tunes 449 = .ok (.invokestatic 100, 3) := by decide +kernel
theorem dL_tunes_452 : decode cL_tunes 452 = .ok (.ldc 91, 2) := by decide +kernel
theorem dL_tunes_454 : decode cL_tunes 454 = .ok (.if_icmp .ne 261, 3) := by decide +kernel
theorem dL_tunes_457 : decode cL_tunes 457 = .ok (.aload_n 0, 1) := by decide +kernel
theorem dL_tunes_458 : decode cL_tunes 458 = .ok (.iconst 1, 1) := by decide +kernel
theorem dL_tunes_459 : decode cL_tunes 459 = .ok (.iconst 1, 1) := by decide +kernel
theorem dL_tunes_460 : decode cL_tunes 460 = .ok (.iconst 0, 1) := by decide +kernel
theorem dL_tunes_461 : decode cL_tunes 461 = .ok (.bipush 6, 2) := by decide +kernel
theorem dL_tunes_463 : decode cL_tunes 463 = .ok (.bipush 6, 2) := by decide +kernel
theorem dL_tunes_465 : decode cL_tunes 465 = .ok (.invokestatic 100, 3) := by decide +kernel
theorem dL_tunes_468 : decode cL_tunes 468 = .ok (.ldc 91, 2) := by decide +kernel
theorem dL_tunes_470 : decode cL_tunes 470 = .ok (.if_icmp .ne 245, 3) := by decide +kernel
theorem dL_tunes_473 : decode cL_tunes 473 = .ok (.aload_n 0, 1) := by decide +kernel
theorem dL_tunes_474 : decode cL_tunes 474 = .ok (.iconst 1, 1) := by decide +kernel
theorem dL_tunes_475 : decode cL_tunes 475 = .ok (.iconst 1, 1) := by decide +kernel
theorem dL_tunes_476 : decode cL_tunes 476 = .ok (.iconst 5, 1) := by decide +kernel
theorem dL_tunes_477 : decode cL_tunes 477 = .ok (.bipush 6, 2) := by decide +kernel
theorem dL_tunes_479 : decode cL_tunes 479 = .ok (.bipush 7, 2) := by decide +kernel
theorem dL_tunes_481 : decode cL_tunes 481 = .ok (.invokestatic 100, 3) := by decide +kernel
theorem dL_tunes_484 : decode cL_tunes 484 = .ok (.ldc 91, 2) := by decide +kernel
theorem dL_tunes_486 : decode cL_tunes 486 = .ok (.if_icmp .ne 229, 3) := by decide +kernel
theorem dL_tunes_489 : decode cL_tunes 489 = .ok (.aload_n 0, 1) := by decide +kernel
theorem dL_tunes_490 : decode cL_tunes 490 = .ok (.iconst 1, 1) := by decide +kernel
theorem dL_tunes_491 : decode cL_tunes 491 = .ok (.iconst 1, 1) := by decide +kernel
theorem dL_tunes_492 : decode cL_tunes 492 = .ok (.iconst 2, 1) := by decide +kernel
theorem dL_tunes_493 : decode cL_tunes 493 = .ok (.bipush 6, 2) := by decide +kernel
theorem dL_tunes_495 : decode cL_tunes 495 = .ok (.bipush 8, 2) := by decide +kernel
theorem dL_tunes_497 : decode cL_tunes 497 = .ok (.invokestatic 100, 3) := by decide +kernel
theorem dL_tunes_500 : decode cL_tunes 500 = .ok (.ldc 91, 2) := by decide +kernel
theorem dL_tunes_502 : decode cL_tunes 502 = .ok (.if_icmp .ne 213, 3) := by decide +kernel
theorem dL_tunes_505 : decode cL_tunes 505 = .ok (.aload_n 0, 1) := by decide +kernel
theorem dL_tunes_506 : decode cL_tunes 506 = .ok (.iconst 1, 1) := by decide +kernel
theorem dL_tunes_507 : decode cL_tunes 507 = .ok (.iconst 1, 1) := by decide +kernel
theorem dL_tunes_508 : decode cL_tunes 508 = .ok (.iconst 4, 1) := by decide +kernel
theorem dL_tunes_509 : decode cL_tunes 509 = .ok (.bipush 6, 2) := by decide +kernel
theorem dL_tunes_511 : decode cL_tunes 511 = .ok (.iconst 1, 1) := by decide +kernel
theorem dL_tunes_512 : decode cL_tunes 512 = .ok (.invokestatic 100, 3) := by decide +kernel
theorem dL_tunes_515 : decode cL_tunes 515 = .ok (.ldc 91, 2) := by decide +kernel
theorem dL_tunes_517 : decode cL_tunes 517 = .ok (.if_icmp .ne 198, 3) := by decide +kernel
theorem dL_tunes_520 : decode cL_tunes 520 = .ok (.aload_n 0, 1) := by decide +kernel
theorem dL_tunes_521 : decode cL_tunes 521 = .ok (.iconst 1, 1) := by decide +kernel
theorem dL_tunes_522 : decode cL_tunes 522 = .ok (.iconst 1, 1) := by decide +kernel
theorem dL_tunes_523 : decode cL_tunes 523 = .ok (.iconst 5, 1) := by decide +kernel
theorem dL_tunes_524 : decode cL_tunes 524 = .ok (.bipush 6, 2) := by decide +kernel
theorem dL_tunes_526 : decode cL_tunes 526 = .ok (.iconst 2, 1) := by decide +kernel
theorem dL_tunes_527 : decode cL_tunes 527 = .ok (.invokestatic 100, 3) := by decide +kernel
theorem dL_tunes_530 : decode cL_tunes 530 = .ok (.ldc 91, 2) := by decide +kernel
theorem dL_tunes_532 : decode cL_tunes 532 = .ok (.if_icmp .ne 183, 3) := by decide +kernel
theorem dL_tunes_535 : decode cL_tunes 535 = .ok (.aload_n 0, 1) := by decide +kernel
theorem dL_tunes_536 : decode cL_tunes 536 = .ok (.iconst 1, 1) := by decide +kernel
theorem dL_tunes_537 : decode cL_tunes 537 = .ok (.iconst 2, 1) := by decide +kernel
theorem dL_tunes_538 : decode cL_tunes 538 = .ok (.bipush 6, 2) := by decide +kernel
theorem dL_tunes_540 : decode cL_tunes 540 = .ok (.iconst 0, 1) := by decide +kernel
theorem dL_tunes_541 : decode cL_tunes 541 = .ok (.invokevirtual 13, 3) := by decide +kernel
theorem dL_tunes_544 : decode cL_tunes 544 = .ok (.iconst 1, 1) := by decide +kernel
theorem dL_tunes_545 : decode cL_tunes 545 = .ok (.if_icmp .ne 170, 3) := by decide +kernel
theorem dL_tunes_548 : decode cL_tunes 548 = .ok (.aload_n 0, 1) := by decide +kernel
theorem dL_tunes_549 : decode cL_tunes 549 = .ok (.iconst 1, 1) := by decide +kernel
theorem dL_tunes_550 : decode cL_tunes 550 = .ok (.iconst 1, 1) := by decide +kernel
theorem dL_tunes_551 : decode cL_tunes 551 = .ok (.invokevirtual 17, 3) := by decide +kernel
theorem dL_tunes_554 : decode cL_tunes 554 = .ok (.iconst 1, 1) := by decide +kernel
theorem dL_tunes_555 : decode cL_tunes 555 = .ok (.if_icmp .ne 160, 3) := by decide +kernel
theorem dL_tunes_558 : decode cL_tunes 558 = .ok (.aload_n 0, 1) := by decide +kernel
theorem dL_tunes_559 : decode cL_tunes 559 = .ok (.iconst 1, 1) := by decide +kernel
theorem dL_tunes_560 : decode cL_tunes 560 = .ok (.iconst 3, 1) := by decide +kernel
theorem dL_tunes_561 : decode cL_tunes 561 = .ok (.iconst 2, 1) := by decide +kernel
theorem dL_tunes_562 : decode cL_tunes 562 = .ok (.bipush 12, 2) := by decide +kernel
theorem dL_tunes_564 : decode cL_tunes 564 = .ok (.iconst 1, 1) := by decide +kernel
theorem dL_tunes_565 : decode cL_tunes 565 = .ok (.iconst 0, 1) := by decide +kernel
theorem dL_tunes_566 : decode cL_tunes 566 = .ok (.iconst 1, 1) := by decide +kernel
theorem dL_tunes_567 : decode cL_tunes 567 = .ok (.iconst 0, 1) := by decide +kernel
theorem dL_tunes_568 : decode cL_tunes 568 = .ok (.invokestatic 111, 3) := by decide +kernel
theorem dL_tunes_571 : decode cL_tunes 571 = .ok (.ifCond .eq 144, 3) := by decide +kernel
theorem dL_tunes_574 : decode cL_tunes 574 = .ok (.aload_n 0, 1) := by decide +kernel
theorem dL_tunes_575 : decode cL_tunes 575 = .ok (.iconst 2, 1) := by decide +kernel
theorem dL_tunes_576 : decode cL_tunes 576 = .ok (.invokevirtual 7, 3) := by decide +kernel
theorem dL_tunes_579 : decode cL_tunes 579 = .ok (.iconst 2, 1) := by decide +kernel
theorem dL_tunes_580 : decode cL_tunes 580 = .ok (.if_icmp .ne 135, 3) := by decide +kernel
theorem dL_tunes_583 : decode cL_tunes 583 = .ok (.aload_n 0, 1) := by decide +kernel
theorem dL_tunes_584 : decode cL_tunes 584 = .ok (.bipush 7, 2) := by decide +kernel
theorem dL_tunes_586 : decode cL_tunes 586 = .ok (.iconst 2, 1) := by decide +kernel
theorem dL_tunes_587 : decode cL_tunes 587 = .ok (.bipush 100, 2) := by decide +kernel
theorem dL_tunes_589 : decode cL_tunes 589 = .ok (.iconst 0, 1) := by decide +kernel
theorem dL_tunes_590 : decode cL_tunes 590 = .ok (.iconst 0, 1) := by decide +kernel
theorem dL_tunes_591 : decode cL_tunes 591 = .ok (.invokestatic 100, 3) := by decide +kernel
theorem dL_tunes_594 : decode cL_tunes 594 = .ok (.ldc 91, 2) := by decide +kernel
theorem dL_tunes_596 : decode cL_tunes 596 = .ok (.if_icmp .ne 119, 3) := by decide +kernel
theorem dL_tunes_599 : decode cL_tunes 599 = .ok (.aload_n 0, 1) := by decide +kernel
theorem dL_tunes_600 : decode cL_tunes 600 = .ok (.iconst 2, 1) := by decide +kernel
theorem dL_tunes_601 : decode cL_tunes 601 = .ok (.iconst 1, 1) := by decide +kernel
theorem dL_tunes_602 : decode cL_tunes 602 = .ok (.iconst 2, 1) := by decide +kernel
theorem dL_tunes_603 : decode cL_tunes 603 = .ok (.iconst 0, 1) := by decide +kernel
theorem dL_tunes_604 : decode cL_tunes 604 = .ok (.invokevirtual 13, 3) := by decide +kernel
theorem dL_tunes_607 : decode cL_tunes 607 = .ok (.iconst 1, 1) := by decide +kernel
theorem dL_tunes_608 : decode cL_tunes 608 = .ok (.if_icmp .ne 107, 3) := by decide +kernel
theorem dL_tunes_611 : decode cL_tunes 611 = .ok (.aload_n 0, 1) := by decide +kernel
theorem dL_tunes_612 : decode cL_tunes 612 = .ok (.iconst 2, 1) := by decide +kernel
theorem dL_tunes_613 : decode cL_tunes 613 = .ok (.iconst 0, 1) := by decide +kernel
theorem dL_tunes_614 : decode cL_tunes 614 = .ok (.iconst 2, 1) := by decide +kernel
theorem dL_tunes_615 : decode cL_tunes 615 = .ok (.iconst 0, 1) := by decide +kernel
theorem dL_tunes_616 : decode cL_tunes 616 = .ok (.invokevirtual 13, 3) := by decide +kernel
theorem dL_tunes_619 : decode cL_tunes 619 = .ok (.iconst 2, 1) := by decide +kernel
theorem dL_tunes_620 : decode cL_tunes 620 = .ok (.if_icmp .ne 95, 3) := by decide +kernel
theorem dL_tunes_623 : decode cL_tunes 623 = .ok (.aload_n 0, 1) := by decide +kernel
theorem dL_tunes_624 : decode cL_tunes 624 = .ok (.iconst 2, 1) := by decide +kernel
theorem dL_tunes_625 : decode cL_tunes 625 = .ok (.iconst 4, 1) := by decide +kernel
theorem dL_tunes_626 : decode cL_tunes 626 = .ok (.iconst 4, 1) := by decide +kernel
theorem dL_tunes_627 : decode cL_tunes 627 = .ok (.iconst 0, 1) := by decide +kernel
theorem dL_tunes_628 : decode cL_tunes 628 = .ok (.invokevirtual 13, 3) := by decide +kernel
theorem dL_tunes_631 : decode cL_tunes 631 = .ok (.iconst 3, 1) := by decide +kernel
theorem dL_tunes_632 : decode cL_tunes 632 = .ok (.if_icmp .ne 83, 3) := by decide +kernel
theorem dL_tunes_635 : decode cL_tunes 635 = .ok (.aload_n 0, 1) := by decide +kernel
theorem dL_tunes_636 : decode cL_tunes 636 = .ok (.iconst 2, 1) := by decide +kernel
theorem dL_tunes_637 : decode cL_tunes 637 = .ok (.iconst 0, 1) := by decide +kernel
theorem dL_tunes_638 : decode cL_tunes 638 = .ok (.invokevirtual 17, 3) := by decide +kernel
theorem dL_tunes_641 : decode cL_tunes 641 = .ok (.iconst 1, 1) := by decide +kernel
theorem dL_tunes_642 : decode cL_tunes 642 = .ok (.if_icmp .ne 73, 3) := by decide +kernel
theorem dL_tunes_645 : decode cL_tunes 645 = .ok (.aload_n 0, 1) := by decide +kernel
theorem dL_tunes_646 : decode cL_tunes 646 = .ok (.iconst 0, 1) := by decide +kernel
theorem dL_tunes_647 : decode cL_tunes 647 = .ok (.iconst 1, 1) := by decide +kernel
theorem dL_tunes_648 : decode cL_tunes 648 = .ok (.invokevirtual 29, 3) := by decide +kernel
theorem dL_tunes_651 : decode cL_tunes 651 = .ok (.ifCond .ne 64, 3) := by decide +kernel
theorem dL_tunes_654 : decode cL_tunes 654 = .ok (.aload_n 0, 1) := by decide +kernel
theorem dL_tunes_655 : decode cL_tunes 655 = .ok (.iconst 0, 1) := by decide +kernel
theorem dL_tunes_656 : decode cL_tunes 656 = .ok (.iconst 0, 1) := by decide +kernel
theorem dL_tunes_657 : decode cL_tunes 657 = .ok (.invokevirtual 29, 3) := by decide +kernel
theorem dL_tunes_660 : decode cL_tunes 660 = .ok (.bipush 9, 2) := by decide +kernel
theorem dL_tunes_662 : decode cL_tunes 662 = .ok (.if_icmp .ne 53, 3) := by decide +kernel
theorem dL_tunes_665 : decode cL_tunes 665 = .ok (.aload_n 0, 1) := by decide +kernel
theorem dL_tunes_666 : decode cL_tunes 666 = .ok (.iconst 0, 1) := by decide +kernel
theorem dL_tunes_667 : decode cL_tunes 667 = .ok (.iconst 0, 1) := by decide +kernel
theorem dL_tunes_668 : decode cL_tunes 668 = .ok (.invokevirtual 32, 3) := by decide +kernel
theorem dL_tunes_671 : decode cL_tunes 671 = .ok (.bipush 9, 2) := by decide +kernel
theorem dL_tunes_673 : decode cL_tunes 673 = .ok (.if_icmp .ne 42, 3) := by decide +kernel
theorem dL_tunes_676 : decode cL_tunes 676 = .ok (.aload_n 0, 1) := by decide +kernel
theorem dL_tunes_677 : decode cL_tunes 677 = .ok (.iconst 0, 1) := by decide +kernel
theorem dL_tunes_678 : decode cL_tunes 678 = .ok (.iconst 2, 1) := by decide +kernel
theorem dL_tunes_679 : decode cL_tunes 679 = .ok (.invokevirtual 29, 3) := by decide +kernel
theorem dL_tunes_682 : decode cL_tunes 682 = .ok (.iconst 3, 1) := by decide +kernel
theorem dL_tunes_683 : decode cL_tunes 683 = .ok (.if_icmp .ne 32, 3) := by decide +kernel
theorem dL_tunes_686 : decode cL_tunes 686 = .ok (.aload_n 0, 1) := by decide +kernel
theorem dL_tunes_687 : decode cL_tunes 687 = .ok (.iconst 2, 1) := by decide +kernel
theorem dL_tunes_688 : decode cL_tunes 688 = .ok (.iconst 0, 1) := by decide +kernel
theorem dL_tunes_689 : decode cL_tunes 689 = .ok (.invokevirtual 29, 3) := by decide +kernel
theorem dL_tunes_692 : decode cL_tunes 692 = .ok (.iconst 3, 1) := by decide +kernel
theorem dL_tunes_693 : decode cL_tunes 693 = .ok (.if_icmp .ne 22, 3) := by decide +kernel
theorem dL_tunes_696 : decode cL_tunes 696 = .ok (.aload_n 0, 1) := by decide +kernel
theorem dL_tunes_697 : decode cL_tunes 697 = .ok (.iconst 0, 1) := by decide +kernel
theorem dL_tunes_698 : decode cL_tunes 698 = .ok (.iconst 2, 1) := by decide +kernel
theorem dL_tunes_699 : decode cL_tunes 699 = .ok (.invokevirtual 32, 3) := by decide +kernel
theorem dL_tunes_702 : decode cL_tunes 702 = .ok (.iconst 3, 1) := by decide +kernel
theorem dL_tunes_703 : decode cL_tunes 703 = .ok (.if_icmp .ne 12, 3) := by decide +kernel
theorem dL_tunes_706 : decode cL_tunes 706 = .ok (.aload_n 0, 1) := by decide +kernel
theorem dL_tunes_707 : decode cL_tunes 707 = .ok (.iconst 2, 1) := by decide +kernel
theorem dL_tunes_708 : decode cL_tunes 708 = .ok (.iconst 1, 1) := by decide +kernel
theorem dL_tunes_709 : decode cL_tunes 709 = .ok (.invokevirtual 32, 3) := by decide +kernel
theorem dL_tunes_712 : decode cL_tunes 712 = .ok (.ifCond .eq 5, 3) := by decide +kernel
theorem dL_tunes_715 : decode cL_tunes 715 = .ok (.iconst 0, 1) := by decide +kernel
theorem dL_tunes_716 : decode cL_tunes 716 = .ok (.ireturn, 1) := by decide +kernel
theorem dL_tunes_717 : decode cL_tunes 717 = .ok (.aload_n 0, 1) := by decide +kernel
theorem dL_tunes_718 : decode cL_tunes 718 = .ok (.invokevirtual 96, 3) := by decide +kernel
theorem dL_tunes_721 : decode cL_tunes 721 = .ok (.lconst 0, 1) := by decide +kernel
theorem dL_tunes_722 : decode cL_tunes 722 = .ok (.lcmp, 1) := by decide +kernel
theorem dL_tunes_723 : decode cL_tunes 723 = .ok (.ifCond .ne 278, 3) := by decide +kernel
theorem dL_tunes_726 : decode cL_tunes 726 = .ok (.aload_n 0, 1) := by decide +kernel
theorem dL_tunes_727 : decode cL_tunes 727 = .ok (.iconst 2, 1) := by decide +kernel
theorem dL_tunes_728 : decode cL_tunes 728 = .ok (.bipush 100, 2) := by decide +kernel
theorem dL_tunes_730 : decode cL_tunes 730 = .ok (.invokevirtual 35, 3) := by decide +kernel
theorem dL_tunes_733 : decode cL_tunes 733 = .ok (.iconst 1, 1) := by decide +kernel
theorem dL_tunes_734 : decode cL_tunes 734 = .ok (.if_icmp .ne 267, 3) := by decide +kernel
theorem dL_tunes_737 : decode cL_tunes 737 = .ok (.aload_n 0, 1) := by decide +kernel
theorem dL_tunes_738 : decode cL_tunes 738 = .ok (.invokevirtual 96, 3) := by decide +kernel
theorem dL_tunes_741 : decode cL_tunes 741 = .ok (.ldc2_w 117, 3) := by decide +kernel
theorem dL_tunes_744 : decode cL_tunes 744 = .ok (.lcmp, 1) := by decide +kernel
theorem dL_tunes_745 : decode cL_tunes 745 = .ok (.ifCond .ne 256, 3) := by decide +kernel
theorem dL_tunes_748 : decode cL_tunes 748 = .ok (.aload_n 0, 1) := by decide +kernel
theorem dL_tunes_749 : decode cL_tunes 749 = .ok (.iconst 0, 1) := by decide +kernel
theorem dL_tunes_750 : decode cL_tunes 750 = .ok (.bipush 50, 2) := by decide +kernel
theorem dL_tunes_752 : decode cL_tunes 752 = .ok (.invokevirtual 35, 3) := by decide +kernel
theorem dL_tunes_755 : decode cL_tunes 755 = .ok (.iconst 2, 1) := by decide +kernel
theorem dL_tunes_756 : decode cL_tunes 756 = .ok (.if_icmp .ne 245, 3) := by decide +kernel
theorem dL_tunes_759 : decode cL_tunes 759 = .ok (.aload_n 0, 1) := by decide +kernel
theorem dL_tunes_760 : decode cL_tunes 760 = .ok (.bipush 7, 2) := by decide +kernel
theorem dL_tunes_762 : decode cL_tunes 762 = .ok (.iconst 0, 1) := by decide +kernel
theorem dL_tunes_763 : decode cL_tunes 763 = .ok (.bipush 49, 2) := by decide +kernel
theorem dL_tunes_765 : decode cL_tunes 765 = .ok (.iconst 0, 1) := by decide +kernel
theorem dL_tunes_766 : decode cL_tunes 766 = .ok (.iconst 0, 1) := by decide +kernel
theorem dL_tunes_767 : decode cL_tunes 767 = .ok (.invokestatic 100, 3) := by decide +kernel
theorem dL_tunes_770 : decode cL_tunes 770 = .ok (.ldc 91, 2) := by decide +kernel
theorem dL_tunes_772 : decode cL_tunes 772 = .ok (.if_icmp .ne 229, 3) := by decide +kernel
theorem dL_tunes_775 : decode cL_tunes 775 = .ok (.aload_n 0, 1) := by decide +kernel
theorem dL_tunes_776 : decode cL_tunes 776 = .ok (.iconst 0, 1) := by decide +kernel
theorem dL_tunes_777 : decode cL_tunes 777 = .ok (.bipush 50, 2) := by decide +kernel
theorem dL_tunes_779 : decode cL_tunes 779 = .ok (.invokevirtual 35, 3) := by decide +kernel
theorem dL_tunes_782 : decode cL_tunes 782 = .ok (.iconst 3, 1) := by decide +kernel
theorem dL_tunes_783 : decode cL_tunes 783 = .ok (.if_icmp .ne 218, 3) := by decide +kernel
theorem dL_tunes_786 : decode cL_tunes 786 = .ok (.aload_n 0, 1) := by decide +kernel
theorem dL_tunes_787 : decode cL_tunes 787 = .ok (.iconst 2, 1) := by decide +kernel
theorem dL_tunes_788 : decode cL_tunes 788 = .ok (.bipush 30, 2) := by decide +kernel
theorem dL_tunes_790 : decode cL_tunes 790 = .ok (.invokevirtual 35, 3) := by decide +kernel
theorem dL_tunes_793 : decode cL_tunes 793 = .ok (.iconst 4, 1) := by decide +kernel
theorem dL_tunes_794 : decode cL_tunes 794 = .ok (.if_icmp .ne 207, 3) := by decide +kernel
theorem dL_tunes_797 : decode cL_tunes 797 = .ok (.aload_n 0, 1) := by decide +kernel
theorem dL_tunes_798 : decode cL_tunes 798 = .ok (.iconst 1, 1) := by decide +kernel
theorem dL_tunes_799 : decode cL_tunes 799 = .ok (.bipush 60, 2) := by decide +kernel
theorem dL_tunes_801 : decode cL_tunes 801 = .ok (.invokevirtual 35, 3) := by decide +kernel
theorem dL_tunes_804 : decode cL_tunes 804 = .ok (.iconst 5, 1) := by decide +kernel
theorem dL_tunes_805 : decode cL_tunes 805 = .ok (.if_icmp .ne 196, 3) := by decide +kernel
theorem dL_tunes_808 : decode cL_tunes 808 = .ok (.aload_n 0, 1) := by decide +kernel
theorem dL_tunes_809 : decode cL_tunes 809 = .ok (.bipush 7, 2) := by decide +kernel
theorem dL_tunes_811 : decode cL_tunes 811 = .ok (.iconst 1, 1) := by decide +kernel
theorem dL_tunes_812 : decode cL_tunes 812 = .ok (.bipush 60, 2) := by decide +kernel
theorem dL_tunes_814 : decode cL_tunes 814 = .ok (.iconst 0, 1) := by decide +kernel
theorem dL_tunes_815 : decode cL_tunes 815 = .ok (.iconst 0, 1) := by decide +kernel
theorem dL_tunes_816 : decode cL_tunes 816 = .ok (.invokestatic 100, 3) := by decide +kernel
theorem dL_tunes_819 : decode cL_tunes 819 = .ok (.ldc 91, 2) := by decide +kernel
theorem dL_tunes_821 : decode cL_tunes 821 = .ok (.if_icmp .ne 180, 3) := by decide +kernel
theorem dL_tunes_824 : decode cL_tunes 824 = .ok (.aload_n 0, 1) := by decide +kernel
theorem dL_tunes_825 : decode cL_tunes 825 = .ok (.bipush 7, 2) := by decide +kernel
theorem dL_tunes_827 : decode cL_tunes 827 = .ok (.iconst 1, 1) := by decide +kernel
theorem dL_tunes_828 : decode cL_tunes 828 = .ok (.bipush 59, 2) := by decide +kernel
theorem dL_tunes_830 : decode cL_tunes 830 = .ok (.iconst 0, 1) := by decide +kernel
theorem dL_tunes_831 : decode cL_tunes 831 = .ok (.iconst 0, 1) := by decide +kernel
theorem dL_tunes_832 : decode cL_tunes 832 = .ok (.invokestatic 100, 3) := by decide +kernel
theorem dL_tunes_835 : decode cL_tunes 835 = .ok (.ldc 91, 2) := by decide +kernel
theorem dL_tunes_837 : decode cL_tunes 837 = .ok (.if_icmp .ne 164, 3) := by decide +kernel
theorem dL_tunes_840 : decode cL_tunes 840 = .ok (.aload_n 0, 1) := by decide +kernel
theorem dL_tunes_841 : decode cL_tunes 841 = .ok (.invokevirtual 38, 3) := by decide +kernel
theorem dL_tunes_844 : decode cL_tunes 844 = .ok (.iconst 1, 1) := by decide +kernel
theorem dL_tunes_845 : decode cL_tunes 845 = .ok (.if_icmp .ne 156, 3) := by decide +kernel
theorem dL_tunes_848 : decode cL_tunes 848 = .ok (.aload_n 0, 1) := by decide +kernel
theorem dL_tunes_849 : decode cL_tunes 849 = .ok (.invokevirtual 96, 3) := by decide +kernel
theorem dL_tunes_852 : decode cL_tunes 852 = .ok (.ldc2_w 119, 3) := by decide +kernel
theorem dL_tunes_855 : decode cL_tunes 855 = .ok (.lcmp, 1) := by decide +kernel
theorem dL_tunes_856 : decode cL_tunes 856 = .ok (.ifCond .ne 145, 3) := by decide +kernel
theorem dL_tunes_859 : decode cL_tunes 859 = .ok (.aload_n 0, 1) := by decide +kernel
theorem dL_tunes_860 : decode cL_tunes 860 = .ok (.iconst 1, 1) := by decide +kernel
theorem dL_tunes_861 : decode cL_tunes 861 = .ok (.bipush 59, 2) := by decide +kernel
theorem dL_tunes_863 : decode cL_tunes 863 = .ok (.invokevirtual 35, 3) := by decide +kernel
theorem dL_tunes_866 : decode cL_tunes 866 = .ok (.iconst 5, 1) := by decide +kernel
theorem dL_tunes_867 : decode cL_tunes 867 = .ok (.if_icmp .ne 134, 3) := by decide +kernel
theorem dL_tunes_870 : decode cL_tunes 870 = .ok (.aload_n 0, 1) := by decide +kernel
theorem dL_tunes_871 : decode cL_tunes 871 = .ok (.invokevirtual 96, 3) := by decide +kernel
theorem dL_tunes_874 : decode cL_tunes 874 = .ok (.ldc2_w 121, 3) := by decide +kernel
theorem dL_tunes_877 : decode cL_tunes 877 = .ok (.lcmp, 1) := by decide +kernel
theorem dL_tunes_878 : decode cL_tunes 878 = .ok (.ifCond .ne 123, 3) := by decide +kernel
theorem dL_tunes_881 : decode cL_tunes 881 = .ok (.aload_n 0, 1) := by decide +kernel
theorem dL_tunes_882 : decode cL_tunes 882 = .ok (.iconst 1, 1) := by decide +kernel
theorem dL_tunes_883 : decode cL_tunes 883 = .ok (.bipush 8, 2) := by decide +kernel
theorem dL_tunes_885 : decode cL_tunes 885 = .ok (.iconst 3, 1) := by decide +kernel
theorem dL_tunes_886 : decode cL_tunes 886 = .ok (.iconst 0, 1) := by decide +kernel
theorem dL_tunes_887 : decode cL_tunes 887 = .ok (.invokevirtual 13, 3) := by decide +kernel
theorem dL_tunes_890 : decode cL_tunes 890 = .ok (.iconst 2, 1) := by decide +kernel
theorem dL_tunes_891 : decode cL_tunes 891 = .ok (.if_icmp .ne 110, 3) := by decide +kernel
theorem dL_tunes_894 : decode cL_tunes 894 = .ok (.aload_n 0, 1) := by decide +kernel
theorem dL_tunes_895 : decode cL_tunes 895 = .ok (.iconst 1, 1) := by decide +kernel
theorem dL_tunes_896 : decode cL_tunes 896 = .ok (.bipush 7, 2) := by decide +kernel
theorem dL_tunes_898 : decode cL_tunes 898 = .ok (.iconst 3, 1) := by decide +kernel
theorem dL_tunes_899 : decode cL_tunes 899 = .ok (.iconst 0, 1) := by decide +kernel
theorem dL_tunes_900 : decode cL_tunes 900 = .ok (.invokevirtual 13, 3) := by decide +kernel
theorem dL_tunes_903 : decode cL_tunes 903 = .ok (.iconst 3, 1) := by decide +kernel
theorem dL_tunes_904 : decode cL_tunes 904 = .ok (.if_icmp .ne 97, 3) := by decide +kernel
theorem dL_tunes_907 : decode cL_tunes 907 = .ok (.aload_n 0, 1) := by decide +kernel
theorem dL_tunes_908 : decode cL_tunes 908 = .ok (.iconst 1, 1) := by decide +kernel
theorem dL_tunes_909 : decode cL_tunes 909 = .ok (.iconst 0, 1) := by decide +kernel
theorem dL_tunes_910 : decode cL_tunes 910 = .ok (.invokevirtual 17, 3) := by decide +kernel
theorem dL_tunes_913 : decode cL_tunes 913 = .ok (.iconst 1, 1) := by decide +kernel
theorem dL_tunes_914 : decode cL_tunes 914 = .ok (.if_icmp .ne 87, 3) := by decide +kernel
theorem dL_tunes_917 : decode cL_tunes 917 = .ok (.aload_n 0, 1) := by decide +kernel
theorem dL_tunes_918 : decode cL_tunes 918 = .ok (.invokevirtual 96, 3) := by decide +kernel
theorem dL_tunes_921 : decode cL_tunes 921 = .ok (.ldc2_w 123, 3) := by decide +kernel
theorem dL_tunes_924 : decode cL_tunes 924 = .ok (.lcmp, 1) := by decide +kernel
theorem dL_tunes_925 : decode cL_tunes 925 = .ok (.ifCond .ne 76, 3) := by decide +kernel
theorem dL_tunes_928 : decode cL_tunes 928 = .ok (.aload_n 0, 1) := by decide +kernel
theorem dL_tunes_929 : decode cL_tunes 929 = .ok (.iconst 1, 1) := by decide +kernel
theorem dL_tunes_930 : decode cL_tunes 930 = .ok (.bipush 59, 2) := by decide +kernel
theorem dL_tunes_932 : decode cL_tunes 932 = .ok (.invokevirtual 35, 3) := by decide +kernel
theorem dL_tunes_935 : decode cL_tunes 935 = .ok (.bipush 6, 2) := by decide +kernel
theorem dL_tunes_937 : decode cL_tunes 937 = .ok (.if_icmp .ne 64, 3) := by decide +kernel
theorem dL_tunes_940 : decode cL_tunes 940 = .ok (.aload_n 0, 1) := by decide +kernel
theorem dL_tunes_941 : decode cL_tunes 941 = .ok (.iconst 0, 1) := by decide +kernel
theorem dL_tunes_942 : decode cL_tunes 942 = .ok (.sipush 600, 3) := by decide +kernel
theorem dL_tunes_945 : decode cL_tunes 945 = .ok (.invokevirtual 35, 3) := by decide +kernel
theorem dL_tunes_948 : decode cL_tunes 948 = .ok (.bipush 7, 2) := by decide +kernel
theorem dL_tunes_950 : decode cL_tunes 950 = .ok (.if_icmp .ne 51, 3) := by decide +kernel
theorem dL_tunes_953 : decode cL_tunes 953 = .ok (.aload_n 0, 1) := by decide +kernel
theorem dL_tunes_954 : decode cL_tunes 954 = .ok (.iconst 2, 1) := by decide +kernel
theorem dL_tunes_955 : decode cL_tunes 955 = .ok (.sipush 600, 3) := by decide +kernel
theorem dL_tunes_958 : decode cL_tunes 958 = .ok (.invokevirtual 35, 3) := by decide +kernel
theorem dL_tunes_961 : decode cL_tunes 961 = .ok (.bipush 8, 2) := by decide +kernel
theorem dL_tunes_963 : decode cL_tunes 963 = .ok (.if_icmp .ne 38, 3) := by decide +kernel
theorem dL_tunes_966 : decode cL_tunes 966 = .ok (.aload_n 0, 1) := by decide +kernel
theorem dL_tunes_967 : decode cL_tunes 967 = .ok (.bipush 7, 2) := by decide +kernel
theorem dL_tunes_969 : decode cL_tunes 969 = .ok (.iconst 2, 1) := by decide +kernel
theorem dL_tunes_970 : decode cL_tunes 970 = .ok (.sipush 600, 3) := by decide +kernel
theorem dL_tunes_973 : decode cL_tunes 973 = .ok (.iconst 0, 1) := by decide +kernel
theorem dL_tunes_974 : decode cL_tunes 974 = .ok (.iconst 0, 1) := by decide +kernel
theorem dL_tunes_975 : decode cL_tunes 975 = .ok (.invokestatic 100, 3) := by decide +kernel
theorem dL_tunes_978 : decode cL_tunes 978 = .ok (.ldc 91, 2) := by decide +kernel
theorem dL_tunes_980 : decode cL_tunes 980 = .ok (.if_icmp .ne 21, 3) := by decide +kernel
theorem dL_tunes_983 : decode cL_tunes 983 = .ok (.aload_n 0, 1) := by decide +kernel
theorem dL_tunes_984 : decode cL_tunes 984 = .ok (.invokevirtual 38, 3) := by decide +kernel
theorem dL_tunes_987 : decode cL_tunes 987 = .ok (.iconst 2, 1) := by decide +kernel
theorem dL_tunes_988 : decode cL_tunes 988 = .ok (.if_icmp .ne 13, 3) := by decide +kernel
theorem dL_tunes_991 : decode cL_tunes 991 = .ok (.aload_n 0, 1) := by decide +kernel
theorem dL_tunes_992 : decode cL_tunes 992 = .ok (.iconst 3, 1) := by decide +kernel
theorem dL_tunes_993 : decode cL_tunes 993 = .ok (.iconst 0, 1) := by decide +kernel
theorem dL_tunes_994 : decode cL_tunes 994 = .ok (.iconst 0, 1) := by decide +kernel
theorem dL_tunes_995 : decode cL_tunes 995 = .ok (.invokestatic 107, 3) := by decide +kernel
theorem dL_tunes_998 : decode cL_tunes 998 = .ok (.ifCond .ne 5, 3) := by decide +kernel
theorem dL_tunes_1001 : decode cL_tunes 1001 = .ok (.iconst 0, 1) := by decide +kernel
theorem dL_tunes_1002 : decode cL_tunes 1002 = .ok (.ireturn, 1) := by decide +kernel
theorem dL_tunes_1003 : decode cL_tunes 1003 = .ok (.invokestatic 125, 3) := by decide +kernel
theorem dL_tunes_1006 : decode cL_tunes 1006 = .ok (.ifCond .eq 25, 3) := by decide +kernel
theorem dL_tunes_1009 : decode cL_tunes 1009 = .ok (.invokestatic 129, 3) := by decide +kernel
theorem dL_tunes_1012 : decode cL_tunes 1012 = .ok (.ifCond .eq 19, 3) := by decide +kernel
theorem dL_tunes_1015 : decode cL_tunes 1015 = .ok (.invokestatic 132, 3) := by decide +kernel
theorem dL_tunes_1018 : decode cL_tunes 1018 = .ok (.ifCond .eq 13, 3) := by decide +kernel
theorem dL_tunes_1021 : decode cL_tunes 1021 = .ok (.invokestatic 135, 3) := by decide +kernel
theorem dL_tunes_1024 : decode cL_tunes 1024 = .ok (.ifCond .eq 7, 3) := by decide +kernel
theorem dL_tunes_1027 : decode cL_tunes 1027 = .ok (.iconst 1, 1) := by decide +kernel
theorem dL_tunes_1028 : decode cL_tunes 1028 = .ok (.goto 4, 3) := by decide +kernel
theorem dL_tunes_1031 : decode cL_tunes 1031 = .ok (.iconst 0, 1) := by decide +kernel
theorem dL_tunes_1032 : decode cL_tunes 1032 = .ok (.ireturn, 1) := by decide +kernel
theorem dL_most_0 : decode cL_most 0 = .ok (.new 8, 3) := by decide +kernel
theorem dL_most_3 : decode cL_most 3 = .ok (.dup, 1) := by decide +kernel
theorem dL_most_4 : decode cL_most 4 = .ok (.invokespecial 106, 3) := by decide +kernel
theorem dL_most_7 : decode cL_most 7 = .ok (.astore_n 0, 1) := by decide +kernel
theorem dL_most_8 : decode cL_most 8 = .ok (.iconst 0, 1) := by decide +kernel
theorem dL_most_9 : decode cL_most 9 = .ok (.istore_n 1, 1) := by decide +kernel
theorem dL_most_10 : decode cL_most 10 = .ok (.iload_n 1, 1) := by decide +kernel
theorem dL_most_11 : decode cL_most 11 = .ok (.bipush 11, 2) := by decide +kernel
theorem dL_most_13 : decode cL_most 13 = .ok (.if_icmp .ge 37, 3) := by decide +kernel
theorem dL_most_16 : decode cL_most 16 = .ok (.aload_n 0, 1) := by decide +kernel
theorem dL_most_17 : decode cL_most 17 = .ok (.iconst 0, 1) := by decide +kernel
theorem dL_most_18 : decode cL_most 18 = .ok (.iload_n 1, 1) := by decide +kernel
theorem dL_most_19 : decode cL_most 19 = .ok (.iconst 4, 1) := by decide +kernel
theorem dL_most_20 : decode cL_most 20 = .ok (.irem, 1) := by decide +kernel
theorem dL_most_21 : decode cL_most 21 = .ok (.iconst 0, 1) := by decide +kernel
theorem dL_most_22 : decode cL_most 22 = .ok (.iconst 0, 1) := by decide +kernel
theorem dL_most_23 : decode cL_most 23 = .ok (.iconst 0, 1) := by decide +kernel
theorem dL_most_24 : decode cL_most 24 = .ok (.invokestatic 100, 3) := by decide +kernel
theorem dL_most_27 : decode cL_most 27 = .ok (.iload_n 1, 1) := by decide +kernel
theorem dL_most_28 : decode cL_most 28 = .ok (.bipush 10, 2) := by decide +kernel
theorem dL_most_30 : decode cL_most 30 = .ok (.if_icmp .ge 7, 3) := by decide +kernel
theorem dL_most_33 : decode cL_most 33 = .ok (.iload_n 1, 1) := by decide +kernel
theorem dL_most_34 : decode cL_most 34 = .ok (.goto 5, 3) := by decide +kernel
theorem dL_most_37 : decode cL_most 37 = .ok (.ldc 91, 2) := by decide +kernel
theorem dL_most_39 : decode cL_most 39 = .ok (.if_icmp .eq 5, 3) := by decide +kernel
theorem dL_most_42 : decode cL_most 42 = .ok (.iconst 0, 1) := by decide +kernel
theorem dL_most_43 : decode cL_most 43 = .ok (.ireturn, 1) := by decide +kernel
theorem dL_most_44 : decode cL_most 44 = .ok (.iinc 1 1, 3) := by decide +kernel
theorem dL_most_47 : decode cL_most 47 = .ok (.goto (-37), 3) := by decide +kernel
theorem dL_most_50 : decode cL_most 50 = .ok (.iconst 0, 1) := by decide +kernel
theorem dL_most_51 : decode cL_most 51 = .ok (.istore_n 1, 1) := by decide +kernel
theorem dL_most_52 : decode cL_most 52 = .ok (.iload_n 1, 1) := by decide +kernel
theorem dL_most_53 : decode cL_most 53 = .ok (.bipush 65, 2) := by decide +kernel
theorem dL_most_55 : decode cL_most 55 = .ok (.if_icmp .ge 80, 3) := by decide +kernel
theorem dL_most_58 : decode cL_most 58 = .ok (.aload_n 0, 1) := by decide +kernel
theorem dL_most_59 : decode cL_most 59 = .ok (.iconst 1, 1) := by decide +kernel
theorem dL_most_60 : decode cL_most 60 = .ok (.bipush 9, 2) := by decide +kernel
theorem dL_most_62 : decode cL_most 62 = .ok (.iload_n 1, 1) := by decide +kernel
theorem dL_most_63 : decode cL_most 63 = .ok (.iconst 2, 1) := by decide +kernel
theorem dL_most_64 : decode cL_most 64 = .ok (.irem, 1) := by decide +kernel
theorem dL_most_65 : decode cL_most 65 = .ok (.iconst 1, 1) := by decide +kernel
theorem dL_most_66 : decode cL_most 66 = .ok (.iconst 0, 1) := by decide +kernel
theorem dL_most_67 : decode cL_most 67 = .ok (.invokestatic 100, 3) := by decide +kernel
theorem dL_most_70 : decode cL_most 70 = .ok (.iload_n 1, 1) := by decide +kernel
theorem dL_most_71 : decode cL_most 71 = .ok (.bipush 64, 2) := by decide +kernel
theorem dL_most_73 : decode cL_most 73 = .ok (.if_icmp .ge 9, 3) := by decide +kernel
theorem dL_most_76 : decode cL_most 76 = .ok (.iload_n 1, 1) := by decide +kernel
theorem dL_most_77 : decode cL_most 77 = .ok (.iconst 1, 1) := by decide +kernel
theorem dL_most_78 : decode cL_most 78 = .ok (.iadd, 1) := by decide +kernel
theorem dL_most_79 : decode cL_most 79 = .ok (.goto 5, 3) := by decide +kernel
theorem dL_most_82 : decode cL_most 82 = .ok (.ldc 91, 2) := by decide +kernel
theorem dL_most_84 : decode cL_most 84 = .ok (.if_icmp .eq 5, 3) := by decide +kernel
theorem dL_most_87 : decode cL_most 87 = .ok (.iconst 0, 1) := by decide +kernel
theorem dL_most_88 : decode cL_most 88 = .ok (.ireturn, 1) := by decide +kernel
theorem dL_most_89 : decode cL_most 89 = .ok (.iload_n 1, 1) := by decide +kernel
theorem dL_most_90 : decode cL_most 90 = .ok (.iconst 4, 1) := by decide +kernel
theorem dL_most_91 : decode cL_most 91 = .ok (.irem, 1) := by decide +kernel
theorem dL_most_92 : decode cL_most 92 = .ok (.iconst 3, 1) := by decide +kernel
theorem dL_most_93 : decode cL_most 93 = .ok (.if_icmp .ne 36, 3) := by decide +kernel
theorem dL_most_96 : decode cL_most 96 = .ok (.iload_n 1, 1) := by decide +kernel
theorem dL_most_97 : decode cL_most 97 = .ok (.bipush 16, 2) := by decide +kernel
theorem dL_most_99 : decode cL_most 99 = .ok (.if_icmp .ge 30, 3) := by decide +kernel
theorem dL_most_102 : decode cL_most 102 = .ok (.aload_n 0, 1) := by decide +kernel
theorem dL_most_103 : decode cL_most 103 = .ok (.iconst 2, 1) := by decide +kernel
theorem dL_most_104 : decode cL_most 104 = .ok (.bipush 9, 2) := by decide +kernel
theorem dL_most_106 : decode cL_most 106 = .ok (.iconst 1, 1) := by decide +kernel
theorem dL_most_107 : decode cL_most 107 = .ok (.iconst 0, 1) := by decide +kernel
theorem dL_most_108 : decode cL_most 108 = .ok (.iconst 0, 1) := by decide +kernel
theorem dL_most_109 : decode cL_most 109 = .ok (.invokestatic 100, 3) := by decide +kernel
theorem dL_most_112 : decode cL_most 112 = .ok (.iload_n 1, 1) := by decide +kernel
theorem dL_most_113 : decode cL_most 113 = .ok (.bipush 15, 2) := by decide +kernel
theorem dL_most_115 : decode cL_most 115 = .ok (.if_icmp .ne 7, 3) := by decide +kernel
theorem dL_most_118 : decode cL_most 118 = .ok (.iconst 1, 1) := by decide +kernel
theorem dL_most_119 : decode cL_most 119 = .ok (.goto 5, 3) := by decide +kernel
theorem dL_most_122 : decode cL_most 122 = .ok (.ldc 91, 2) := by decide +kernel
theorem dL_most_124 : decode cL_most 124 = .ok (.if_icmp .eq 5, 3) := by decide +kernel
theorem dL_most_127 : decode cL_most 127 = .ok (.iconst 0, 1) := by decide +kernel
theorem dL_most_128 : decode cL_most 128 = .ok (.ireturn, 1) := by decide +kernel
theorem dL_most_129 : decode cL_most 129 = .ok (.iinc 1 1, 3) := by decide +kernel
theorem dL_most_132 : decode cL_most 132 = .ok (.goto (-80), 3) := by decide +kernel
theorem dL_most_135 : decode cL_most 135 = .ok (.iconst 0, 1) := by decide +kernel
theorem dL_most_136 : decode cL_most 136 = .ok (.istore_n 1, 1) := by decide +kernel
theorem dL_most_137 : decode cL_most 137 = .ok (.iload_n 1, 1) := by decide +kernel
theorem dL_most_138 : decode cL_most 138 = .ok (.bipush 9, 2) := by decide +kernel
theorem dL_most_140 : decode cL_most 140 = .ok (.if_icmp .ge 53, 3) := by decide +kernel
theorem dL_most_143 : decode cL_most 143 = .ok (.aload_n 0, 1) := by decide +kernel
theorem dL_most_144 : decode cL_most 144 = .ok (.iconst 1, 1) := by decide +kernel
theorem dL_most_145 : decode cL_most 145 = .ok (.iconst 1, 1) := by decide +kernel
theorem dL_most_146 : decode cL_most 146 = .ok (.iload_n 1, 1) := by decide +kernel
theorem dL_most_147 : decode cL_most 147 = .ok (.iconst 2, 1) := by decide +kernel
theorem dL_most_148 : decode cL_most 148 = .ok (.irem, 1) := by decide +kernel
theorem dL_most_149 : decode cL_most 149 = .ok (.bipush 16, 2) := by decide +kernel
theorem dL_most_151 : decode cL_most 151 = .ok (.iconst 0, 1) := by decide +kernel
theorem dL_most_152 : decode cL_most 152 = .ok (.invokestatic 100, 3) := by decide +kernel
theorem dL_most_155 : decode cL_most 155 = .ok (.iload_n 1, 1) := by decide +kernel
theorem dL_most_156 : decode cL_most 156 = .ok (.iconst 1, 1) := by decide +kernel
theorem dL_most_157 : decode cL_most 157 = .ok (.iadd, 1) := by decide +kernel
theorem dL_most_158 : decode cL_most 158 = .ok (.if_icmp .ne 27, 3) := by decide +kernel
theorem dL_most_161 : decode cL_most 161 = .ok (.aload_n 0, 1) := by decide +kernel
theorem dL_most_162 : decode cL_most 162 = .ok (.iconst 2, 1) := by decide +kernel
theorem dL_most_163 : decode cL_most 163 = .ok (.iconst 1, 1) := by decide +kernel
theorem dL_most_164 : decode cL_most 164 = .ok (.iconst 0, 1) := by decide +kernel
theorem dL_most_165 : decode cL_most 165 = .ok (.iconst 0, 1) := by decide +kernel
theorem dL_most_166 : decode cL_most 166 = .ok (.iconst 0, 1) := by decide +kernel
theorem dL_most_167 : decode cL_most 167 = .ok (.invokestatic 100, 3) := by decide +kernel
theorem dL_most_170 : decode cL_most 170 = .ok (.iload_n 1, 1) := by decide +kernel
theorem dL_most_171 : decode cL_most 171 = .ok (.bipush 8, 2) := by decide +kernel
theorem dL_most_173 : decode cL_most 173 = .ok (.if_icmp .ge 7, 3) := by decide +kernel
theorem dL_most_176 : decode cL_most 176 = .ok (.iconst 1, 1) := by decide +kernel
theorem dL_most_177 : decode cL_most 177 = .ok (.goto 5, 3) := by decide +kernel
theorem dL_most_180 : decode cL_most 180 = .ok (.ldc 91, 2) := by decide +kernel
theorem dL_most_182 : decode cL_most 182 = .ok (.if_icmp .eq 5, 3) := by decide +kernel
theorem dL_most_185 : decode cL_most 185 = .ok (.iconst 0, 1) := by decide +kernel
theorem dL_most_186 : decode cL_most 186 = .ok (.ireturn, 1) := by decide +kernel
theorem dL_most_187 : decode cL_most 187 = .ok (.iinc 1 1, 3) := by decide +kernel
theorem dL_most_190 : decode cL_most 190 = .ok (.goto (-53), 3) := by decide +kernel
theorem dL_most_193 : decode cL_most 193 = .ok (.aload_n 0, 1) := by decide +kernel
theorem dL_most_194 : decode cL_most 194 = .ok (.bipush 9, 2) := by decide +kernel
theorem dL_most_196 : decode cL_most 196 = .ok (.iconst 1, 1) := by decide +kernel
theorem dL_most_197 : decode cL_most 197 = .ok (.invokevirtual 17, 3) := by decide +kernel
theorem dL_most_200 : decode cL_most 200 = .ok (.iconst 3, 1) := by decide +kernel
theorem dL_most_201 : decode cL_most 201 = .ok (.if_icmp .ne 201, 3) := by decide +kernel
theorem dL_most_204 : decode cL_most 204 = .ok (.aload_n 0, 1) := by decide +kernel
theorem dL_most_205 : decode cL_most 205 = .ok (.bipush 9, 2) := by decide +kernel
theorem dL_most_207 : decode cL_most 207 = .ok (.iconst 1, 1) := by decide +kernel
theorem dL_most_208 : decode cL_most 208 = .ok (.sipush 128, 3) := by decide +kernel
theorem dL_most_211 : decode cL_most 211 = .ok (.sipush 128, 3) := by decide +kernel
theorem dL_most_214 : decode cL_most 214 = .ok (.iconst 0, 1) := by decide +kernel
theorem dL_most_215 : decode cL_most 215 = .ok (.iconst 0, 1) := by decide +kernel
theorem dL_most_216 : decode cL_most 216 = .ok (.iconst 2, 1) := by decide +kernel
theorem dL_most_217 : decode cL_most 217 = .ok (.iconst 0, 1) := by decide +kernel
theorem dL_most_218 : decode cL_most 218 = .ok (.invokestatic 111, 3) := by decide +kernel
theorem dL_most_221 : decode cL_most 221 = .ok (.ifCond .eq 181, 3) := by decide +kernel
theorem dL_most_224 : decode cL_most 224 = .ok (.aload_n 0, 1) := by decide +kernel
theorem dL_most_225 : decode cL_most 225 = .ok (.iconst 1, 1) := by decide +kernel
theorem dL_most_226 : decode cL_most 226 = .ok (.iconst 1, 1) := by decide +kernel
theorem dL_most_227 : decode cL_most 227 = .ok (.bipush 8, 2) := by decide +kernel
theorem dL_most_229 : decode cL_most 229 = .ok (.sipush 128, 3) := by decide +kernel
theorem dL_most_232 : decode cL_most 232 = .ok (.iconst 0, 1) := by decide +kernel
theorem dL_most_233 : decode cL_most 233 = .ok (.iconst 0, 1) := by decide +kernel
theorem dL_most_234 : decode cL_most 234 = .ok (.bipush 8, 2) := by decide +kernel
theorem dL_most_236 : decode cL_most 236 = .ok (.iconst 1, 1) := by decide +kernel
theorem dL_most_237 : decode cL_most 237 = .ok (.invokestatic 111, 3) := by decide +kernel
theorem dL_most_240 : decode cL_most 240 = .ok (.ifCond .eq 162, 3) := by decide +kernel
theorem dL_most_243 : decode cL_most 243 = .ok (.aload_n 0, 1) := by decide +kernel
theorem dL_most_244 : decode cL_most 244 = .ok (.bipush 9, 2) := by decide +kernel
theorem dL_most_246 : decode cL_most 246 = .ok (.bipush 9, 2) := by decide +kernel
theorem dL_most_248 : decode cL_most 248 = .ok (.invokevirtual 29, 3) := by decide +kernel
theorem dL_most_251 : decode cL_most 251 = .ok (.sipush 128, 3) := by decide +kernel
theorem dL_most_254 : decode cL_most 254 = .ok (.if_icmp .ne 148, 3) := by decide +kernel
theorem dL_most_257 : decode cL_most 257 = .ok (.aload_n 0, 1) := by decide +kernel
theorem dL_most_258 : decode cL_most 258 = .ok (.iconst 1, 1) := by decide +kernel
theorem dL_most_259 : decode cL_most 259 = .ok (.bipush 9, 2) := by decide +kernel
theorem dL_most_261 : decode cL_most 261 = .ok (.invokevirtual 29, 3) := by decide +kernel
theorem dL_most_264 : decode cL_most 264 = .ok (.bipush 8, 2) := by decide +kernel
theorem dL_most_266 : decode cL_most 266 = .ok (.if_icmp .ne 136, 3) := by decide +kernel
theorem dL_most_269 : decode cL_most 269 = .ok (.aload_n 0, 1) := by decide +kernel
theorem dL_most_270 : decode cL_most 270 = .ok (.iconst 3, 1) := by decide +kernel
theorem dL_most_271 : decode cL_most 271 = .ok (.bipush 6, 2) := by decide +kernel
theorem dL_most_273 : decode cL_most 273 = .ok (.iconst 1, 1) := by decide +kernel
theorem dL_most_274 : decode cL_most 274 = .ok (.iconst 3, 1) := by decide +kernel
theorem dL_most_275 : decode cL_most 275 = .ok (.invokevirtual 13, 3) := by decide +kernel
theorem dL_most_278 : decode cL_most 278 = .ok (.iconst 1, 1) := by decide +kernel
theorem dL_most_279 : decode cL_most 279 = .ok (.if_icmp .ne 123, 3) := by decide +kernel
theorem dL_most_282 : decode cL_most 282 = .ok (.aload_n 0, 1) := by decide +kernel
theorem dL_most_283 : decode cL_most 283 = .ok (.iconst 3, 1) := by decide +kernel
theorem dL_most_284 : decode cL_most 284 = .ok (.bipush 7, 2) := by decide +kernel
theorem dL_most_286 : decode cL_most 286 = .ok (.iconst 1, 1) := by decide +kernel
theorem dL_most_287 : decode cL_most 287 = .ok (.iconst 4, 1) := by decide +kernel
theorem dL_most_288 : decode cL_most 288 = .ok (.invokevirtual 13, 3) := by decide +kernel
theorem dL_most_291 : decode cL_most 291 = .ok (.iconst 2, 1) := by decide +kernel
theorem dL_most_292 : decode cL_most 292 = .ok (.if_icmp .ne 110, 3) := by decide +kernel
theorem dL_most_295 : decode cL_most 295 = .ok (.aload_n 0, 1) := by decide +kernel
theorem dL_most_296 : decode cL_most 296 = .ok (.iconst 3, 1) := by decide +kernel
theorem dL_most_297 : decode cL_most 297 = .ok (.bipush 6, 2) := by decide +kernel
theorem dL_most_299 : decode cL_most 299 = .ok (.iconst 1, 1) := by decide +kernel
theorem dL_most_300 : decode cL_most 300 = .ok (.iconst 5, 1) := by decide +kernel
theorem dL_most_301 : decode cL_most 301 = .ok (.invokevirtual 13, 3) := by decide +kernel
theorem dL_most_304 : decode cL_most 304 = .ok (.iconst 3, 1) := by decide +kernel
theorem dL_most_305 : decode cL_most 305 = .ok (.if_icmp .ne 97, 3) := by decide +kernel
theorem dL_most_308 : decode cL_most 308 = .ok (.aload_n 0, 1) := by decide +kernel
theorem dL_most_309 : decode cL_most 309 = .ok (.iconst 3, 1) := by decide +kernel
theorem dL_most_310 : decode cL_most 310 = .ok (.iconst 1, 1) := by decide +kernel
theorem dL_most_311 : decode cL_most 311 = .ok (.iconst 1, 1) := by decide +kernel
theorem dL_most_312 : decode cL_most 312 = .ok (.bipush 6, 2) := by decide +kernel
theorem dL_most_314 : decode cL_most 314 = .ok (.invokevirtual 13, 3) := by decide +kernel
theorem dL_most_317 : decode cL_most 317 = .ok (.iconst 4, 1) := by decide +kernel
theorem dL_most_318 : decode cL_most 318 = .ok (.if_icmp .ne 84, 3) := by decide +kernel
theorem dL_most_321 : decode cL_most 321 = .ok (.aload_n 0, 1) := by decide +kernel
theorem dL_most_322 : decode cL_most 322 = .ok (.iconst 3, 1) := by decide +kernel
theorem dL_most_323 : decode cL_most 323 = .ok (.iconst 4, 1) := by decide +kernel
theorem dL_most_324 : decode cL_most 324 = .ok (.iconst 1, 1) := by decide +kernel
theorem dL_most_325 : decode cL_most 325 = .ok (.bipush 7, 2) := by decide +kernel
theorem dL_most_327 : decode cL_most 327 = .ok (.invokevirtual 13, 3) := by decide +kernel
theorem dL_most_330 : decode cL_most 330 = .ok (.iconst 5, 1) := by decide +kernel
theorem dL_most_331 : decode cL_most 331 = .ok (.if_icmp .ne 71, 3) := by decide +kernel
theorem dL_most_334 : decode cL_most 334 = .ok (.aload_n 0, 1) := by decide +kernel
theorem dL_most_335 : decode cL_most 335 = .ok (.iconst 3, 1) := by decide +kernel
theorem dL_most_336 : decode cL_most 336 = .ok (.iconst 1, 1) := by decide +kernel
theorem dL_most_337 : decode cL_most 337 = .ok (.iconst 1, 1) := by decide +kernel
theorem dL_most_338 : decode cL_most 338 = .ok (.bipush 8, 2) := by decide +kernel
theorem dL_most_340 : decode cL_most 340 = .ok (.invokevirtual 13, 3) := by decide +kernel
theorem dL_most_343 : decode cL_most 343 = .ok (.bipush 6, 2) := by decide +kernel
theorem dL_most_345 : decode cL_most 345 = .ok (.if_icmp .ne 57, 3) := by decide +kernel
theorem dL_most_348 : decode cL_most 348 = .ok (.aload_n 0, 1) := by decide +kernel
theorem dL_most_349 : decode cL_most 349 = .ok (.iconst 3, 1) := by decide +kernel
theorem dL_most_350 : decode cL_most 350 = .ok (.iconst 3, 1) := by decide +kernel
theorem dL_most_351 : decode cL_most 351 = .ok (.iconst 1, 1) := by decide +kernel
theorem dL_most_352 : decode cL_most 352 = .ok (.iconst 1, 1) := by decide +kernel
theorem dL_most_353 : decode cL_most 353 = .ok (.invokevirtual 13, 3) := by decide +kernel
theorem dL_most_356 : decode cL_most 356 = .ok (.bipush 7, 2) := by decide +kernel
theorem dL_most_358 : decode cL_most 358 = .ok (.if_icmp .ne 44, 3) := by decide +kernel
theorem dL_most_361 : decode cL_most 361 = .ok (.aload_n 0, 1) := by decide +kernel
theorem dL_most_362 : decode cL_most 362 = .ok (.iconst 3, 1) := by decide +kernel
theorem dL_most_363 : decode cL_most 363 = .ok (.iconst 4, 1) := by decide +kernel
theorem dL_most_364 : decode cL_most 364 = .ok (.iconst 1, 1) := by decide +kernel
theorem dL_most_365 : decode cL_most 365 = .ok (.iconst 2, 1) := by decide +kernel
theorem dL_most_366 : decode cL_most 366 = .ok (.invokevirtual 13, 3) := by decide +kernel
theorem dL_most_369 : decode cL_most 369 = .ok (.bipush 8, 2) := by decide +kernel
theorem dL_most_371 : decode cL_most 371 = .ok (.if_icmp .ne 31, 3) := by decide +kernel
theorem dL_most_374 : decode cL_most 374 = .ok (.aload_n 0, 1) := by decide +kernel
theorem dL_most_375 : decode cL_most 375 = .ok (.iconst 3, 1) := by decide +kernel
theorem dL_most_376 : decode cL_most 376 = .ok (.iconst 0, 1) := by decide +kernel
theorem dL_most_377 : decode cL_most 377 = .ok (.iconst 1, 1) := by decide +kernel
theorem dL_most_378 : decode cL_most 378 = .ok (.iconst 5, 1) := by decide +kernel
theorem dL_most_379 : decode cL_most 379 = .ok (.invokevirtual 13, 3) := by decide +kernel
theorem dL_most_382 : decode cL_most 382 = .ok (.bipush 9, 2) := by decide +kernel
theorem dL_most_384 : decode cL_most 384 = .ok (.if_icmp .ne 18, 3) := by decide +kernel
theorem dL_most_387 : decode cL_most 387 = .ok (.aload_n 0, 1) := by decide +kernel
theorem dL_most_388 : decode cL_most 388 = .ok (.bipush 10, 2) := by decide +kernel
theorem dL_most_390 : decode cL_most 390 = .ok (.iconst 0, 1) := by decide +kernel
theorem dL_most_391 : decode cL_most 391 = .ok (.iconst 0, 1) := by decide +kernel
theorem dL_most_392 : decode cL_most 392 = .ok (.invokestatic 107, 3) := by decide +kernel
theorem dL_most_395 : decode cL_most 395 = .ok (.ifCond .eq 7, 3) := by decide +kernel
theorem dL_most_398 : decode cL_most 398 = .ok (.iconst 1, 1) := by decide +kernel
theorem dL_most_399 : decode cL_most 399 = .ok (.goto 4, 3) := by decide +kernel
theorem dL_most_402 : decode cL_most 402 = .ok (.iconst 0, 1) := by decide +kernel
theorem dL_most_403 : decode cL_most 403 = .ok (.ireturn, 1) := by decide +kernel
theorem dL_piper_0 : decode cL_piper 0 = .ok (.aload_n 0, 1) := by decide +kernel
theorem dL_piper_1 : decode cL_piper 1 = .ok (.iload_n 1, 1) := by decide +kernel
theorem dL_piper_2 : decode cL_piper 2 = .ok (.iconst 0, 1) := by decide +kernel
theorem dL_piper_3 : decode cL_piper 3 = .ok (.invokevirtual 55, 3) := by decide +kernel
theorem dL_piper_6 : decode cL_piper 6 = .ok (.iload_n 2, 1) := by decide +kernel
theorem dL_piper_7 : decode cL_piper 7 = .ok (.if_icmp .ne 61, 3) := by decide +kernel
theorem dL_piper_10 : decode cL_piper 10 = .ok (.aload_n 0, 1) := by decide +kernel
theorem dL_piper_11 : decode cL_piper 11 = .ok (.iload_n 1, 1) := by decide +kernel
theorem dL_piper_12 : decode cL_piper 12 = .ok (.iconst 1, 1) := by decide +kernel
theorem dL_piper_13 : decode cL_piper 13 = .ok (.invokevirtual 55, 3) := by decide +kernel
theorem dL_piper_16 : decode cL_piper 16 = .ok (.iload_n 3, 1) := by decide +kernel
theorem dL_piper_17 : decode cL_piper 17 = .ok (.if_icmp .ne 51, 3) := by decide +kernel
theorem dL_piper_20 : decode cL_piper 20 = .ok (.aload_n 0, 1) := by decide +kernel
theorem dL_piper_21 : decode cL_piper 21 = .ok (.iload_n 1, 1) := by decide +kernel
theorem dL_piper_22 : decode cL_piper 22 = .ok (.iconst 2, 1) := by decide +kernel
theorem dL_piper_23 : decode cL_piper 23 = .ok (.invokevirtual 55, 3) := by decide +kernel
theorem dL_piper_26 : decode cL_piper 26 = .ok (.iload 4, 2) := by decide +kernel
theorem dL_piper_28 : decode cL_piper 28 = .ok (.if_icmp .ne 40, 3) := by decide +kernel
theorem dL_piper_31 : decode cL_piper 31 = .ok (.aload_n 0, 1) := by decide +kernel
theorem dL_piper_32 : decode cL_piper 32 = .ok (.iload_n 1, 1) := by decide +kernel
theorem dL_piper_33 : decode cL_piper 33 = .ok (.iconst 3, 1) := by decide +kernel
theorem dL_piper_34 : decode cL_piper 34 = .ok (.invokevirtual 55, 3) := by decide +kernel
theorem dL_piper_37 : decode cL_piper 37 = .ok (.iload 5, 2) := by decide +kernel
theorem dL_piper_39 : decode cL_piper 39 = .ok (.if_icmp .ne 29, 3) := by decide +kernel
theorem dL_piper_42 : decode cL_piper 42 = .ok (.aload_n 0, 1) := by decide +kernel
theorem dL_piper_43 : decode cL_piper 43 = .ok (.iload_n 1, 1) := by decide +kernel
theorem dL_piper_44 : decode cL_piper 44 = .ok (.iconst 4, 1) := by decide +kernel
theorem dL_piper_45 : decode cL_piper 45 = .ok (.invokevirtual 55, 3) := by decide +kernel
theorem dL_piper_48 : decode cL_piper 48 = .ok (.iload 6, 2) := by decide +kernel
theorem dL_piper_50 : decode cL_piper 50 = .ok (.if_icmp .ne 18, 3) := by decide +kernel
theorem dL_piper_53 : decode cL_piper 53 = .ok (.aload_n 0, 1) := by decide +kernel
theorem dL_piper_54 : decode cL_piper 54 = .ok (.iload_n 1, 1) := by decide +kernel
theorem dL_piper_55 : decode cL_piper 55 = .ok (.iconst 5, 1) := by decide +kernel
theorem dL_piper_56 : decode cL_piper 56 = .ok (.invokevirtual 55, 3) := by decide +kernel
theorem dL_piper_59 : decode cL_piper 59 = .ok (.iload 7, 2) := by decide +kernel
theorem dL_piper_61 : decode cL_piper 61 = .ok (.if_icmp .ne 7, 3) := by decide +kernel
theorem dL_piper_64 : decode cL_piper 64 = .ok (.iconst 1, 1) := by decide +kernel
theorem dL_piper_65 : decode cL_piper 65 = .ok (.goto 4, 3) := by decide +kernel
theorem dL_piper_68 : decode cL_piper 68 = .ok (.iconst 0, 1) := by decide +kernel
theorem dL_piper_69 : decode cL_piper 69 = .ok (.ireturn, 1) := by decide +kernel
theorem dL_pipers_0 : decode cL_pipers 0 = .ok (.new 8, 3) := by decide +kernel
theorem dL_pipers_3 : decode cL_pipers 3 = .ok (.dup, 1) := by decide +kernel
theorem dL_pipers_4 : decode cL_pipers 4 = .ok (.invokespecial 106, 3) := by decide +kernel
theorem dL_pipers_7 : decode cL_pipers 7 = .ok (.astore_n 0, 1) := by decide +kernel
theorem dL_pipers_8 : decode cL_pipers 8 = .ok (.aload_n 0, 1) := by decide +kernel
theorem dL_pipers_9 : decode cL_pipers 9 = .ok (.invokevirtual 93, 3) := by decide +kernel
theorem dL_pipers_12 : decode cL_pipers 12 = .ok (.ifCond .ne 438, 3) := by decide +kernel
theorem dL_pipers_15 : decode cL_pipers 15 = .ok (.aload_n 0, 1) := by decide +kernel
theorem dL_pipers_16 : decode cL_pipers 16 = .ok (.invokevirtual 138, 3) := by decide +kernel
theorem dL_pipers_19 : decode cL_pipers 19 = .ok (.iconst (-1), 1) := by decide +kernel
theorem dL_pipers_20 : decode cL_pipers 20 = .ok (.if_icmp .ne 430, 3) := by decide +kernel
theorem dL_pipers_23 : decode cL_pipers 23 = .ok (.aload_n 0, 1) := by decide +kernel
theorem dL_pipers_24 : decode cL_pipers 24 = .ok (.bipush 120, 2) := by decide +kernel
theorem dL_pipers_26 : decode cL_pipers 26 = .ok (.bipush 9, 2) := by decide +kernel
theorem dL_pipers_28 : decode cL_pipers 28 = .ok (.bipush 40, 2) := by decide +kernel
theorem dL_pipers_30 : decode cL_pipers 30 = .ok (.invokevirtual 52, 3) := by decide +kernel
theorem dL_pipers_33 : decode cL_pipers 33 = .ok (.ifCond .ne 417, 3) := by decide +kernel
theorem dL_pipers_36 : decode cL_pipers 36 = .ok (.aload_n 0, 1) := by decide +kernel
theorem dL_pipers_37 : decode cL_pipers 37 = .ok (.bipush 10, 2) := by decide +kernel
theorem dL_pipers_39 : decode cL_pipers 39 = .ok (.bipush 20, 2) := by decide +kernel
theorem dL_pipers_41 : decode cL_pipers 41 = .ok (.iconst 3, 1) := by decide +kernel
theorem dL_pipers_42 : decode cL_pipers 42 = .ok (.invokevirtual 42, 3) := by decide +kernel
theorem dL_pipers_45 : decode cL_pipers 45 = .ok (.ifCond .ne 405, 3) := by decide +kernel
theorem dL_pipers_48 : decode cL_pipers 48 = .ok (.aload_n 0, 1) := by decide +kernel
theorem dL_pipers_49 : decode cL_pipers 49 = .ok (.invokevirtual 138, 3) := by decide +kernel
theorem dL_pipers_52 : decode cL_pipers 52 = .ok (.iconst (-1), 1) := by decide +kernel
theorem dL_pipers_53 : decode cL_pipers 53 = .ok (.if_icmp .ne 397, 3) := by decide +kernel
theorem dL_pipers_56 : decode cL_pipers 56 = .ok (.aload_n 0, 1) := by decide +kernel
theorem dL_pipers_57 : decode cL_pipers 57 = .ok (.iconst 0, 1) := by decide +kernel
theorem dL_pipers_58 : decode cL_pipers 58 = .ok (.bipush 25, 2) := by decide +kernel
theorem dL_pipers_60 : decode cL_pipers 60 = .ok (.bipush 9, 2) := by decide +kernel
theorem dL_pipers_62 : decode cL_pipers 62 = .ok (.invokevirtual 42, 3) := by decide +kernel
theorem dL_pipers_65 : decode cL_pipers 65 = .ok (.iconst 1, 1) := by decide +kernel
theorem dL_pipers_66 : decode cL_pipers 66 = .ok (.if_icmp .ne 384, 3) := by decide +kernel
theorem dL_pipers_69 : decode cL_pipers 69 = .ok (.aload_n 0, 1) := by decide +kernel
theorem dL_pipers_70 : decode cL_pipers 70 = .ok (.invokevirtual 138, 3) := by decide +kernel
theorem dL_pipers_73 : decode cL_pipers 73 = .ok (.ifCond .ne 377, 3) := by decide +kernel
theorem dL_pipers_76 : decode cL_pipers 76 = .ok (.aload_n 0, 1) := by decide +kernel
theorem dL_pipers_77 : decode cL_pipers 77 = .ok (.bipush (-5), 2) := by decide +kernel
theorem dL_pipers_79 : decode cL_pipers 79 = .ok (.bipush 30, 2) := by decide +kernel
theorem dL_pipers_81 : decode cL_pipers 81 = .ok (.iconst 0, 1) := by decide +kernel
theorem dL_pipers_82 : decode cL_pipers 82 = .ok (.invokevirtual 42, 3) := by decide +kernel
theorem dL_pipers_85 : decode cL_pipers 85 = .ok (.iconst 2, 1) := by decide +kernel
theorem dL_pipers_86 : decode cL_pipers 86 = .ok (.if_icmp .ne 364, 3) := by decide +kernel
theorem dL_pipers_89 : decode cL_pipers 89 = .ok (.aload_n 0, 1) := by decide +kernel
theorem dL_pipers_90 : decode cL_pipers 90 = .ok (.iconst 0, 1) := by decide +kernel
theorem dL_pipers_91 : decode cL_pipers 91 = .ok (.iconst 3, 1) := by decide +kernel
theorem dL_pipers_92 : decode cL_pipers 92 = .ok (.iconst 0, 1) := by decide +kernel
theorem dL_pipers_93 : decode cL_pipers 93 = .ok (.invokestatic 107, 3) := by decide +kernel
theorem dL_pipers_96 : decode cL_pipers 96 = .ok (.ifCond .eq 354, 3) := by decide +kernel
theorem dL_pipers_99 : decode cL_pipers 99 = .ok (.aload_n 0, 1) := by decide +kernel
theorem dL_pipers_100 : decode cL_pipers 100 = .ok (.invokevirtual 93, 3) := by decide +kernel
theorem dL_pipers_103 : decode cL_pipers 103 = .ok (.iconst 5, 1) := by decide +kernel
theorem dL_pipers_104 : decode cL_pipers 104 = .ok (.if_icmp .ne 346, 3) := by decide +kernel
theorem dL_pipers_107 : decode cL_pipers 107 = .ok (.aload_n 0, 1) := by decide +kernel
theorem dL_pipers_108 : decode cL_pipers 108 = .ok (.invokevirtual 138, 3) := by decide +kernel
theorem dL_pipers_111 : decode cL_pipers 111 = .ok (.iconst 2, 1) := by decide +kernel
theorem dL_pipers_112 : decode cL_pipers 112 = .ok (.if_icmp .ne 338, 3) := by decide +kernel
theorem dL_pipers_115 : decode cL_pipers 115 = .ok (.aload_n 0, 1) := by decide +kernel
theorem dL_pipers_116 : decode cL_pipers 116 = .ok (.iconst 2, 1) := by decide +kernel
theorem dL_pipers_117 : decode cL_pipers 117 = .ok (.bipush 55, 2) := by decide +kernel
theorem dL_pipers_119 : decode cL_pipers 119 = .ok (.bipush (-5), 2) := by decide +kernel
theorem dL_pipers_121 : decode cL_pipers 121 = .ok (.iconst 0, 1) := by decide +kernel
theorem dL_pipers_122 : decode cL_pipers 122 = .ok (.iconst 0, 1) := by decide +kernel
theorem dL_pipers_123 : decode cL_pipers 123 = .ok (.iconst 0, 1) := by decide +kernel
theorem dL_pipers_124 : decode cL_pipers 124 = .ok (.bipush (-5), 2) := by decide +kernel
theorem dL_pipers_126 : decode cL_pipers 126 = .ok (.invokestatic 141, 3) := by decide +kernel
theorem dL_pipers_129 : decode cL_pipers 129 = .ok (.ifCond .eq 321, 3) := by decide +kernel
theorem dL_pipers_132 : decode cL_pipers 132 = .ok (.aload_n 0, 1) := by decide +kernel
theorem dL_pipers_133 : decode cL_pipers 133 = .ok (.iconst 0, 1) := by decide +kernel
theorem dL_pipers_134 : decode cL_pipers 134 = .ok (.bipush 50, 2) := by decide +kernel
theorem dL_pipers_136 : decode cL_pipers 136 = .ok (.bipush 10, 2) := by decide +kernel
theorem dL_pipers_138 : decode cL_pipers 138 = .ok (.iconst 0, 1) := by decide +kernel
theorem dL_pipers_139 : decode cL_pipers 139 = .ok (.iconst 0, 1) := by decide +kernel
theorem dL_pipers_140 : decode cL_pipers 140 = .ok (.iconst 0, 1) := by decide +kernel
theorem dL_pipers_141 : decode cL_pipers 141 = .ok (.iconst 0, 1) := by decide +kernel
theorem dL_pipers_142 : decode cL_pipers 142 = .ok (.invokestatic 141, 3) := by decide +kernel
theorem dL_pipers_145 : decode cL_pipers 145 = .ok (.ifCond .eq 305, 3) := by decide +kernel
theorem dL_pipers_148 : decode cL_pipers 148 = .ok (.aload_n 0, 1) := by decide +kernel
theorem dL_pipers_149 : decode cL_pipers 149 = .ok (.iconst 2, 1) := by decide +kernel
theorem dL_pipers_150 : decode cL_pipers 150 = .ok (.bipush (-5), 2) := by decide +kernel
theorem dL_pipers_152 : decode cL_pipers 152 = .ok (.invokevirtual 45, 3) := by decide +kernel
theorem dL_pipers_155 : decode cL_pipers 155 = .ok (.bipush (-5), 2) := by decide +kernel
theorem dL_pipers_157 : decode cL_pipers 157 = .ok (.if_icmp .ne 293, 3) := by decide +kernel
theorem dL_pipers_160 : decode cL_pipers 160 = .ok (.aload_n 0, 1) := by decide +kernel
theorem dL_pipers_161 : decode cL_pipers 161 = .ok (.invokevirtual 93, 3) := by decide +kernel
theorem dL_pipers_164 : decode cL_pipers 164 = .ok (.ifCond .ne 286, 3) := by decide +kernel
theorem dL_pipers_167 : decode cL_pipers 167 = .ok (.aload_n 0, 1) := by decide +kernel
theorem dL_pipers_168 : decode cL_pipers 168 = .ok (.invokevirtual 138, 3) := by decide +kernel
theorem dL_pipers_171 : decode cL_pipers 171 = .ok (.ifCond .ne 279, 3) := by decide +kernel
theorem dL_pipers_174 : decode cL_pipers 174 = .ok (.aload_n 0, 1) := by decide +kernel
theorem dL_pipers_175 : decode cL_pipers 175 = .ok (.bipush 10, 2) := by decide +kernel
theorem dL_pipers_177 : decode cL_pipers 177 = .ok (.iconst 2, 1) := by decide +kernel
theorem dL_pipers_178 : decode cL_pipers 178 = .ok (.bipush (-96), 2) := by decide +kernel
theorem dL_pipers_180 : decode cL_pipers 180 = .ok (.iconst 0, 1) := by decide +kernel
theorem dL_pipers_181 : decode cL_pipers 181 = .ok (.iconst 0, 1) := by decide +kernel
theorem dL_pipers_182 : decode cL_pipers 182 = .ok (.invokestatic 100, 3) := by decide +kernel
theorem dL_pipers_185 : decode cL_pipers 185 = .ok (.ldc 88, 2) := by decide +kernel
theorem dL_pipers_187 : decode cL_pipers 187 = .ok (.if_icmp .ne 263, 3) := by decide +kernel
theorem dL_pipers_190 : decode cL_pipers 190 = .ok (.aload_n 0, 1) := by decide +kernel
theorem dL_pipers_191 : decode cL_pipers 191 = .ok (.iconst 1, 1) := by decide +kernel
theorem dL_pipers_192 : decode cL_pipers 192 = .ok (.iconst 2, 1) := by decide +kernel
theorem dL_pipers_193 : decode cL_pipers 193 = .ok (.iconst 5, 1) := by decide +kernel
theorem dL_pipers_194 : decode cL_pipers 194 = .ok (.invokevirtual 62, 3) := by decide +kernel
theorem dL_pipers_197 : decode cL_pipers 197 = .ok (.bipush 9, 2) := by decide +kernel
theorem dL_pipers_199 : decode cL_pipers 199 = .ok (.if_icmp .ne 251, 3) := by decide +kernel
theorem dL_pipers_202 : decode cL_pipers 202 = .ok (.aload_n 0, 1) := by decide +kernel
theorem dL_pipers_203 : decode cL_pipers 203 = .ok (.iconst 1, 1) := by decide +kernel
theorem dL_pipers_204 : decode cL_pipers 204 = .ok (.iconst 2, 1) := by decide +kernel
theorem dL_pipers_205 : decode cL_pipers 205 = .ok (.iconst 5, 1) := by decide +kernel
theorem dL_pipers_206 : decode cL_pipers 206 = .ok (.invokevirtual 52, 3) := by decide +kernel
theorem dL_pipers_209 : decode cL_pipers 209 = .ok (.bipush 9, 2) := by decide +kernel
theorem dL_pipers_211 : decode cL_pipers 211 = .ok (.if_icmp .ne 239, 3) := by decide +kernel
theorem dL_pipers_214 : decode cL_pipers 214 = .ok (.aload_n 0, 1) := by decide +kernel
theorem dL_pipers_215 : decode cL_pipers 215 = .ok (.iconst 0, 1) := by decide +kernel
theorem dL_pipers_216 : decode cL_pipers 216 = .ok (.bipush 48, 2) := by decide +kernel
theorem dL_pipers_218 : decode cL_pipers 218 = .ok (.bipush 10, 2) := by decide +kernel
theorem dL_pipers_220 : decode cL_pipers 220 = .ok (.iconst 0, 1) := by decide +kernel
theorem dL_pipers_221 : decode cL_pipers 221 = .ok (.iconst 1, 1) := by decide +kernel
theorem dL_pipers_222 : decode cL_pipers 222 = .ok (.iconst 5, 1) := by decide +kernel
theorem dL_pipers_223 : decode cL_pipers 223 = .ok (.iconst 0, 1) := by decide +kernel
theorem dL_pipers_224 : decode cL_pipers 224 = .ok (.invokestatic 141, 3) := by decide +kernel
theorem dL_pipers_227 : decode cL_pipers 227 = .ok (.ifCond .eq 223, 3) := by decide +kernel
theorem dL_pipers_230 : decode cL_pipers 230 = .ok (.aload_n 0, 1) := by decide +kernel
theorem dL_pipers_231 : decode cL_pipers 231 = .ok (.iconst 1, 1) := by decide +kernel
theorem dL_pipers_232 : decode cL_pipers 232 = .ok (.bipush 42, 2) := by decide +kernel
theorem dL_pipers_234 : decode cL_pipers 234 = .ok (.iconst 0, 1) := by decide +kernel
theorem dL_pipers_235 : decode cL_pipers 235 = .ok (.iconst 0, 1) := by decide +kernel
theorem dL_pipers_236 : decode cL_pipers 236 = .ok (.iconst 1, 1) := by decide +kernel
theorem dL_pipers_237 : decode cL_pipers 237 = .ok (.bipush 11, 2) := by decide +kernel
theorem dL_pipers_239 : decode cL_pipers 239 = .ok (.bipush 6, 2) := by decide +kernel
theorem dL_pipers_241 : decode cL_pipers 241 = .ok (.invokestatic 141, 3) := by decide +kernel
theorem dL_pipers_244 : decode cL_pipers 244 = .ok (.ifCond .eq 206, 3) := by decide +kernel
theorem dL_pipers_247 : decode cL_pipers 247 = .ok (.aload_n 0, 1) := by decide +kernel
theorem dL_pipers_248 : decode cL_pipers 248 = .ok (.iconst 2, 1) := by decide +kernel
theorem dL_pipers_249 : decode cL_pipers 249 = .ok (.bipush 51, 2) := by decide +kernel
theorem dL_pipers_251 : decode cL_pipers 251 = .ok (.bipush (-5), 2) := by decide +kernel
theorem dL_pipers_253 : decode cL_pipers 253 = .ok (.bipush (-5), 2) := by decide +kernel
theorem dL_pipers_255 : decode cL_pipers 255 = .ok (.iconst 1, 1) := by decide +kernel
theorem dL_pipers_256 : decode cL_pipers 256 = .ok (.iconst 2, 1) := by decide +kernel
theorem dL_pipers_257 : decode cL_pipers 257 = .ok (.bipush (-3), 2) := by decide +kernel
theorem dL_pipers_259 : decode cL_pipers 259 = .ok (.invokestatic 141, 3) := by decide +kernel
theorem dL_pipers_262 : decode cL_pipers 262 = .ok (.ifCond .eq 188, 3) := by decide +kernel
theorem dL_pipers_265 : decode cL_pipers 265 = .ok (.aload_n 0, 1) := by decide +kernel
theorem dL_pipers_266 : decode cL_pipers 266 = .ok (.invokevirtual 138, 3) := by decide +kernel
theorem dL_pipers_269 : decode cL_pipers 269 = .ok (.iconst 1, 1) := by decide +kernel
theorem dL_pipers_270 : decode cL_pipers 270 = .ok (.if_icmp .ne 180, 3) := by decide +kernel
theorem dL_pipers_273 : decode cL_pipers 273 = .ok (.aload_n 0, 1) := by decide +kernel
theorem dL_pipers_274 : decode cL_pipers 274 = .ok (.iconst 0, 1) := by decide +kernel
theorem dL_pipers_275 : decode cL_pipers 275 = .ok (.iconst 1, 1) := by decide +kernel
theorem dL_pipers_276 : decode cL_pipers 276 = .ok (.invokevirtual 58, 3) := by decide +kernel
theorem dL_pipers_279 : decode cL_pipers 279 = .ok (.ldc 143, 2) := by decide +kernel
theorem dL_pipers_281 : decode cL_pipers 281 = .ok (.fcmp .l, 1) := by decide +kernel
theorem dL_pipers_282 : decode cL_pipers 282 = .ok (.ifCond .ne 168, 3) := by decide +kernel
theorem dL_pipers_285 : decode cL_pipers 285 = .ok (.aload_n 0, 1) := by decide +kernel
theorem dL_pipers_286 : decode cL_pipers 286 = .ok (.iconst 1, 1) := by decide +kernel
theorem dL_pipers_287 : decode cL_pipers 287 = .ok (.iconst 0, 1) := by decide +kernel
theorem dL_pipers_288 : decode cL_pipers 288 = .ok (.invokevirtual 58, 3) := by decide +kernel
theorem dL_pipers_291 : decode cL_pipers 291 = .ok (.ldc 143, 2) := by decide +kernel
theorem dL_pipers_293 : decode cL_pipers 293 = .ok (.fcmp .l, 1) := by decide +kernel
theorem dL_pipers_294 : decode cL_pipers 294 = .ok (.ifCond .ne 156, 3) := by decide +kernel
theorem dL_pipers_297 : decode cL_pipers 297 = .ok (.aload_n 0, 1) := by decide +kernel
theorem dL_pipers_298 : decode cL_pipers 298 = .ok (.iconst 2, 1) := by decide +kernel
theorem dL_pipers_299 : decode cL_pipers 299 = .ok (.iconst 2, 1) := by decide +kernel
theorem dL_pipers_300 : decode cL_pipers 300 = .ok (.invokevirtual 58, 3) := by decide +kernel
theorem dL_pipers_303 : decode cL_pipers 303 = .ok (.fconst 0, 1) := by decide +kernel
theorem dL_pipers_304 : decode cL_pipers 304 = .ok (.fcmp .l, 1) := by decide +kernel
theorem dL_pipers_305 : decode cL_pipers 305 = .ok (.ifCond .ne 145, 3) := by decide +kernel
theorem dL_pipers_308 : decode cL_pipers 308 = .ok (.aload_n 0, 1) := by decide +kernel
theorem dL_pipers_309 : decode cL_pipers 309 = .ok (.iconst 1, 1) := by decide +kernel
theorem dL_pipers_310 : decode cL_pipers 310 = .ok (.iconst 1, 1) := by decide +kernel
theorem dL_pipers_311 : decode cL_pipers 311 = .ok (.invokevirtual 48, 3) := by decide +kernel
theorem dL_pipers_314 : decode cL_pipers 314 = .ok (.ifCond .ne 136, 3) := by decide +kernel
theorem dL_pipers_317 : decode cL_pipers 317 = .ok (.aload_n 0, 1) := by decide +kernel
theorem dL_pipers_318 : decode cL_pipers 318 = .ok (.iconst 1, 1) := by decide +kernel
theorem dL_pipers_319 : decode cL_pipers 319 = .ok (.iconst 1, 1) := by decide +kernel
theorem dL_pipers_320 : decode cL_pipers 320 = .ok (.invokevirtual 48, 3) := by decide +kernel
theorem dL_pipers_323 : decode cL_pipers 323 = .ok (.ifCond .eq 127, 3) := by decide +kernel
theorem dL_pipers_326 : decode cL_pipers 326 = .ok (.aload_n 0, 1) := by decide +kernel
theorem dL_pipers_327 : decode cL_pipers 327 = .ok (.invokevirtual 93, 3) := by decide +kernel
theorem dL_pipers_330 : decode cL_pipers 330 = .ok (.iconst 3, 1) := by decide +kernel
theorem dL_pipers_331 : decode cL_pipers 331 = .ok (.if_icmp .ne 119, 3) := by decide +kernel
theorem dL_pipers_334 : decode cL_pipers 334 = .ok (.aload_n 0, 1) := by decide +kernel
theorem dL_pipers_335 : decode cL_pipers 335 = .ok (.invokevirtual 138, 3) := by decide +kernel
theorem dL_pipers_338 : decode cL_pipers 338 = .ok (.ifCond .ne 112, 3) := by decide +kernel
theorem dL_pipers_341 : decode cL_pipers 341 = .ok (.aload_n 0, 1) := by decide +kernel
theorem dL_pipers_342 : decode cL_pipers 342 = .ok (.iconst 1, 1) := by decide +kernel
theorem dL_pipers_343 : decode cL_pipers 343 = .ok (.bipush 42, 2) := by decide +kernel
theorem dL_pipers_345 : decode cL_pipers 345 = .ok (.iconst 0, 1) := by decide +kernel
theorem dL_pipers_346 : decode cL_pipers 346 = .ok (.iconst 0, 1) := by decide +kernel
theorem dL_pipers_347 : decode cL_pipers 347 = .ok (.iconst 1, 1) := by decide +kernel
theorem dL_pipers_348 : decode cL_pipers 348 = .ok (.bipush 11, 2) := by decide +kernel
theorem dL_pipers_350 : decode cL_pipers 350 = .ok (.bipush 6, 2) := by decide +kernel
theorem dL_pipers_352 : decode cL_pipers 352 = .ok (.invokestatic 141, 3) := by decide +kernel
theorem dL_pipers_355 : decode cL_pipers 355 = .ok (.ifCond .eq 95, 3) := by decide +kernel
theorem dL_pipers_358 : decode cL_pipers 358 = .ok (.aload_n 0, 1) := by decide +kernel
theorem dL_pipers_359 : decode cL_pipers 359 = .ok (.iconst 2, 1) := by decide +kernel
theorem dL_pipers_360 : decode cL_pipers 360 = .ok (.iconst 0, 1) := by decide +kernel
theorem dL_pipers_361 : decode cL_pipers 361 = .ok (.iconst 0, 1) := by decide +kernel
theorem dL_pipers_362 : decode cL_pipers 362 = .ok (.invokevirtual 62, 3) := by decide +kernel
theorem dL_pipers_365 : decode cL_pipers 365 = .ok (.bipush 9, 2) := by decide +kernel
theorem dL_pipers_367 : decode cL_pipers 367 = .ok (.if_icmp .ne 83, 3) := by decide +kernel
theorem dL_pipers_370 : decode cL_pipers 370 = .ok (.aload_n 0, 1) := by decide +kernel
theorem dL_pipers_371 : decode cL_pipers 371 = .ok (.iconst 0, 1) := by decide +kernel
theorem dL_pipers_372 : decode cL_pipers 372 = .ok (.bipush 48, 2) := by decide +kernel
theorem dL_pipers_374 : decode cL_pipers 374 = .ok (.bipush 10, 2) := by decide +kernel
theorem dL_pipers_376 : decode cL_pipers 376 = .ok (.iconst 0, 1) := by decide +kernel
theorem dL_pipers_377 : decode cL_pipers 377 = .ok (.iconst 1, 1) := by decide +kernel
theorem dL_pipers_378 : decode cL_pipers 378 = .ok (.iconst 5, 1) := by decide +kernel
theorem dL_pipers_379 : decode cL_pipers 379 = .ok (.iconst 0, 1) := by decide +kernel
theorem dL_pipers_380 : decode cL_pipers 380 = .ok (.invokestatic 141, 3) := by decide +kernel
theorem dL_pipers_383 : decode cL_pipers 383 = .ok (.ifCond .eq 67, 3) := by decide +kernel
theorem dL_pipers_386 : decode cL_pipers 386 = .ok (.aload_n 0, 1) := by decide +kernel
theorem dL_pipers_387 : decode cL_pipers 387 = .ok (.iconst 2, 1) := by decide +kernel
theorem dL_pipers_388 : decode cL_pipers 388 = .ok (.iconst 0, 1) := by decide +kernel
theorem dL_pipers_389 : decode cL_pipers 389 = .ok (.iconst 0, 1) := by decide +kernel
theorem dL_pipers_390 : decode cL_pipers 390 = .ok (.invokevirtual 52, 3) := by decide +kernel
theorem dL_pipers_393 : decode cL_pipers 393 = .ok (.bipush 9, 2) := by decide +kernel
theorem dL_pipers_395 : decode cL_pipers 395 = .ok (.if_icmp .ne 55, 3) := by decide +kernel
theorem dL_pipers_398 : decode cL_pipers 398 = .ok (.aload_n 0, 1) := by decide +kernel
theorem dL_pipers_399 : decode cL_pipers 399 = .ok (.iconst 0, 1) := by decide +kernel
theorem dL_pipers_400 : decode cL_pipers 400 = .ok (.bipush 39, 2) := by decide +kernel
theorem dL_pipers_402 : decode cL_pipers 402 = .ok (.bipush 10, 2) := by decide +kernel
theorem dL_pipers_404 : decode cL_pipers 404 = .ok (.iconst 0, 1) := by decide +kernel
theorem dL_pipers_405 : decode cL_pipers 405 = .ok (.iconst 0, 1) := by decide +kernel
theorem dL_pipers_406 : decode cL_pipers 406 = .ok (.bipush 11, 2) := by decide +kernel
theorem dL_pipers_408 : decode cL_pipers 408 = .ok (.iconst 0, 1) := by decide +kernel
theorem dL_pipers_409 : decode cL_pipers 409 = .ok (.invokestatic 141, 3) := by decide +kernel
theorem dL_pipers_412 : decode cL_pipers 412 = .ok (.ifCond .eq 38, 3) := by decide +kernel
theorem dL_pipers_415 : decode cL_pipers 415 = .ok (.aload_n 0, 1) := by decide +kernel
theorem dL_pipers_416 : decode cL_pipers 416 = .ok (.iconst 1, 1) := by decide +kernel
theorem dL_pipers_417 : decode cL_pipers 417 = .ok (.bipush 43, 2) := by decide +kernel
theorem dL_pipers_419 : decode cL_pipers 419 = .ok (.iconst 0, 1) := by decide +kernel
theorem dL_pipers_420 : decode cL_pipers 420 = .ok (.iconst 0, 1) := by decide +kernel
theorem dL_pipers_421 : decode cL_pipers 421 = .ok (.iconst 0, 1) := by decide +kernel
theorem dL_pipers_422 : decode cL_pipers 422 = .ok (.bipush 7, 2) := by decide +kernel
theorem dL_pipers_424 : decode cL_pipers 424 = .ok (.bipush (-4), 2) := by decide +kernel
theorem dL_pipers_426 : decode cL_pipers 426 = .ok (.invokestatic 141, 3) := by decide +kernel
theorem dL_pipers_429 : decode cL_pipers 429 = .ok (.ifCond .eq 21, 3) := by decide +kernel
theorem dL_pipers_432 : decode cL_pipers 432 = .ok (.aload_n 0, 1) := by decide +kernel
theorem dL_pipers_433 : decode cL_pipers 433 = .ok (.iconst 2, 1) := by decide +kernel
theorem dL_pipers_434 : decode cL_pipers 434 = .ok (.bipush 48, 2) := by decide +kernel
theorem dL_pipers_436 : decode cL_pipers 436 = .ok (.bipush (-5), 2) := by decide +kernel
theorem dL_pipers_438 : decode cL_pipers 438 = .ok (.bipush (-5), 2) := by decide +kernel
theorem dL_pipers_440 : decode cL_pipers 440 = .ok (.iconst 0, 1) := by decide +kernel
theorem dL_pipers_441 : decode cL_pipers 441 = .ok (.iconst 2, 1) := by decide +kernel
theorem dL_pipers_442 : decode cL_pipers 442 = .ok (.bipush (-9), 2) := by decide +kernel
theorem dL_pipers_444 : decode cL_pipers 444 = .ok (.invokestatic 141, 3) := by decide +kernel
theorem dL_pipers_447 : decode cL_pipers 447 = .ok (.ifCond .ne 5, 3) := by decide +kernel
theorem dL_pipers_450 : decode cL_pipers 450 = .ok (.iconst 0, 1) := by decide +kernel
theorem dL_pipers_451 : decode cL_pipers 451 = .ok (.ireturn, 1) := by decide +kernel
theorem dL_pipers_452 : decode cL_pipers 452 = .ok (.aload_n 0, 1) := by decide +kernel
theorem dL_pipers_453 : decode cL_pipers 453 = .ok (.bipush (-99), 2) := by decide +kernel
theorem dL_pipers_455 : decode cL_pipers 455 = .ok (.bipush 10, 2) := by decide +kernel
theorem dL_pipers_457 : decode cL_pipers 457 = .ok (.bipush 9, 2) := by decide +kernel
theorem dL_pipers_459 : decode cL_pipers 459 = .ok (.invokevirtual 42, 3) := by decide +kernel
theorem dL_pipers_462 : decode cL_pipers 462 = .ok (.iconst 3, 1) := by decide +kernel
theorem dL_pipers_463 : decode cL_pipers 463 = .ok (.if_icmp .ne 123, 3) := by decide +kernel
theorem dL_pipers_466 : decode cL_pipers 466 = .ok (.aload_n 0, 1) := by decide +kernel
theorem dL_pipers_467 : decode cL_pipers 467 = .ok (.bipush 11, 2) := by decide +kernel
theorem dL_pipers_469 : decode cL_pipers 469 = .ok (.iconst 0, 1) := by decide +kernel
theorem dL_pipers_470 : decode cL_pipers 470 = .ok (.iconst 0, 1) := by decide +kernel
theorem dL_pipers_471 : decode cL_pipers 471 = .ok (.invokevirtual 52, 3) := by decide +kernel
theorem dL_pipers_474 : decode cL_pipers 474 = .ok (.sipush 226, 3) := by decide +kernel
theorem dL_pipers_477 : decode cL_pipers 477 = .ok (.if_icmp .ne 109, 3) := by decide +kernel
theorem dL_pipers_480 : decode cL_pipers 480 = .ok (.aload_n 0, 1) := by decide +kernel
theorem dL_pipers_481 : decode cL_pipers 481 = .ok (.iconst 3, 1) := by decide +kernel
theorem dL_pipers_482 : decode cL_pipers 482 = .ok (.sipush (-178), 3) := by decide +kernel
theorem dL_pipers_485 : decode cL_pipers 485 = .ok (.bipush (-99), 2) := by decide +kernel
theorem dL_pipers_487 : decode cL_pipers 487 = .ok (.iconst 0, 1) := by decide +kernel
theorem dL_pipers_488 : decode cL_pipers 488 = .ok (.iconst 0, 1) := by decide +kernel
theorem dL_pipers_489 : decode cL_pipers 489 = .ok (.bipush 99, 2) := by decide +kernel
theorem dL_pipers_491 : decode cL_pipers 491 = .ok (.sipush 184, 3) := by decide +kernel
theorem dL_pipers_494 : decode cL_pipers 494 = .ok (.invokestatic 141, 3) := by decide +kernel
theorem dL_pipers_497 : decode cL_pipers 497 = .ok (.ifCond .eq 89, 3) := by decide +kernel
theorem dL_pipers_500 : decode cL_pipers 500 = .ok (.aload_n 0, 1) := by decide +kernel
theorem dL_pipers_501 : decode cL_pipers 501 = .ok (.iconst 0, 1) := by decide +kernel
theorem dL_pipers_502 : decode cL_pipers 502 = .ok (.iconst 4, 1) := by decide +kernel
theorem dL_pipers_503 : decode cL_pipers 503 = .ok (.invokevirtual 55, 3) := by decide +kernel
theorem dL_pipers_506 : decode cL_pipers 506 = .ok (.bipush 44, 2) := by decide +kernel
theorem dL_pipers_508 : decode cL_pipers 508 = .ok (.if_icmp .ne 78, 3) := by decide +kernel
theorem dL_pipers_511 : decode cL_pipers 511 = .ok (.aload_n 0, 1) := by decide +kernel
theorem dL_pipers_512 : decode cL_pipers 512 = .ok (.iconst 1, 1) := by decide +kernel
theorem dL_pipers_513 : decode cL_pipers 513 = .ok (.iconst 4, 1) := by decide +kernel
theorem dL_pipers_514 : decode cL_pipers 514 = .ok (.invokevirtual 55, 3) := by decide +kernel
theorem dL_pipers_517 : decode cL_pipers 517 = .ok (.ifCond .ne 69, 3) := by decide +kernel
theorem dL_pipers_520 : decode cL_pipers 520 = .ok (.aload_n 0, 1) := by decide +kernel
theorem dL_pipers_521 : decode cL_pipers 521 = .ok (.iconst 1, 1) := by decide +kernel
theorem dL_pipers_522 : decode cL_pipers 522 = .ok (.iconst 0, 1) := by decide +kernel
theorem dL_pipers_523 : decode cL_pipers 523 = .ok (.iconst 0, 1) := by decide +kernel
theorem dL_pipers_524 : decode cL_pipers 524 = .ok (.invokevirtual 52, 3) := by decide +kernel
theorem dL_pipers_527 : decode cL_pipers 527 = .ok (.sipush 228, 3) := by decide +kernel
theorem dL_pipers_530 : decode cL_pipers 530 = .ok (.if_icmp .ne 56, 3) := by decide +kernel
theorem dL_pipers_533 : decode cL_pipers 533 = .ok (.aload_n 0, 1) := by decide +kernel
theorem dL_pipers_534 : decode cL_pipers 534 = .ok (.iconst 3, 1) := by decide +kernel
theorem dL_pipers_535 : decode cL_pipers 535 = .ok (.sipush (-180), 3) := by decide +kernel
theorem dL_pipers_538 : decode cL_pipers 538 = .ok (.bipush (-100), 2) := by decide +kernel
theorem dL_pipers_540 : decode cL_pipers 540 = .ok (.iconst 0, 1) := by decide +kernel
theorem dL_pipers_541 : decode cL_pipers 541 = .ok (.iconst 0, 1) := by decide +kernel
theorem dL_pipers_542 : decode cL_pipers 542 = .ok (.bipush 100, 2) := by decide +kernel
theorem dL_pipers_544 : decode cL_pipers 544 = .ok (.sipush 183, 3) := by decide +kernel
theorem dL_pipers_547 : decode cL_pipers 547 = .ok (.invokestatic 141, 3) := by decide +kernel
theorem dL_pipers_550 : decode cL_pipers 550 = .ok (.ifCond .eq 36, 3) := by decide +kernel
theorem dL_pipers_553 : decode cL_pipers 553 = .ok (.aload_n 0, 1) := by decide +kernel
theorem dL_pipers_554 : decode cL_pipers 554 = .ok (.iconst 1, 1) := by decide +kernel
theorem dL_pipers_555 : decode cL_pipers 555 = .ok (.iconst 0, 1) := by decide +kernel
theorem dL_pipers_556 : decode cL_pipers 556 = .ok (.iconst 0, 1) := by decide +kernel
theorem dL_pipers_557 : decode cL_pipers 557 = .ok (.invokevirtual 52, 3) := by decide +kernel
theorem dL_pipers_560 : decode cL_pipers 560 = .ok (.sipush 228, 3) := by decide +kernel
theorem dL_pipers_563 : decode cL_pipers 563 = .ok (.if_icmp .ne 23, 3) := by decide +kernel
theorem dL_pipers_566 : decode cL_pipers 566 = .ok (.aload_n 0, 1) := by decide +kernel
theorem dL_pipers_567 : decode cL_pipers 567 = .ok (.iconst 3, 1) := by decide +kernel
theorem dL_pipers_568 : decode cL_pipers 568 = .ok (.sipush (-180), 3) := by decide +kernel
theorem dL_pipers_571 : decode cL_pipers 571 = .ok (.bipush (-100), 2) := by decide +kernel
theorem dL_pipers_573 : decode cL_pipers 573 = .ok (.iconst 0, 1) := by decide +kernel
theorem dL_pipers_574 : decode cL_pipers 574 = .ok (.iconst 0, 1) := by decide +kernel
theorem dL_pipers_575 : decode cL_pipers 575 = .ok (.bipush 100, 2) := by decide +kernel
theorem dL_pipers_577 : decode cL_pipers 577 = .ok (.sipush 180, 3) := by decide +kernel
theorem dL_pipers_580 : decode cL_pipers 580 = .ok (.invokestatic 141, 3) := by decide +kernel
theorem dL_pipers_583 : decode cL_pipers 583 = .ok (.ifCond .ne 5, 3) := by decide +kernel
theorem dL_pipers_586 : decode cL_pipers 586 = .ok (.iconst 0, 1) := by decide +kernel
theorem dL_pipers_587 : decode cL_pipers 587 = .ok (.ireturn, 1) := by decide +kernel
theorem dL_pipers_588 : decode cL_pipers 588 = .ok (.iconst 0, 1) := by decide +kernel
theorem dL_pipers_589 : decode cL_pipers 589 = .ok (.istore_n 1, 1) := by decide +kernel
theorem dL_pipers_590 : decode cL_pipers 590 = .ok (.iload_n 1, 1) := by decide +kernel
theorem dL_pipers_591 : decode cL_pipers 591 = .ok (.iconst 4, 1) := by decide +kernel
theorem dL_pipers_592 : decode cL_pipers 592 = .ok (.if_icmp .ge 30, 3) := by decide +kernel
theorem dL_pipers_595 : decode cL_pipers 595 = .ok (.aload_n 0, 1) := by decide +kernel
theorem dL_pipers_596 : decode cL_pipers 596 = .ok (.iload_n 1, 1) := by decide +kernel
theorem dL_pipers_597 : decode cL_pipers 597 = .ok (.iconst 1, 1) := by decide +kernel
theorem dL_pipers_598 : decode cL_pipers 598 = .ok (.invokevirtual 48, 3) := by decide +kernel
theorem dL_pipers_601 : decode cL_pipers 601 = .ok (.iload_n 1, 1) := by decide +kernel
theorem dL_pipers_602 : decode cL_pipers 602 = .ok (.iconst 1, 1) := by decide +kernel
theorem dL_pipers_603 : decode cL_pipers 603 = .ok (.if_icmp .ne 7, 3) := by decide +kernel
theorem dL_pipers_606 : decode cL_pipers 606 = .ok (.iconst 1, 1) := by decide +kernel
theorem dL_pipers_607 : decode cL_pipers 607 = .ok (.goto 4, 3) := by decide +kernel
theorem dL_pipers_610 : decode cL_pipers 610 = .ok (.iconst 0, 1) := by decide +kernel
theorem dL_pipers_611 : decode cL_pipers 611 = .ok (.if_icmp .eq 5, 3) := by decide +kernel
theorem dL_pipers_614 : decode cL_pipers 614 = .ok (.iconst 0, 1) := by decide +kernel
theorem dL_pipers_615 : decode cL_pipers 615 = .ok (.ireturn, 1) := by decide +kernel
theorem dL_pipers_616 : decode cL_pipers 616 = .ok (.iinc 1 1, 3) := by decide +kernel
theorem dL_pipers_619 : decode cL_pipers 619 = .ok (.goto (-29), 3) := by decide +kernel
theorem dL_pipers_622 : decode cL_pipers 622 = .ok (.aload_n 0, 1) := by decide +kernel
theorem dL_pipers_623 : decode cL_pipers 623 = .ok (.invokevirtual 93, 3) := by decide +kernel
theorem dL_pipers_626 : decode cL_pipers 626 = .ok (.ifCond .ne 74, 3) := by decide +kernel
theorem dL_pipers_629 : decode cL_pipers 629 = .ok (.aload_n 0, 1) := by decide +kernel
theorem dL_pipers_630 : decode cL_pipers 630 = .ok (.invokevirtual 138, 3) := by decide +kernel
theorem dL_pipers_633 : decode cL_pipers 633 = .ok (.iconst (-1), 1) := by decide +kernel
theorem dL_pipers_634 : decode cL_pipers 634 = .ok (.if_icmp .ne 66, 3) := by decide +kernel
theorem dL_pipers_637 : decode cL_pipers 637 = .ok (.aload_n 0, 1) := by decide +kernel
theorem dL_pipers_638 : decode cL_pipers 638 = .ok (.iconst 3, 1) := by decide +kernel
theorem dL_pipers_639 : decode cL_pipers 639 = .ok (.iconst 5, 1) := by decide +kernel
theorem dL_pipers_640 : decode cL_pipers 640 = .ok (.invokevirtual 55, 3) := by decide +kernel
theorem dL_pipers_643 : decode cL_pipers 643 = .ok (.ifCond .ne 57, 3) := by decide +kernel
theorem dL_pipers_646 : decode cL_pipers 646 = .ok (.aload_n 0, 1) := by decide +kernel
theorem dL_pipers_647 : decode cL_pipers 647 = .ok (.iconst 3, 1) := by decide +kernel
theorem dL_pipers_648 : decode cL_pipers 648 = .ok (.bipush 9, 2) := by decide +kernel
theorem dL_pipers_650 : decode cL_pipers 650 = .ok (.bipush 40, 2) := by decide +kernel
theorem dL_pipers_652 : decode cL_pipers 652 = .ok (.invokevirtual 52, 3) := by decide +kernel
theorem dL_pipers_655 : decode cL_pipers 655 = .ok (.ifCond .ne 45, 3) := by decide +kernel
theorem dL_pipers_658 : decode cL_pipers 658 = .ok (.aload_n 0, 1) := by decide +kernel
theorem dL_pipers_659 : decode cL_pipers 659 = .ok (.iconst 3, 1) := by decide +kernel
theorem dL_pipers_660 : decode cL_pipers 660 = .ok (.iconst 4, 1) := by decide +kernel
theorem dL_pipers_661 : decode cL_pipers 661 = .ok (.invokevirtual 55, 3) := by decide +kernel
theorem dL_pipers_664 : decode cL_pipers 664 = .ok (.bipush 94, 2) := by decide +kernel
theorem dL_pipers_666 : decode cL_pipers 666 = .ok (.if_icmp .ne 34, 3) := by decide +kernel
theorem dL_pipers_669 : decode cL_pipers 669 = .ok (.aload_n 0, 1) := by decide +kernel
theorem dL_pipers_670 : decode cL_pipers 670 = .ok (.iconst 3, 1) := by decide +kernel
theorem dL_pipers_671 : decode cL_pipers 671 = .ok (.iconst 1, 1) := by decide +kernel
theorem dL_pipers_672 : decode cL_pipers 672 = .ok (.invokevirtual 55, 3) := by decide +kernel
theorem dL_pipers_675 : decode cL_pipers 675 = .ok (.bipush (-100), 2) := by decide +kernel
theorem dL_pipers_677 : decode cL_pipers 677 = .ok (.if_icmp .ne 23, 3) := by decide +kernel
theorem dL_pipers_680 : decode cL_pipers 680 = .ok (.aload_n 0, 1) := by decide +kernel
theorem dL_pipers_681 : decode cL_pipers 681 = .ok (.iconst 3, 1) := by decide +kernel
theorem dL_pipers_682 : decode cL_pipers 682 = .ok (.iconst 3, 1) := by decide +kernel
theorem dL_pipers_683 : decode cL_pipers 683 = .ok (.invokevirtual 55, 3) := by decide +kernel
theorem dL_pipers_686 : decode cL_pipers 686 = .ok (.ifCond .ne 14, 3) := by decide +kernel
theorem dL_pipers_689 : decode cL_pipers 689 = .ok (.aload_n 0, 1) := by decide +kernel
theorem dL_pipers_690 : decode cL_pipers 690 = .ok (.invokestatic 144, 3) := by decide +kernel
theorem dL_pipers_693 : decode cL_pipers 693 = .ok (.ifCond .eq 7, 3) := by decide +kernel
theorem dL_pipers_696 : decode cL_pipers 696 = .ok (.iconst 1, 1) := by decide +kernel
theorem dL_pipers_697 : decode cL_pipers 697 = .ok (.goto 4, 3) := by decide +kernel
theorem dL_pipers_700 : decode cL_pipers 700 = .ok (.iconst 0, 1) := by decide +kernel
theorem dL_pipers_701 : decode cL_pipers 701 = .ok (.ireturn, 1) := by decide +kernel
theorem dL_full_0 : decode cL_full 0 = .ok (.iconst 4, 1) := by decide +kernel
theorem dL_full_1 : decode cL_full 1 = .ok (.istore_n 1, 1) := by decide +kernel
theorem dL_full_2 : decode cL_full 2 = .ok (.iload_n 1, 1) := by decide +kernel
theorem dL_full_3 : decode cL_full 3 = .ok (.bipush 9, 2) := by decide +kernel
theorem dL_full_5 : decode cL_full 5 = .ok (.if_icmp .ge 39, 3) := by decide +kernel
theorem dL_full_8 : decode cL_full 8 = .ok (.aload_n 0, 1) := by decide +kernel
theorem dL_full_9 : decode cL_full 9 = .ok (.bipush 9, 2) := by decide +kernel
theorem dL_full_11 : decode cL_full 11 = .ok (.bipush 100, 2) := by decide +kernel
theorem dL_full_13 : decode cL_full 13 = .ok (.bipush 40, 2) := by decide +kernel
theorem dL_full_15 : decode cL_full 15 = .ok (.bipush 9, 2) := by decide +kernel
theorem dL_full_17 : decode cL_full 17 = .ok (.iconst 0, 1) := by decide +kernel
theorem dL_full_18 : decode cL_full 18 = .ok (.invokestatic 100, 3) := by decide +kernel
theorem dL_full_21 : decode cL_full 21 = .ok (.iload_n 1, 1) := by decide +kernel
theorem dL_full_22 : decode cL_full 22 = .ok (.bipush 8, 2) := by decide +kernel
theorem dL_full_24 : decode cL_full 24 = .ok (.if_icmp .ge 7, 3) := by decide +kernel
theorem dL_full_27 : decode cL_full 27 = .ok (.iload_n 1, 1) := by decide +kernel
theorem dL_full_28 : decode cL_full 28 = .ok (.goto 5, 3) := by decide +kernel
theorem dL_full_31 : decode cL_full 31 = .ok (.ldc 91, 2) := by decide +kernel
theorem dL_full_33 : decode cL_full 33 = .ok (.if_icmp .eq 5, 3) := by decide +kernel
theorem dL_full_36 : decode cL_full 36 = .ok (.iconst 0, 1) := by decide +kernel
theorem dL_full_37 : decode cL_full 37 = .ok (.ireturn, 1) := by decide +kernel
theorem dL_full_38 : decode cL_full 38 = .ok (.iinc 1 1, 3) := by decide +kernel
theorem dL_full_41 : decode cL_full 41 = .ok (.goto (-39), 3) := by decide +kernel
theorem dL_full_44 : decode cL_full 44 = .ok (.aload_n 0, 1) := by decide +kernel
theorem dL_full_45 : decode cL_full 45 = .ok (.invokevirtual 93, 3) := by decide +kernel
theorem dL_full_48 : decode cL_full 48 = .ok (.ifCond .ne 105, 3) := by decide +kernel
theorem dL_full_51 : decode cL_full 51 = .ok (.aload_n 0, 1) := by decide +kernel
theorem dL_full_52 : decode cL_full 52 = .ok (.invokevirtual 138, 3) := by decide +kernel
theorem dL_full_55 : decode cL_full 55 = .ok (.iconst 4, 1) := by decide +kernel
theorem dL_full_56 : decode cL_full 56 = .ok (.if_icmp .ne 97, 3) := by decide +kernel
theorem dL_full_59 : decode cL_full 59 = .ok (.aload_n 0, 1) := by decide +kernel
theorem dL_full_60 : decode cL_full 60 = .ok (.bipush 40, 2) := by decide +kernel
theorem dL_full_62 : decode cL_full 62 = .ok (.bipush 9, 2) := by decide +kernel
theorem dL_full_64 : decode cL_full 64 = .ok (.bipush 40, 2) := by decide +kernel
theorem dL_full_66 : decode cL_full 66 = .ok (.invokevirtual 52, 3) := by decide +kernel
theorem dL_full_69 : decode cL_full 69 = .ok (.ifCond .ne 84, 3) := by decide +kernel
theorem dL_full_72 : decode cL_full 72 = .ok (.aload_n 0, 1) := by decide +kernel
theorem dL_full_73 : decode cL_full 73 = .ok (.iconst 4, 1) := by decide +kernel
theorem dL_full_74 : decode cL_full 74 = .ok (.iconst 3, 1) := by decide +kernel
theorem dL_full_75 : decode cL_full 75 = .ok (.invokevirtual 55, 3) := by decide +kernel
theorem dL_full_78 : decode cL_full 78 = .ok (.bipush 40, 2) := by decide +kernel
theorem dL_full_80 : decode cL_full 80 = .ok (.if_icmp .ne 73, 3) := by decide +kernel
theorem dL_full_83 : decode cL_full 83 = .ok (.aload_n 0, 1) := by decide +kernel
theorem dL_full_84 : decode cL_full 84 = .ok (.iconst 4, 1) := by decide +kernel
theorem dL_full_85 : decode cL_full 85 = .ok (.iconst 4, 1) := by decide +kernel
theorem dL_full_86 : decode cL_full 86 = .ok (.invokevirtual 55, 3) := by decide +kernel
theorem dL_full_89 : decode cL_full 89 = .ok (.bipush 100, 2) := by decide +kernel
theorem dL_full_91 : decode cL_full 91 = .ok (.if_icmp .ne 62, 3) := by decide +kernel
theorem dL_full_94 : decode cL_full 94 = .ok (.aload_n 0, 1) := by decide +kernel
theorem dL_full_95 : decode cL_full 95 = .ok (.iconst 4, 1) := by decide +kernel
theorem dL_full_96 : decode cL_full 96 = .ok (.iconst 1, 1) := by decide +kernel
theorem dL_full_97 : decode cL_full 97 = .ok (.invokevirtual 55, 3) := by decide +kernel
theorem dL_full_100 : decode cL_full 100 = .ok (.bipush 65, 2) := by decide +kernel
theorem dL_full_102 : decode cL_full 102 = .ok (.if_icmp .ne 51, 3) := by decide +kernel
theorem dL_full_105 : decode cL_full 105 = .ok (.aload_n 0, 1) := by decide +kernel
theorem dL_full_106 : decode cL_full 106 = .ok (.iconst 4, 1) := by decide +kernel
theorem dL_full_107 : decode cL_full 107 = .ok (.iconst 0, 1) := by decide +kernel
theorem dL_full_108 : decode cL_full 108 = .ok (.invokevirtual 55, 3) := by decide +kernel
theorem dL_full_111 : decode cL_full 111 = .ok (.sipush 165, 3) := by decide +kernel
theorem dL_full_114 : decode cL_full 114 = .ok (.if_icmp .ne 39, 3) := by decide +kernel
theorem dL_full_117 : decode cL_full 117 = .ok (.aload_n 0, 1) := by decide +kernel
theorem dL_full_118 : decode cL_full 118 = .ok (.iconst 1, 1) := by decide +kernel
theorem dL_full_119 : decode cL_full 119 = .ok (.iconst 0, 1) := by decide +kernel
theorem dL_full_120 : decode cL_full 120 = .ok (.iconst 3, 1) := by decide +kernel
theorem dL_full_121 : decode cL_full 121 = .ok (.invokevirtual 52, 3) := by decide +kernel
theorem dL_full_124 : decode cL_full 124 = .ok (.ifCond .ne 29, 3) := by decide +kernel
theorem dL_full_127 : decode cL_full 127 = .ok (.aload_n 0, 1) := by decide +kernel
theorem dL_full_128 : decode cL_full 128 = .ok (.iconst 4, 1) := by decide +kernel
theorem dL_full_129 : decode cL_full 129 = .ok (.iconst 3, 1) := by decide +kernel
theorem dL_full_130 : decode cL_full 130 = .ok (.invokevirtual 55, 3) := by decide +kernel
theorem dL_full_133 : decode cL_full 133 = .ok (.bipush 39, 2) := by decide +kernel
theorem dL_full_135 : decode cL_full 135 = .ok (.if_icmp .ne 18, 3) := by decide +kernel
theorem dL_full_138 : decode cL_full 138 = .ok (.aload_n 0, 1) := by decide +kernel
theorem dL_full_139 : decode cL_full 139 = .ok (.iconst 0, 1) := by decide +kernel
theorem dL_full_140 : decode cL_full 140 = .ok (.bipush 8, 2) := by decide +kernel
theorem dL_full_142 : decode cL_full 142 = .ok (.iconst 0, 1) := by decide +kernel
theorem dL_full_143 : decode cL_full 143 = .ok (.invokestatic 107, 3) := by decide +kernel
theorem dL_full_146 : decode cL_full 146 = .ok (.ifCond .eq 7, 3) := by decide +kernel
theorem dL_full_149 : decode cL_full 149 = .ok (.iconst 1, 1) := by decide +kernel
theorem dL_full_150 : decode cL_full 150 = .ok (.goto 4, 3) := by decide +kernel
theorem dL_full_153 : decode cL_full 153 = .ok (.iconst 0, 1) := by decide +kernel
theorem dL_full_154 : decode cL_full 154 = .ok (.ireturn, 1) := by decide +kernel
theorem dL_band_0 : decode cL_band 0 = .ok (.aload_n 0, 1) := by decide +kernel
theorem dL_band_1 : decode cL_band 1 = .ok (.iload_n 1, 1) := by decide +kernel
theorem dL_band_2 : decode cL_band 2 = .ok (.iconst 0, 1) := by decide +kernel
theorem dL_band_3 : decode cL_band 3 = .ok (.invokevirtual 80, 3) := by decide +kernel
theorem dL_band_6 : decode cL_band 6 = .ok (.iload_n 2, 1) := by decide +kernel
theorem dL_band_7 : decode cL_band 7 = .ok (.if_icmp .ne 50, 3) := by decide +kernel
theorem dL_band_10 : decode cL_band 10 = .ok (.aload_n 0, 1) := by decide +kernel
theorem dL_band_11 : decode cL_band 11 = .ok (.iload_n 1, 1) := by decide +kernel
theorem dL_band_12 : decode cL_band 12 = .ok (.iconst 1, 1) := by decide +kernel
theorem dL_band_13 : decode cL_band 13 = .ok (.invokevirtual 80, 3) := by decide +kernel
theorem dL_band_16 : decode cL_band 16 = .ok (.iload_n 3, 1) := by decide +kernel
theorem dL_band_17 : decode cL_band 17 = .ok (.if_icmp .ne 40, 3) := by decide +kernel
theorem dL_band_20 : decode cL_band 20 = .ok (.aload_n 0, 1) := by decide +kernel
theorem dL_band_21 : decode cL_band 21 = .ok (.iload_n 1, 1) := by decide +kernel
theorem dL_band_22 : decode cL_band 22 = .ok (.iconst 2, 1) := by decide +kernel
theorem dL_band_23 : decode cL_band 23 = .ok (.invokevirtual 80, 3) := by decide +kernel
theorem dL_band_26 : decode cL_band 26 = .ok (.iload 4, 2) := by decide +kernel
theorem dL_band_28 : decode cL_band 28 = .ok (.if_icmp .ne 29, 3) := by decide +kernel
theorem dL_band_31 : decode cL_band 31 = .ok (.aload_n 0, 1) := by decide +kernel
theorem dL_band_32 : decode cL_band 32 = .ok (.iload_n 1, 1) := by decide +kernel
theorem dL_band_33 : decode cL_band 33 = .ok (.iconst 3, 1) := by decide +kernel
theorem dL_band_34 : decode cL_band 34 = .ok (.invokevirtual 80, 3) := by decide +kernel
theorem dL_band_37 : decode cL_band 37 = .ok (.iload 5, 2) := by decide +kernel
theorem dL_band_39 : decode cL_band 39 = .ok (.if_icmp .ne 18, 3) := by decide +kernel
theorem dL_band_42 : decode cL_band 42 = .ok (.aload_n 0, 1) := by decide +kernel
theorem dL_band_43 : decode cL_band 43 = .ok (.iload_n 1, 1) := by decide +kernel
theorem dL_band_44 : decode cL_band 44 = .ok (.iconst 4, 1) := by decide +kernel
theorem dL_band_45 : decode cL_band 45 = .ok (.invokevirtual 80, 3) := by decide +kernel
theorem dL_band_48 : decode cL_band 48 = .ok (.iload 6, 2) := by decide +kernel
theorem dL_band_50 : decode cL_band 50 = .ok (.if_icmp .ne 7, 3) := by decide +kernel
theorem dL_band_53 : decode cL_band 53 = .ok (.iconst 1, 1) := by decide +kernel
theorem dL_band_54 : decode cL_band 54 = .ok (.goto 4, 3) := by decide +kernel
theorem dL_band_57 : decode cL_band 57 = .ok (.iconst 0, 1) := by decide +kernel
theorem dL_band_58 : decode cL_band 58 = .ok (.ireturn, 1) := by decide +kernel
theorem dL_marks_0 : decode cL_marks 0 = .ok (.aload_n 0, 1) := by decide +kernel
theorem dL_marks_1 : decode cL_marks 1 = .ok (.iload_n 1, 1) := by decide +kernel
theorem dL_marks_2 : decode cL_marks 2 = .ok (.iconst 0, 1) := by decide +kernel
theorem dL_marks_3 : decode cL_marks 3 = .ok (.iload_n 2, 1) := by decide +kernel
theorem dL_marks_4 : decode cL_marks 4 = .ok (.invokevirtual 71, 3) := by decide +kernel
theorem dL_marks_7 : decode cL_marks 7 = .ok (.pop, 1) := by decide +kernel
theorem dL_marks_8 : decode cL_marks 8 = .ok (.aload_n 0, 1) := by decide +kernel
theorem dL_marks_9 : decode cL_marks 9 = .ok (.iload_n 1, 1) := by decide +kernel
theorem dL_marks_10 : decode cL_marks 10 = .ok (.iconst 1, 1) := by decide +kernel
theorem dL_marks_11 : decode cL_marks 11 = .ok (.iload_n 3, 1) := by decide +kernel
theorem dL_marks_12 : decode cL_marks 12 = .ok (.invokevirtual 71, 3) := by decide +kernel
theorem dL_marks_15 : decode cL_marks 15 = .ok (.pop, 1) := by decide +kernel
theorem dL_marks_16 : decode cL_marks 16 = .ok (.aload_n 0, 1) := by decide +kernel
theorem dL_marks_17 : decode cL_marks 17 = .ok (.iload_n 1, 1) := by decide +kernel
theorem dL_marks_18 : decode cL_marks 18 = .ok (.iconst 2, 1) := by decide +kernel
theorem dL_marks_19 : decode cL_marks 19 = .ok (.iload 4, 2) := by decide +kernel
theorem dL_marks_21 : decode cL_marks 21 = .ok (.invokevirtual 71, 3) := by decide +kernel
theorem dL_marks_24 : decode cL_marks 24 = .ok (.ireturn, 1) := by decide +kernel
theorem dL_bands_0 : decode cL_bands 0 = .ok (.new 8, 3) := by decide +kernel
theorem dL_bands_3 : decode cL_bands 3 = .ok (.dup, 1) := by decide +kernel
theorem dL_bands_4 : decode cL_bands 4 = .ok (.invokespecial 106, 3) := by decide +kernel
theorem dL_bands_7 : decode cL_bands 7 = .ok (.astore_n 0, 1) := by decide +kernel
theorem dL_bands_8 : decode cL_bands 8 = .ok (.aload_n 0, 1) := by decide +kernel
theorem dL_bands_9 : decode cL_bands 9 = .ok (.bipush 19, 2) := by decide +kernel
theorem dL_bands_11 : decode cL_bands 11 = .ok (.iconst 0, 1) := by decide +kernel
theorem dL_bands_12 : decode cL_bands 12 = .ok (.iconst 0, 1) := by decide +kernel
theorem dL_bands_13 : decode cL_bands 13 = .ok (.iconst 0, 1) := by decide +kernel
theorem dL_bands_14 : decode cL_bands 14 = .ok (.iconst 0, 1) := by decide +kernel
theorem dL_bands_15 : decode cL_bands 15 = .ok (.invokestatic 100, 3) := by decide +kernel
theorem dL_bands_18 : decode cL_bands 18 = .ok (.ldc 91, 2) := by decide +kernel
theorem dL_bands_20 : decode cL_bands 20 = .ok (.if_icmp .ne 411, 3) := by decide +kernel
theorem dL_bands_23 : decode cL_bands 23 = .ok (.aload_n 0, 1) := by decide +kernel
theorem dL_bands_24 : decode cL_bands 24 = .ok (.bipush 17, 2) := by decide +kernel
theorem dL_bands_26 : decode cL_bands 26 = .ok (.iconst 3, 1) := by decide +kernel
theorem dL_bands_27 : decode cL_bands 27 = .ok (.iconst 0, 1) := by decide +kernel
theorem dL_bands_28 : decode cL_bands 28 = .ok (.iconst 0, 1) := by decide +kernel
theorem dL_bands_29 : decode cL_bands 29 = .ok (.iconst 0, 1) := by decide +kernel
theorem dL_bands_30 : decode cL_bands 30 = .ok (.invokestatic 100, 3) := by decide +kernel
theorem dL_bands_33 : decode cL_bands 33 = .ok (.ldc 91, 2) := by decide +kernel
theorem dL_bands_35 : decode cL_bands 35 = .ok (.if_icmp .ne 396, 3) := by decide +kernel
theorem dL_bands_38 : decode cL_bands 38 = .ok (.aload_n 0, 1) := by decide +kernel
theorem dL_bands_39 : decode cL_bands 39 = .ok (.invokevirtual 77, 3) := by decide +kernel
theorem dL_bands_42 : decode cL_bands 42 = .ok (.ifCond .ne 389, 3) := by decide +kernel
theorem dL_bands_45 : decode cL_bands 45 = .ok (.aload_n 0, 1) := by decide +kernel
theorem dL_bands_46 : decode cL_bands 46 = .ok (.iconst 3, 1) := by decide +kernel
theorem dL_bands_47 : decode cL_bands 47 = .ok (.invokevirtual 65, 3) := by decide +kernel
theorem dL_bands_50 : decode cL_bands 50 = .ok (.ifCond .ne 381, 3) := by decide +kernel
theorem dL_bands_53 : decode cL_bands 53 = .ok (.aload_n 0, 1) := by decide +kernel
theorem dL_bands_54 : decode cL_bands 54 = .ok (.iconst 3, 1) := by decide +kernel
theorem dL_bands_55 : decode cL_bands 55 = .ok (.invokevirtual 65, 3) := by decide +kernel
theorem dL_bands_58 : decode cL_bands 58 = .ok (.iconst 1, 1) := by decide +kernel
theorem dL_bands_59 : decode cL_bands 59 = .ok (.if_icmp .ne 372, 3) := by decide +kernel
theorem dL_bands_62 : decode cL_bands 62 = .ok (.aload_n 0, 1) := by decide +kernel
theorem dL_bands_63 : decode cL_bands 63 = .ok (.iconst 3, 1) := by decide +kernel
theorem dL_bands_64 : decode cL_bands 64 = .ok (.invokevirtual 65, 3) := by decide +kernel
theorem dL_bands_67 : decode cL_bands 67 = .ok (.iconst 2, 1) := by decide +kernel
theorem dL_bands_68 : decode cL_bands 68 = .ok (.if_icmp .ne 363, 3) := by decide +kernel
theorem dL_bands_71 : decode cL_bands 71 = .ok (.aload_n 0, 1) := by decide +kernel
theorem dL_bands_72 : decode cL_bands 72 = .ok (.iconst 2, 1) := by decide +kernel
theorem dL_bands_73 : decode cL_bands 73 = .ok (.invokevirtual 65, 3) := by decide +kernel
theorem dL_bands_76 : decode cL_bands 76 = .ok (.iconst 3, 1) := by decide +kernel
theorem dL_bands_77 : decode cL_bands 77 = .ok (.if_icmp .ne 354, 3) := by decide +kernel
theorem dL_bands_80 : decode cL_bands 80 = .ok (.aload_n 0, 1) := by decide +kernel
theorem dL_bands_81 : decode cL_bands 81 = .ok (.iconst 4, 1) := by decide +kernel
theorem dL_bands_82 : decode cL_bands 82 = .ok (.invokevirtual 65, 3) := by decide +kernel
theorem dL_bands_85 : decode cL_bands 85 = .ok (.iconst 4, 1) := by decide +kernel
theorem dL_bands_86 : decode cL_bands 86 = .ok (.if_icmp .ne 345, 3) := by decide +kernel
theorem dL_bands_89 : decode cL_bands 89 = .ok (.aload_n 0, 1) := by decide +kernel
theorem dL_bands_90 : decode cL_bands 90 = .ok (.bipush 17, 2) := by decide +kernel
theorem dL_bands_92 : decode cL_bands 92 = .ok (.iconst 4, 1) := by decide +kernel
theorem dL_bands_93 : decode cL_bands 93 = .ok (.iconst 0, 1) := by decide +kernel
theorem dL_bands_94 : decode cL_bands 94 = .ok (.iconst 0, 1) := by decide +kernel
theorem dL_bands_95 : decode cL_bands 95 = .ok (.iconst 0, 1) := by decide +kernel
theorem dL_bands_96 : decode cL_bands 96 = .ok (.invokestatic 100, 3) := by decide +kernel
theorem dL_bands_99 : decode cL_bands 99 = .ok (.ldc 91, 2) := by decide +kernel
theorem dL_bands_101 : decode cL_bands 101 = .ok (.if_icmp .ne 330, 3) := by decide +kernel
theorem dL_bands_104 : decode cL_bands 104 = .ok (.aload_n 0, 1) := by decide +kernel
theorem dL_bands_105 : decode cL_bands 105 = .ok (.bipush 18, 2) := by decide +kernel
theorem dL_bands_107 : decode cL_bands 107 = .ok (.iconst 0, 1) := by decide +kernel
theorem dL_bands_108 : decode cL_bands 108 = .ok (.iconst 0, 1) := by decide +kernel
theorem dL_bands_109 : decode cL_bands 109 = .ok (.bipush 50, 2) := by decide +kernel
theorem dL_bands_111 : decode cL_bands 111 = .ok (.iconst 0, 1) := by decide +kernel
theorem dL_bands_112 : decode cL_bands 112 = .ok (.invokestatic 100, 3) := by decide +kernel
theorem dL_bands_115 : decode cL_bands 115 = .ok (.ldc 91, 2) := by decide +kernel
theorem dL_bands_117 : decode cL_bands 117 = .ok (.if_icmp .ne 314, 3) := by decide +kernel
theorem dL_bands_120 : decode cL_bands 120 = .ok (.aload_n 0, 1) := by decide +kernel
theorem dL_bands_121 : decode cL_bands 121 = .ok (.iconst 0, 1) := by decide +kernel
theorem dL_bands_122 : decode cL_bands 122 = .ok (.iconst 3, 1) := by decide +kernel
theorem dL_bands_123 : decode cL_bands 123 = .ok (.iconst 0, 1) := by decide +kernel
theorem dL_bands_124 : decode cL_bands 124 = .ok (.iconst (-1), 1) := by decide +kernel
theorem dL_bands_125 : decode cL_bands 125 = .ok (.iconst (-1), 1) := by decide +kernel
theorem dL_bands_126 : decode cL_bands 126 = .ok (.iconst 0, 1) := by decide +kernel
theorem dL_bands_127 : decode cL_bands 127 = .ok (.invokestatic 148, 3) := by decide +kernel
theorem dL_bands_130 : decode cL_bands 130 = .ok (.ifCond .eq 301, 3) := by decide +kernel
theorem dL_bands_133 : decode cL_bands 133 = .ok (.aload_n 0, 1) := by decide +kernel
theorem dL_bands_134 : decode cL_bands 134 = .ok (.iconst 3, 1) := by decide +kernel
theorem dL_bands_135 : decode cL_bands 135 = .ok (.invokevirtual 68, 3) := by decide +kernel
theorem dL_bands_138 : decode cL_bands 138 = .ok (.iconst 3, 1) := by decide +kernel
theorem dL_bands_139 : decode cL_bands 139 = .ok (.if_icmp .ne 292, 3) := by decide +kernel
theorem dL_bands_142 : decode cL_bands 142 = .ok (.aload_n 0, 1) := by decide +kernel
theorem dL_bands_143 : decode cL_bands 143 = .ok (.bipush 17, 2) := by decide +kernel
theorem dL_bands_145 : decode cL_bands 145 = .ok (.iconst 3, 1) := by decide +kernel
theorem dL_bands_146 : decode cL_bands 146 = .ok (.iconst 0, 1) := by decide +kernel
theorem dL_bands_147 : decode cL_bands 147 = .ok (.iconst 0, 1) := by decide +kernel
theorem dL_bands_148 : decode cL_bands 148 = .ok (.iconst 0, 1) := by decide +kernel
theorem dL_bands_149 : decode cL_bands 149 = .ok (.invokestatic 100, 3) := by decide +kernel
theorem dL_bands_152 : decode cL_bands 152 = .ok (.ldc 91, 2) := by decide +kernel
theorem dL_bands_154 : decode cL_bands 154 = .ok (.if_icmp .ne 277, 3) := by decide +kernel
theorem dL_bands_157 : decode cL_bands 157 = .ok (.aload_n 0, 1) := by decide +kernel
theorem dL_bands_158 : decode cL_bands 158 = .ok (.iconst 3, 1) := by decide +kernel
theorem dL_bands_159 : decode cL_bands 159 = .ok (.invokevirtual 65, 3) := by decide +kernel
theorem dL_bands_162 : decode cL_bands 162 = .ok (.iconst 5, 1) := by decide +kernel
theorem dL_bands_163 : decode cL_bands 163 = .ok (.if_icmp .ne 268, 3) := by decide +kernel
theorem dL_bands_166 : decode cL_bands 166 = .ok (.aload_n 0, 1) := by decide +kernel
theorem dL_bands_167 : decode cL_bands 167 = .ok (.bipush 18, 2) := by decide +kernel
theorem dL_bands_169 : decode cL_bands 169 = .ok (.iconst 0, 1) := by decide +kernel
theorem dL_bands_170 : decode cL_bands 170 = .ok (.iconst 5, 1) := by decide +kernel
theorem dL_bands_171 : decode cL_bands 171 = .ok (.bipush 50, 2) := by decide +kernel
theorem dL_bands_173 : decode cL_bands 173 = .ok (.iconst 0, 1) := by decide +kernel
theorem dL_bands_174 : decode cL_bands 174 = .ok (.invokestatic 100, 3) := by decide +kernel
theorem dL_bands_177 : decode cL_bands 177 = .ok (.ldc 91, 2) := by decide +kernel
theorem dL_bands_179 : decode cL_bands 179 = .ok (.if_icmp .ne 252, 3) := by decide +kernel
theorem dL_bands_182 : decode cL_bands 182 = .ok (.aload_n 0, 1) := by decide +kernel
theorem dL_bands_183 : decode cL_bands 183 = .ok (.bipush 18, 2) := by decide +kernel
theorem dL_bands_185 : decode cL_bands 185 = .ok (.iconst 0, 1) := by decide +kernel
theorem dL_bands_186 : decode cL_bands 186 = .ok (.iconst 3, 1) := by decide +kernel
theorem dL_bands_187 : decode cL_bands 187 = .ok (.bipush 50, 2) := by decide +kernel
theorem dL_bands_189 : decode cL_bands 189 = .ok (.iconst 0, 1) := by decide +kernel
theorem dL_bands_190 : decode cL_bands 190 = .ok (.invokestatic 100, 3) := by decide +kernel
theorem dL_bands_193 : decode cL_bands 193 = .ok (.ldc 91, 2) := by decide +kernel
theorem dL_bands_195 : decode cL_bands 195 = .ok (.if_icmp .ne 236, 3) := by decide +kernel
theorem dL_bands_198 : decode cL_bands 198 = .ok (.aload_n 0, 1) := by decide +kernel
theorem dL_bands_199 : decode cL_bands 199 = .ok (.iconst 0, 1) := by decide +kernel
theorem dL_bands_200 : decode cL_bands 200 = .ok (.iconst 0, 1) := by decide +kernel
theorem dL_bands_201 : decode cL_bands 201 = .ok (.bipush 80, 2) := by decide +kernel
theorem dL_bands_203 : decode cL_bands 203 = .ok (.invokevirtual 71, 3) := by decide +kernel
theorem dL_bands_206 : decode cL_bands 206 = .ok (.bipush 11, 2) := by decide +kernel
theorem dL_bands_208 : decode cL_bands 208 = .ok (.if_icmp .ne 223, 3) := by decide +kernel
theorem dL_bands_211 : decode cL_bands 211 = .ok (.aload_n 0, 1) := by decide +kernel
theorem dL_bands_212 : decode cL_bands 212 = .ok (.bipush 18, 2) := by decide +kernel
theorem dL_bands_214 : decode cL_bands 214 = .ok (.iconst 0, 1) := by decide +kernel
theorem dL_bands_215 : decode cL_bands 215 = .ok (.iconst 0, 1) := by decide +kernel
theorem dL_bands_216 : decode cL_bands 216 = .ok (.bipush 80, 2) := by decide +kernel
theorem dL_bands_218 : decode cL_bands 218 = .ok (.iconst 0, 1) := by decide +kernel
theorem dL_bands_219 : decode cL_bands 219 = .ok (.invokestatic 100, 3) := by decide +kernel
theorem dL_bands_222 : decode cL_bands 222 = .ok (.ldc 91, 2) := by decide +kernel
theorem dL_bands_224 : decode cL_bands 224 = .ok (.if_icmp .ne 207, 3) := by decide +kernel
theorem dL_bands_227 : decode cL_bands 227 = .ok (.aload_n 0, 1) := by decide +kernel
theorem dL_bands_228 : decode cL_bands 228 = .ok (.bipush 19, 2) := by decide +kernel
theorem dL_bands_230 : decode cL_bands 230 = .ok (.iconst 0, 1) := by decide +kernel
theorem dL_bands_231 : decode cL_bands 231 = .ok (.iconst 0, 1) := by decide +kernel
theorem dL_bands_232 : decode cL_bands 232 = .ok (.iconst 0, 1) := by decide +kernel
theorem dL_bands_233 : decode cL_bands 233 = .ok (.iconst 0, 1) := by decide +kernel
theorem dL_bands_234 : decode cL_bands 234 = .ok (.invokestatic 100, 3) := by decide +kernel
theorem dL_bands_237 : decode cL_bands 237 = .ok (.ldc 91, 2) := by decide +kernel
theorem dL_bands_239 : decode cL_bands 239 = .ok (.if_icmp .ne 192, 3) := by decide +kernel
theorem dL_bands_242 : decode cL_bands 242 = .ok (.aload_n 0, 1) := by decide +kernel
theorem dL_bands_243 : decode cL_bands 243 = .ok (.bipush 20, 2) := by decide +kernel
theorem dL_bands_245 : decode cL_bands 245 = .ok (.iconst 0, 1) := by decide +kernel
theorem dL_bands_246 : decode cL_bands 246 = .ok (.iconst 0, 1) := by decide +kernel
theorem dL_bands_247 : decode cL_bands 247 = .ok (.iconst 0, 1) := by decide +kernel
theorem dL_bands_248 : decode cL_bands 248 = .ok (.iconst 0, 1) := by decide +kernel
theorem dL_bands_249 : decode cL_bands 249 = .ok (.invokestatic 100, 3) := by decide +kernel
theorem dL_bands_252 : decode cL_bands 252 = .ok (.ldc 91, 2) := by decide +kernel
theorem dL_bands_254 : decode cL_bands 254 = .ok (.if_icmp .ne 177, 3) := by decide +kernel
theorem dL_bands_257 : decode cL_bands 257 = .ok (.aload_n 0, 1) := by decide +kernel
theorem dL_bands_258 : decode cL_bands 258 = .ok (.iconst 0, 1) := by decide +kernel
theorem dL_bands_259 : decode cL_bands 259 = .ok (.iconst 1, 1) := by decide +kernel
theorem dL_bands_260 : decode cL_bands 260 = .ok (.bipush 70, 2) := by decide +kernel
theorem dL_bands_262 : decode cL_bands 262 = .ok (.invokevirtual 71, 3) := by decide +kernel
theorem dL_bands_265 : decode cL_bands 265 = .ok (.bipush 10, 2) := by decide +kernel
theorem dL_bands_267 : decode cL_bands 267 = .ok (.if_icmp .ne 164, 3) := by decide +kernel
theorem dL_bands_270 : decode cL_bands 270 = .ok (.aload_n 0, 1) := by decide +kernel
theorem dL_bands_271 : decode cL_bands 271 = .ok (.iconst 0, 1) := by decide +kernel
theorem dL_bands_272 : decode cL_bands 272 = .ok (.iconst 2, 1) := by decide +kernel
theorem dL_bands_273 : decode cL_bands 273 = .ok (.bipush 80, 2) := by decide +kernel
theorem dL_bands_275 : decode cL_bands 275 = .ok (.invokevirtual 71, 3) := by decide +kernel
theorem dL_bands_278 : decode cL_bands 278 = .ok (.bipush 9, 2) := by decide +kernel
theorem dL_bands_280 : decode cL_bands 280 = .ok (.if_icmp .ne 151, 3) := by decide +kernel
theorem dL_bands_283 : decode cL_bands 283 = .ok (.aload_n 0, 1) := by decide +kernel
theorem dL_bands_284 : decode cL_bands 284 = .ok (.iconst 1, 1) := by decide +kernel
theorem dL_bands_285 : decode cL_bands 285 = .ok (.bipush 60, 2) := by decide +kernel
theorem dL_bands_287 : decode cL_bands 287 = .ok (.bipush 90, 2) := by decide +kernel
theorem dL_bands_289 : decode cL_bands 289 = .ok (.bipush 60, 2) := by decide +kernel
theorem dL_bands_291 : decode cL_bands 291 = .ok (.invokestatic 151, 3) := by decide +kernel
theorem dL_bands_294 : decode cL_bands 294 = .ok (.bipush 6, 2) := by decide +kernel
theorem dL_bands_296 : decode cL_bands 296 = .ok (.if_icmp .ne 135, 3) := by decide +kernel
theorem dL_bands_299 : decode cL_bands 299 = .ok (.aload_n 0, 1) := by decide +kernel
theorem dL_bands_300 : decode cL_bands 300 = .ok (.iconst 2, 1) := by decide +kernel
theorem dL_bands_301 : decode cL_bands 301 = .ok (.bipush 50, 2) := by decide +kernel
theorem dL_bands_303 : decode cL_bands 303 = .ok (.bipush 50, 2) := by decide +kernel
theorem dL_bands_305 : decode cL_bands 305 = .ok (.bipush 40, 2) := by decide +kernel
theorem dL_bands_307 : decode cL_bands 307 = .ok (.invokestatic 151, 3) := by decide +kernel
theorem dL_bands_310 : decode cL_bands 310 = .ok (.iconst 3, 1) := by decide +kernel
theorem dL_bands_311 : decode cL_bands 311 = .ok (.if_icmp .ne 120, 3) := by decide +kernel
theorem dL_bands_314 : decode cL_bands 314 = .ok (.aload_n 0, 1) := by decide +kernel
theorem dL_bands_315 : decode cL_bands 315 = .ok (.iconst 3, 1) := by decide +kernel
theorem dL_bands_316 : decode cL_bands 316 = .ok (.bipush 10, 2) := by decide +kernel
theorem dL_bands_318 : decode cL_bands 318 = .ok (.bipush 20, 2) := by decide +kernel
theorem dL_bands_320 : decode cL_bands 320 = .ok (.bipush 30, 2) := by decide +kernel
theorem dL_bands_322 : decode cL_bands 322 = .ok (.invokestatic 151, 3) := by decide +kernel
theorem dL_bands_325 : decode cL_bands 325 = .ok (.ifCond .ne 106, 3) := by decide +kernel
theorem dL_bands_328 : decode cL_bands 328 = .ok (.aload_n 0, 1) := by decide +kernel
theorem dL_bands_329 : decode cL_bands 329 = .ok (.iconst 0, 1) := by decide +kernel
theorem dL_bands_330 : decode cL_bands 330 = .ok (.iconst 0, 1) := by decide +kernel
theorem dL_bands_331 : decode cL_bands 331 = .ok (.bipush 6, 2) := by decide +kernel
theorem dL_bands_333 : decode cL_bands 333 = .ok (.invokestatic 107, 3) := by decide +kernel
theorem dL_bands_336 : decode cL_bands 336 = .ok (.ifCond .eq 95, 3) := by decide +kernel
theorem dL_bands_339 : decode cL_bands 339 = .ok (.aload_n 0, 1) := by decide +kernel
theorem dL_bands_340 : decode cL_bands 340 = .ok (.invokevirtual 74, 3) := by decide +kernel
theorem dL_bands_343 : decode cL_bands 343 = .ok (.iconst 2, 1) := by decide +kernel
theorem dL_bands_344 : decode cL_bands 344 = .ok (.if_icmp .ne 87, 3) := by decide +kernel
theorem dL_bands_347 : decode cL_bands 347 = .ok (.aload_n 0, 1) := by decide +kernel
theorem dL_bands_348 : decode cL_bands 348 = .ok (.iconst 2, 1) := by decide +kernel
theorem dL_bands_349 : decode cL_bands 349 = .ok (.iconst 3, 1) := by decide +kernel
theorem dL_bands_350 : decode cL_bands 350 = .ok (.bipush 6, 2) := by decide +kernel
theorem dL_bands_352 : decode cL_bands 352 = .ok (.iconst 1, 1) := by decide +kernel
theorem dL_bands_353 : decode cL_bands 353 = .ok (.bipush 7, 2) := by decide +kernel
theorem dL_bands_355 : decode cL_bands 355 = .ok (.iconst 1, 1) := by decide +kernel
theorem dL_bands_356 : decode cL_bands 356 = .ok (.invokestatic 148, 3) := by decide +kernel
theorem dL_bands_359 : decode cL_bands 359 = .ok (.ifCond .eq 72, 3) := by decide +kernel
theorem dL_bands_362 : decode cL_bands 362 = .ok (.aload_n 0, 1) := by decide +kernel
theorem dL_bands_363 : decode cL_bands 363 = .ok (.iconst 1, 1) := by decide +kernel
theorem dL_bands_364 : decode cL_bands 364 = .ok (.iconst 3, 1) := by decide +kernel
theorem dL_bands_365 : decode cL_bands 365 = .ok (.iconst 4, 1) := by decide +kernel
theorem dL_bands_366 : decode cL_bands 366 = .ok (.iconst 2, 1) := by decide +kernel
theorem dL_bands_367 : decode cL_bands 367 = .ok (.bipush 7, 2) := by decide +kernel
theorem dL_bands_369 : decode cL_bands 369 = .ok (.iconst 0, 1) := by decide +kernel
theorem dL_bands_370 : decode cL_bands 370 = .ok (.invokestatic 148, 3) := by decide +kernel
theorem dL_bands_373 : decode cL_bands 373 = .ok (.ifCond .eq 58, 3) := by decide +kernel
theorem dL_bands_376 : decode cL_bands 376 = .ok (.aload_n 0, 1) := by decide +kernel
theorem dL_bands_377 : decode cL_bands 377 = .ok (.iconst 0, 1) := by decide +kernel
theorem dL_bands_378 : decode cL_bands 378 = .ok (.iconst 3, 1) := by decide +kernel
theorem dL_bands_379 : decode cL_bands 379 = .ok (.iconst 3, 1) := by decide +kernel
theorem dL_bands_380 : decode cL_bands 380 = .ok (.iconst 3, 1) := by decide +kernel
theorem dL_bands_381 : decode cL_bands 381 = .ok (.bipush 7, 2) := by decide +kernel
theorem dL_bands_383 : decode cL_bands 383 = .ok (.iconst 0, 1) := by decide +kernel
theorem dL_bands_384 : decode cL_bands 384 = .ok (.invokestatic 148, 3) := by decide +kernel
theorem dL_bands_387 : decode cL_bands 387 = .ok (.ifCond .eq 44, 3) := by decide +kernel
theorem dL_bands_390 : decode cL_bands 390 = .ok (.aload_n 0, 1) := by decide +kernel
theorem dL_bands_391 : decode cL_bands 391 = .ok (.iconst 3, 1) := by decide +kernel
theorem dL_bands_392 : decode cL_bands 392 = .ok (.iconst 2, 1) := by decide +kernel
theorem dL_bands_393 : decode cL_bands 393 = .ok (.iconst 0, 1) := by decide +kernel
theorem dL_bands_394 : decode cL_bands 394 = .ok (.iconst (-1), 1) := by decide +kernel
theorem dL_bands_395 : decode cL_bands 395 = .ok (.iconst (-1), 1) := by decide +kernel
theorem dL_bands_396 : decode cL_bands 396 = .ok (.iconst 0, 1) := by decide +kernel
theorem dL_bands_397 : decode cL_bands 397 = .ok (.invokestatic 148, 3) := by decide +kernel
theorem dL_bands_400 : decode cL_bands 400 = .ok (.ifCond .eq 31, 3) := by decide +kernel
theorem dL_bands_403 : decode cL_bands 403 = .ok (.aload_n 0, 1) := by decide +kernel
theorem dL_bands_404 : decode cL_bands 404 = .ok (.iconst 5, 1) := by decide +kernel
theorem dL_bands_405 : decode cL_bands 405 = .ok (.iconst 3, 1) := by decide +kernel
theorem dL_bands_406 : decode cL_bands 406 = .ok (.iconst 0, 1) := by decide +kernel
theorem dL_bands_407 : decode cL_bands 407 = .ok (.iconst (-1), 1) := by decide +kernel
theorem dL_bands_408 : decode cL_bands 408 = .ok (.iconst (-1), 1) := by decide +kernel
theorem dL_bands_409 : decode cL_bands 409 = .ok (.iconst 0, 1) := by decide +kernel
theorem dL_bands_410 : decode cL_bands 410 = .ok (.invokestatic 148, 3) := by decide +kernel
theorem dL_bands_413 : decode cL_bands 413 = .ok (.ifCond .eq 18, 3) := by decide +kernel
theorem dL_bands_416 : decode cL_bands 416 = .ok (.aload_n 0, 1) := by decide +kernel
theorem dL_bands_417 : decode cL_bands 417 = .ok (.bipush 19, 2) := by decide +kernel
theorem dL_bands_419 : decode cL_bands 419 = .ok (.iconst 0, 1) := by decide +kernel
theorem dL_bands_420 : decode cL_bands 420 = .ok (.iconst 0, 1) := by decide +kernel
theorem dL_bands_421 : decode cL_bands 421 = .ok (.iconst 0, 1) := by decide +kernel
theorem dL_bands_422 : decode cL_bands 422 = .ok (.iconst 0, 1) := by decide +kernel
theorem dL_bands_423 : decode cL_bands 423 = .ok (.invokestatic 100, 3) := by decide +kernel
theorem dL_bands_426 : decode cL_bands 426 = .ok (.ldc 91, 2) := by decide +kernel
theorem dL_bands_428 : decode cL_bands 428 = .ok (.if_icmp .eq 5, 3) := by decide +kernel
theorem dL_bands_431 : decode cL_bands 431 = .ok (.iconst 0, 1) := by decide +kernel
theorem dL_bands_432 : decode cL_bands 432 = .ok (.ireturn, 1) := by decide +kernel
theorem dL_bands_433 : decode cL_bands 433 = .ok (.aload_n 0, 1) := by decide +kernel
theorem dL_bands_434 : decode cL_bands 434 = .ok (.iconst 3, 1) := by decide +kernel
theorem dL_bands_435 : decode cL_bands 435 = .ok (.invokevirtual 68, 3) := by decide +kernel
theorem dL_bands_438 : decode cL_bands 438 = .ok (.iconst 4, 1) := by decide +kernel
theorem dL_bands_439 : decode cL_bands 439 = .ok (.if_icmp .ne 172, 3) := by decide +kernel
theorem dL_bands_442 : decode cL_bands 442 = .ok (.aload_n 0, 1) := by decide +kernel
theorem dL_bands_443 : decode cL_bands 443 = .ok (.iconst 0, 1) := by decide +kernel
theorem dL_bands_444 : decode cL_bands 444 = .ok (.bipush 90, 2) := by decide +kernel
theorem dL_bands_446 : decode cL_bands 446 = .ok (.bipush 80, 2) := by decide +kernel
theorem dL_bands_448 : decode cL_bands 448 = .ok (.bipush 70, 2) := by decide +kernel
theorem dL_bands_450 : decode cL_bands 450 = .ok (.invokestatic 151, 3) := by decide +kernel
theorem dL_bands_453 : decode cL_bands 453 = .ok (.bipush 13, 2) := by decide +kernel
theorem dL_bands_455 : decode cL_bands 455 = .ok (.if_icmp .ne 156, 3) := by decide +kernel
theorem dL_bands_458 : decode cL_bands 458 = .ok (.aload_n 0, 1) := by decide +kernel
theorem dL_bands_459 : decode cL_bands 459 = .ok (.iconst 1, 1) := by decide +kernel
theorem dL_bands_460 : decode cL_bands 460 = .ok (.bipush 50, 2) := by decide +kernel
theorem dL_bands_462 : decode cL_bands 462 = .ok (.bipush 50, 2) := by decide +kernel
theorem dL_bands_464 : decode cL_bands 464 = .ok (.bipush 50, 2) := by decide +kernel
theorem dL_bands_466 : decode cL_bands 466 = .ok (.invokestatic 151, 3) := by decide +kernel
theorem dL_bands_469 : decode cL_bands 469 = .ok (.bipush 10, 2) := by decide +kernel
theorem dL_bands_471 : decode cL_bands 471 = .ok (.if_icmp .ne 140, 3) := by decide +kernel
theorem dL_bands_474 : decode cL_bands 474 = .ok (.aload_n 0, 1) := by decide +kernel
theorem dL_bands_475 : decode cL_bands 475 = .ok (.iconst 2, 1) := by decide +kernel
theorem dL_bands_476 : decode cL_bands 476 = .ok (.bipush 70, 2) := by decide +kernel
theorem dL_bands_478 : decode cL_bands 478 = .ok (.bipush 80, 2) := by decide +kernel
theorem dL_bands_480 : decode cL_bands 480 = .ok (.bipush 90, 2) := by decide +kernel
theorem dL_bands_482 : decode cL_bands 482 = .ok (.invokestatic 151, 3) := by decide +kernel
theorem dL_bands_485 : decode cL_bands 485 = .ok (.bipush 7, 2) := by decide +kernel
theorem dL_bands_487 : decode cL_bands 487 = .ok (.if_icmp .ne 124, 3) := by decide +kernel
theorem dL_bands_490 : decode cL_bands 490 = .ok (.aload_n 0, 1) := by decide +kernel
theorem dL_bands_491 : decode cL_bands 491 = .ok (.iconst 3, 1) := by decide +kernel
theorem dL_bands_492 : decode cL_bands 492 = .ok (.iconst 5, 1) := by decide +kernel
theorem dL_bands_493 : decode cL_bands 493 = .ok (.iconst 5, 1) := by decide +kernel
theorem dL_bands_494 : decode cL_bands 494 = .ok (.iconst 5, 1) := by decide +kernel
theorem dL_bands_495 : decode cL_bands 495 = .ok (.invokestatic 151, 3) := by decide +kernel
theorem dL_bands_498 : decode cL_bands 498 = .ok (.iconst 4, 1) := by decide +kernel
theorem dL_bands_499 : decode cL_bands 499 = .ok (.if_icmp .ne 112, 3) := by decide +kernel
theorem dL_bands_502 : decode cL_bands 502 = .ok (.aload_n 0, 1) := by decide +kernel
theorem dL_bands_503 : decode cL_bands 503 = .ok (.iconst 0, 1) := by decide +kernel
theorem dL_bands_504 : decode cL_bands 504 = .ok (.iconst 5, 1) := by decide +kernel
theorem dL_bands_505 : decode cL_bands 505 = .ok (.iconst 0, 1) := by decide +kernel
theorem dL_bands_506 : decode cL_bands 506 = .ok (.invokevirtual 71, 3) := by decide +kernel
theorem dL_bands_509 : decode cL_bands 509 = .ok (.iconst 3, 1) := by decide +kernel
theorem dL_bands_510 : decode cL_bands 510 = .ok (.if_icmp .ne 101, 3) := by decide +kernel
theorem dL_bands_513 : decode cL_bands 513 = .ok (.aload_n 0, 1) := by decide +kernel
theorem dL_bands_514 : decode cL_bands 514 = .ok (.iconst 1, 1) := by decide +kernel
theorem dL_bands_515 : decode cL_bands 515 = .ok (.iconst 5, 1) := by decide +kernel
theorem dL_bands_516 : decode cL_bands 516 = .ok (.iconst 0, 1) := by decide +kernel
theorem dL_bands_517 : decode cL_bands 517 = .ok (.invokevirtual 71, 3) := by decide +kernel
theorem dL_bands_520 : decode cL_bands 520 = .ok (.iconst 2, 1) := by decide +kernel
theorem dL_bands_521 : decode cL_bands 521 = .ok (.if_icmp .ne 90, 3) := by decide +kernel
theorem dL_bands_524 : decode cL_bands 524 = .ok (.aload_n 0, 1) := by decide +kernel
theorem dL_bands_525 : decode cL_bands 525 = .ok (.iconst 2, 1) := by decide +kernel
theorem dL_bands_526 : decode cL_bands 526 = .ok (.iconst 5, 1) := by decide +kernel
theorem dL_bands_527 : decode cL_bands 527 = .ok (.iconst 0, 1) := by decide +kernel
theorem dL_bands_528 : decode cL_bands 528 = .ok (.invokevirtual 71, 3) := by decide +kernel
theorem dL_bands_531 : decode cL_bands 531 = .ok (.iconst 1, 1) := by decide +kernel
theorem dL_bands_532 : decode cL_bands 532 = .ok (.if_icmp .ne 79, 3) := by decide +kernel
theorem dL_bands_535 : decode cL_bands 535 = .ok (.aload_n 0, 1) := by decide +kernel
theorem dL_bands_536 : decode cL_bands 536 = .ok (.iconst 3, 1) := by decide +kernel
theorem dL_bands_537 : decode cL_bands 537 = .ok (.iconst 5, 1) := by decide +kernel
theorem dL_bands_538 : decode cL_bands 538 = .ok (.iconst 0, 1) := by decide +kernel
theorem dL_bands_539 : decode cL_bands 539 = .ok (.invokevirtual 71, 3) := by decide +kernel
theorem dL_bands_542 : decode cL_bands 542 = .ok (.ifCond .ne 69, 3) := by decide +kernel
theorem dL_bands_545 : decode cL_bands 545 = .ok (.aload_n 0, 1) := by decide +kernel
theorem dL_bands_546 : decode cL_bands 546 = .ok (.invokevirtual 74, 3) := by decide +kernel
theorem dL_bands_549 : decode cL_bands 549 = .ok (.ifCond .ne 62, 3) := by decide +kernel
theorem dL_bands_552 : decode cL_bands 552 = .ok (.aload_n 0, 1) := by decide +kernel
theorem dL_bands_553 : decode cL_bands 553 = .ok (.iconst 0, 1) := by decide +kernel
theorem dL_bands_554 : decode cL_bands 554 = .ok (.iconst 3, 1) := by decide +kernel
theorem dL_bands_555 : decode cL_bands 555 = .ok (.bipush 9, 2) := by decide +kernel
theorem dL_bands_557 : decode cL_bands 557 = .ok (.iconst 1, 1) := by decide +kernel
theorem dL_bands_558 : decode cL_bands 558 = .ok (.bipush 6, 2) := by decide +kernel
theorem dL_bands_560 : decode cL_bands 560 = .ok (.iconst 1, 1) := by decide +kernel
theorem dL_bands_561 : decode cL_bands 561 = .ok (.invokestatic 148, 3) := by decide +kernel
theorem dL_bands_564 : decode cL_bands 564 = .ok (.ifCond .eq 47, 3) := by decide +kernel
theorem dL_bands_567 : decode cL_bands 567 = .ok (.aload_n 0, 1) := by decide +kernel
theorem dL_bands_568 : decode cL_bands 568 = .ok (.iconst 1, 1) := by decide +kernel
theorem dL_bands_569 : decode cL_bands 569 = .ok (.iconst 3, 1) := by decide +kernel
theorem dL_bands_570 : decode cL_bands 570 = .ok (.bipush 8, 2) := by decide +kernel
theorem dL_bands_572 : decode cL_bands 572 = .ok (.iconst 2, 1) := by decide +kernel
theorem dL_bands_573 : decode cL_bands 573 = .ok (.bipush 6, 2) := by decide +kernel
theorem dL_bands_575 : decode cL_bands 575 = .ok (.iconst 0, 1) := by decide +kernel
theorem dL_bands_576 : decode cL_bands 576 = .ok (.invokestatic 148, 3) := by decide +kernel
theorem dL_bands_579 : decode cL_bands 579 = .ok (.ifCond .eq 32, 3) := by decide +kernel
theorem dL_bands_582 : decode cL_bands 582 = .ok (.aload_n 0, 1) := by decide +kernel
theorem dL_bands_583 : decode cL_bands 583 = .ok (.iconst 2, 1) := by decide +kernel
theorem dL_bands_584 : decode cL_bands 584 = .ok (.iconst 3, 1) := by decide +kernel
theorem dL_bands_585 : decode cL_bands 585 = .ok (.bipush 9, 2) := by decide +kernel
theorem dL_bands_587 : decode cL_bands 587 = .ok (.iconst 3, 1) := by decide +kernel
theorem dL_bands_588 : decode cL_bands 588 = .ok (.bipush 6, 2) := by decide +kernel
theorem dL_bands_590 : decode cL_bands 590 = .ok (.iconst 1, 1) := by decide +kernel
theorem dL_bands_591 : decode cL_bands 591 = .ok (.invokestatic 148, 3) := by decide +kernel
theorem dL_bands_594 : decode cL_bands 594 = .ok (.ifCond .eq 17, 3) := by decide +kernel
theorem dL_bands_597 : decode cL_bands 597 = .ok (.aload_n 0, 1) := by decide +kernel
theorem dL_bands_598 : decode cL_bands 598 = .ok (.iconst 5, 1) := by decide +kernel
theorem dL_bands_599 : decode cL_bands 599 = .ok (.iconst 3, 1) := by decide +kernel
theorem dL_bands_600 : decode cL_bands 600 = .ok (.iconst 2, 1) := by decide +kernel
theorem dL_bands_601 : decode cL_bands 601 = .ok (.iconst 4, 1) := by decide +kernel
theorem dL_bands_602 : decode cL_bands 602 = .ok (.bipush 16, 2) := by decide +kernel
theorem dL_bands_604 : decode cL_bands 604 = .ok (.iconst 0, 1) := by decide +kernel
theorem dL_bands_605 : decode cL_bands 605 = .ok (.invokestatic 148, 3) := by decide +kernel
theorem dL_bands_608 : decode cL_bands 608 = .ok (.ifCond .ne 5, 3) := by decide +kernel
theorem dL_bands_611 : decode cL_bands 611 = .ok (.iconst 0, 1) := by decide +kernel
theorem dL_bands_612 : decode cL_bands 612 = .ok (.ireturn, 1) := by decide +kernel
theorem dL_bands_613 : decode cL_bands 613 = .ok (.aload_n 0, 1) := by decide +kernel
theorem dL_bands_614 : decode cL_bands 614 = .ok (.iconst 3, 1) := by decide +kernel
theorem dL_bands_615 : decode cL_bands 615 = .ok (.invokevirtual 68, 3) := by decide +kernel
theorem dL_bands_618 : decode cL_bands 618 = .ok (.iconst 4, 1) := by decide +kernel
theorem dL_bands_619 : decode cL_bands 619 = .ok (.if_icmp .ne 164, 3) := by decide +kernel
theorem dL_bands_622 : decode cL_bands 622 = .ok (.aload_n 0, 1) := by decide +kernel
theorem dL_bands_623 : decode cL_bands 623 = .ok (.iconst 0, 1) := by decide +kernel
theorem dL_bands_624 : decode cL_bands 624 = .ok (.iconst 0, 1) := by decide +kernel
theorem dL_bands_625 : decode cL_bands 625 = .ok (.iconst 0, 1) := by decide +kernel
theorem dL_bands_626 : decode cL_bands 626 = .ok (.iconst 0, 1) := by decide +kernel
theorem dL_bands_627 : decode cL_bands 627 = .ok (.invokestatic 151, 3) := by decide +kernel
theorem dL_bands_630 : decode cL_bands 630 = .ok (.bipush 13, 2) := by decide +kernel
theorem dL_bands_632 : decode cL_bands 632 = .ok (.if_icmp .ne 151, 3) := by decide +kernel
theorem dL_bands_635 : decode cL_bands 635 = .ok (.aload_n 0, 1) := by decide +kernel
theorem dL_bands_636 : decode cL_bands 636 = .ok (.iconst 1, 1) := by decide +kernel
theorem dL_bands_637 : decode cL_bands 637 = .ok (.iconst 0, 1) := by decide +kernel
theorem dL_bands_638 : decode cL_bands 638 = .ok (.iconst 0, 1) := by decide +kernel
theorem dL_bands_639 : decode cL_bands 639 = .ok (.iconst 0, 1) := by decide +kernel
theorem dL_bands_640 : decode cL_bands 640 = .ok (.invokestatic 151, 3) := by decide +kernel
theorem dL_bands_643 : decode cL_bands 643 = .ok (.bipush 10, 2) := by decide +kernel
theorem dL_bands_645 : decode cL_bands 645 = .ok (.if_icmp .ne 138, 3) := by decide +kernel
theorem dL_bands_648 : decode cL_bands 648 = .ok (.aload_n 0, 1) := by decide +kernel
theorem dL_bands_649 : decode cL_bands 649 = .ok (.iconst 2, 1) := by decide +kernel
theorem dL_bands_650 : decode cL_bands 650 = .ok (.iconst 0, 1) := by decide +kernel
theorem dL_bands_651 : decode cL_bands 651 = .ok (.iconst 0, 1) := by decide +kernel
theorem dL_bands_652 : decode cL_bands 652 = .ok (.iconst 0, 1) := by decide +kernel
theorem dL_bands_653 : decode cL_bands 653 = .ok (.invokestatic 151, 3) := by decide +kernel
theorem dL_bands_656 : decode cL_bands 656 = .ok (.bipush 7, 2) := by decide +kernel
theorem dL_bands_658 : decode cL_bands 658 = .ok (.if_icmp .ne 125, 3) := by decide +kernel
theorem dL_bands_661 : decode cL_bands 661 = .ok (.aload_n 0, 1) := by decide +kernel
theorem dL_bands_662 : decode cL_bands 662 = .ok (.iconst 3, 1) := by decide +kernel
theorem dL_bands_663 : decode cL_bands 663 = .ok (.bipush 100, 2) := by decide +kernel
theorem dL_bands_665 : decode cL_bands 665 = .ok (.bipush 100, 2) := by decide +kernel
theorem dL_bands_667 : decode cL_bands 667 = .ok (.bipush 100, 2) := by decide +kernel
theorem dL_bands_669 : decode cL_bands 669 = .ok (.invokestatic 151, 3) := by decide +kernel
theorem dL_bands_672 : decode cL_bands 672 = .ok (.iconst 4, 1) := by decide +kernel
theorem dL_bands_673 : decode cL_bands 673 = .ok (.if_icmp .ne 110, 3) := by decide +kernel
theorem dL_bands_676 : decode cL_bands 676 = .ok (.aload_n 0, 1) := by decide +kernel
theorem dL_bands_677 : decode cL_bands 677 = .ok (.iconst 0, 1) := by decide +kernel
theorem dL_bands_678 : decode cL_bands 678 = .ok (.iconst 5, 1) := by decide +kernel
theorem dL_bands_679 : decode cL_bands 679 = .ok (.iconst 0, 1) := by decide +kernel
theorem dL_bands_680 : decode cL_bands 680 = .ok (.invokevirtual 71, 3) := by decide +kernel
theorem dL_bands_683 : decode cL_bands 683 = .ok (.iconst 3, 1) := by decide +kernel
theorem dL_bands_684 : decode cL_bands 684 = .ok (.if_icmp .ne 99, 3) := by decide +kernel
theorem dL_bands_687 : decode cL_bands 687 = .ok (.aload_n 0, 1) := by decide +kernel
theorem dL_bands_688 : decode cL_bands 688 = .ok (.iconst 1, 1) := by decide +kernel
theorem dL_bands_689 : decode cL_bands 689 = .ok (.iconst 5, 1) := by decide +kernel
theorem dL_bands_690 : decode cL_bands 690 = .ok (.iconst 0, 1) := by decide +kernel
theorem dL_bands_691 : decode cL_bands 691 = .ok (.invokevirtual 71, 3) := by decide +kernel
theorem dL_bands_694 : decode cL_bands 694 = .ok (.iconst 2, 1) := by decide +kernel
theorem dL_bands_695 : decode cL_bands 695 = .ok (.if_icmp .ne 88, 3) := by decide +kernel
theorem dL_bands_698 : decode cL_bands 698 = .ok (.aload_n 0, 1) := by decide +kernel
theorem dL_bands_699 : decode cL_bands 699 = .ok (.iconst 2, 1) := by decide +kernel
theorem dL_bands_700 : decode cL_bands 700 = .ok (.iconst 5, 1) := by decide +kernel
theorem dL_bands_701 : decode cL_bands 701 = .ok (.iconst 0, 1) := by decide +kernel
theorem dL_bands_702 : decode cL_bands 702 = .ok (.invokevirtual 71, 3) := by decide +kernel
theorem dL_bands_705 : decode cL_bands 705 = .ok (.iconst 1, 1) := by decide +kernel
theorem dL_bands_706 : decode cL_bands 706 = .ok (.if_icmp .ne 77, 3) := by decide +kernel
theorem dL_bands_709 : decode cL_bands 709 = .ok (.aload_n 0, 1) := by decide +kernel
theorem dL_bands_710 : decode cL_bands 710 = .ok (.iconst 3, 1) := by decide +kernel
theorem dL_bands_711 : decode cL_bands 711 = .ok (.iconst 5, 1) := by decide +kernel
theorem dL_bands_712 : decode cL_bands 712 = .ok (.bipush 99, 2) := by decide +kernel
theorem dL_bands_714 : decode cL_bands 714 = .ok (.invokevirtual 71, 3) := by decide +kernel
theorem dL_bands_717 : decode cL_bands 717 = .ok (.ifCond .ne 66, 3) := by decide +kernel
theorem dL_bands_720 : decode cL_bands 720 = .ok (.aload_n 0, 1) := by decide +kernel
theorem dL_bands_721 : decode cL_bands 721 = .ok (.invokevirtual 74, 3) := by decide +kernel
theorem dL_bands_724 : decode cL_bands 724 = .ok (.ifCond .ne 59, 3) := by decide +kernel
theorem dL_bands_727 : decode cL_bands 727 = .ok (.aload_n 0, 1) := by decide +kernel
theorem dL_bands_728 : decode cL_bands 728 = .ok (.iconst 0, 1) := by decide +kernel
theorem dL_bands_729 : decode cL_bands 729 = .ok (.iconst 3, 1) := by decide +kernel
theorem dL_bands_730 : decode cL_bands 730 = .ok (.bipush 15, 2) := by decide +kernel
theorem dL_bands_732 : decode cL_bands 732 = .ok (.iconst 1, 1) := by decide +kernel
theorem dL_bands_733 : decode cL_bands 733 = .ok (.iconst 4, 1) := by decide +kernel
theorem dL_bands_734 : decode cL_bands 734 = .ok (.iconst 2, 1) := by decide +kernel
theorem dL_bands_735 : decode cL_bands 735 = .ok (.invokestatic 148, 3) := by decide +kernel
theorem dL_bands_738 : decode cL_bands 738 = .ok (.ifCond .eq 45, 3) := by decide +kernel
theorem dL_bands_741 : decode cL_bands 741 = .ok (.aload_n 0, 1) := by decide +kernel
theorem dL_bands_742 : decode cL_bands 742 = .ok (.iconst 1, 1) := by decide +kernel
theorem dL_bands_743 : decode cL_bands 743 = .ok (.iconst 3, 1) := by decide +kernel
theorem dL_bands_744 : decode cL_bands 744 = .ok (.bipush 12, 2) := by decide +kernel
theorem dL_bands_746 : decode cL_bands 746 = .ok (.iconst 2, 1) := by decide +kernel
theorem dL_bands_747 : decode cL_bands 747 = .ok (.iconst 4, 1) := by decide +kernel
theorem dL_bands_748 : decode cL_bands 748 = .ok (.iconst 0, 1) := by decide +kernel
theorem dL_bands_749 : decode cL_bands 749 = .ok (.invokestatic 148, 3) := by decide +kernel
theorem dL_bands_752 : decode cL_bands 752 = .ok (.ifCond .eq 31, 3) := by decide +kernel
theorem dL_bands_755 : decode cL_bands 755 = .ok (.aload_n 0, 1) := by decide +kernel
theorem dL_bands_756 : decode cL_bands 756 = .ok (.iconst 2, 1) := by decide +kernel
theorem dL_bands_757 : decode cL_bands 757 = .ok (.iconst 3, 1) := by decide +kernel
theorem dL_bands_758 : decode cL_bands 758 = .ok (.bipush 12, 2) := by decide +kernel
theorem dL_bands_760 : decode cL_bands 760 = .ok (.iconst 3, 1) := by decide +kernel
theorem dL_bands_761 : decode cL_bands 761 = .ok (.iconst 4, 1) := by decide +kernel
theorem dL_bands_762 : decode cL_bands 762 = .ok (.iconst 1, 1) := by decide +kernel
theorem dL_bands_763 : decode cL_bands 763 = .ok (.invokestatic 148, 3) := by decide +kernel
theorem dL_bands_766 : decode cL_bands 766 = .ok (.ifCond .eq 17, 3) := by decide +kernel
theorem dL_bands_769 : decode cL_bands 769 = .ok (.aload_n 0, 1) := by decide +kernel
theorem dL_bands_770 : decode cL_bands 770 = .ok (.iconst 5, 1) := by decide +kernel
theorem dL_bands_771 : decode cL_bands 771 = .ok (.iconst 3, 1) := by decide +kernel
theorem dL_bands_772 : decode cL_bands 772 = .ok (.iconst 4, 1) := by decide +kernel
theorem dL_bands_773 : decode cL_bands 773 = .ok (.iconst 4, 1) := by decide +kernel
theorem dL_bands_774 : decode cL_bands 774 = .ok (.bipush 7, 2) := by decide +kernel
theorem dL_bands_776 : decode cL_bands 776 = .ok (.iconst 0, 1) := by decide +kernel
theorem dL_bands_777 : decode cL_bands 777 = .ok (.invokestatic 148, 3) := by decide +kernel
theorem dL_bands_780 : decode cL_bands 780 = .ok (.ifCond .ne 5, 3) := by decide +kernel
theorem dL_bands_783 : decode cL_bands 783 = .ok (.iconst 0, 1) := by decide +kernel
theorem dL_bands_784 : decode cL_bands 784 = .ok (.ireturn, 1) := by decide +kernel
theorem dL_bands_785 : decode cL_bands 785 = .ok (.aload_n 0, 1) := by decide +kernel
theorem dL_bands_786 : decode cL_bands 786 = .ok (.invokevirtual 77, 3) := by decide +kernel
theorem dL_bands_789 : decode cL_bands 789 = .ok (.iconst 2, 1) := by decide +kernel
theorem dL_bands_790 : decode cL_bands 790 = .ok (.if_icmp .ne 212, 3) := by decide +kernel
theorem dL_bands_793 : decode cL_bands 793 = .ok (.aload_n 0, 1) := by decide +kernel
theorem dL_bands_794 : decode cL_bands 794 = .ok (.iconst 0, 1) := by decide +kernel
theorem dL_bands_795 : decode cL_bands 795 = .ok (.iconst 2, 1) := by decide +kernel
theorem dL_bands_796 : decode cL_bands 796 = .ok (.iconst 0, 1) := by decide +kernel
theorem dL_bands_797 : decode cL_bands 797 = .ok (.iconst 1, 1) := by decide +kernel
theorem dL_bands_798 : decode cL_bands 798 = .ok (.iconst 4, 1) := by decide +kernel
theorem dL_bands_799 : decode cL_bands 799 = .ok (.iconst 2, 1) := by decide +kernel
theorem dL_bands_800 : decode cL_bands 800 = .ok (.invokestatic 148, 3) := by decide +kernel
theorem dL_bands_803 : decode cL_bands 803 = .ok (.ifCond .eq 199, 3) := by decide +kernel
theorem dL_bands_806 : decode cL_bands 806 = .ok (.aload_n 0, 1) := by decide +kernel
theorem dL_bands_807 : decode cL_bands 807 = .ok (.iconst 1, 1) := by decide +kernel
theorem dL_bands_808 : decode cL_bands 808 = .ok (.iconst 3, 1) := by decide +kernel
theorem dL_bands_809 : decode cL_bands 809 = .ok (.iconst 0, 1) := by decide +kernel
theorem dL_bands_810 : decode cL_bands 810 = .ok (.iconst 2, 1) := by decide +kernel
theorem dL_bands_811 : decode cL_bands 811 = .ok (.iconst 4, 1) := by decide +kernel
theorem dL_bands_812 : decode cL_bands 812 = .ok (.iconst 0, 1) := by decide +kernel
theorem dL_bands_813 : decode cL_bands 813 = .ok (.invokestatic 148, 3) := by decide +kernel
theorem dL_bands_816 : decode cL_bands 816 = .ok (.ifCond .eq 186, 3) := by decide +kernel
theorem dL_bands_819 : decode cL_bands 819 = .ok (.aload_n 0, 1) := by decide +kernel
theorem dL_bands_820 : decode cL_bands 820 = .ok (.iconst 2, 1) := by decide +kernel
theorem dL_bands_821 : decode cL_bands 821 = .ok (.iconst 3, 1) := by decide +kernel
theorem dL_bands_822 : decode cL_bands 822 = .ok (.iconst 0, 1) := by decide +kernel
theorem dL_bands_823 : decode cL_bands 823 = .ok (.iconst 3, 1) := by decide +kernel
theorem dL_bands_824 : decode cL_bands 824 = .ok (.iconst 4, 1) := by decide +kernel
theorem dL_bands_825 : decode cL_bands 825 = .ok (.iconst 1, 1) := by decide +kernel
theorem dL_bands_826 : decode cL_bands 826 = .ok (.invokestatic 148, 3) := by decide +kernel
theorem dL_bands_829 : decode cL_bands 829 = .ok (.ifCond .eq 173, 3) := by decide +kernel
theorem dL_bands_832 : decode cL_bands 832 = .ok (.aload_n 0, 1) := by decide +kernel
theorem dL_bands_833 : decode cL_bands 833 = .ok (.iconst 5, 1) := by decide +kernel
theorem dL_bands_834 : decode cL_bands 834 = .ok (.iconst 4, 1) := by decide +kernel
theorem dL_bands_835 : decode cL_bands 835 = .ok (.iconst 0, 1) := by decide +kernel
theorem dL_bands_836 : decode cL_bands 836 = .ok (.iconst 4, 1) := by decide +kernel
theorem dL_bands_837 : decode cL_bands 837 = .ok (.bipush 7, 2) := by decide +kernel
theorem dL_bands_839 : decode cL_bands 839 = .ok (.iconst 0, 1) := by decide +kernel
theorem dL_bands_840 : decode cL_bands 840 = .ok (.invokestatic 148, 3) := by decide +kernel
theorem dL_bands_843 : decode cL_bands 843 = .ok (.ifCond .eq 159, 3) := by decide +kernel
theorem dL_bands_846 : decode cL_bands 846 = .ok (.aload_n 0, 1) := by decide +kernel
theorem dL_bands_847 : decode cL_bands 847 = .ok (.iconst 3, 1) := by decide +kernel
theorem dL_bands_848 : decode cL_bands 848 = .ok (.iconst 2, 1) := by decide +kernel
theorem dL_bands_849 : decode cL_bands 849 = .ok (.iconst 0, 1) := by decide +kernel
theorem dL_bands_850 : decode cL_bands 850 = .ok (.iconst (-1), 1) := by decide +kernel
theorem dL_bands_851 : decode cL_bands 851 = .ok (.iconst (-1), 1) := by decide +kernel
theorem dL_bands_852 : decode cL_bands 852 = .ok (.iconst 0, 1) := by decide +kernel
theorem dL_bands_853 : decode cL_bands 853 = .ok (.invokestatic 148, 3) := by decide +kernel
theorem dL_bands_856 : decode cL_bands 856 = .ok (.ifCond .eq 146, 3) := by decide +kernel
theorem dL_bands_859 : decode cL_bands 859 = .ok (.aload_n 0, 1) := by decide +kernel
theorem dL_bands_860 : decode cL_bands 860 = .ok (.iconst 4, 1) := by decide +kernel
theorem dL_bands_861 : decode cL_bands 861 = .ok (.iconst 4, 1) := by decide +kernel
theorem dL_bands_862 : decode cL_bands 862 = .ok (.iconst 0, 1) := by decide +kernel
theorem dL_bands_863 : decode cL_bands 863 = .ok (.iconst (-1), 1) := by decide +kernel
theorem dL_bands_864 : decode cL_bands 864 = .ok (.iconst (-1), 1) := by decide +kernel
theorem dL_bands_865 : decode cL_bands 865 = .ok (.iconst 0, 1) := by decide +kernel
theorem dL_bands_866 : decode cL_bands 866 = .ok (.invokestatic 148, 3) := by decide +kernel
theorem dL_bands_869 : decode cL_bands 869 = .ok (.ifCond .eq 133, 3) := by decide +kernel
theorem dL_bands_872 : decode cL_bands 872 = .ok (.aload_n 0, 1) := by decide +kernel
theorem dL_bands_873 : decode cL_bands 873 = .ok (.invokevirtual 77, 3) := by decide +kernel
theorem dL_bands_876 : decode cL_bands 876 = .ok (.iconst 3, 1) := by decide +kernel
theorem dL_bands_877 : decode cL_bands 877 = .ok (.if_icmp .ne 125, 3) := by decide +kernel
theorem dL_bands_880 : decode cL_bands 880 = .ok (.aload_n 0, 1) := by decide +kernel
theorem dL_bands_881 : decode cL_bands 881 = .ok (.iconst 3, 1) := by decide +kernel
theorem dL_bands_882 : decode cL_bands 882 = .ok (.iconst 0, 1) := by decide +kernel
theorem dL_bands_883 : decode cL_bands 883 = .ok (.invokevirtual 80, 3) := by decide +kernel
theorem dL_bands_886 : decode cL_bands 886 = .ok (.iconst 3, 1) := by decide +kernel
theorem dL_bands_887 : decode cL_bands 887 = .ok (.if_icmp .ne 115, 3) := by decide +kernel
theorem dL_bands_890 : decode cL_bands 890 = .ok (.aload_n 0, 1) := by decide +kernel
theorem dL_bands_891 : decode cL_bands 891 = .ok (.iconst 0, 1) := by decide +kernel
theorem dL_bands_892 : decode cL_bands 892 = .ok (.iconst 0, 1) := by decide +kernel
theorem dL_bands_893 : decode cL_bands 893 = .ok (.invokevirtual 80, 3) := by decide +kernel
theorem dL_bands_896 : decode cL_bands 896 = .ok (.iconst 2, 1) := by decide +kernel
theorem dL_bands_897 : decode cL_bands 897 = .ok (.if_icmp .ne 105, 3) := by decide +kernel
theorem dL_bands_900 : decode cL_bands 900 = .ok (.aload_n 0, 1) := by decide +kernel
theorem dL_bands_901 : decode cL_bands 901 = .ok (.iconst 1, 1) := by decide +kernel
theorem dL_bands_902 : decode cL_bands 902 = .ok (.iconst 0, 1) := by decide +kernel
theorem dL_bands_903 : decode cL_bands 903 = .ok (.invokevirtual 80, 3) := by decide +kernel
theorem dL_bands_906 : decode cL_bands 906 = .ok (.iconst 3, 1) := by decide +kernel
theorem dL_bands_907 : decode cL_bands 907 = .ok (.if_icmp .ne 95, 3) := by decide +kernel
theorem dL_bands_910 : decode cL_bands 910 = .ok (.aload_n 0, 1) := by decide +kernel
theorem dL_bands_911 : decode cL_bands 911 = .ok (.iconst 2, 1) := by decide +kernel
theorem dL_bands_912 : decode cL_bands 912 = .ok (.iconst 0, 1) := by decide +kernel
theorem dL_bands_913 : decode cL_bands 913 = .ok (.invokevirtual 80, 3) := by decide +kernel
theorem dL_bands_916 : decode cL_bands 916 = .ok (.iconst 4, 1) := by decide +kernel
theorem dL_bands_917 : decode cL_bands 917 = .ok (.if_icmp .ne 85, 3) := by decide +kernel
theorem dL_bands_920 : decode cL_bands 920 = .ok (.aload_n 0, 1) := by decide +kernel
theorem dL_bands_921 : decode cL_bands 921 = .ok (.iconst 5, 1) := by decide +kernel
theorem dL_bands_922 : decode cL_bands 922 = .ok (.iconst 0, 1) := by decide +kernel
theorem dL_bands_923 : decode cL_bands 923 = .ok (.invokevirtual 80, 3) := by decide +kernel
theorem dL_bands_926 : decode cL_bands 926 = .ok (.iconst 5, 1) := by decide +kernel
theorem dL_bands_927 : decode cL_bands 927 = .ok (.if_icmp .ne 75, 3) := by decide +kernel
theorem dL_bands_930 : decode cL_bands 930 = .ok (.aload_n 0, 1) := by decide +kernel
theorem dL_bands_931 : decode cL_bands 931 = .ok (.iconst 4, 1) := by decide +kernel
theorem dL_bands_932 : decode cL_bands 932 = .ok (.iconst 0, 1) := by decide +kernel
theorem dL_bands_933 : decode cL_bands 933 = .ok (.invokevirtual 80, 3) := by decide +kernel
theorem dL_bands_936 : decode cL_bands 936 = .ok (.iconst 4, 1) := by decide +kernel
theorem dL_bands_937 : decode cL_bands 937 = .ok (.if_icmp .ne 65, 3) := by decide +kernel
theorem dL_bands_940 : decode cL_bands 940 = .ok (.aload_n 0, 1) := by decide +kernel
theorem dL_bands_941 : decode cL_bands 941 = .ok (.invokevirtual 77, 3) := by decide +kernel
theorem dL_bands_944 : decode cL_bands 944 = .ok (.iconst 2, 1) := by decide +kernel
theorem dL_bands_945 : decode cL_bands 945 = .ok (.if_icmp .ne 57, 3) := by decide +kernel
theorem dL_bands_948 : decode cL_bands 948 = .ok (.aload_n 0, 1) := by decide +kernel
theorem dL_bands_949 : decode cL_bands 949 = .ok (.iconst 3, 1) := by decide +kernel
theorem dL_bands_950 : decode cL_bands 950 = .ok (.iconst 0, 1) := by decide +kernel
theorem dL_bands_951 : decode cL_bands 951 = .ok (.invokevirtual 80, 3) := by decide +kernel
theorem dL_bands_954 : decode cL_bands 954 = .ok (.iconst 4, 1) := by decide +kernel
theorem dL_bands_955 : decode cL_bands 955 = .ok (.if_icmp .ne 47, 3) := by decide +kernel
theorem dL_bands_958 : decode cL_bands 958 = .ok (.aload_n 0, 1) := by decide +kernel
theorem dL_bands_959 : decode cL_bands 959 = .ok (.iconst 4, 1) := by decide +kernel
theorem dL_bands_960 : decode cL_bands 960 = .ok (.iconst 0, 1) := by decide +kernel
theorem dL_bands_961 : decode cL_bands 961 = .ok (.invokevirtual 80, 3) := by decide +kernel
theorem dL_bands_964 : decode cL_bands 964 = .ok (.iconst 5, 1) := by decide +kernel
theorem dL_bands_965 : decode cL_bands 965 = .ok (.if_icmp .ne 37, 3) := by decide +kernel
theorem dL_bands_968 : decode cL_bands 968 = .ok (.aload_n 0, 1) := by decide +kernel
theorem dL_bands_969 : decode cL_bands 969 = .ok (.iconst 2, 1) := by decide +kernel
theorem dL_bands_970 : decode cL_bands 970 = .ok (.iconst 0, 1) := by decide +kernel
theorem dL_bands_971 : decode cL_bands 971 = .ok (.invokevirtual 80, 3) := by decide +kernel
theorem dL_bands_974 : decode cL_bands 974 = .ok (.iconst 4, 1) := by decide +kernel
theorem dL_bands_975 : decode cL_bands 975 = .ok (.if_icmp .ne 27, 3) := by decide +kernel
theorem dL_bands_978 : decode cL_bands 978 = .ok (.aload_n 0, 1) := by decide +kernel
theorem dL_bands_979 : decode cL_bands 979 = .ok (.iconst 5, 1) := by decide +kernel
theorem dL_bands_980 : decode cL_bands 980 = .ok (.iconst 0, 1) := by decide +kernel
theorem dL_bands_981 : decode cL_bands 981 = .ok (.invokevirtual 80, 3) := by decide +kernel
theorem dL_bands_984 : decode cL_bands 984 = .ok (.iconst 5, 1) := by decide +kernel
theorem dL_bands_985 : decode cL_bands 985 = .ok (.if_icmp .ne 17, 3) := by decide +kernel
theorem dL_bands_988 : decode cL_bands 988 = .ok (.aload_n 0, 1) := by decide +kernel
theorem dL_bands_989 : decode cL_bands 989 = .ok (.iconst 1, 1) := by decide +kernel
theorem dL_bands_990 : decode cL_bands 990 = .ok (.iconst 0, 1) := by decide +kernel
theorem dL_bands_991 : decode cL_bands 991 = .ok (.invokevirtual 80, 3) := by decide +kernel
theorem dL_bands_994 : decode cL_bands 994 = .ok (.iconst 3, 1) := by decide +kernel
theorem dL_bands_995 : decode cL_bands 995 = .ok (.if_icmp .ne 7, 3) := by decide +kernel
theorem dL_bands_998 : decode cL_bands 998 = .ok (.iconst 1, 1) := by decide +kernel
theorem dL_bands_999 : decode cL_bands 999 = .ok (.goto 4, 3) := by decide +kernel
theorem dL_bands_1002 : decode cL_bands 1002 = .ok (.iconst 0, 1) := by decide +kernel
theorem dL_bands_1003 : decode cL_bands 1003 = .ok (.ireturn, 1) := by decide +kernel
theorem dL_eight_0 : decode cL_eight 0 = .ok (.new 8, 3) := by decide +kernel
theorem dL_eight_3 : decode cL_eight 3 = .ok (.dup, 1) := by decide +kernel
theorem dL_eight_4 : decode cL_eight 4 = .ok (.invokespecial 106, 3) := by decide +kernel
theorem dL_eight_7 : decode cL_eight 7 = .ok (.astore_n 0, 1) := by decide +kernel
theorem dL_eight_8 : decode cL_eight 8 = .ok (.iconst 0, 1) := by decide +kernel
theorem dL_eight_9 : decode cL_eight 9 = .ok (.istore_n 1, 1) := by decide +kernel
theorem dL_eight_10 : decode cL_eight 10 = .ok (.iload_n 1, 1) := by decide +kernel
theorem dL_eight_11 : decode cL_eight 11 = .ok (.bipush 9, 2) := by decide +kernel
theorem dL_eight_13 : decode cL_eight 13 = .ok (.if_icmp .ge 36, 3) := by decide +kernel
theorem dL_eight_16 : decode cL_eight 16 = .ok (.aload_n 0, 1) := by decide +kernel
theorem dL_eight_17 : decode cL_eight 17 = .ok (.bipush 16, 2) := by decide +kernel
theorem dL_eight_19 : decode cL_eight 19 = .ok (.iconst 1, 1) := by decide +kernel
theorem dL_eight_20 : decode cL_eight 20 = .ok (.iconst 0, 1) := by decide +kernel
theorem dL_eight_21 : decode cL_eight 21 = .ok (.iconst 0, 1) := by decide +kernel
theorem dL_eight_22 : decode cL_eight 22 = .ok (.iconst 0, 1) := by decide +kernel
theorem dL_eight_23 : decode cL_eight 23 = .ok (.invokestatic 100, 3) := by decide +kernel
theorem dL_eight_26 : decode cL_eight 26 = .ok (.iload_n 1, 1) := by decide +kernel
theorem dL_eight_27 : decode cL_eight 27 = .ok (.bipush 8, 2) := by decide +kernel
theorem dL_eight_29 : decode cL_eight 29 = .ok (.if_icmp .ge 7, 3) := by decide +kernel
theorem dL_eight_32 : decode cL_eight 32 = .ok (.iload_n 1, 1) := by decide +kernel
theorem dL_eight_33 : decode cL_eight 33 = .ok (.goto 5, 3) := by decide +kernel
theorem dL_eight_36 : decode cL_eight 36 = .ok (.ldc 91, 2) := by decide +kernel
theorem dL_eight_38 : decode cL_eight 38 = .ok (.if_icmp .eq 5, 3) := by decide +kernel
theorem dL_eight_41 : decode cL_eight 41 = .ok (.iconst 0, 1) := by decide +kernel
theorem dL_eight_42 : decode cL_eight 42 = .ok (.ireturn, 1) := by decide +kernel
theorem dL_eight_43 : decode cL_eight 43 = .ok (.iinc 1 1, 3) := by decide +kernel
theorem dL_eight_46 : decode cL_eight 46 = .ok (.goto (-36), 3) := by decide +kernel
theorem dL_eight_49 : decode cL_eight 49 = .ok (.aload_n 0, 1) := by decide +kernel
theorem dL_eight_50 : decode cL_eight 50 = .ok (.iconst 1, 1) := by decide +kernel
theorem dL_eight_51 : decode cL_eight 51 = .ok (.invokevirtual 68, 3) := by decide +kernel
theorem dL_eight_54 : decode cL_eight 54 = .ok (.bipush 8, 2) := by decide +kernel
theorem dL_eight_56 : decode cL_eight 56 = .ok (.if_icmp .eq 5, 3) := by decide +kernel
theorem dL_eight_59 : decode cL_eight 59 = .ok (.iconst 0, 1) := by decide +kernel
theorem dL_eight_60 : decode cL_eight 60 = .ok (.ireturn, 1) := by decide +kernel
theorem dL_eight_61 : decode cL_eight 61 = .ok (.iconst 0, 1) := by decide +kernel
theorem dL_eight_62 : decode cL_eight 62 = .ok (.istore_n 1, 1) := by decide +kernel
theorem dL_eight_63 : decode cL_eight 63 = .ok (.iload_n 1, 1) := by decide +kernel
theorem dL_eight_64 : decode cL_eight 64 = .ok (.bipush 32, 2) := by decide +kernel
theorem dL_eight_66 : decode cL_eight 66 = .ok (.if_icmp .ge 30, 3) := by decide +kernel
theorem dL_eight_69 : decode cL_eight 69 = .ok (.aload_n 0, 1) := by decide +kernel
theorem dL_eight_70 : decode cL_eight 70 = .ok (.iload_n 1, 1) := by decide +kernel
theorem dL_eight_71 : decode cL_eight 71 = .ok (.iconst 4, 1) := by decide +kernel
theorem dL_eight_72 : decode cL_eight 72 = .ok (.irem, 1) := by decide +kernel
theorem dL_eight_73 : decode cL_eight 73 = .ok (.iload_n 1, 1) := by decide +kernel
theorem dL_eight_74 : decode cL_eight 74 = .ok (.iconst 4, 1) := by decide +kernel
theorem dL_eight_75 : decode cL_eight 75 = .ok (.idiv, 1) := by decide +kernel
theorem dL_eight_76 : decode cL_eight 76 = .ok (.bipush 100, 2) := by decide +kernel
theorem dL_eight_78 : decode cL_eight 78 = .ok (.invokevirtual 71, 3) := by decide +kernel
theorem dL_eight_81 : decode cL_eight 81 = .ok (.bipush 31, 2) := by decide +kernel
theorem dL_eight_83 : decode cL_eight 83 = .ok (.iload_n 1, 1) := by decide +kernel
theorem dL_eight_84 : decode cL_eight 84 = .ok (.isub, 1) := by decide +kernel
theorem dL_eight_85 : decode cL_eight 85 = .ok (.if_icmp .eq 5, 3) := by decide +kernel
theorem dL_eight_88 : decode cL_eight 88 = .ok (.iconst 0, 1) := by decide +kernel
theorem dL_eight_89 : decode cL_eight 89 = .ok (.ireturn, 1) := by decide +kernel
theorem dL_eight_90 : decode cL_eight 90 = .ok (.iinc 1 1, 3) := by decide +kernel
theorem dL_eight_93 : decode cL_eight 93 = .ok (.goto (-30), 3) := by decide +kernel
theorem dL_eight_96 : decode cL_eight 96 = .ok (.aload_n 0, 1) := by decide +kernel
theorem dL_eight_97 : decode cL_eight 97 = .ok (.invokevirtual 74, 3) := by decide +kernel
theorem dL_eight_100 : decode cL_eight 100 = .ok (.ifCond .ne 166, 3) := by decide +kernel
theorem dL_eight_103 : decode cL_eight 103 = .ok (.aload_n 0, 1) := by decide +kernel
theorem dL_eight_104 : decode cL_eight 104 = .ok (.iconst 0, 1) := by decide +kernel
theorem dL_eight_105 : decode cL_eight 105 = .ok (.iconst 1, 1) := by decide +kernel
theorem dL_eight_106 : decode cL_eight 106 = .ok (.bipush 6, 2) := by decide +kernel
theorem dL_eight_108 : decode cL_eight 108 = .ok (.iconst 1, 1) := by decide +kernel
theorem dL_eight_109 : decode cL_eight 109 = .ok (.iconst 4, 1) := by decide +kernel
theorem dL_eight_110 : decode cL_eight 110 = .ok (.iconst 1, 1) := by decide +kernel
theorem dL_eight_111 : decode cL_eight 111 = .ok (.invokestatic 148, 3) := by decide +kernel
theorem dL_eight_114 : decode cL_eight 114 = .ok (.ifCond .eq 152, 3) := by decide +kernel
theorem dL_eight_117 : decode cL_eight 117 = .ok (.aload_n 0, 1) := by decide +kernel
theorem dL_eight_118 : decode cL_eight 118 = .ok (.iconst 1, 1) := by decide +kernel
theorem dL_eight_119 : decode cL_eight 119 = .ok (.iconst 1, 1) := by decide +kernel
theorem dL_eight_120 : decode cL_eight 120 = .ok (.iconst 4, 1) := by decide +kernel
theorem dL_eight_121 : decode cL_eight 121 = .ok (.iconst 2, 1) := by decide +kernel
theorem dL_eight_122 : decode cL_eight 122 = .ok (.iconst 4, 1) := by decide +kernel
theorem dL_eight_123 : decode cL_eight 123 = .ok (.iconst 0, 1) := by decide +kernel
theorem dL_eight_124 : decode cL_eight 124 = .ok (.invokestatic 148, 3) := by decide +kernel
theorem dL_eight_127 : decode cL_eight 127 = .ok (.ifCond .eq 139, 3) := by decide +kernel
theorem dL_eight_130 : decode cL_eight 130 = .ok (.aload_n 0, 1) := by decide +kernel
theorem dL_eight_131 : decode cL_eight 131 = .ok (.iconst 2, 1) := by decide +kernel
theorem dL_eight_132 : decode cL_eight 132 = .ok (.iconst 1, 1) := by decide +kernel
theorem dL_eight_133 : decode cL_eight 133 = .ok (.iconst 3, 1) := by decide +kernel
theorem dL_eight_134 : decode cL_eight 134 = .ok (.iconst 3, 1) := by decide +kernel
theorem dL_eight_135 : decode cL_eight 135 = .ok (.iconst 4, 1) := by decide +kernel
theorem dL_eight_136 : decode cL_eight 136 = .ok (.iconst 0, 1) := by decide +kernel
theorem dL_eight_137 : decode cL_eight 137 = .ok (.invokestatic 148, 3) := by decide +kernel
theorem dL_eight_140 : decode cL_eight 140 = .ok (.ifCond .eq 126, 3) := by decide +kernel
theorem dL_eight_143 : decode cL_eight 143 = .ok (.aload_n 0, 1) := by decide +kernel
theorem dL_eight_144 : decode cL_eight 144 = .ok (.iconst 3, 1) := by decide +kernel
theorem dL_eight_145 : decode cL_eight 145 = .ok (.iconst 1, 1) := by decide +kernel
theorem dL_eight_146 : decode cL_eight 146 = .ok (.iconst 2, 1) := by decide +kernel
theorem dL_eight_147 : decode cL_eight 147 = .ok (.iconst 4, 1) := by decide +kernel
theorem dL_eight_148 : decode cL_eight 148 = .ok (.iconst 4, 1) := by decide +kernel
theorem dL_eight_149 : decode cL_eight 149 = .ok (.iconst 0, 1) := by decide +kernel
theorem dL_eight_150 : decode cL_eight 150 = .ok (.invokestatic 148, 3) := by decide +kernel
theorem dL_eight_153 : decode cL_eight 153 = .ok (.ifCond .eq 113, 3) := by decide +kernel
theorem dL_eight_156 : decode cL_eight 156 = .ok (.aload_n 0, 1) := by decide +kernel
theorem dL_eight_157 : decode cL_eight 157 = .ok (.iconst 4, 1) := by decide +kernel
theorem dL_eight_158 : decode cL_eight 158 = .ok (.iconst 1, 1) := by decide +kernel
theorem dL_eight_159 : decode cL_eight 159 = .ok (.iconst 1, 1) := by decide +kernel
theorem dL_eight_160 : decode cL_eight 160 = .ok (.iconst 5, 1) := by decide +kernel
theorem dL_eight_161 : decode cL_eight 161 = .ok (.iconst 4, 1) := by decide +kernel
theorem dL_eight_162 : decode cL_eight 162 = .ok (.iconst 0, 1) := by decide +kernel
theorem dL_eight_163 : decode cL_eight 163 = .ok (.invokestatic 148, 3) := by decide +kernel
theorem dL_eight_166 : decode cL_eight 166 = .ok (.ifCond .eq 100, 3) := by decide +kernel
theorem dL_eight_169 : decode cL_eight 169 = .ok (.aload_n 0, 1) := by decide +kernel
theorem dL_eight_170 : decode cL_eight 170 = .ok (.iconst 5, 1) := by decide +kernel
theorem dL_eight_171 : decode cL_eight 171 = .ok (.iconst 1, 1) := by decide +kernel
theorem dL_eight_172 : decode cL_eight 172 = .ok (.iconst 1, 1) := by decide +kernel
theorem dL_eight_173 : decode cL_eight 173 = .ok (.bipush 6, 2) := by decide +kernel
theorem dL_eight_175 : decode cL_eight 175 = .ok (.iconst 4, 1) := by decide +kernel
theorem dL_eight_176 : decode cL_eight 176 = .ok (.iconst 0, 1) := by decide +kernel
theorem dL_eight_177 : decode cL_eight 177 = .ok (.invokestatic 148, 3) := by decide +kernel
theorem dL_eight_180 : decode cL_eight 180 = .ok (.ifCond .eq 86, 3) := by decide +kernel
theorem dL_eight_183 : decode cL_eight 183 = .ok (.aload_n 0, 1) := by decide +kernel
theorem dL_eight_184 : decode cL_eight 184 = .ok (.bipush 6, 2) := by decide +kernel
theorem dL_eight_186 : decode cL_eight 186 = .ok (.iconst 1, 1) := by decide +kernel
theorem dL_eight_187 : decode cL_eight 187 = .ok (.iconst 0, 1) := by decide +kernel
theorem dL_eight_188 : decode cL_eight 188 = .ok (.bipush 7, 2) := by decide +kernel
theorem dL_eight_190 : decode cL_eight 190 = .ok (.iconst 4, 1) := by decide +kernel
theorem dL_eight_191 : decode cL_eight 191 = .ok (.iconst 0, 1) := by decide +kernel
theorem dL_eight_192 : decode cL_eight 192 = .ok (.invokestatic 148, 3) := by decide +kernel
theorem dL_eight_195 : decode cL_eight 195 = .ok (.ifCond .eq 71, 3) := by decide +kernel
theorem dL_eight_198 : decode cL_eight 198 = .ok (.aload_n 0, 1) := by decide +kernel
theorem dL_eight_199 : decode cL_eight 199 = .ok (.bipush 7, 2) := by decide +kernel
theorem dL_eight_201 : decode cL_eight 201 = .ok (.iconst 1, 1) := by decide +kernel
theorem dL_eight_202 : decode cL_eight 202 = .ok (.iconst 0, 1) := by decide +kernel
theorem dL_eight_203 : decode cL_eight 203 = .ok (.bipush 8, 2) := by decide +kernel
theorem dL_eight_205 : decode cL_eight 205 = .ok (.iconst 4, 1) := by decide +kernel
theorem dL_eight_206 : decode cL_eight 206 = .ok (.iconst 0, 1) := by decide +kernel
theorem dL_eight_207 : decode cL_eight 207 = .ok (.invokestatic 148, 3) := by decide +kernel
theorem dL_eight_210 : decode cL_eight 210 = .ok (.ifCond .eq 56, 3) := by decide +kernel
theorem dL_eight_213 : decode cL_eight 213 = .ok (.aload_n 0, 1) := by decide +kernel
theorem dL_eight_214 : decode cL_eight 214 = .ok (.invokevirtual 77, 3) := by decide +kernel
theorem dL_eight_217 : decode cL_eight 217 = .ok (.iconst 1, 1) := by decide +kernel
theorem dL_eight_218 : decode cL_eight 218 = .ok (.if_icmp .ne 48, 3) := by decide +kernel
theorem dL_eight_221 : decode cL_eight 221 = .ok (.aload_n 0, 1) := by decide +kernel
theorem dL_eight_222 : decode cL_eight 222 = .ok (.bipush 7, 2) := by decide +kernel
theorem dL_eight_224 : decode cL_eight 224 = .ok (.iconst 0, 1) := by decide +kernel
theorem dL_eight_225 : decode cL_eight 225 = .ok (.invokevirtual 80, 3) := by decide +kernel
theorem dL_eight_228 : decode cL_eight 228 = .ok (.iconst 2, 1) := by decide +kernel
theorem dL_eight_229 : decode cL_eight 229 = .ok (.if_icmp .ne 37, 3) := by decide +kernel
theorem dL_eight_232 : decode cL_eight 232 = .ok (.aload_n 0, 1) := by decide +kernel
theorem dL_eight_233 : decode cL_eight 233 = .ok (.iconst 0, 1) := by decide +kernel
theorem dL_eight_234 : decode cL_eight 234 = .ok (.iconst 0, 1) := by decide +kernel
theorem dL_eight_235 : decode cL_eight 235 = .ok (.invokevirtual 80, 3) := by decide +kernel
theorem dL_eight_238 : decode cL_eight 238 = .ok (.iconst 1, 1) := by decide +kernel
theorem dL_eight_239 : decode cL_eight 239 = .ok (.if_icmp .ne 27, 3) := by decide +kernel
theorem dL_eight_242 : decode cL_eight 242 = .ok (.aload_n 0, 1) := by decide +kernel
theorem dL_eight_243 : decode cL_eight 243 = .ok (.iconst 0, 1) := by decide +kernel
theorem dL_eight_244 : decode cL_eight 244 = .ok (.iconst 1, 1) := by decide +kernel
theorem dL_eight_245 : decode cL_eight 245 = .ok (.invokevirtual 80, 3) := by decide +kernel
theorem dL_eight_248 : decode cL_eight 248 = .ok (.ifCond .ne 18, 3) := by decide +kernel
theorem dL_eight_251 : decode cL_eight 251 = .ok (.aload_n 0, 1) := by decide +kernel
theorem dL_eight_252 : decode cL_eight 252 = .ok (.iconst 0, 1) := by decide +kernel
theorem dL_eight_253 : decode cL_eight 253 = .ok (.iconst 0, 1) := by decide +kernel
theorem dL_eight_254 : decode cL_eight 254 = .ok (.bipush 8, 2) := by decide +kernel
theorem dL_eight_256 : decode cL_eight 256 = .ok (.invokestatic 107, 3) := by decide +kernel
theorem dL_eight_259 : decode cL_eight 259 = .ok (.ifCond .eq 7, 3) := by decide +kernel
theorem dL_eight_262 : decode cL_eight 262 = .ok (.iconst 1, 1) := by decide +kernel
theorem dL_eight_263 : decode cL_eight 263 = .ok (.goto 4, 3) := by decide +kernel
theorem dL_eight_266 : decode cL_eight 266 = .ok (.iconst 0, 1) := by decide +kernel
theorem dL_eight_267 : decode cL_eight 267 = .ok (.ireturn, 1) := by decide +kernel
theorem dL_law_0 : decode cL_law 0 = .ok (.invokestatic 155, 3) := by decide +kernel
theorem dL_law_3 : decode cL_law 3 = .ok (.ifCond .ne 5, 3) := by decide +kernel
theorem dL_law_6 : decode cL_law 6 = .ok (.iconst 0, 1) := by decide +kernel
theorem dL_law_7 : decode cL_law 7 = .ok (.ireturn, 1) := by decide +kernel
theorem dL_law_8 : decode cL_law 8 = .ok (.new 8, 3) := by decide +kernel
theorem dL_law_11 : decode cL_law 11 = .ok (.dup, 1) := by decide +kernel
theorem dL_law_12 : decode cL_law 12 = .ok (.invokespecial 106, 3) := by decide +kernel
theorem dL_law_15 : decode cL_law 15 = .ok (.astore_n 1, 1) := by decide +kernel
theorem dL_law_16 : decode cL_law 16 = .ok (.iconst 0, 1) := by decide +kernel
theorem dL_law_17 : decode cL_law 17 = .ok (.istore_n 2, 1) := by decide +kernel
theorem dL_law_18 : decode cL_law 18 = .ok (.iconst 0, 1) := by decide +kernel
theorem dL_law_19 : decode cL_law 19 = .ok (.istore_n 3, 1) := by decide +kernel
theorem dL_law_20 : decode cL_law 20 = .ok (.iconst 0, 1) := by decide +kernel
theorem dL_law_21 : decode cL_law 21 = .ok (.istore 4, 2) := by decide +kernel
theorem dL_law_23 : decode cL_law 23 = .ok (.iconst 0, 1) := by decide +kernel
theorem dL_law_24 : decode cL_law 24 = .ok (.istore 5, 2) := by decide +kernel
theorem dL_law_26 : decode cL_law 26 = .ok (.iload 5, 2) := by decide +kernel
theorem dL_law_28 : decode cL_law 28 = .ok (.bipush 70, 2) := by decide +kernel
theorem dL_law_30 : decode cL_law 30 = .ok (.if_icmp .ge 1012, 3) := by decide +kernel
theorem dL_law_33 : decode cL_law 33 = .ok (.aload_n 0, 1) := by decide +kernel
theorem dL_law_34 : decode cL_law 34 = .ok (.arraylength, 1) := by decide +kernel
theorem dL_law_35 : decode cL_law 35 = .ok (.ifCond .ne 11, 3) := by decide +kernel
theorem dL_law_38 : decode cL_law 38 = .ok (.bipush 107, 2) := by decide +kernel
theorem dL_law_40 : decode cL_law 40 = .ok (.iload 5, 2) := by decide +kernel
theorem dL_law_42 : decode cL_law 42 = .ok (.imul, 1) := by decide +kernel
theorem dL_law_43 : decode cL_law 43 = .ok (.goto 13, 3) := by decide +kernel
theorem dL_law_46 : decode cL_law 46 = .ok (.aload_n 0, 1) := by decide +kernel
theorem dL_law_47 : decode cL_law 47 = .ok (.iload 5, 2) := by decide +kernel
theorem dL_law_49 : decode cL_law 49 = .ok (.aload_n 0, 1) := by decide +kernel
theorem dL_law_50 : decode cL_law 50 = .ok (.arraylength, 1) := by decide +kernel
theorem dL_law_51 : decode cL_law 51 = .ok (.irem, 1) := by decide +kernel
theorem dL_law_52 : decode cL_law 52 = .ok (.iaload, 1) := by decide +kernel
theorem dL_law_53 : decode cL_law 53 = .ok (.bipush 8, 2) := by decide +kernel
theorem dL_law_55 : decode cL_law 55 = .ok (.iushr, 1) := by decide +kernel
theorem dL_law_56 : decode cL_law 56 = .ok (.istore 6, 2) := by decide +kernel
theorem dL_law_58 : decode cL_law 58 = .ok (.iload 6, 2) := by decide +kernel
theorem dL_law_60 : decode cL_law 60 = .ok (.bipush 12, 2) := by decide +kernel
theorem dL_law_62 : decode cL_law 62 = .ok (.irem, 1) := by decide +kernel
theorem dL_law_63 : decode cL_law 63 = .ok (.istore 7, 2) := by decide +kernel
theorem dL_law_65 : decode cL_law 65 = .ok (.iload 6, 2) := by decide +kernel
theorem dL_law_67 : decode cL_law 67 = .ok (.bipush 12, 2) := by decide +kernel
theorem dL_law_69 : decode cL_law 69 = .ok (.idiv, 1) := by decide +kernel
theorem dL_law_70 : decode cL_law 70 = .ok (.istore 8, 2) := by decide +kernel
theorem dL_law_72 : decode cL_law 72 = .ok (.iload 8, 2) := by decide +kernel
theorem dL_law_74 : decode cL_law 74 = .ok (.bipush 60, 2) := by decide +kernel
theorem dL_law_76 : decode cL_law 76 = .ok (.idiv, 1) := by decide +kernel
theorem dL_law_77 : decode cL_law 77 = .ok (.istore 9, 2) := by decide +kernel
theorem dL_law_79 : decode cL_law 79 = .ok (.iload 7, 2) := by decide +kernel
theorem dL_law_81 : decode cL_law 81 = .ok (.ifCond .eq 7, 3) := by decide +kernel
theorem dL_law_84 : decode cL_law 84 = .ok (.iload_n 2, 1) := by decide +kernel
theorem dL_law_85 : decode cL_law 85 = .ok (.ifCond .ne 49, 3) := by decide +kernel
theorem dL_law_88 : decode cL_law 88 = .ok (.aload_n 1, 1) := by decide +kernel
theorem dL_law_89 : decode cL_law 89 = .ok (.iconst 0, 1) := by decide +kernel
theorem dL_law_90 : decode cL_law 90 = .ok (.iload 8, 2) := by decide +kernel
theorem dL_law_92 : decode cL_law 92 = .ok (.iconst 4, 1) := by decide +kernel
theorem dL_law_93 : decode cL_law 93 = .ok (.irem, 1) := by decide +kernel
theorem dL_law_94 : decode cL_law 94 = .ok (.iconst 0, 1) := by decide +kernel
theorem dL_law_95 : decode cL_law 95 = .ok (.iconst 0, 1) := by decide +kernel
theorem dL_law_96 : decode cL_law 96 = .ok (.iconst 0, 1) := by decide +kernel
theorem dL_law_97 : decode cL_law 97 = .ok (.invokestatic 100, 3) := by decide +kernel
theorem dL_law_100 : decode cL_law 100 = .ok (.iload_n 2, 1) := by decide +kernel
theorem dL_law_101 : decode cL_law 101 = .ok (.bipush 10, 2) := by decide +kernel
theorem dL_law_103 : decode cL_law 103 = .ok (.if_icmp .ge 7, 3) := by decide +kernel
theorem dL_law_106 : decode cL_law 106 = .ok (.iload_n 2, 1) := by decide +kernel
theorem dL_law_107 : decode cL_law 107 = .ok (.goto 5, 3) := by decide +kernel
theorem dL_law_110 : decode cL_law 110 = .ok (.ldc 91, 2) := by decide +kernel
theorem dL_law_112 : decode cL_law 112 = .ok (.if_icmp .eq 5, 3) := by decide +kernel
theorem dL_law_115 : decode cL_law 115 = .ok (.iconst 0, 1) := by decide +kernel
theorem dL_law_116 : decode cL_law 116 = .ok (.ireturn, 1) := by decide +kernel
theorem dL_law_117 : decode cL_law 117 = .ok (.iload_n 2, 1) := by decide +kernel
theorem dL_law_118 : decode cL_law 118 = .ok (.iload_n 2, 1) := by decide +kernel
theorem dL_law_119 : decode cL_law 119 = .ok (.bipush 10, 2) := by decide +kernel
theorem dL_law_121 : decode cL_law 121 = .ok (.if_icmp .ge 7, 3) := by decide +kernel
theorem dL_law_124 : decode cL_law 124 = .ok (.iconst 1, 1) := by decide +kernel
theorem dL_law_125 : decode cL_law 125 = .ok (.goto 4, 3) := by decide +kernel
theorem dL_law_128 : decode cL_law 128 = .ok (.iconst 0, 1) := by decide +kernel
theorem dL_law_129 : decode cL_law 129 = .ok (.iadd, 1) := by decide +kernel
theorem dL_law_130 : decode cL_law 130 = .ok (.istore_n 2, 1) := by decide +kernel
theorem dL_law_131 : decode cL_law 131 = .ok (.goto 884, 3) := by decide +kernel
theorem dL_law_134 : decode cL_law 134 = .ok (.iload 7, 2) := by decide +kernel
theorem dL_law_136 : decode cL_law 136 = .ok (.iconst 5, 1) := by decide +kernel
theorem dL_law_137 : decode cL_law 137 = .ok (.if_icmp .ge 165, 3) := by decide +kernel
theorem dL_law_140 : decode cL_law 140 = .ok (.iload 8, 2) := by decide +kernel
theorem dL_law_142 : decode cL_law 142 = .ok (.iload_n 2, 1) := by decide +kernel
theorem dL_law_143 : decode cL_law 143 = .ok (.irem, 1) := by decide +kernel
theorem dL_law_144 : decode cL_law 144 = .ok (.istore 10, 2) := by decide +kernel
theorem dL_law_146 : decode cL_law 146 = .ok (.aload_n 1, 1) := by decide +kernel
theorem dL_law_147 : decode cL_law 147 = .ok (.iload 10, 2) := by decide +kernel
theorem dL_law_149 : decode cL_law 149 = .ok (.bipush 6, 2) := by decide +kernel
theorem dL_law_151 : decode cL_law 151 = .ok (.invokevirtual 25, 3) := by decide +kernel
theorem dL_law_154 : decode cL_law 154 = .ok (.istore 11, 2) := by decide +kernel
theorem dL_law_156 : decode cL_law 156 = .ok (.aload_n 1, 1) := by decide +kernel
theorem dL_law_157 : decode cL_law 157 = .ok (.iconst 1, 1) := by decide +kernel
theorem dL_law_158 : decode cL_law 158 = .ok (.iload 10, 2) := by decide +kernel
theorem dL_law_160 : decode cL_law 160 = .ok (.iload 9, 2) := by decide +kernel
theorem dL_law_162 : decode cL_law 162 = .ok (.bipush 9, 2) := by decide +kernel
theorem dL_law_164 : decode cL_law 164 = .ok (.irem, 1) := by decide +kernel
theorem dL_law_165 : decode cL_law 165 = .ok (.iconst 1, 1) := by decide +kernel
theorem dL_law_166 : decode cL_law 166 = .ok (.iload 8, 2) := by decide +kernel
theorem dL_law_168 : decode cL_law 168 = .ok (.bipush 8, 2) := by decide +kernel
theorem dL_law_170 : decode cL_law 170 = .ok (.irem, 1) := by decide +kernel
theorem dL_law_171 : decode cL_law 171 = .ok (.iadd, 1) := by decide +kernel
theorem dL_law_172 : decode cL_law 172 = .ok (.iload 8, 2) := by decide +kernel
theorem dL_law_174 : decode cL_law 174 = .ok (.bipush 7, 2) := by decide +kernel
theorem dL_law_176 : decode cL_law 176 = .ok (.idiv, 1) := by decide +kernel
theorem dL_law_177 : decode cL_law 177 = .ok (.bipush 9, 2) := by decide +kernel
theorem dL_law_179 : decode cL_law 179 = .ok (.irem, 1) := by decide +kernel
theorem dL_law_180 : decode cL_law 180 = .ok (.invokestatic 100, 3) := by decide +kernel
theorem dL_law_183 : decode cL_law 183 = .ok (.istore 12, 2) := by decide +kernel
theorem dL_law_185 : decode cL_law 185 = .ok (.iload 12, 2) := by decide +kernel
theorem dL_law_187 : decode cL_law 187 = .ok (.ldc 91, 2) := by decide +kernel
theorem dL_law_189 : decode cL_law 189 = .ok (.if_icmp .eq 24, 3) := by decide +kernel
theorem dL_law_192 : decode cL_law 192 = .ok (.iload 12, 2) := by decide +kernel
theorem dL_law_194 : decode cL_law 194 = .ok (.iconst 1, 1) := by decide +kernel
theorem dL_law_195 : decode cL_law 195 = .ok (.if_icmp .lt 38, 3) := by decide +kernel
theorem dL_law_198 : decode cL_law 198 = .ok (.aload_n 1, 1) := by decide +kernel
theorem dL_law_199 : decode cL_law 199 = .ok (.iload 10, 2) := by decide +kernel
theorem dL_law_201 : decode cL_law 201 = .ok (.bipush 6, 2) := by decide +kernel
theorem dL_law_203 : decode cL_law 203 = .ok (.invokevirtual 25, 3) := by decide +kernel
theorem dL_law_206 : decode cL_law 206 = .ok (.iload 11, 2) := by decide +kernel
theorem dL_law_208 : decode cL_law 208 = .ok (.iconst 1, 1) := by decide +kernel
theorem dL_law_209 : decode cL_law 209 = .ok (.iadd, 1) := by decide +kernel
theorem dL_law_210 : decode cL_law 210 = .ok (.if_icmp .ne 23, 3) := by decide +kernel
theorem dL_law_213 : decode cL_law 213 = .ok (.iload 12, 2) := by decide +kernel
theorem dL_law_215 : decode cL_law 215 = .ok (.ldc 91, 2) := by decide +kernel
theorem dL_law_217 : decode cL_law 217 = .ok (.if_icmp .ne 18, 3) := by decide +kernel
theorem dL_law_220 : decode cL_law 220 = .ok (.aload_n 1, 1) := by decide +kernel
theorem dL_law_221 : decode cL_law 221 = .ok (.iload 10, 2) := by decide +kernel
theorem dL_law_223 : decode cL_law 223 = .ok (.bipush 6, 2) := by decide +kernel
theorem dL_law_225 : decode cL_law 225 = .ok (.invokevirtual 25, 3) := by decide +kernel
theorem dL_law_228 : decode cL_law 228 = .ok (.iload 11, 2) := by decide +kernel
theorem dL_law_230 : decode cL_law 230 = .ok (.if_icmp .eq 5, 3) := by decide +kernel
theorem dL_law_233 : decode cL_law 233 = .ok (.iconst 0, 1) := by decide +kernel
theorem dL_law_234 : decode cL_law 234 = .ok (.ireturn, 1) := by decide +kernel
theorem dL_law_235 : decode cL_law 235 = .ok (.aload_n 1, 1) := by decide +kernel
theorem dL_law_236 : decode cL_law 236 = .ok (.iload 10, 2) := by decide +kernel
theorem dL_law_238 : decode cL_law 238 = .ok (.iconst 5, 1) := by decide +kernel
theorem dL_law_239 : decode cL_law 239 = .ok (.invokevirtual 25, 3) := by decide +kernel
theorem dL_law_242 : decode cL_law 242 = .ok (.istore 13, 2) := by decide +kernel
theorem dL_law_244 : decode cL_law 244 = .ok (.aload_n 1, 1) := by decide +kernel
theorem dL_law_245 : decode cL_law 245 = .ok (.iconst 2, 1) := by decide +kernel
theorem dL_law_246 : decode cL_law 246 = .ok (.iload 10, 2) := by decide +kernel
theorem dL_law_248 : decode cL_law 248 = .ok (.iload 9, 2) := by decide +kernel
theorem dL_law_250 : decode cL_law 250 = .ok (.iconst 2, 1) := by decide +kernel
theorem dL_law_251 : decode cL_law 251 = .ok (.irem, 1) := by decide +kernel
theorem dL_law_252 : decode cL_law 252 = .ok (.iconst 0, 1) := by decide +kernel
theorem dL_law_253 : decode cL_law 253 = .ok (.iconst 0, 1) := by decide +kernel
theorem dL_law_254 : decode cL_law 254 = .ok (.invokestatic 100, 3) := by decide +kernel
theorem dL_law_257 : decode cL_law 257 = .ok (.istore 14, 2) := by decide +kernel
theorem dL_law_259 : decode cL_law 259 = .ok (.iload 14, 2) := by decide +kernel
theorem dL_law_261 : decode cL_law 261 = .ok (.ldc 91, 2) := by decide +kernel
theorem dL_law_263 : decode cL_law 263 = .ok (.if_icmp .eq 36, 3) := by decide +kernel
theorem dL_law_266 : decode cL_law 266 = .ok (.iload 14, 2) := by decide +kernel
theorem dL_law_268 : decode cL_law 268 = .ok (.iconst 1, 1) := by decide +kernel
theorem dL_law_269 : decode cL_law 269 = .ok (.if_icmp .lt 28, 3) := by decide +kernel
theorem dL_law_272 : decode cL_law 272 = .ok (.aload_n 1, 1) := by decide +kernel
theorem dL_law_273 : decode cL_law 273 = .ok (.iload 10, 2) := by decide +kernel
theorem dL_law_275 : decode cL_law 275 = .ok (.iconst 5, 1) := by decide +kernel
theorem dL_law_276 : decode cL_law 276 = .ok (.invokevirtual 25, 3) := by decide +kernel
theorem dL_law_279 : decode cL_law 279 = .ok (.iload 13, 2) := by decide +kernel
theorem dL_law_281 : decode cL_law 281 = .ok (.iconst 1, 1) := by decide +kernel
theorem dL_law_282 : decode cL_law 282 = .ok (.iadd, 1) := by decide +kernel
theorem dL_law_283 : decode cL_law 283 = .ok (.if_icmp .ne 14, 3) := by decide +kernel
theorem dL_law_286 : decode cL_law 286 = .ok (.aload_n 1, 1) := by decide +kernel
theorem dL_law_287 : decode cL_law 287 = .ok (.iload 10, 2) := by decide +kernel
theorem dL_law_289 : decode cL_law 289 = .ok (.bipush 6, 2) := by decide +kernel
theorem dL_law_291 : decode cL_law 291 = .ok (.invokevirtual 25, 3) := by decide +kernel
theorem dL_law_294 : decode cL_law 294 = .ok (.ifCond .eq 5, 3) := by decide +kernel
theorem dL_law_297 : decode cL_law 297 = .ok (.iconst 0, 1) := by decide +kernel
theorem dL_law_298 : decode cL_law 298 = .ok (.ireturn, 1) := by decide +kernel
theorem dL_law_299 : decode cL_law 299 = .ok (.goto 716, 3) := by decide +kernel
theorem dL_law_302 : decode cL_law 302 = .ok (.iload 7, 2) := by decide +kernel
theorem dL_law_304 : decode cL_law 304 = .ok (.iconst 5, 1) := by decide +kernel
theorem dL_law_305 : decode cL_law 305 = .ok (.if_icmp .ne 135, 3) := by decide +kernel
theorem dL_law_308 : decode cL_law 308 = .ok (.iload 8, 2) := by decide +kernel
theorem dL_law_310 : decode cL_law 310 = .ok (.iload_n 2, 1) := by decide +kernel
theorem dL_law_311 : decode cL_law 311 = .ok (.irem, 1) := by decide +kernel
theorem dL_law_312 : decode cL_law 312 = .ok (.istore 10, 2) := by decide +kernel
theorem dL_law_314 : decode cL_law 314 = .ok (.iload 9, 2) := by decide +kernel
theorem dL_law_316 : decode cL_law 316 = .ok (.iload_n 2, 1) := by decide +kernel
theorem dL_law_317 : decode cL_law 317 = .ok (.irem, 1) := by decide +kernel
theorem dL_law_318 : decode cL_law 318 = .ok (.istore 11, 2) := by decide +kernel
theorem dL_law_320 : decode cL_law 320 = .ok (.aload_n 1, 1) := by decide +kernel
theorem dL_law_321 : decode cL_law 321 = .ok (.iload 10, 2) := by decide +kernel
theorem dL_law_323 : decode cL_law 323 = .ok (.iload 11, 2) := by decide +kernel
theorem dL_law_325 : decode cL_law 325 = .ok (.invokevirtual 29, 3) := by decide +kernel
theorem dL_law_328 : decode cL_law 328 = .ok (.istore 12, 2) := by decide +kernel
theorem dL_law_330 : decode cL_law 330 = .ok (.iload 12, 2) := by decide +kernel
theorem dL_law_332 : decode cL_law 332 = .ok (.aload_n 1, 1) := by decide +kernel
theorem dL_law_333 : decode cL_law 333 = .ok (.iload 11, 2) := by decide +kernel
theorem dL_law_335 : decode cL_law 335 = .ok (.iload 10, 2) := by decide +kernel
theorem dL_law_337 : decode cL_law 337 = .ok (.invokevirtual 32, 3) := by decide +kernel
theorem dL_law_340 : decode cL_law 340 = .ok (.if_icmp .ne 33, 3) := by decide +kernel
theorem dL_law_343 : decode cL_law 343 = .ok (.iload 12, 2) := by decide +kernel
theorem dL_law_345 : decode cL_law 345 = .ok (.aload_n 1, 1) := by decide +kernel
theorem dL_law_346 : decode cL_law 346 = .ok (.iload 10, 2) := by decide +kernel
theorem dL_law_348 : decode cL_law 348 = .ok (.iconst 1, 1) := by decide +kernel
theorem dL_law_349 : decode cL_law 349 = .ok (.invokevirtual 25, 3) := by decide +kernel
theorem dL_law_352 : decode cL_law 352 = .ok (.if_icmp .gt 21, 3) := by decide +kernel
theorem dL_law_355 : decode cL_law 355 = .ok (.aload_n 1, 1) := by decide +kernel
theorem dL_law_356 : decode cL_law 356 = .ok (.iload 10, 2) := by decide +kernel
theorem dL_law_358 : decode cL_law 358 = .ok (.iload 10, 2) := by decide +kernel
theorem dL_law_360 : decode cL_law 360 = .ok (.invokevirtual 29, 3) := by decide +kernel
theorem dL_law_363 : decode cL_law 363 = .ok (.aload_n 1, 1) := by decide +kernel
theorem dL_law_364 : decode cL_law 364 = .ok (.iload 10, 2) := by decide +kernel
theorem dL_law_366 : decode cL_law 366 = .ok (.iconst 1, 1) := by decide +kernel
theorem dL_law_367 : decode cL_law 367 = .ok (.invokevirtual 25, 3) := by decide +kernel
theorem dL_law_370 : decode cL_law 370 = .ok (.if_icmp .eq 5, 3) := by decide +kernel
theorem dL_law_373 : decode cL_law 373 = .ok (.iconst 0, 1) := by decide +kernel
theorem dL_law_374 : decode cL_law 374 = .ok (.ireturn, 1) := by decide +kernel
theorem dL_law_375 : decode cL_law 375 = .ok (.aload_n 1, 1) := by decide +kernel
theorem dL_law_376 : decode cL_law 376 = .ok (.bipush 7, 2) := by decide +kernel
theorem dL_law_378 : decode cL_law 378 = .ok (.iload 10, 2) := by decide +kernel
theorem dL_law_380 : decode cL_law 380 = .ok (.bipush 30, 2) := by decide +kernel
theorem dL_law_382 : decode cL_law 382 = .ok (.iload 9, 2) := by decide +kernel
theorem dL_law_384 : decode cL_law 384 = .ok (.sipush 571, 3) := by decide +kernel
theorem dL_law_387 : decode cL_law 387 = .ok (.irem, 1) := by decide +kernel
theorem dL_law_388 : decode cL_law 388 = .ok (.iadd, 1) := by decide +kernel
theorem dL_law_389 : decode cL_law 389 = .ok (.iconst 0, 1) := by decide +kernel
theorem dL_law_390 : decode cL_law 390 = .ok (.iconst 0, 1) := by decide +kernel
theorem dL_law_391 : decode cL_law 391 = .ok (.invokestatic 100, 3) := by decide +kernel
theorem dL_law_394 : decode cL_law 394 = .ok (.istore 13, 2) := by decide +kernel
theorem dL_law_396 : decode cL_law 396 = .ok (.iload 13, 2) := by decide +kernel
theorem dL_law_398 : decode cL_law 398 = .ok (.ldc 85, 2) := by decide +kernel
theorem dL_law_400 : decode cL_law 400 = .ok (.if_icmp .eq 35, 3) := by decide +kernel
theorem dL_law_403 : decode cL_law 403 = .ok (.iload 13, 2) := by decide +kernel
theorem dL_law_405 : decode cL_law 405 = .ok (.ldc 88, 2) := by decide +kernel
theorem dL_law_407 : decode cL_law 407 = .ok (.if_icmp .eq 28, 3) := by decide +kernel
theorem dL_law_410 : decode cL_law 410 = .ok (.aload_n 1, 1) := by decide +kernel
theorem dL_law_411 : decode cL_law 411 = .ok (.invokevirtual 96, 3) := by decide +kernel
theorem dL_law_414 : decode cL_law 414 = .ok (.lconst 0, 1) := by decide +kernel
theorem dL_law_415 : decode cL_law 415 = .ok (.lcmp, 1) := by decide +kernel
theorem dL_law_416 : decode cL_law 416 = .ok (.ifCond .lt 19, 3) := by decide +kernel
theorem dL_law_419 : decode cL_law 419 = .ok (.iload 13, 2) := by decide +kernel
theorem dL_law_421 : decode cL_law 421 = .ok (.bipush 8, 2) := by decide +kernel
theorem dL_law_423 : decode cL_law 423 = .ok (.if_icmp .ne 14, 3) := by decide +kernel
theorem dL_law_426 : decode cL_law 426 = .ok (.aload_n 1, 1) := by decide +kernel
theorem dL_law_427 : decode cL_law 427 = .ok (.invokevirtual 38, 3) := by decide +kernel
theorem dL_law_430 : decode cL_law 430 = .ok (.iload 10, 2) := by decide +kernel
theorem dL_law_432 : decode cL_law 432 = .ok (.if_icmp .eq 5, 3) := by decide +kernel
theorem dL_law_435 : decode cL_law 435 = .ok (.iconst 0, 1) := by decide +kernel
theorem dL_law_436 : decode cL_law 436 = .ok (.ireturn, 1) := by decide +kernel
theorem dL_law_437 : decode cL_law 437 = .ok (.goto 578, 3) := by decide +kernel
theorem dL_law_440 : decode cL_law 440 = .ok (.iload 7, 2) := by decide +kernel
theorem dL_law_442 : decode cL_law 442 = .ok (.bipush 6, 2) := by decide +kernel
theorem dL_law_444 : decode cL_law 444 = .ok (.if_icmp .eq 7, 3) := by decide +kernel
theorem dL_law_447 : decode cL_law 447 = .ok (.iload_n 3, 1) := by decide +kernel
theorem dL_law_448 : decode cL_law 448 = .ok (.ifCond .ne 66, 3) := by decide +kernel
theorem dL_law_451 : decode cL_law 451 = .ok (.aload_n 1, 1) := by decide +kernel
theorem dL_law_452 : decode cL_law 452 = .ok (.bipush 9, 2) := by decide +kernel
theorem dL_law_454 : decode cL_law 454 = .ok (.iload 8, 2) := by decide +kernel
theorem dL_law_456 : decode cL_law 456 = .ok (.sipush 201, 3) := by decide +kernel
theorem dL_law_459 : decode cL_law 459 = .ok (.irem, 1) := by decide +kernel
theorem dL_law_460 : decode cL_law 460 = .ok (.bipush 100, 2) := by decide +kernel
theorem dL_law_462 : decode cL_law 462 = .ok (.isub, 1) := by decide +kernel
theorem dL_law_463 : decode cL_law 463 = .ok (.bipush 10, 2) := by decide +kernel
theorem dL_law_465 : decode cL_law 465 = .ok (.iload 9, 2) := by decide +kernel
theorem dL_law_467 : decode cL_law 467 = .ok (.bipush 31, 2) := by decide +kernel
theorem dL_law_469 : decode cL_law 469 = .ok (.irem, 1) := by decide +kernel
theorem dL_law_470 : decode cL_law 470 = .ok (.iadd, 1) := by decide +kernel
theorem dL_law_471 : decode cL_law 471 = .ok (.iload 8, 2) := by decide +kernel
theorem dL_law_473 : decode cL_law 473 = .ok (.bipush 10, 2) := by decide +kernel
theorem dL_law_475 : decode cL_law 475 = .ok (.irem, 1) := by decide +kernel
theorem dL_law_476 : decode cL_law 476 = .ok (.iconst 0, 1) := by decide +kernel
theorem dL_law_477 : decode cL_law 477 = .ok (.invokestatic 100, 3) := by decide +kernel
theorem dL_law_480 : decode cL_law 480 = .ok (.iload_n 3, 1) := by decide +kernel
theorem dL_law_481 : decode cL_law 481 = .ok (.bipush 8, 2) := by decide +kernel
theorem dL_law_483 : decode cL_law 483 = .ok (.if_icmp .ge 7, 3) := by decide +kernel
theorem dL_law_486 : decode cL_law 486 = .ok (.iload_n 3, 1) := by decide +kernel
theorem dL_law_487 : decode cL_law 487 = .ok (.goto 5, 3) := by decide +kernel
theorem dL_law_490 : decode cL_law 490 = .ok (.ldc 91, 2) := by decide +kernel
theorem dL_law_492 : decode cL_law 492 = .ok (.if_icmp .eq 5, 3) := by decide +kernel
theorem dL_law_495 : decode cL_law 495 = .ok (.iconst 0, 1) := by decide +kernel
theorem dL_law_496 : decode cL_law 496 = .ok (.ireturn, 1) := by decide +kernel
theorem dL_law_497 : decode cL_law 497 = .ok (.iload_n 3, 1) := by decide +kernel
theorem dL_law_498 : decode cL_law 498 = .ok (.iload_n 3, 1) := by decide +kernel
theorem dL_law_499 : decode cL_law 499 = .ok (.bipush 8, 2) := by decide +kernel
theorem dL_law_501 : decode cL_law 501 = .ok (.if_icmp .ge 7, 3) := by decide +kernel
theorem dL_law_504 : decode cL_law 504 = .ok (.iconst 1, 1) := by decide +kernel
theorem dL_law_505 : decode cL_law 505 = .ok (.goto 4, 3) := by decide +kernel
theorem dL_law_508 : decode cL_law 508 = .ok (.iconst 0, 1) := by decide +kernel
theorem dL_law_509 : decode cL_law 509 = .ok (.iadd, 1) := by decide +kernel
theorem dL_law_510 : decode cL_law 510 = .ok (.istore_n 3, 1) := by decide +kernel
theorem dL_law_511 : decode cL_law 511 = .ok (.goto 504, 3) := by decide +kernel
theorem dL_law_514 : decode cL_law 514 = .ok (.iload 7, 2) := by decide +kernel
theorem dL_law_516 : decode cL_law 516 = .ok (.bipush 9, 2) := by decide +kernel
theorem dL_law_518 : decode cL_law 518 = .ok (.if_icmp .ge 205, 3) := by decide +kernel
theorem dL_law_521 : decode cL_law 521 = .ok (.iload 8, 2) := by decide +kernel
theorem dL_law_523 : decode cL_law 523 = .ok (.iload_n 3, 1) := by decide +kernel
theorem dL_law_524 : decode cL_law 524 = .ok (.irem, 1) := by decide +kernel
theorem dL_law_525 : decode cL_law 525 = .ok (.istore 10, 2) := by decide +kernel
theorem dL_law_527 : decode cL_law 527 = .ok (.aload_n 1, 1) := by decide +kernel
theorem dL_law_528 : decode cL_law 528 = .ok (.iconst 1, 1) := by decide +kernel
theorem dL_law_529 : decode cL_law 529 = .ok (.iload 9, 2) := by decide +kernel
theorem dL_law_531 : decode cL_law 531 = .ok (.bipush 30, 2) := by decide +kernel
theorem dL_law_533 : decode cL_law 533 = .ok (.irem, 1) := by decide +kernel
theorem dL_law_534 : decode cL_law 534 = .ok (.iadd, 1) := by decide +kernel
theorem dL_law_535 : decode cL_law 535 = .ok (.iload 8, 2) := by decide +kernel
theorem dL_law_537 : decode cL_law 537 = .ok (.bipush 10, 2) := by decide +kernel
theorem dL_law_539 : decode cL_law 539 = .ok (.irem, 1) := by decide +kernel
theorem dL_law_540 : decode cL_law 540 = .ok (.iload 9, 2) := by decide +kernel
theorem dL_law_542 : decode cL_law 542 = .ok (.bipush 41, 2) := by decide +kernel
theorem dL_law_544 : decode cL_law 544 = .ok (.irem, 1) := by decide +kernel
theorem dL_law_545 : decode cL_law 545 = .ok (.invokevirtual 62, 3) := by decide +kernel
theorem dL_law_548 : decode cL_law 548 = .ok (.istore 11, 2) := by decide +kernel
theorem dL_law_550 : decode cL_law 550 = .ok (.aload_n 1, 1) := by decide +kernel
theorem dL_law_551 : decode cL_law 551 = .ok (.iconst 1, 1) := by decide +kernel
theorem dL_law_552 : decode cL_law 552 = .ok (.iload 9, 2) := by decide +kernel
theorem dL_law_554 : decode cL_law 554 = .ok (.bipush 30, 2) := by decide +kernel
theorem dL_law_556 : decode cL_law 556 = .ok (.irem, 1) := by decide +kernel
theorem dL_law_557 : decode cL_law 557 = .ok (.iadd, 1) := by decide +kernel
theorem dL_law_558 : decode cL_law 558 = .ok (.iload 8, 2) := by decide +kernel
theorem dL_law_560 : decode cL_law 560 = .ok (.bipush 10, 2) := by decide +kernel
theorem dL_law_562 : decode cL_law 562 = .ok (.irem, 1) := by decide +kernel
theorem dL_law_563 : decode cL_law 563 = .ok (.iload 9, 2) := by decide +kernel
theorem dL_law_565 : decode cL_law 565 = .ok (.bipush 41, 2) := by decide +kernel
theorem dL_law_567 : decode cL_law 567 = .ok (.irem, 1) := by decide +kernel
theorem dL_law_568 : decode cL_law 568 = .ok (.invokevirtual 52, 3) := by decide +kernel
theorem dL_law_571 : decode cL_law 571 = .ok (.iload 11, 2) := by decide +kernel
theorem dL_law_573 : decode cL_law 573 = .ok (.if_icmp .ne 46, 3) := by decide +kernel
theorem dL_law_576 : decode cL_law 576 = .ok (.aload_n 1, 1) := by decide +kernel
theorem dL_law_577 : decode cL_law 577 = .ok (.invokevirtual 93, 3) := by decide +kernel
theorem dL_law_580 : decode cL_law 580 = .ok (.iload 11, 2) := by decide +kernel
theorem dL_law_582 : decode cL_law 582 = .ok (.if_icmp .ne 37, 3) := by decide +kernel
theorem dL_law_585 : decode cL_law 585 = .ok (.aload_n 1, 1) := by decide +kernel
theorem dL_law_586 : decode cL_law 586 = .ok (.iload 10, 2) := by decide +kernel
theorem dL_law_588 : decode cL_law 588 = .ok (.iconst 4, 1) := by decide +kernel
theorem dL_law_589 : decode cL_law 589 = .ok (.invokevirtual 55, 3) := by decide +kernel
theorem dL_law_592 : decode cL_law 592 = .ok (.ifCond .lt 27, 3) := by decide +kernel
theorem dL_law_595 : decode cL_law 595 = .ok (.aload_n 1, 1) := by decide +kernel
theorem dL_law_596 : decode cL_law 596 = .ok (.iload 10, 2) := by decide +kernel
theorem dL_law_598 : decode cL_law 598 = .ok (.iconst 4, 1) := by decide +kernel
theorem dL_law_599 : decode cL_law 599 = .ok (.invokevirtual 55, 3) := by decide +kernel
theorem dL_law_602 : decode cL_law 602 = .ok (.bipush 100, 2) := by decide +kernel
theorem dL_law_604 : decode cL_law 604 = .ok (.if_icmp .gt 15, 3) := by decide +kernel
theorem dL_law_607 : decode cL_law 607 = .ok (.aload_n 1, 1) := by decide +kernel
theorem dL_law_608 : decode cL_law 608 = .ok (.iload 10, 2) := by decide +kernel
theorem dL_law_610 : decode cL_law 610 = .ok (.iconst 1, 1) := by decide +kernel
theorem dL_law_611 : decode cL_law 611 = .ok (.invokevirtual 55, 3) := by decide +kernel
theorem dL_law_614 : decode cL_law 614 = .ok (.bipush (-100), 2) := by decide +kernel
theorem dL_law_616 : decode cL_law 616 = .ok (.if_icmp .ge 5, 3) := by decide +kernel
theorem dL_law_619 : decode cL_law 619 = .ok (.iconst 0, 1) := by decide +kernel
theorem dL_law_620 : decode cL_law 620 = .ok (.ireturn, 1) := by decide +kernel
theorem dL_law_621 : decode cL_law 621 = .ok (.aload_n 1, 1) := by decide +kernel
theorem dL_law_622 : decode cL_law 622 = .ok (.iload 10, 2) := by decide +kernel
theorem dL_law_624 : decode cL_law 624 = .ok (.iload 8, 2) := by decide +kernel
theorem dL_law_626 : decode cL_law 626 = .ok (.iconst 3, 1) := by decide +kernel
theorem dL_law_627 : decode cL_law 627 = .ok (.irem, 1) := by decide +kernel
theorem dL_law_628 : decode cL_law 628 = .ok (.ifCond .ne 7, 3) := by decide +kernel
theorem dL_law_631 : decode cL_law 631 = .ok (.iconst 1, 1) := by decide +kernel
theorem dL_law_632 : decode cL_law 632 = .ok (.goto 4, 3) := by decide +kernel
theorem dL_law_635 : decode cL_law 635 = .ok (.iconst 0, 1) := by decide +kernel
theorem dL_law_636 : decode cL_law 636 = .ok (.invokevirtual 48, 3) := by decide +kernel
theorem dL_law_639 : decode cL_law 639 = .ok (.istore 12, 2) := by decide +kernel
theorem dL_law_641 : decode cL_law 641 = .ok (.aload_n 1, 1) := by decide +kernel
theorem dL_law_642 : decode cL_law 642 = .ok (.iload 10, 2) := by decide +kernel
theorem dL_law_644 : decode cL_law 644 = .ok (.iload 12, 2) := by decide +kernel
theorem dL_law_646 : decode cL_law 646 = .ok (.invokevirtual 48, 3) := by decide +kernel
theorem dL_law_649 : decode cL_law 649 = .ok (.iload 8, 2) := by decide +kernel
theorem dL_law_651 : decode cL_law 651 = .ok (.iconst 3, 1) := by decide +kernel
theorem dL_law_652 : decode cL_law 652 = .ok (.irem, 1) := by decide +kernel
theorem dL_law_653 : decode cL_law 653 = .ok (.ifCond .ne 7, 3) := by decide +kernel
theorem dL_law_656 : decode cL_law 656 = .ok (.iconst 1, 1) := by decide +kernel
theorem dL_law_657 : decode cL_law 657 = .ok (.goto 4, 3) := by decide +kernel
theorem dL_law_660 : decode cL_law 660 = .ok (.iconst 0, 1) := by decide +kernel
theorem dL_law_661 : decode cL_law 661 = .ok (.if_icmp .ne 57, 3) := by decide +kernel
theorem dL_law_664 : decode cL_law 664 = .ok (.aload_n 1, 1) := by decide +kernel
theorem dL_law_665 : decode cL_law 665 = .ok (.iload 10, 2) := by decide +kernel
theorem dL_law_667 : decode cL_law 667 = .ok (.iload 8, 2) := by decide +kernel
theorem dL_law_669 : decode cL_law 669 = .ok (.iconst 3, 1) := by decide +kernel
theorem dL_law_670 : decode cL_law 670 = .ok (.irem, 1) := by decide +kernel
theorem dL_law_671 : decode cL_law 671 = .ok (.ifCond .ne 7, 3) := by decide +kernel
theorem dL_law_674 : decode cL_law 674 = .ok (.iconst 1, 1) := by decide +kernel
theorem dL_law_675 : decode cL_law 675 = .ok (.goto 4, 3) := by decide +kernel
theorem dL_law_678 : decode cL_law 678 = .ok (.iconst 0, 1) := by decide +kernel
theorem dL_law_679 : decode cL_law 679 = .ok (.invokevirtual 48, 3) := by decide +kernel
theorem dL_law_682 : decode cL_law 682 = .ok (.iload 12, 2) := by decide +kernel
theorem dL_law_684 : decode cL_law 684 = .ok (.if_icmp .ne 34, 3) := by decide +kernel
theorem dL_law_687 : decode cL_law 687 = .ok (.aload_n 1, 1) := by decide +kernel
theorem dL_law_688 : decode cL_law 688 = .ok (.bipush 10, 2) := by decide +kernel
theorem dL_law_690 : decode cL_law 690 = .ok (.iload 10, 2) := by decide +kernel
theorem dL_law_692 : decode cL_law 692 = .ok (.iload 9, 2) := by decide +kernel
theorem dL_law_694 : decode cL_law 694 = .ok (.bipush 41, 2) := by decide +kernel
theorem dL_law_696 : decode cL_law 696 = .ok (.irem, 1) := by decide +kernel
theorem dL_law_697 : decode cL_law 697 = .ok (.bipush 20, 2) := by decide +kernel
theorem dL_law_699 : decode cL_law 699 = .ok (.isub, 1) := by decide +kernel
theorem dL_law_700 : decode cL_law 700 = .ok (.iconst 0, 1) := by decide +kernel
theorem dL_law_701 : decode cL_law 701 = .ok (.iconst 0, 1) := by decide +kernel
theorem dL_law_702 : decode cL_law 702 = .ok (.invokestatic 100, 3) := by decide +kernel
theorem dL_law_705 : decode cL_law 705 = .ok (.ldc 85, 2) := by decide +kernel
theorem dL_law_707 : decode cL_law 707 = .ok (.if_icmp .eq 11, 3) := by decide +kernel
theorem dL_law_710 : decode cL_law 710 = .ok (.aload_n 1, 1) := by decide +kernel
theorem dL_law_711 : decode cL_law 711 = .ok (.invokevirtual 138, 3) := by decide +kernel
theorem dL_law_714 : decode cL_law 714 = .ok (.iload_n 3, 1) := by decide +kernel
theorem dL_law_715 : decode cL_law 715 = .ok (.if_icmp .lt 5, 3) := by decide +kernel
theorem dL_law_718 : decode cL_law 718 = .ok (.iconst 0, 1) := by decide +kernel
theorem dL_law_719 : decode cL_law 719 = .ok (.ireturn, 1) := by decide +kernel
theorem dL_law_720 : decode cL_law 720 = .ok (.goto 295, 3) := by decide +kernel
theorem dL_law_723 : decode cL_law 723 = .ok (.iload 7, 2) := by decide +kernel
theorem dL_law_725 : decode cL_law 725 = .ok (.bipush 9, 2) := by decide +kernel
theorem dL_law_727 : decode cL_law 727 = .ok (.if_icmp .eq 8, 3) := by decide +kernel
theorem dL_law_730 : decode cL_law 730 = .ok (.iload 4, 2) := by decide +kernel
theorem dL_law_732 : decode cL_law 732 = .ok (.ifCond .ne 57, 3) := by decide +kernel
theorem dL_law_735 : decode cL_law 735 = .ok (.aload_n 1, 1) := by decide +kernel
theorem dL_law_736 : decode cL_law 736 = .ok (.bipush 16, 2) := by decide +kernel
theorem dL_law_738 : decode cL_law 738 = .ok (.iconst 1, 1) := by decide +kernel
theorem dL_law_739 : decode cL_law 739 = .ok (.iload 8, 2) := by decide +kernel
theorem dL_law_741 : decode cL_law 741 = .ok (.iconst 5, 1) := by decide +kernel
theorem dL_law_742 : decode cL_law 742 = .ok (.irem, 1) := by decide +kernel
theorem dL_law_743 : decode cL_law 743 = .ok (.iadd, 1) := by decide +kernel
theorem dL_law_744 : decode cL_law 744 = .ok (.iconst 0, 1) := by decide +kernel
theorem dL_law_745 : decode cL_law 745 = .ok (.iconst 0, 1) := by decide +kernel
theorem dL_law_746 : decode cL_law 746 = .ok (.iconst 0, 1) := by decide +kernel
theorem dL_law_747 : decode cL_law 747 = .ok (.invokestatic 100, 3) := by decide +kernel
theorem dL_law_750 : decode cL_law 750 = .ok (.iload 4, 2) := by decide +kernel
theorem dL_law_752 : decode cL_law 752 = .ok (.bipush 8, 2) := by decide +kernel
theorem dL_law_754 : decode cL_law 754 = .ok (.if_icmp .ge 8, 3) := by decide +kernel
theorem dL_law_757 : decode cL_law 757 = .ok (.iload 4, 2) := by decide +kernel
theorem dL_law_759 : decode cL_law 759 = .ok (.goto 5, 3) := by decide +kernel
theorem dL_law_762 : decode cL_law 762 = .ok (.ldc 91, 2) := by decide +kernel
theorem dL_law_764 : decode cL_law 764 = .ok (.if_icmp .eq 5, 3) := by decide +kernel
theorem dL_law_767 : decode cL_law 767 = .ok (.iconst 0, 1) := by decide +kernel
theorem dL_law_768 : decode cL_law 768 = .ok (.ireturn, 1) := by decide +kernel
theorem dL_law_769 : decode cL_law 769 = .ok (.iload 4, 2) := by decide +kernel
theorem dL_law_771 : decode cL_law 771 = .ok (.iload 4, 2) := by decide +kernel
theorem dL_law_773 : decode cL_law 773 = .ok (.bipush 8, 2) := by decide +kernel
theorem dL_law_775 : decode cL_law 775 = .ok (.if_icmp .ge 7, 3) := by decide +kernel
theorem dL_law_778 : decode cL_law 778 = .ok (.iconst 1, 1) := by decide +kernel
theorem dL_law_779 : decode cL_law 779 = .ok (.goto 4, 3) := by decide +kernel
theorem dL_law_782 : decode cL_law 782 = .ok (.iconst 0, 1) := by decide +kernel
theorem dL_law_783 : decode cL_law 783 = .ok (.iadd, 1) := by decide +kernel
theorem dL_law_784 : decode cL_law 784 = .ok (.istore 4, 2) := by decide +kernel
theorem dL_law_786 : decode cL_law 786 = .ok (.goto 229, 3) := by decide +kernel
theorem dL_law_789 : decode cL_law 789 = .ok (.iload 7, 2) := by decide +kernel
theorem dL_law_791 : decode cL_law 791 = .ok (.bipush 10, 2) := by decide +kernel
theorem dL_law_793 : decode cL_law 793 = .ok (.if_icmp .ne 170, 3) := by decide +kernel
theorem dL_law_796 : decode cL_law 796 = .ok (.aload_n 1, 1) := by decide +kernel
theorem dL_law_797 : decode cL_law 797 = .ok (.bipush 17, 2) := by decide +kernel
theorem dL_law_799 : decode cL_law 799 = .ok (.iconst 1, 1) := by decide +kernel
theorem dL_law_800 : decode cL_law 800 = .ok (.iload 8, 2) := by decide +kernel
theorem dL_law_802 : decode cL_law 802 = .ok (.iconst 5, 1) := by decide +kernel
theorem dL_law_803 : decode cL_law 803 = .ok (.irem, 1) := by decide +kernel
theorem dL_law_804 : decode cL_law 804 = .ok (.iadd, 1) := by decide +kernel
theorem dL_law_805 : decode cL_law 805 = .ok (.iconst 0, 1) := by decide +kernel
theorem dL_law_806 : decode cL_law 806 = .ok (.iconst 0, 1) := by decide +kernel
theorem dL_law_807 : decode cL_law 807 = .ok (.iconst 0, 1) := by decide +kernel
theorem dL_law_808 : decode cL_law 808 = .ok (.invokestatic 100, 3) := by decide +kernel
theorem dL_law_811 : decode cL_law 811 = .ok (.istore 10, 2) := by decide +kernel
theorem dL_law_813 : decode cL_law 813 = .ok (.iload 10, 2) := by decide +kernel
theorem dL_law_815 : decode cL_law 815 = .ok (.ldc 91, 2) := by decide +kernel
theorem dL_law_817 : decode cL_law 817 = .ok (.if_icmp .eq 18, 3) := by decide +kernel
theorem dL_law_820 : decode cL_law 820 = .ok (.iload 10, 2) := by decide +kernel
theorem dL_law_822 : decode cL_law 822 = .ok (.iconst 2, 1) := by decide +kernel
theorem dL_law_823 : decode cL_law 823 = .ok (.if_icmp .lt 10, 3) := by decide +kernel
theorem dL_law_826 : decode cL_law 826 = .ok (.iload 10, 2) := by decide +kernel
theorem dL_law_828 : decode cL_law 828 = .ok (.iload 4, 2) := by decide +kernel
theorem dL_law_830 : decode cL_law 830 = .ok (.if_icmp .le 5, 3) := by decide +kernel
theorem dL_law_833 : decode cL_law 833 = .ok (.iconst 0, 1) := by decide +kernel
theorem dL_law_834 : decode cL_law 834 = .ok (.ireturn, 1) := by decide +kernel
theorem dL_law_835 : decode cL_law 835 = .ok (.iconst 0, 1) := by decide +kernel
theorem dL_law_836 : decode cL_law 836 = .ok (.istore 11, 2) := by decide +kernel
theorem dL_law_838 : decode cL_law 838 = .ok (.iload 11, 2) := by decide +kernel
theorem dL_law_840 : decode cL_law 840 = .ok (.bipush 32, 2) := by decide +kernel
theorem dL_law_842 : decode cL_law 842 = .ok (.if_icmp .ge 61, 3) := by decide +kernel
theorem dL_law_845 : decode cL_law 845 = .ok (.iload 10, 2) := by decide +kernel
theorem dL_law_847 : decode cL_law 847 = .ok (.iconst 1, 1) := by decide +kernel
theorem dL_law_848 : decode cL_law 848 = .ok (.if_icmp .le 55, 3) := by decide +kernel
theorem dL_law_851 : decode cL_law 851 = .ok (.aload_n 1, 1) := by decide +kernel
theorem dL_law_852 : decode cL_law 852 = .ok (.bipush 18, 2) := by decide +kernel
theorem dL_law_854 : decode cL_law 854 = .ok (.iload 11, 2) := by decide +kernel
theorem dL_law_856 : decode cL_law 856 = .ok (.iconst 4, 1) := by decide +kernel
theorem dL_law_857 : decode cL_law 857 = .ok (.irem, 1) := by decide +kernel
theorem dL_law_858 : decode cL_law 858 = .ok (.iload 11, 2) := by decide +kernel
theorem dL_law_860 : decode cL_law 860 = .ok (.iconst 4, 1) := by decide +kernel
theorem dL_law_861 : decode cL_law 861 = .ok (.idiv, 1) := by decide +kernel
theorem dL_law_862 : decode cL_law 862 = .ok (.iload 4, 2) := by decide +kernel
theorem dL_law_864 : decode cL_law 864 = .ok (.if_icmp .ge 10, 3) := by decide +kernel
theorem dL_law_867 : decode cL_law 867 = .ok (.iload 11, 2) := by decide +kernel
theorem dL_law_869 : decode cL_law 869 = .ok (.iconst 4, 1) := by decide +kernel
theorem dL_law_870 : decode cL_law 870 = .ok (.idiv, 1) := by decide +kernel
theorem dL_law_871 : decode cL_law 871 = .ok (.goto 4, 3) := by decide +kernel
theorem dL_law_874 : decode cL_law 874 = .ok (.iconst 0, 1) := by decide +kernel
theorem dL_law_875 : decode cL_law 875 = .ok (.iload 8, 2) := by decide +kernel
theorem dL_law_877 : decode cL_law 877 = .ok (.bipush 7, 2) := by decide +kernel
theorem dL_law_879 : decode cL_law 879 = .ok (.iload 11, 2) := by decide +kernel
theorem dL_law_881 : decode cL_law 881 = .ok (.imul, 1) := by decide +kernel
theorem dL_law_882 : decode cL_law 882 = .ok (.iadd, 1) := by decide +kernel
theorem dL_law_883 : decode cL_law 883 = .ok (.bipush 101, 2) := by decide +kernel
theorem dL_law_885 : decode cL_law 885 = .ok (.irem, 1) := by decide +kernel
theorem dL_law_886 : decode cL_law 886 = .ok (.iconst 0, 1) := by decide +kernel
theorem dL_law_887 : decode cL_law 887 = .ok (.invokestatic 100, 3) := by decide +kernel
theorem dL_law_890 : decode cL_law 890 = .ok (.ldc 88, 2) := by decide +kernel
theorem dL_law_892 : decode cL_law 892 = .ok (.if_icmp .ne 5, 3) := by decide +kernel
theorem dL_law_895 : decode cL_law 895 = .ok (.iconst 0, 1) := by decide +kernel
theorem dL_law_896 : decode cL_law 896 = .ok (.ireturn, 1) := by decide +kernel
theorem dL_law_897 : decode cL_law 897 = .ok (.iinc 11 1, 3) := by decide +kernel
theorem dL_law_900 : decode cL_law 900 = .ok (.goto (-62), 3) := by decide +kernel
theorem dL_law_903 : decode cL_law 903 = .ok (.aload_n 1, 1) := by decide +kernel
theorem dL_law_904 : decode cL_law 904 = .ok (.bipush 19, 2) := by decide +kernel
theorem dL_law_906 : decode cL_law 906 = .ok (.iconst 0, 1) := by decide +kernel
theorem dL_law_907 : decode cL_law 907 = .ok (.iconst 0, 1) := by decide +kernel
theorem dL_law_908 : decode cL_law 908 = .ok (.iconst 0, 1) := by decide +kernel
theorem dL_law_909 : decode cL_law 909 = .ok (.iconst 0, 1) := by decide +kernel
theorem dL_law_910 : decode cL_law 910 = .ok (.invokestatic 100, 3) := by decide +kernel
theorem dL_law_913 : decode cL_law 913 = .ok (.istore 11, 2) := by decide +kernel
theorem dL_law_915 : decode cL_law 915 = .ok (.iload 10, 2) := by decide +kernel
theorem dL_law_917 : decode cL_law 917 = .ok (.iconst 1, 1) := by decide +kernel
theorem dL_law_918 : decode cL_law 918 = .ok (.if_icmp .le 33, 3) := by decide +kernel
theorem dL_law_921 : decode cL_law 921 = .ok (.iload 11, 2) := by decide +kernel
theorem dL_law_923 : decode cL_law 923 = .ok (.ifCond .lt 35, 3) := by decide +kernel
theorem dL_law_926 : decode cL_law 926 = .ok (.aload_n 1, 1) := by decide +kernel
theorem dL_law_927 : decode cL_law 927 = .ok (.iload 11, 2) := by decide +kernel
theorem dL_law_929 : decode cL_law 929 = .ok (.iconst 2, 1) := by decide +kernel
theorem dL_law_930 : decode cL_law 930 = .ok (.invokevirtual 80, 3) := by decide +kernel
theorem dL_law_933 : decode cL_law 933 = .ok (.iconst 1, 1) := by decide +kernel
theorem dL_law_934 : decode cL_law 934 = .ok (.if_icmp .ne 24, 3) := by decide +kernel
theorem dL_law_937 : decode cL_law 937 = .ok (.aload_n 1, 1) := by decide +kernel
theorem dL_law_938 : decode cL_law 938 = .ok (.iload 11, 2) := by decide +kernel
theorem dL_law_940 : decode cL_law 940 = .ok (.iconst 3, 1) := by decide +kernel
theorem dL_law_941 : decode cL_law 941 = .ok (.invokevirtual 80, 3) := by decide +kernel
theorem dL_law_944 : decode cL_law 944 = .ok (.iconst 4, 1) := by decide +kernel
theorem dL_law_945 : decode cL_law 945 = .ok (.if_icmp .ge 15, 3) := by decide +kernel
theorem dL_law_948 : decode cL_law 948 = .ok (.goto 10, 3) := by decide +kernel
theorem dL_law_951 : decode cL_law 951 = .ok (.iload 11, 2) := by decide +kernel
theorem dL_law_953 : decode cL_law 953 = .ok (.ldc 91, 2) := by decide +kernel
theorem dL_law_955 : decode cL_law 955 = .ok (.if_icmp .eq 5, 3) := by decide +kernel
theorem dL_law_958 : decode cL_law 958 = .ok (.iconst 0, 1) := by decide +kernel
theorem dL_law_959 : decode cL_law 959 = .ok (.ireturn, 1) := by decide +kernel
theorem dL_law_960 : decode cL_law 960 = .ok (.goto 55, 3) := by decide +kernel
theorem dL_law_963 : decode cL_law 963 = .ok (.aload_n 1, 1) := by decide +kernel
theorem dL_law_964 : decode cL_law 964 = .ok (.invokevirtual 77, 3) := by decide +kernel
theorem dL_law_967 : decode cL_law 967 = .ok (.iload 4, 2) := by decide +kernel
theorem dL_law_969 : decode cL_law 969 = .ok (.if_icmp .gt 44, 3) := by decide +kernel
theorem dL_law_972 : decode cL_law 972 = .ok (.aload_n 1, 1) := by decide +kernel
theorem dL_law_973 : decode cL_law 973 = .ok (.iload 8, 2) := by decide +kernel
theorem dL_law_975 : decode cL_law 975 = .ok (.iload 4, 2) := by decide +kernel
theorem dL_law_977 : decode cL_law 977 = .ok (.irem, 1) := by decide +kernel
theorem dL_law_978 : decode cL_law 978 = .ok (.iconst 1, 1) := by decide +kernel
theorem dL_law_979 : decode cL_law 979 = .ok (.invokevirtual 80, 3) := by decide +kernel
theorem dL_law_982 : decode cL_law 982 = .ok (.ifCond .ne 31, 3) := by decide +kernel
theorem dL_law_985 : decode cL_law 985 = .ok (.aload_n 1, 1) := by decide +kernel
theorem dL_law_986 : decode cL_law 986 = .ok (.iload 8, 2) := by decide +kernel
theorem dL_law_988 : decode cL_law 988 = .ok (.iload 4, 2) := by decide +kernel
theorem dL_law_990 : decode cL_law 990 = .ok (.irem, 1) := by decide +kernel
theorem dL_law_991 : decode cL_law 991 = .ok (.iconst 0, 1) := by decide +kernel
theorem dL_law_992 : decode cL_law 992 = .ok (.invokevirtual 80, 3) := by decide +kernel
theorem dL_law_995 : decode cL_law 995 = .ok (.iconst 1, 1) := by decide +kernel
theorem dL_law_996 : decode cL_law 996 = .ok (.if_icmp .lt 17, 3) := by decide +kernel
theorem dL_law_999 : decode cL_law 999 = .ok (.aload_n 1, 1) := by decide +kernel
theorem dL_law_1000 : decode cL_law 1000 = .ok (.iload 8, 2) := by decide +kernel
theorem dL_law_1002 : decode cL_law 1002 = .ok (.iload 4, 2) := by decide +kernel
theorem dL_law_1004 : decode cL_law 1004 = .ok (.irem, 1) := by decide +kernel
theorem dL_law_1005 : decode cL_law 1005 = .ok (.iconst 0, 1) := by decide +kernel
theorem dL_law_1006 : decode cL_law 1006 = .ok (.invokevirtual 80, 3) := by decide +kernel
theorem dL_law_1009 : decode cL_law 1009 = .ok (.iconst 5, 1) := by decide +kernel
theorem dL_law_1010 : decode cL_law 1010 = .ok (.if_icmp .le 5, 3) := by decide +kernel
theorem dL_law_1013 : decode cL_law 1013 = .ok (.iconst 0, 1) := by decide +kernel
theorem dL_law_1014 : decode cL_law 1014 = .ok (.ireturn, 1) := by decide +kernel
theorem dL_law_1015 : decode cL_law 1015 = .ok (.iload 5, 2) := by decide +kernel
theorem dL_law_1017 : decode cL_law 1017 = .ok (.bipush 16, 2) := by decide +kernel
theorem dL_law_1019 : decode cL_law 1019 = .ok (.irem, 1) := by decide +kernel
theorem dL_law_1020 : decode cL_law 1020 = .ok (.ifCond .ne 16, 3) := by decide +kernel
theorem dL_law_1023 : decode cL_law 1023 = .ok (.aload_n 1, 1) := by decide +kernel
theorem dL_law_1024 : decode cL_law 1024 = .ok (.iload_n 2, 1) := by decide +kernel
theorem dL_law_1025 : decode cL_law 1025 = .ok (.iload_n 3, 1) := by decide +kernel
theorem dL_law_1026 : decode cL_law 1026 = .ok (.iload 4, 2) := by decide +kernel
theorem dL_law_1028 : decode cL_law 1028 = .ok (.invokestatic 107, 3) := by decide +kernel
theorem dL_law_1031 : decode cL_law 1031 = .ok (.ifCond .ne 5, 3) := by decide +kernel
theorem dL_law_1034 : decode cL_law 1034 = .ok (.iconst 0, 1) := by decide +kernel
theorem dL_law_1035 : decode cL_law 1035 = .ok (.ireturn, 1) := by decide +kernel
theorem dL_law_1036 : decode cL_law 1036 = .ok (.iinc 5 1, 3) := by decide +kernel
theorem dL_law_1039 : decode cL_law 1039 = .ok (.goto (-1013), 3) := by decide +kernel
theorem dL_law_1042 : decode cL_law 1042 = .ok (.iconst 1, 1) := by decide +kernel
theorem dL_law_1043 : decode cL_law 1043 = .ok (.ireturn, 1) := by decide +kernel
