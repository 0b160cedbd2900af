theorem dL_acts_0 : decode cL_acts 0 = .ok (.iload 11, 2) := by decide +kernel
theorem dL_acts_2 : decode cL_acts 2 = .ok (.aload 8, 2) := by decide +kernel
theorem dL_acts_4 : decode cL_acts 4 = .ok (.iconst 0, 1) := by decide +kernel
theorem dL_acts_5 : decode cL_acts 5 = .ok (.iaload, 1) := by decide +kernel
theorem dL_acts_6 : decode cL_acts 6 = .ok (.irem, 1) := by decide +kernel
theorem dL_acts_7 : decode cL_acts 7 = .ok (.istore 12, 2) := by decide +kernel
theorem dL_acts_9 : decode cL_acts 9 = .ok (.iload 10, 2) := by decide +kernel
theorem dL_acts_11 : decode cL_acts 11 = .ok (.ifCond .ne 48, 3) := by decide +kernel
theorem dL_acts_14 : decode cL_acts 14 = .ok (.aload 8, 2) := by decide +kernel
theorem dL_acts_16 : decode cL_acts 16 = .ok (.iconst 0, 1) := by decide +kernel
theorem dL_acts_17 : decode cL_acts 17 = .ok (.iaload, 1) := by decide +kernel
theorem dL_acts_18 : decode cL_acts 18 = .ok (.iconst 3, 1) := by decide +kernel
theorem dL_acts_19 : decode cL_acts 19 = .ok (.if_icmp .ge 40, 3) := by decide +kernel
theorem dL_acts_22 : decode cL_acts 22 = .ok (.aload_n 3, 1) := by decide +kernel
theorem dL_acts_23 : decode cL_acts 23 = .ok (.aload 8, 2) := by decide +kernel
theorem dL_acts_25 : decode cL_acts 25 = .ok (.iconst 0, 1) := by decide +kernel
theorem dL_acts_26 : decode cL_acts 26 = .ok (.iaload, 1) := by decide +kernel
theorem dL_acts_27 : decode cL_acts 27 = .ok (.aload 8, 2) := by decide +kernel
theorem dL_acts_29 : decode cL_acts 29 = .ok (.iconst 3, 1) := by decide +kernel
theorem dL_acts_30 : decode cL_acts 30 = .ok (.iaload, 1) := by decide +kernel
theorem dL_acts_31 : decode cL_acts 31 = .ok (.iastore, 1) := by decide +kernel
theorem dL_acts_32 : decode cL_acts 32 = .ok (.aload 8, 2) := by decide +kernel
theorem dL_acts_34 : decode cL_acts 34 = .ok (.iconst 0, 1) := by decide +kernel
theorem dL_acts_35 : decode cL_acts 35 = .ok (.dup2, 1) := by decide +kernel
theorem dL_acts_36 : decode cL_acts 36 = .ok (.iaload, 1) := by decide +kernel
theorem dL_acts_37 : decode cL_acts 37 = .ok (.iconst 1, 1) := by decide +kernel
theorem dL_acts_38 : decode cL_acts 38 = .ok (.iadd, 1) := by decide +kernel
theorem dL_acts_39 : decode cL_acts 39 = .ok (.iastore, 1) := by decide +kernel
theorem dL_acts_40 : decode cL_acts 40 = .ok (.aload_n 0, 1) := by decide +kernel
theorem dL_acts_41 : decode cL_acts 41 = .ok (.invokevirtual 107, 3) := by decide +kernel
theorem dL_acts_44 : decode cL_acts 44 = .ok (.aload 8, 2) := by decide +kernel
theorem dL_acts_46 : decode cL_acts 46 = .ok (.iconst 0, 1) := by decide +kernel
theorem dL_acts_47 : decode cL_acts 47 = .ok (.iaload, 1) := by decide +kernel
theorem dL_acts_48 : decode cL_acts 48 = .ok (.iconst 1, 1) := by decide +kernel
theorem dL_acts_49 : decode cL_acts 49 = .ok (.isub, 1) := by decide +kernel
theorem dL_acts_50 : decode cL_acts 50 = .ok (.if_icmp .ne 7, 3) := by decide +kernel
theorem dL_acts_53 : decode cL_acts 53 = .ok (.iconst 1, 1) := by decide +kernel
theorem dL_acts_54 : decode cL_acts 54 = .ok (.goto 4, 3) := by decide +kernel
theorem dL_acts_57 : decode cL_acts 57 = .ok (.iconst 0, 1) := by decide +kernel
theorem dL_acts_58 : decode cL_acts 58 = .ok (.ireturn, 1) := by decide +kernel
theorem dL_acts_59 : decode cL_acts 59 = .ok (.iload 10, 2) := by decide +kernel
theorem dL_acts_61 : decode cL_acts 61 = .ok (.iconst 1, 1) := by decide +kernel
theorem dL_acts_62 : decode cL_acts 62 = .ok (.if_icmp .ne 41, 3) := by decide +kernel
theorem dL_acts_65 : decode cL_acts 65 = .ok (.aload 8, 2) := by decide +kernel
theorem dL_acts_67 : decode cL_acts 67 = .ok (.iconst 3, 1) := by decide +kernel
theorem dL_acts_68 : decode cL_acts 68 = .ok (.iaload, 1) := by decide +kernel
theorem dL_acts_69 : decode cL_acts 69 = .ok (.istore 13, 2) := by decide +kernel
theorem dL_acts_71 : decode cL_acts 71 = .ok (.aload 8, 2) := by decide +kernel
theorem dL_acts_73 : decode cL_acts 73 = .ok (.iconst 3, 1) := by decide +kernel
theorem dL_acts_74 : decode cL_acts 74 = .ok (.bipush 100, 2) := by decide +kernel
theorem dL_acts_76 : decode cL_acts 76 = .ok (.iload 11, 2) := by decide +kernel
theorem dL_acts_78 : decode cL_acts 78 = .ok (.sipush 301, 3) := by decide +kernel
theorem dL_acts_81 : decode cL_acts 81 = .ok (.irem, 1) := by decide +kernel
theorem dL_acts_82 : decode cL_acts 82 = .ok (.iadd, 1) := by decide +kernel
theorem dL_acts_83 : decode cL_acts 83 = .ok (.iastore, 1) := by decide +kernel
theorem dL_acts_84 : decode cL_acts 84 = .ok (.aload_n 0, 1) := by decide +kernel
theorem dL_acts_85 : decode cL_acts 85 = .ok (.aload 8, 2) := by decide +kernel
theorem dL_acts_87 : decode cL_acts 87 = .ok (.iconst 3, 1) := by decide +kernel
theorem dL_acts_88 : decode cL_acts 88 = .ok (.iaload, 1) := by decide +kernel
theorem dL_acts_89 : decode cL_acts 89 = .ok (.invokevirtual 110, 3) := by decide +kernel
theorem dL_acts_92 : decode cL_acts 92 = .ok (.iload 13, 2) := by decide +kernel
theorem dL_acts_94 : decode cL_acts 94 = .ok (.if_icmp .ne 7, 3) := by decide +kernel
theorem dL_acts_97 : decode cL_acts 97 = .ok (.iconst 1, 1) := by decide +kernel
theorem dL_acts_98 : decode cL_acts 98 = .ok (.goto 4, 3) := by decide +kernel
theorem dL_acts_101 : decode cL_acts 101 = .ok (.iconst 0, 1) := by decide +kernel
theorem dL_acts_102 : decode cL_acts 102 = .ok (.ireturn, 1) := by decide +kernel
theorem dL_acts_103 : decode cL_acts 103 = .ok (.iload 10, 2) := by decide +kernel
theorem dL_acts_105 : decode cL_acts 105 = .ok (.iconst 2, 1) := by decide +kernel
theorem dL_acts_106 : decode cL_acts 106 = .ok (.if_icmp .ne 39, 3) := by decide +kernel
theorem dL_acts_109 : decode cL_acts 109 = .ok (.aload 8, 2) := by decide +kernel
theorem dL_acts_111 : decode cL_acts 111 = .ok (.iconst 4, 1) := by decide +kernel
theorem dL_acts_112 : decode cL_acts 112 = .ok (.iaload, 1) := by decide +kernel
theorem dL_acts_113 : decode cL_acts 113 = .ok (.istore 13, 2) := by decide +kernel
theorem dL_acts_115 : decode cL_acts 115 = .ok (.aload 8, 2) := by decide +kernel
theorem dL_acts_117 : decode cL_acts 117 = .ok (.iconst 4, 1) := by decide +kernel
theorem dL_acts_118 : decode cL_acts 118 = .ok (.iload 11, 2) := by decide +kernel
theorem dL_acts_120 : decode cL_acts 120 = .ok (.iconst 3, 1) := by decide +kernel
theorem dL_acts_121 : decode cL_acts 121 = .ok (.irem, 1) := by decide +kernel
theorem dL_acts_122 : decode cL_acts 122 = .ok (.bipush 37, 2) := by decide +kernel
theorem dL_acts_124 : decode cL_acts 124 = .ok (.imul, 1) := by decide +kernel
theorem dL_acts_125 : decode cL_acts 125 = .ok (.iastore, 1) := by decide +kernel
theorem dL_acts_126 : decode cL_acts 126 = .ok (.aload_n 0, 1) := by decide +kernel
theorem dL_acts_127 : decode cL_acts 127 = .ok (.aload 8, 2) := by decide +kernel
theorem dL_acts_129 : decode cL_acts 129 = .ok (.iconst 4, 1) := by decide +kernel
theorem dL_acts_130 : decode cL_acts 130 = .ok (.iaload, 1) := by decide +kernel
theorem dL_acts_131 : decode cL_acts 131 = .ok (.invokevirtual 113, 3) := by decide +kernel
theorem dL_acts_134 : decode cL_acts 134 = .ok (.iload 13, 2) := by decide +kernel
theorem dL_acts_136 : decode cL_acts 136 = .ok (.if_icmp .ne 7, 3) := by decide +kernel
theorem dL_acts_139 : decode cL_acts 139 = .ok (.iconst 1, 1) := by decide +kernel
theorem dL_acts_140 : decode cL_acts 140 = .ok (.goto 4, 3) := by decide +kernel
theorem dL_acts_143 : decode cL_acts 143 = .ok (.iconst 0, 1) := by decide +kernel
theorem dL_acts_144 : decode cL_acts 144 = .ok (.ireturn, 1) := by decide +kernel
theorem dL_acts_145 : decode cL_acts 145 = .ok (.iload 10, 2) := by decide +kernel
theorem dL_acts_147 : decode cL_acts 147 = .ok (.bipush 6, 2) := by decide +kernel
theorem dL_acts_149 : decode cL_acts 149 = .ok (.if_icmp .ge 187, 3) := by decide +kernel
theorem dL_acts_152 : decode cL_acts 152 = .ok (.iload 11, 2) := by decide +kernel
theorem dL_acts_154 : decode cL_acts 154 = .ok (.iconst 3, 1) := by decide +kernel
theorem dL_acts_155 : decode cL_acts 155 = .ok (.idiv, 1) := by decide +kernel
theorem dL_acts_156 : decode cL_acts 156 = .ok (.iconst 5, 1) := by decide +kernel
theorem dL_acts_157 : decode cL_acts 157 = .ok (.irem, 1) := by decide +kernel
theorem dL_acts_158 : decode cL_acts 158 = .ok (.istore 13, 2) := by decide +kernel
theorem dL_acts_160 : decode cL_acts 160 = .ok (.iload 11, 2) := by decide +kernel
theorem dL_acts_162 : decode cL_acts 162 = .ok (.bipush 15, 2) := by decide +kernel
theorem dL_acts_164 : decode cL_acts 164 = .ok (.idiv, 1) := by decide +kernel
theorem dL_acts_165 : decode cL_acts 165 = .ok (.iconst 3, 1) := by decide +kernel
theorem dL_acts_166 : decode cL_acts 166 = .ok (.irem, 1) := by decide +kernel
theorem dL_acts_167 : decode cL_acts 167 = .ok (.ifCond .ne 7, 3) := by decide +kernel
theorem dL_acts_170 : decode cL_acts 170 = .ok (.iconst 1, 1) := by decide +kernel
theorem dL_acts_171 : decode cL_acts 171 = .ok (.goto 4, 3) := by decide +kernel
theorem dL_acts_174 : decode cL_acts 174 = .ok (.iconst 0, 1) := by decide +kernel
theorem dL_acts_175 : decode cL_acts 175 = .ok (.istore 14, 2) := by decide +kernel
theorem dL_acts_177 : decode cL_acts 177 = .ok (.iconst 0, 1) := by decide +kernel
theorem dL_acts_178 : decode cL_acts 178 = .ok (.istore 15, 2) := by decide +kernel
theorem dL_acts_180 : decode cL_acts 180 = .ok (.iconst 0, 1) := by decide +kernel
theorem dL_acts_181 : decode cL_acts 181 = .ok (.istore 16, 2) := by decide +kernel
theorem dL_acts_183 : decode cL_acts 183 = .ok (.iload 16, 2) := by decide +kernel
theorem dL_acts_185 : decode cL_acts 185 = .ok (.iconst 5, 1) := by decide +kernel
theorem dL_acts_186 : decode cL_acts 186 = .ok (.if_icmp .ge 45, 3) := by decide +kernel
theorem dL_acts_189 : decode cL_acts 189 = .ok (.iload 15, 2) := by decide +kernel
theorem dL_acts_191 : decode cL_acts 191 = .ok (.iload 16, 2) := by decide +kernel
theorem dL_acts_193 : decode cL_acts 193 = .ok (.iload 13, 2) := by decide +kernel
theorem dL_acts_195 : decode cL_acts 195 = .ok (.if_icmp .eq 26, 3) := by decide +kernel
theorem dL_acts_198 : decode cL_acts 198 = .ok (.aload_n 1, 1) := by decide +kernel
theorem dL_acts_199 : decode cL_acts 199 = .ok (.iload 16, 2) := by decide +kernel
theorem dL_acts_201 : decode cL_acts 201 = .ok (.iaload, 1) := by decide +kernel
theorem dL_acts_202 : decode cL_acts 202 = .ok (.ifCond .le 19, 3) := by decide +kernel
theorem dL_acts_205 : decode cL_acts 205 = .ok (.aload_n 2, 1) := by decide +kernel
theorem dL_acts_206 : decode cL_acts 206 = .ok (.iconst 5, 1) := by decide +kernel
theorem dL_acts_207 : decode cL_acts 207 = .ok (.iload 12, 2) := by decide +kernel
theorem dL_acts_209 : decode cL_acts 209 = .ok (.imul, 1) := by decide +kernel
theorem dL_acts_210 : decode cL_acts 210 = .ok (.iload 16, 2) := by decide +kernel
theorem dL_acts_212 : decode cL_acts 212 = .ok (.iadd, 1) := by decide +kernel
theorem dL_acts_213 : decode cL_acts 213 = .ok (.iaload, 1) := by decide +kernel
theorem dL_acts_214 : decode cL_acts 214 = .ok (.ifCond .ne 7, 3) := by decide +kernel
theorem dL_acts_217 : decode cL_acts 217 = .ok (.iconst 1, 1) := by decide +kernel
theorem dL_acts_218 : decode cL_acts 218 = .ok (.goto 4, 3) := by decide +kernel
theorem dL_acts_221 : decode cL_acts 221 = .ok (.iconst 0, 1) := by decide +kernel
theorem dL_acts_222 : decode cL_acts 222 = .ok (.iadd, 1) := by decide +kernel
theorem dL_acts_223 : decode cL_acts 223 = .ok (.istore 15, 2) := by decide +kernel
theorem dL_acts_225 : decode cL_acts 225 = .ok (.iinc 16 1, 3) := by decide +kernel
theorem dL_acts_228 : decode cL_acts 228 = .ok (.goto (-45), 3) := by decide +kernel
theorem dL_acts_231 : decode cL_acts 231 = .ok (.aload 9, 2) := by decide +kernel
theorem dL_acts_233 : decode cL_acts 233 = .ok (.iload 12, 2) := by decide +kernel
theorem dL_acts_235 : decode cL_acts 235 = .ok (.iaload, 1) := by decide +kernel
theorem dL_acts_236 : decode cL_acts 236 = .ok (.ifCond .ne 24, 3) := by decide +kernel
theorem dL_acts_239 : decode cL_acts 239 = .ok (.aload_n 1, 1) := by decide +kernel
theorem dL_acts_240 : decode cL_acts 240 = .ok (.iload 13, 2) := by decide +kernel
theorem dL_acts_242 : decode cL_acts 242 = .ok (.iaload, 1) := by decide +kernel
theorem dL_acts_243 : decode cL_acts 243 = .ok (.ifCond .le 17, 3) := by decide +kernel
theorem dL_acts_246 : decode cL_acts 246 = .ok (.iload 14, 2) := by decide +kernel
theorem dL_acts_248 : decode cL_acts 248 = .ok (.ifCond .ne 8, 3) := by decide +kernel
theorem dL_acts_251 : decode cL_acts 251 = .ok (.iload 15, 2) := by decide +kernel
theorem dL_acts_253 : decode cL_acts 253 = .ok (.ifCond .le 7, 3) := by decide +kernel
theorem dL_acts_256 : decode cL_acts 256 = .ok (.iconst 1, 1) := by decide +kernel
theorem dL_acts_257 : decode cL_acts 257 = .ok (.goto 4, 3) := by decide +kernel
theorem dL_acts_260 : decode cL_acts 260 = .ok (.iconst 0, 1) := by decide +kernel
theorem dL_acts_261 : decode cL_acts 261 = .ok (.istore 16, 2) := by decide +kernel
theorem dL_acts_263 : decode cL_acts 263 = .ok (.aload_n 2, 1) := by decide +kernel
theorem dL_acts_264 : decode cL_acts 264 = .ok (.iconst 5, 1) := by decide +kernel
theorem dL_acts_265 : decode cL_acts 265 = .ok (.iload 12, 2) := by decide +kernel
theorem dL_acts_267 : decode cL_acts 267 = .ok (.imul, 1) := by decide +kernel
theorem dL_acts_268 : decode cL_acts 268 = .ok (.iload 13, 2) := by decide +kernel
theorem dL_acts_270 : decode cL_acts 270 = .ok (.iadd, 1) := by decide +kernel
theorem dL_acts_271 : decode cL_acts 271 = .ok (.iaload, 1) := by decide +kernel
theorem dL_acts_272 : decode cL_acts 272 = .ok (.istore 17, 2) := by decide +kernel
theorem dL_acts_274 : decode cL_acts 274 = .ok (.aload_n 2, 1) := by decide +kernel
theorem dL_acts_275 : decode cL_acts 275 = .ok (.iconst 5, 1) := by decide +kernel
theorem dL_acts_276 : decode cL_acts 276 = .ok (.iload 12, 2) := by decide +kernel
theorem dL_acts_278 : decode cL_acts 278 = .ok (.imul, 1) := by decide +kernel
theorem dL_acts_279 : decode cL_acts 279 = .ok (.iload 13, 2) := by decide +kernel
theorem dL_acts_281 : decode cL_acts 281 = .ok (.iadd, 1) := by decide +kernel
theorem dL_acts_282 : decode cL_acts 282 = .ok (.iload 16, 2) := by decide +kernel
theorem dL_acts_284 : decode cL_acts 284 = .ok (.ifCond .eq 16, 3) := by decide +kernel
theorem dL_acts_287 : decode cL_acts 287 = .ok (.iload 14, 2) := by decide +kernel
theorem dL_acts_289 : decode cL_acts 289 = .ok (.ifCond .eq 7, 3) := by decide +kernel
theorem dL_acts_292 : decode cL_acts 292 = .ok (.iconst 0, 1) := by decide +kernel
theorem dL_acts_293 : decode cL_acts 293 = .ok (.goto 9, 3) := by decide +kernel
theorem dL_acts_296 : decode cL_acts 296 = .ok (.iconst 1, 1) := by decide +kernel
theorem dL_acts_297 : decode cL_acts 297 = .ok (.goto 5, 3) := by decide +kernel
theorem dL_acts_300 : decode cL_acts 300 = .ok (.iload 17, 2) := by decide +kernel
theorem dL_acts_302 : decode cL_acts 302 = .ok (.iastore, 1) := by decide +kernel
theorem dL_acts_303 : decode cL_acts 303 = .ok (.aload_n 0, 1) := by decide +kernel
theorem dL_acts_304 : decode cL_acts 304 = .ok (.iload 12, 2) := by decide +kernel
theorem dL_acts_306 : decode cL_acts 306 = .ok (.iload 13, 2) := by decide +kernel
theorem dL_acts_308 : decode cL_acts 308 = .ok (.iload 14, 2) := by decide +kernel
theorem dL_acts_310 : decode cL_acts 310 = .ok (.invokestatic 116, 3) := by decide +kernel
theorem dL_acts_313 : decode cL_acts 313 = .ok (.iload 16, 2) := by decide +kernel
theorem dL_acts_315 : decode cL_acts 315 = .ok (.ifCond .eq 10, 3) := by decide +kernel
theorem dL_acts_318 : decode cL_acts 318 = .ok (.iconst 1, 1) := by decide +kernel
theorem dL_acts_319 : decode cL_acts 319 = .ok (.iload 17, 2) := by decide +kernel
theorem dL_acts_321 : decode cL_acts 321 = .ok (.isub, 1) := by decide +kernel
theorem dL_acts_322 : decode cL_acts 322 = .ok (.goto 5, 3) := by decide +kernel
theorem dL_acts_325 : decode cL_acts 325 = .ok (.bipush (-2), 2) := by decide +kernel
theorem dL_acts_327 : decode cL_acts 327 = .ok (.if_icmp .ne 7, 3) := by decide +kernel
theorem dL_acts_330 : decode cL_acts 330 = .ok (.iconst 1, 1) := by decide +kernel
theorem dL_acts_331 : decode cL_acts 331 = .ok (.goto 4, 3) := by decide +kernel
theorem dL_acts_334 : decode cL_acts 334 = .ok (.iconst 0, 1) := by decide +kernel
theorem dL_acts_335 : decode cL_acts 335 = .ok (.ireturn, 1) := by decide +kernel
theorem dL_acts_336 : decode cL_acts 336 = .ok (.iload 10, 2) := by decide +kernel
theorem dL_acts_338 : decode cL_acts 338 = .ok (.bipush 13, 2) := by decide +kernel
theorem dL_acts_340 : decode cL_acts 340 = .ok (.if_icmp .ge 239, 3) := by decide +kernel
theorem dL_acts_343 : decode cL_acts 343 = .ok (.aload 8, 2) := by decide +kernel
theorem dL_acts_345 : decode cL_acts 345 = .ok (.iconst 1, 1) := by decide +kernel
theorem dL_acts_346 : decode cL_acts 346 = .ok (.iaload, 1) := by decide +kernel
theorem dL_acts_347 : decode cL_acts 347 = .ok (.bipush 16, 2) := by decide +kernel
theorem dL_acts_349 : decode cL_acts 349 = .ok (.if_icmp .ge 230, 3) := by decide +kernel
theorem dL_acts_352 : decode cL_acts 352 = .ok (.iconst 1, 1) := by decide +kernel
theorem dL_acts_353 : decode cL_acts 353 = .ok (.iload 11, 2) := by decide +kernel
theorem dL_acts_355 : decode cL_acts 355 = .ok (.iconst 3, 1) := by decide +kernel
theorem dL_acts_356 : decode cL_acts 356 = .ok (.idiv, 1) := by decide +kernel
theorem dL_acts_357 : decode cL_acts 357 = .ok (.iload 11, 2) := by decide +kernel
theorem dL_acts_359 : decode cL_acts 359 = .ok (.iconst 4, 1) := by decide +kernel
theorem dL_acts_360 : decode cL_acts 360 = .ok (.irem, 1) := by decide +kernel
theorem dL_acts_361 : decode cL_acts 361 = .ok (.ifCond .ne 8, 3) := by decide +kernel
theorem dL_acts_364 : decode cL_acts 364 = .ok (.bipush 50, 2) := by decide +kernel
theorem dL_acts_366 : decode cL_acts 366 = .ok (.goto 6, 3) := by decide +kernel
theorem dL_acts_369 : decode cL_acts 369 = .ok (.sipush 9000, 3) := by decide +kernel
theorem dL_acts_372 : decode cL_acts 372 = .ok (.irem, 1) := by decide +kernel
theorem dL_acts_373 : decode cL_acts 373 = .ok (.iadd, 1) := by decide +kernel
theorem dL_acts_374 : decode cL_acts 374 = .ok (.istore 13, 2) := by decide +kernel
theorem dL_acts_376 : decode cL_acts 376 = .ok (.iload 10, 2) := by decide +kernel
theorem dL_acts_378 : decode cL_acts 378 = .ok (.bipush 9, 2) := by decide +kernel
theorem dL_acts_380 : decode cL_acts 380 = .ok (.if_icmp .le 7, 3) := by decide +kernel
theorem dL_acts_383 : decode cL_acts 383 = .ok (.iconst 1, 1) := by decide +kernel
theorem dL_acts_384 : decode cL_acts 384 = .ok (.goto 4, 3) := by decide +kernel
theorem dL_acts_387 : decode cL_acts 387 = .ok (.iconst 0, 1) := by decide +kernel
theorem dL_acts_388 : decode cL_acts 388 = .ok (.istore 14, 2) := by decide +kernel
theorem dL_acts_390 : decode cL_acts 390 = .ok (.iload 10, 2) := by decide +kernel
theorem dL_acts_392 : decode cL_acts 392 = .ok (.bipush 6, 2) := by decide +kernel
theorem dL_acts_394 : decode cL_acts 394 = .ok (.if_icmp .ne 7, 3) := by decide +kernel
theorem dL_acts_397 : decode cL_acts 397 = .ok (.iconst 1, 1) := by decide +kernel
theorem dL_acts_398 : decode cL_acts 398 = .ok (.goto 4, 3) := by decide +kernel
theorem dL_acts_401 : decode cL_acts 401 = .ok (.iconst 0, 1) := by decide +kernel
theorem dL_acts_402 : decode cL_acts 402 = .ok (.istore 15, 2) := by decide +kernel
theorem dL_acts_404 : decode cL_acts 404 = .ok (.iload 15, 2) := by decide +kernel
theorem dL_acts_406 : decode cL_acts 406 = .ok (.ifCond .eq 34, 3) := by decide +kernel
theorem dL_acts_409 : decode cL_acts 409 = .ok (.aload 8, 2) := by decide +kernel
theorem dL_acts_411 : decode cL_acts 411 = .ok (.iconst 4, 1) := by decide +kernel
theorem dL_acts_412 : decode cL_acts 412 = .ok (.iaload, 1) := by decide +kernel
theorem dL_acts_413 : decode cL_acts 413 = .ok (.ifCond .ne 27, 3) := by decide +kernel
theorem dL_acts_416 : decode cL_acts 416 = .ok (.aload_n 0, 1) := by decide +kernel
theorem dL_acts_417 : decode cL_acts 417 = .ok (.iload 12, 2) := by decide +kernel
theorem dL_acts_419 : decode cL_acts 419 = .ok (.iconst 1, 1) := by decide +kernel
theorem dL_acts_420 : decode cL_acts 420 = .ok (.iload 11, 2) := by decide +kernel
theorem dL_acts_422 : decode cL_acts 422 = .ok (.bipush 24, 2) := by decide +kernel
theorem dL_acts_424 : decode cL_acts 424 = .ok (.irem, 1) := by decide +kernel
theorem dL_acts_425 : decode cL_acts 425 = .ok (.iadd, 1) := by decide +kernel
theorem dL_acts_426 : decode cL_acts 426 = .ok (.invokestatic 120, 3) := by decide +kernel
theorem dL_acts_429 : decode cL_acts 429 = .ok (.bipush (-2), 2) := by decide +kernel
theorem dL_acts_431 : decode cL_acts 431 = .ok (.if_icmp .ne 7, 3) := by decide +kernel
theorem dL_acts_434 : decode cL_acts 434 = .ok (.iconst 1, 1) := by decide +kernel
theorem dL_acts_435 : decode cL_acts 435 = .ok (.goto 4, 3) := by decide +kernel
theorem dL_acts_438 : decode cL_acts 438 = .ok (.iconst 0, 1) := by decide +kernel
theorem dL_acts_439 : decode cL_acts 439 = .ok (.ireturn, 1) := by decide +kernel
theorem dL_acts_440 : decode cL_acts 440 = .ok (.aload 4, 2) := by decide +kernel
theorem dL_acts_442 : decode cL_acts 442 = .ok (.iconst 3, 1) := by decide +kernel
theorem dL_acts_443 : decode cL_acts 443 = .ok (.aload 8, 2) := by decide +kernel
theorem dL_acts_445 : decode cL_acts 445 = .ok (.iconst 1, 1) := by decide +kernel
theorem dL_acts_446 : decode cL_acts 446 = .ok (.iaload, 1) := by decide +kernel
theorem dL_acts_447 : decode cL_acts 447 = .ok (.imul, 1) := by decide +kernel
theorem dL_acts_448 : decode cL_acts 448 = .ok (.iload 12, 2) := by decide +kernel
theorem dL_acts_450 : decode cL_acts 450 = .ok (.iastore, 1) := by decide +kernel
theorem dL_acts_451 : decode cL_acts 451 = .ok (.aload 4, 2) := by decide +kernel
theorem dL_acts_453 : decode cL_acts 453 = .ok (.iconst 3, 1) := by decide +kernel
theorem dL_acts_454 : decode cL_acts 454 = .ok (.aload 8, 2) := by decide +kernel
theorem dL_acts_456 : decode cL_acts 456 = .ok (.iconst 1, 1) := by decide +kernel
theorem dL_acts_457 : decode cL_acts 457 = .ok (.iaload, 1) := by decide +kernel
theorem dL_acts_458 : decode cL_acts 458 = .ok (.imul, 1) := by decide +kernel
theorem dL_acts_459 : decode cL_acts 459 = .ok (.iconst 1, 1) := by decide +kernel
theorem dL_acts_460 : decode cL_acts 460 = .ok (.iadd, 1) := by decide +kernel
theorem dL_acts_461 : decode cL_acts 461 = .ok (.iload 15, 2) := by decide +kernel
theorem dL_acts_463 : decode cL_acts 463 = .ok (.ifCond .eq 18, 3) := by decide +kernel
theorem dL_acts_466 : decode cL_acts 466 = .ok (.aload 8, 2) := by decide +kernel
theorem dL_acts_468 : decode cL_acts 468 = .ok (.iconst 4, 1) := by decide +kernel
theorem dL_acts_469 : decode cL_acts 469 = .ok (.iaload, 1) := by decide +kernel
theorem dL_acts_470 : decode cL_acts 470 = .ok (.iconst 1, 1) := by decide +kernel
theorem dL_acts_471 : decode cL_acts 471 = .ok (.iload 11, 2) := by decide +kernel
theorem dL_acts_473 : decode cL_acts 473 = .ok (.bipush 24, 2) := by decide +kernel
theorem dL_acts_475 : decode cL_acts 475 = .ok (.irem, 1) := by decide +kernel
theorem dL_acts_476 : decode cL_acts 476 = .ok (.iadd, 1) := by decide +kernel
theorem dL_acts_477 : decode cL_acts 477 = .ok (.imul, 1) := by decide +kernel
theorem dL_acts_478 : decode cL_acts 478 = .ok (.goto 5, 3) := by decide +kernel
theorem dL_acts_481 : decode cL_acts 481 = .ok (.iload 13, 2) := by decide +kernel
theorem dL_acts_483 : decode cL_acts 483 = .ok (.iastore, 1) := by decide +kernel
theorem dL_acts_484 : decode cL_acts 484 = .ok (.aload 4, 2) := by decide +kernel
theorem dL_acts_486 : decode cL_acts 486 = .ok (.iconst 3, 1) := by decide +kernel
theorem dL_acts_487 : decode cL_acts 487 = .ok (.aload 8, 2) := by decide +kernel
theorem dL_acts_489 : decode cL_acts 489 = .ok (.iconst 1, 1) := by decide +kernel
theorem dL_acts_490 : decode cL_acts 490 = .ok (.iaload, 1) := by decide +kernel
theorem dL_acts_491 : decode cL_acts 491 = .ok (.imul, 1) := by decide +kernel
theorem dL_acts_492 : decode cL_acts 492 = .ok (.iconst 2, 1) := by decide +kernel
theorem dL_acts_493 : decode cL_acts 493 = .ok (.iadd, 1) := by decide +kernel
theorem dL_acts_494 : decode cL_acts 494 = .ok (.iload 14, 2) := by decide +kernel
theorem dL_acts_496 : decode cL_acts 496 = .ok (.ifCond .eq 7, 3) := by decide +kernel
theorem dL_acts_499 : decode cL_acts 499 = .ok (.iconst 1, 1) := by decide +kernel
theorem dL_acts_500 : decode cL_acts 500 = .ok (.goto 4, 3) := by decide +kernel
theorem dL_acts_503 : decode cL_acts 503 = .ok (.iconst 0, 1) := by decide +kernel
theorem dL_acts_504 : decode cL_acts 504 = .ok (.iastore, 1) := by decide +kernel
theorem dL_acts_505 : decode cL_acts 505 = .ok (.aload 9, 2) := by decide +kernel
theorem dL_acts_507 : decode cL_acts 507 = .ok (.iload 12, 2) := by decide +kernel
theorem dL_acts_509 : decode cL_acts 509 = .ok (.iconst 1, 1) := by decide +kernel
theorem dL_acts_510 : decode cL_acts 510 = .ok (.iastore, 1) := by decide +kernel
theorem dL_acts_511 : decode cL_acts 511 = .ok (.aload 8, 2) := by decide +kernel
theorem dL_acts_513 : decode cL_acts 513 = .ok (.iconst 1, 1) := by decide +kernel
theorem dL_acts_514 : decode cL_acts 514 = .ok (.dup2, 1) := by decide +kernel
theorem dL_acts_515 : decode cL_acts 515 = .ok (.iaload, 1) := by decide +kernel
theorem dL_acts_516 : decode cL_acts 516 = .ok (.iconst 1, 1) := by decide +kernel
theorem dL_acts_517 : decode cL_acts 517 = .ok (.iadd, 1) := by decide +kernel
theorem dL_acts_518 : decode cL_acts 518 = .ok (.iastore, 1) := by decide +kernel
theorem dL_acts_519 : decode cL_acts 519 = .ok (.iload 15, 2) := by decide +kernel
theorem dL_acts_521 : decode cL_acts 521 = .ok (.ifCond .eq 19, 3) := by decide +kernel
theorem dL_acts_524 : decode cL_acts 524 = .ok (.aload_n 0, 1) := by decide +kernel
theorem dL_acts_525 : decode cL_acts 525 = .ok (.iload 12, 2) := by decide +kernel
theorem dL_acts_527 : decode cL_acts 527 = .ok (.iconst 1, 1) := by decide +kernel
theorem dL_acts_528 : decode cL_acts 528 = .ok (.iload 11, 2) := by decide +kernel
theorem dL_acts_530 : decode cL_acts 530 = .ok (.bipush 24, 2) := by decide +kernel
theorem dL_acts_532 : decode cL_acts 532 = .ok (.irem, 1) := by decide +kernel
theorem dL_acts_533 : decode cL_acts 533 = .ok (.iadd, 1) := by decide +kernel
theorem dL_acts_534 : decode cL_acts 534 = .ok (.invokestatic 120, 3) := by decide +kernel
theorem dL_acts_537 : decode cL_acts 537 = .ok (.goto 27, 3) := by decide +kernel
theorem dL_acts_540 : decode cL_acts 540 = .ok (.iload 14, 2) := by decide +kernel
theorem dL_acts_542 : decode cL_acts 542 = .ok (.ifCond .eq 14, 3) := by decide +kernel
theorem dL_acts_545 : decode cL_acts 545 = .ok (.aload_n 0, 1) := by decide +kernel
theorem dL_acts_546 : decode cL_acts 546 = .ok (.iload 12, 2) := by decide +kernel
theorem dL_acts_548 : decode cL_acts 548 = .ok (.iload 13, 2) := by decide +kernel
theorem dL_acts_550 : decode cL_acts 550 = .ok (.invokevirtual 123, 3) := by decide +kernel
theorem dL_acts_553 : decode cL_acts 553 = .ok (.goto 11, 3) := by decide +kernel
theorem dL_acts_556 : decode cL_acts 556 = .ok (.aload_n 0, 1) := by decide +kernel
theorem dL_acts_557 : decode cL_acts 557 = .ok (.iload 12, 2) := by decide +kernel
theorem dL_acts_559 : decode cL_acts 559 = .ok (.iload 13, 2) := by decide +kernel
theorem dL_acts_561 : decode cL_acts 561 = .ok (.invokevirtual 126, 3) := by decide +kernel
theorem dL_acts_564 : decode cL_acts 564 = .ok (.aload 8, 2) := by decide +kernel
theorem dL_acts_566 : decode cL_acts 566 = .ok (.iconst 1, 1) := by decide +kernel
theorem dL_acts_567 : decode cL_acts 567 = .ok (.iaload, 1) := by decide +kernel
theorem dL_acts_568 : decode cL_acts 568 = .ok (.iconst 1, 1) := by decide +kernel
theorem dL_acts_569 : decode cL_acts 569 = .ok (.isub, 1) := by decide +kernel
theorem dL_acts_570 : decode cL_acts 570 = .ok (.if_icmp .ne 7, 3) := by decide +kernel
theorem dL_acts_573 : decode cL_acts 573 = .ok (.iconst 1, 1) := by decide +kernel
theorem dL_acts_574 : decode cL_acts 574 = .ok (.goto 4, 3) := by decide +kernel
theorem dL_acts_577 : decode cL_acts 577 = .ok (.iconst 0, 1) := by decide +kernel
theorem dL_acts_578 : decode cL_acts 578 = .ok (.ireturn, 1) := by decide +kernel
theorem dL_acts_579 : decode cL_acts 579 = .ok (.iload 10, 2) := by decide +kernel
theorem dL_acts_581 : decode cL_acts 581 = .ok (.bipush 15, 2) := by decide +kernel
theorem dL_acts_583 : decode cL_acts 583 = .ok (.if_icmp .ge 116, 3) := by decide +kernel
theorem dL_acts_586 : decode cL_acts 586 = .ok (.aload 8, 2) := by decide +kernel
theorem dL_acts_588 : decode cL_acts 588 = .ok (.iconst 1, 1) := by decide +kernel
theorem dL_acts_589 : decode cL_acts 589 = .ok (.iaload, 1) := by decide +kernel
theorem dL_acts_590 : decode cL_acts 590 = .ok (.ifCond .le 109, 3) := by decide +kernel
theorem dL_acts_593 : decode cL_acts 593 = .ok (.iload 11, 2) := by decide +kernel
theorem dL_acts_595 : decode cL_acts 595 = .ok (.iconst 3, 1) := by decide +kernel
theorem dL_acts_596 : decode cL_acts 596 = .ok (.idiv, 1) := by decide +kernel
theorem dL_acts_597 : decode cL_acts 597 = .ok (.aload 8, 2) := by decide +kernel
theorem dL_acts_599 : decode cL_acts 599 = .ok (.iconst 1, 1) := by decide +kernel
theorem dL_acts_600 : decode cL_acts 600 = .ok (.iaload, 1) := by decide +kernel
theorem dL_acts_601 : decode cL_acts 601 = .ok (.irem, 1) := by decide +kernel
theorem dL_acts_602 : decode cL_acts 602 = .ok (.istore 13, 2) := by decide +kernel
theorem dL_acts_604 : decode cL_acts 604 = .ok (.aload 4, 2) := by decide +kernel
theorem dL_acts_606 : decode cL_acts 606 = .ok (.iconst 3, 1) := by decide +kernel
theorem dL_acts_607 : decode cL_acts 607 = .ok (.iload 13, 2) := by decide +kernel
theorem dL_acts_609 : decode cL_acts 609 = .ok (.imul, 1) := by decide +kernel
theorem dL_acts_610 : decode cL_acts 610 = .ok (.iconst 2, 1) := by decide +kernel
theorem dL_acts_611 : decode cL_acts 611 = .ok (.iadd, 1) := by decide +kernel
theorem dL_acts_612 : decode cL_acts 612 = .ok (.iaload, 1) := by decide +kernel
theorem dL_acts_613 : decode cL_acts 613 = .ok (.ifCond .ne 7, 3) := by decide +kernel
theorem dL_acts_616 : decode cL_acts 616 = .ok (.iconst 1, 1) := by decide +kernel
theorem dL_acts_617 : decode cL_acts 617 = .ok (.goto 4, 3) := by decide +kernel
theorem dL_acts_620 : decode cL_acts 620 = .ok (.iconst 0, 1) := by decide +kernel
theorem dL_acts_621 : decode cL_acts 621 = .ok (.istore 14, 2) := by decide +kernel
theorem dL_acts_623 : decode cL_acts 623 = .ok (.aload 4, 2) := by decide +kernel
theorem dL_acts_625 : decode cL_acts 625 = .ok (.iconst 3, 1) := by decide +kernel
theorem dL_acts_626 : decode cL_acts 626 = .ok (.iload 13, 2) := by decide +kernel
theorem dL_acts_628 : decode cL_acts 628 = .ok (.imul, 1) := by decide +kernel
theorem dL_acts_629 : decode cL_acts 629 = .ok (.iaload, 1) := by decide +kernel
theorem dL_acts_630 : decode cL_acts 630 = .ok (.istore 15, 2) := by decide +kernel
theorem dL_acts_632 : decode cL_acts 632 = .ok (.aload 4, 2) := by decide +kernel
theorem dL_acts_634 : decode cL_acts 634 = .ok (.iconst 3, 1) := by decide +kernel
theorem dL_acts_635 : decode cL_acts 635 = .ok (.iload 13, 2) := by decide +kernel
theorem dL_acts_637 : decode cL_acts 637 = .ok (.imul, 1) := by decide +kernel
theorem dL_acts_638 : decode cL_acts 638 = .ok (.iload 14, 2) := by decide +kernel
theorem dL_acts_640 : decode cL_acts 640 = .ok (.ifCond .eq 8, 3) := by decide +kernel
theorem dL_acts_643 : decode cL_acts 643 = .ok (.iload 12, 2) := by decide +kernel
theorem dL_acts_645 : decode cL_acts 645 = .ok (.goto 5, 3) := by decide +kernel
theorem dL_acts_648 : decode cL_acts 648 = .ok (.iload 15, 2) := by decide +kernel
theorem dL_acts_650 : decode cL_acts 650 = .ok (.iastore, 1) := by decide +kernel
theorem dL_acts_651 : decode cL_acts 651 = .ok (.aload 9, 2) := by decide +kernel
theorem dL_acts_653 : decode cL_acts 653 = .ok (.iload 12, 2) := by decide +kernel
theorem dL_acts_655 : decode cL_acts 655 = .ok (.iload 14, 2) := by decide +kernel
theorem dL_acts_657 : decode cL_acts 657 = .ok (.ifCond .eq 7, 3) := by decide +kernel
theorem dL_acts_660 : decode cL_acts 660 = .ok (.iconst 1, 1) := by decide +kernel
theorem dL_acts_661 : decode cL_acts 661 = .ok (.goto 8, 3) := by decide +kernel
theorem dL_acts_664 : decode cL_acts 664 = .ok (.aload 9, 2) := by decide +kernel
theorem dL_acts_666 : decode cL_acts 666 = .ok (.iload 12, 2) := by decide +kernel
theorem dL_acts_668 : decode cL_acts 668 = .ok (.iaload, 1) := by decide +kernel
theorem dL_acts_669 : decode cL_acts 669 = .ok (.iastore, 1) := by decide +kernel
theorem dL_acts_670 : decode cL_acts 670 = .ok (.aload_n 0, 1) := by decide +kernel
theorem dL_acts_671 : decode cL_acts 671 = .ok (.iload 13, 2) := by decide +kernel
theorem dL_acts_673 : decode cL_acts 673 = .ok (.iload 12, 2) := by decide +kernel
theorem dL_acts_675 : decode cL_acts 675 = .ok (.invokestatic 129, 3) := by decide +kernel
theorem dL_acts_678 : decode cL_acts 678 = .ok (.iload 14, 2) := by decide +kernel
theorem dL_acts_680 : decode cL_acts 680 = .ok (.ifCond .eq 8, 3) := by decide +kernel
theorem dL_acts_683 : decode cL_acts 683 = .ok (.iload 15, 2) := by decide +kernel
theorem dL_acts_685 : decode cL_acts 685 = .ok (.goto 5, 3) := by decide +kernel
theorem dL_acts_688 : decode cL_acts 688 = .ok (.bipush (-2), 2) := by decide +kernel
theorem dL_acts_690 : decode cL_acts 690 = .ok (.if_icmp .ne 7, 3) := by decide +kernel
theorem dL_acts_693 : decode cL_acts 693 = .ok (.iconst 1, 1) := by decide +kernel
theorem dL_acts_694 : decode cL_acts 694 = .ok (.goto 4, 3) := by decide +kernel
theorem dL_acts_697 : decode cL_acts 697 = .ok (.iconst 0, 1) := by decide +kernel
theorem dL_acts_698 : decode cL_acts 698 = .ok (.ireturn, 1) := by decide +kernel
theorem dL_acts_699 : decode cL_acts 699 = .ok (.aload_n 0, 1) := by decide +kernel
theorem dL_acts_700 : decode cL_acts 700 = .ok (.aload_n 1, 1) := by decide +kernel
theorem dL_acts_701 : decode cL_acts 701 = .ok (.aload_n 2, 1) := by decide +kernel
theorem dL_acts_702 : decode cL_acts 702 = .ok (.aload_n 3, 1) := by decide +kernel
theorem dL_acts_703 : decode cL_acts 703 = .ok (.aload 4, 2) := by decide +kernel
theorem dL_acts_705 : decode cL_acts 705 = .ok (.aload 5, 2) := by decide +kernel
theorem dL_acts_707 : decode cL_acts 707 = .ok (.aload 6, 2) := by decide +kernel
theorem dL_acts_709 : decode cL_acts 709 = .ok (.aload 7, 2) := by decide +kernel
theorem dL_acts_711 : decode cL_acts 711 = .ok (.aload 8, 2) := by decide +kernel
theorem dL_acts_713 : decode cL_acts 713 = .ok (.iload 10, 2) := by decide +kernel
theorem dL_acts_715 : decode cL_acts 715 = .ok (.iconst 5, 1) := by decide +kernel
theorem dL_acts_716 : decode cL_acts 716 = .ok (.irem, 1) := by decide +kernel
theorem dL_acts_717 : decode cL_acts 717 = .ok (.iload 11, 2) := by decide +kernel
theorem dL_acts_719 : decode cL_acts 719 = .ok (.invokestatic 132, 3) := by decide +kernel
theorem dL_acts_722 : decode cL_acts 722 = .ok (.ireturn, 1) := by decide +kernel
set_option maxRecDepth 20000 in
theorem ggL_holds_X3_init : GoodIn wsL_holds wsX3_init := goodIn_r _ [8, 9, 10, 11, 4, 12, 13, 14, 15, 16, 17, 18, 19, 20, 21, 22, 23, 24, 25, 26, 27, 28, 29, 30, 31, 32, 33, 34, 35, 36, 37, 38, 39, 40, 41, 42, 43, 44, 45, 46, 47, 48, 49, 50, 51, 52, 53, 54, 55, 56, 57, 58, 59, 60, 61, 62, 346, 347, 348, 349, 350, 351, 352, 353, 354, 355, 356, 357, 358, 359, 360, 361, 362, 363, 364, 365, 366, 367, 368, 369, 370, 371] (by decide +kernel) (by decide +kernel)
set_option maxRecDepth 20000 in
theorem gL_holds_X3_init : GoodIn wsL_holds (wsX3_init) := ggL_holds_X3_init
set_option maxRecDepth 20000 in
theorem ggL_holds_L_from : GoodIn wsL_holds wsL_from := goodIn_r _ [66, 67, 68] (by decide +kernel) (by decide +kernel)
set_option maxRecDepth 20000 in
theorem gL_holds_L_from : GoodIn wsL_holds (va_wsS RL 137 yL_from wsL_from) := goodIn_app (goodIn_of _ (by decide +kernel)) ggL_holds_L_from
set_option maxRecDepth 20000 in
theorem ggL_holds_X3_setShares : GoodIn wsL_holds wsX3_setShares := goodIn_ca (goodIn_ca (goodIn_r _ [72, 73, 74, 75, 76, 17, 12, 77, 78, 79, 3, 80, 346, 347, 348, 349, 350, 351, 352, 353, 354, 355, 356, 357, 358, 359, 360] (by decide +kernel) (by decide +kernel)) (goodIn_sub (fun _ h => List.mem_cons_of_mem _ (List.mem_append_left _ (List.mem_append_left _ (List.mem_append_right _ h)))) (by decide +kernel))) (goodIn_sub (fun _ h => List.mem_cons_of_mem _ (List.mem_append_left _ (List.mem_append_right _ h))) (by decide +kernel))
set_option maxRecDepth 20000 in
theorem gL_holds_X3_setShares : GoodIn wsL_holds (wsV RL 141 RX3 yX3_setShares wsX3_setShares) := goodIn_app (goodIn_of _ (by decide +kernel)) ggL_holds_X3_setShares
set_option maxRecDepth 20000 in
theorem ggL_holds_X3_addWell : GoodIn wsL_holds wsX3_addWell := goodIn_ca (goodIn_r _ [84, 75, 76, 17, 16, 13, 85, 346, 347, 348, 349, 350, 351, 352, 353, 354, 355, 356, 357, 358, 359, 360, 362, 363, 364, 365, 366, 367, 368, 369] (by decide +kernel) (by decide +kernel)) (goodIn_sub (fun _ h => List.mem_cons_of_mem _ (List.mem_append_left _ (List.mem_append_right _ h))) (by decide +kernel))
set_option maxRecDepth 20000 in
theorem gL_holds_X3_addWell : GoodIn wsL_holds (wsV RL 107 RX3 yX3_addWell wsX3_addWell) := goodIn_app (goodIn_of _ (by decide +kernel)) ggL_holds_X3_addWell
set_option maxRecDepth 20000 in
theorem ggL_holds_L_acts : GoodIn wsL_holds wsL_acts := goodIn_ca (goodIn_ca (goodIn_ca (goodIn_r _ [88, 81, 82, 83, 3, 84, 75, 76, 17, 16, 13, 85, 89, 90, 91, 92, 77, 78, 79, 80, 73, 74, 93, 94, 95, 96, 97, 14, 98, 99, 65, 100, 101, 102, 103, 104, 105, 106, 12, 107, 108, 109, 110, 111, 112, 113, 114, 115, 116, 117, 118, 119, 120, 121, 122, 123, 124, 125, 126, 127, 128, 129, 130, 131, 132, 133, 134, 135, 136, 137, 20, 138, 139, 140, 141, 18, 19, 142, 143, 144, 145, 146, 147, 148, 149, 150, 31, 151, 29, 152, 153, 154, 155, 28, 30, 156, 157, 158, 27, 159, 40, 160, 161, 55, 56, 57, 162, 163, 164, 165, 166, 167, 168, 169, 170, 171, 172, 173, 174, 175, 176, 177, 178, 179, 180, 181, 182, 183, 184, 185, 186, 187, 33, 188, 49, 50, 189, 190, 191, 192, 193, 194, 195, 196, 197, 198, 199, 200, 51, 201, 202, 203, 204, 205, 206, 207, 208, 209, 210, 211, 212, 213, 214, 215, 216, 217, 218, 219, 220, 221, 222, 223, 224, 225, 226, 227, 228, 52, 53, 48, 229, 230, 231, 54, 232, 233, 234, 39, 235, 236, 237, 238, 239, 240, 241, 242, 243, 244, 245, 246, 247, 248, 249, 250, 251, 252, 253, 23, 22, 254, 255, 256, 257, 258, 259, 260, 261, 262, 263, 264, 265, 266, 267, 268, 269, 270, 271, 272, 273, 274, 275, 276, 35, 277, 62, 278, 279, 280, 281, 61, 282, 283, 284, 285, 24, 346, 347, 348, 349, 350, 351, 352, 353, 354, 355, 356, 357, 358, 359, 360, 362, 363, 364, 365, 366, 367, 368, 369, 361, 370, 371] (by decide +kernel) (by decide +kernel)) (goodIn_sub (fun _ h => List.mem_cons_of_mem _ (List.mem_append_left _ (List.mem_append_right _ h))) (by decide +kernel))) (goodIn_sub (fun _ h => List.mem_cons_of_mem _ (List.mem_append_left _ (List.mem_append_left _ (List.mem_append_right _ h)))) (by decide +kernel))) (goodIn_sub (fun _ h => List.mem_cons_of_mem _ (List.mem_append_right _ h)) (by decide +kernel))
set_option maxRecDepth 20000 in
theorem gL_holds_L_acts : GoodIn wsL_holds (va_wsS RL 146 yL_acts wsL_acts) := goodIn_app (goodIn_of _ (by decide +kernel)) ggL_holds_L_acts
set_option maxRecDepth 20000 in
theorem ggL_holds_L_isTold : GoodIn wsL_holds wsL_isTold := goodIn_ca (goodIn_r _ [288, 39, 289, 290, 291, 3, 292, 20, 293, 294, 295, 296, 18, 217, 218, 219, 220, 113, 114, 297, 298, 299, 300, 19, 239, 240, 65, 241, 242, 243, 244, 245, 246, 247, 248, 249, 235, 236, 237, 238, 301, 302, 303, 304, 16, 109, 110, 111, 112, 17, 115, 116, 117, 118, 123, 124, 125, 126, 108, 12, 305, 306, 307, 308, 151, 309, 310, 311, 312, 313, 314, 315, 316, 317, 150, 318, 319, 320, 321, 184, 322, 323, 324, 325, 31, 152, 153, 154, 155, 28, 29, 30, 156, 157, 158, 27, 159, 40, 160, 161, 55, 56, 57, 162, 163, 164, 165, 166, 167, 168, 169, 170, 171, 172, 173, 326, 327, 328, 329, 22, 254, 263, 264, 265, 266, 23, 330, 331, 332, 333, 334, 335, 336, 337, 262, 338, 339, 340, 341, 24, 342, 343, 344, 345, 346, 347, 348, 349, 350, 351, 352, 353, 354, 355, 356, 357, 358, 359, 360, 362, 363, 364, 365, 366, 367, 368, 369, 361, 370, 371] (by decide +kernel) (by decide +kernel)) (goodIn_sub (fun _ h => List.mem_cons_of_mem _ (List.mem_append_right _ h)) (by decide +kernel))
set_option maxRecDepth 20000 in
theorem gL_holds_L_isTold : GoodIn wsL_holds (va_wsS RL 150 yL_isTold wsL_isTold) := goodIn_app (goodIn_of _ (by decide +kernel)) ggL_holds_L_isTold
theorem dL_holds_0 : decode cL_holds 0 = .ok (.new 30, 3) := by decide +kernel
theorem dL_holds_3 : decode cL_holds 3 = .ok (.dup, 1) := by decide +kernel
theorem dL_holds_4 : decode cL_holds 4 = .ok (.invokespecial 136, 3) := by decide +kernel
theorem dL_holds_7 : decode cL_holds 7 = .ok (.astore_n 1, 1) := by decide +kernel
theorem dL_holds_8 : decode cL_holds 8 = .ok (.iconst 5, 1) := by decide +kernel
theorem dL_holds_9 : decode cL_holds 9 = .ok (.newarray .int, 2) := by decide +kernel
theorem dL_holds_11 : decode cL_holds 11 = .ok (.astore_n 2, 1) := by decide +kernel
theorem dL_holds_12 : decode cL_holds 12 = .ok (.bipush 15, 2) := by decide +kernel
theorem dL_holds_14 : decode cL_holds 14 = .ok (.newarray .int, 2) := by decide +kernel
theorem dL_holds_16 : decode cL_holds 16 = .ok (.astore_n 3, 1) := by decide +kernel
theorem dL_holds_17 : decode cL_holds 17 = .ok (.iconst 3, 1) := by decide +kernel
theorem dL_holds_18 : decode cL_holds 18 = .ok (.newarray .int, 2) := by decide +kernel
theorem dL_holds_20 : decode cL_holds 20 = .ok (.astore 4, 2) := by decide +kernel
theorem dL_holds_22 : decode cL_holds 22 = .ok (.bipush 48, 2) := by decide +kernel
theorem dL_holds_24 : decode cL_holds 24 = .ok (.newarray .int, 2) := by decide +kernel
theorem dL_holds_26 : decode cL_holds 26 = .ok (.astore 5, 2) := by decide +kernel
theorem dL_holds_28 : decode cL_holds 28 = .ok (.bipush 30, 2) := by decide +kernel
theorem dL_holds_30 : decode cL_holds 30 = .ok (.newarray .int, 2) := by decide +kernel
theorem dL_holds_32 : decode cL_holds 32 = .ok (.astore 6, 2) := by decide +kernel
theorem dL_holds_34 : decode cL_holds 34 = .ok (.bipush 30, 2) := by decide +kernel
theorem dL_holds_36 : decode cL_holds 36 = .ok (.newarray .int, 2) := by decide +kernel
theorem dL_holds_38 : decode cL_holds 38 = .ok (.astore 7, 2) := by decide +kernel
theorem dL_holds_40 : decode cL_holds 40 = .ok (.iconst 5, 1) := by decide +kernel
theorem dL_holds_41 : decode cL_holds 41 = .ok (.newarray .int, 2) := by decide +kernel
theorem dL_holds_43 : decode cL_holds 43 = .ok (.astore 8, 2) := by decide +kernel
theorem dL_holds_45 : decode cL_holds 45 = .ok (.iconst 5, 1) := by decide +kernel
theorem dL_holds_46 : decode cL_holds 46 = .ok (.newarray .int, 2) := by decide +kernel
theorem dL_holds_48 : decode cL_holds 48 = .ok (.astore 9, 2) := by decide +kernel
theorem dL_holds_50 : decode cL_holds 50 = .ok (.iconst 3, 1) := by decide +kernel
theorem dL_holds_51 : decode cL_holds 51 = .ok (.newarray .int, 2) := by decide +kernel
theorem dL_holds_53 : decode cL_holds 53 = .ok (.astore 10, 2) := by decide +kernel
theorem dL_holds_55 : decode cL_holds 55 = .ok (.sipush 10000, 3) := by decide +kernel
theorem dL_holds_58 : decode cL_holds 58 = .ok (.istore 11, 2) := by decide +kernel
theorem dL_holds_60 : decode cL_holds 60 = .ok (.iconst 0, 1) := by decide +kernel
theorem dL_holds_61 : decode cL_holds 61 = .ok (.istore 12, 2) := by decide +kernel
theorem dL_holds_63 : decode cL_holds 63 = .ok (.iload 12, 2) := by decide +kernel
theorem dL_holds_65 : decode cL_holds 65 = .ok (.iconst 4, 1) := by decide +kernel
theorem dL_holds_66 : decode cL_holds 66 = .ok (.if_icmp .ge 50, 3) := by decide +kernel
theorem dL_holds_69 : decode cL_holds 69 = .ok (.aload_n 2, 1) := by decide +kernel
theorem dL_holds_70 : decode cL_holds 70 = .ok (.iload 12, 2) := by decide +kernel
theorem dL_holds_72 : decode cL_holds 72 = .ok (.aload_n 0, 1) := by decide +kernel
theorem dL_holds_73 : decode cL_holds 73 = .ok (.iload 12, 2) := by decide +kernel
theorem dL_holds_75 : decode cL_holds 75 = .ok (.iconst 3, 1) := by decide +kernel
theorem dL_holds_76 : decode cL_holds 76 = .ok (.invokestatic 137, 3) := by decide +kernel
theorem dL_holds_79 : decode cL_holds 79 = .ok (.ifCond .ne 7, 3) := by decide +kernel
theorem dL_holds_82 : decode cL_holds 82 = .ok (.iconst 0, 1) := by decide +kernel
theorem dL_holds_83 : decode cL_holds 83 = .ok (.goto 17, 3) := by decide +kernel
theorem dL_holds_86 : decode cL_holds 86 = .ok (.aload_n 0, 1) := by decide +kernel
theorem dL_holds_87 : decode cL_holds 87 = .ok (.iconst 4, 1) := by decide +kernel
theorem dL_holds_88 : decode cL_holds 88 = .ok (.iload 12, 2) := by decide +kernel
theorem dL_holds_90 : decode cL_holds 90 = .ok (.iadd, 1) := by decide +kernel
theorem dL_holds_91 : decode cL_holds 91 = .ok (.iload 11, 2) := by decide +kernel
theorem dL_holds_93 : decode cL_holds 93 = .ok (.iconst 2, 1) := by decide +kernel
theorem dL_holds_94 : decode cL_holds 94 = .ok (.idiv, 1) := by decide +kernel
theorem dL_holds_95 : decode cL_holds 95 = .ok (.iconst 1, 1) := by decide +kernel
theorem dL_holds_96 : decode cL_holds 96 = .ok (.iadd, 1) := by decide +kernel
theorem dL_holds_97 : decode cL_holds 97 = .ok (.invokestatic 137, 3) := by decide +kernel
theorem dL_holds_100 : decode cL_holds 100 = .ok (.iastore, 1) := by decide +kernel
theorem dL_holds_101 : decode cL_holds 101 = .ok (.iload 11, 2) := by decide +kernel
theorem dL_holds_103 : decode cL_holds 103 = .ok (.aload_n 2, 1) := by decide +kernel
theorem dL_holds_104 : decode cL_holds 104 = .ok (.iload 12, 2) := by decide +kernel
theorem dL_holds_106 : decode cL_holds 106 = .ok (.iaload, 1) := by decide +kernel
theorem dL_holds_107 : decode cL_holds 107 = .ok (.isub, 1) := by decide +kernel
theorem dL_holds_108 : decode cL_holds 108 = .ok (.istore 11, 2) := by decide +kernel
theorem dL_holds_110 : decode cL_holds 110 = .ok (.iinc 12 1, 3) := by decide +kernel
theorem dL_holds_113 : decode cL_holds 113 = .ok (.goto (-50), 3) := by decide +kernel
theorem dL_holds_116 : decode cL_holds 116 = .ok (.aload_n 2, 1) := by decide +kernel
theorem dL_holds_117 : decode cL_holds 117 = .ok (.iconst 4, 1) := by decide +kernel
theorem dL_holds_118 : decode cL_holds 118 = .ok (.iload 11, 2) := by decide +kernel
theorem dL_holds_120 : decode cL_holds 120 = .ok (.iastore, 1) := by decide +kernel
theorem dL_holds_121 : decode cL_holds 121 = .ok (.aload_n 1, 1) := by decide +kernel
theorem dL_holds_122 : decode cL_holds 122 = .ok (.aload_n 2, 1) := by decide +kernel
theorem dL_holds_123 : decode cL_holds 123 = .ok (.iconst 0, 1) := by decide +kernel
theorem dL_holds_124 : decode cL_holds 124 = .ok (.iaload, 1) := by decide +kernel
theorem dL_holds_125 : decode cL_holds 125 = .ok (.aload_n 2, 1) := by decide +kernel
theorem dL_holds_126 : decode cL_holds 126 = .ok (.iconst 1, 1) := by decide +kernel
theorem dL_holds_127 : decode cL_holds 127 = .ok (.iaload, 1) := by decide +kernel
theorem dL_holds_128 : decode cL_holds 128 = .ok (.aload_n 2, 1) := by decide +kernel
theorem dL_holds_129 : decode cL_holds 129 = .ok (.iconst 2, 1) := by decide +kernel
theorem dL_holds_130 : decode cL_holds 130 = .ok (.iaload, 1) := by decide +kernel
theorem dL_holds_131 : decode cL_holds 131 = .ok (.aload_n 2, 1) := by decide +kernel
theorem dL_holds_132 : decode cL_holds 132 = .ok (.iconst 3, 1) := by decide +kernel
theorem dL_holds_133 : decode cL_holds 133 = .ok (.iaload, 1) := by decide +kernel
theorem dL_holds_134 : decode cL_holds 134 = .ok (.aload_n 2, 1) := by decide +kernel
theorem dL_holds_135 : decode cL_holds 135 = .ok (.iconst 4, 1) := by decide +kernel
theorem dL_holds_136 : decode cL_holds 136 = .ok (.iaload, 1) := by decide +kernel
theorem dL_holds_137 : decode cL_holds 137 = .ok (.invokevirtual 141, 3) := by decide +kernel
theorem dL_holds_140 : decode cL_holds 140 = .ok (.aload 9, 2) := by decide +kernel
theorem dL_holds_142 : decode cL_holds 142 = .ok (.iconst 0, 1) := by decide +kernel
theorem dL_holds_143 : decode cL_holds 143 = .ok (.iconst 1, 1) := by decide +kernel
theorem dL_holds_144 : decode cL_holds 144 = .ok (.iastore, 1) := by decide +kernel
theorem dL_holds_145 : decode cL_holds 145 = .ok (.aload 9, 2) := by decide +kernel
theorem dL_holds_147 : decode cL_holds 147 = .ok (.iconst 3, 1) := by decide +kernel
theorem dL_holds_148 : decode cL_holds 148 = .ok (.sipush 300, 3) := by decide +kernel
theorem dL_holds_151 : decode cL_holds 151 = .ok (.iastore, 1) := by decide +kernel
theorem dL_holds_152 : decode cL_holds 152 = .ok (.aload 4, 2) := by decide +kernel
theorem dL_holds_154 : decode cL_holds 154 = .ok (.iconst 0, 1) := by decide +kernel
theorem dL_holds_155 : decode cL_holds 155 = .ok (.sipush 300, 3) := by decide +kernel
theorem dL_holds_158 : decode cL_holds 158 = .ok (.iastore, 1) := by decide +kernel
theorem dL_holds_159 : decode cL_holds 159 = .ok (.aload_n 1, 1) := by decide +kernel
theorem dL_holds_160 : decode cL_holds 160 = .ok (.invokevirtual 107, 3) := by decide +kernel
theorem dL_holds_163 : decode cL_holds 163 = .ok (.ifCond .ne 7, 3) := by decide +kernel
theorem dL_holds_166 : decode cL_holds 166 = .ok (.iconst 1, 1) := by decide +kernel
theorem dL_holds_167 : decode cL_holds 167 = .ok (.goto 4, 3) := by decide +kernel
theorem dL_holds_170 : decode cL_holds 170 = .ok (.iconst 0, 1) := by decide +kernel
theorem dL_holds_171 : decode cL_holds 171 = .ok (.istore 12, 2) := by decide +kernel
theorem dL_holds_173 : decode cL_holds 173 = .ok (.iconst 0, 1) := by decide +kernel
theorem dL_holds_174 : decode cL_holds 174 = .ok (.istore 13, 2) := by decide +kernel
theorem dL_holds_176 : decode cL_holds 176 = .ok (.iload 13, 2) := by decide +kernel
theorem dL_holds_178 : decode cL_holds 178 = .ok (.bipush 70, 2) := by decide +kernel
theorem dL_holds_180 : decode cL_holds 180 = .ok (.if_icmp .ge 111, 3) := by decide +kernel
theorem dL_holds_183 : decode cL_holds 183 = .ok (.iload 12, 2) := by decide +kernel
theorem dL_holds_185 : decode cL_holds 185 = .ok (.ifCond .eq 106, 3) := by decide +kernel
theorem dL_holds_188 : decode cL_holds 188 = .ok (.aload_n 1, 1) := by decide +kernel
theorem dL_holds_189 : decode cL_holds 189 = .ok (.aload_n 2, 1) := by decide +kernel
theorem dL_holds_190 : decode cL_holds 190 = .ok (.aload_n 3, 1) := by decide +kernel
theorem dL_holds_191 : decode cL_holds 191 = .ok (.aload 4, 2) := by decide +kernel
theorem dL_holds_193 : decode cL_holds 193 = .ok (.aload 5, 2) := by decide +kernel
theorem dL_holds_195 : decode cL_holds 195 = .ok (.aload 6, 2) := by decide +kernel
theorem dL_holds_197 : decode cL_holds 197 = .ok (.aload 7, 2) := by decide +kernel
theorem dL_holds_199 : decode cL_holds 199 = .ok (.aload 8, 2) := by decide +kernel
theorem dL_holds_201 : decode cL_holds 201 = .ok (.aload 9, 2) := by decide +kernel
theorem dL_holds_203 : decode cL_holds 203 = .ok (.aload 10, 2) := by decide +kernel
theorem dL_holds_205 : decode cL_holds 205 = .ok (.aload_n 0, 1) := by decide +kernel
theorem dL_holds_206 : decode cL_holds 206 = .ok (.bipush 10, 2) := by decide +kernel
theorem dL_holds_208 : decode cL_holds 208 = .ok (.iconst 2, 1) := by decide +kernel
theorem dL_holds_209 : decode cL_holds 209 = .ok (.iload 13, 2) := by decide +kernel
theorem dL_holds_211 : decode cL_holds 211 = .ok (.imul, 1) := by decide +kernel
theorem dL_holds_212 : decode cL_holds 212 = .ok (.iadd, 1) := by decide +kernel
theorem dL_holds_213 : decode cL_holds 213 = .ok (.iload 13, 2) := by decide +kernel
theorem dL_holds_215 : decode cL_holds 215 = .ok (.bipush 8, 2) := by decide +kernel
theorem dL_holds_217 : decode cL_holds 217 = .ok (.if_icmp .ge 8, 3) := by decide +kernel
theorem dL_holds_220 : decode cL_holds 220 = .ok (.bipush 6, 2) := by decide +kernel
theorem dL_holds_222 : decode cL_holds 222 = .ok (.goto 5, 3) := by decide +kernel
theorem dL_holds_225 : decode cL_holds 225 = .ok (.bipush 22, 2) := by decide +kernel
theorem dL_holds_227 : decode cL_holds 227 = .ok (.invokestatic 137, 3) := by decide +kernel
theorem dL_holds_230 : decode cL_holds 230 = .ok (.aload_n 0, 1) := by decide +kernel
theorem dL_holds_231 : decode cL_holds 231 = .ok (.bipush 11, 2) := by decide +kernel
theorem dL_holds_233 : decode cL_holds 233 = .ok (.iconst 2, 1) := by decide +kernel
theorem dL_holds_234 : decode cL_holds 234 = .ok (.iload 13, 2) := by decide +kernel
theorem dL_holds_236 : decode cL_holds 236 = .ok (.imul, 1) := by decide +kernel
theorem dL_holds_237 : decode cL_holds 237 = .ok (.iadd, 1) := by decide +kernel
theorem dL_holds_238 : decode cL_holds 238 = .ok (.ldc 145, 2) := by decide +kernel
theorem dL_holds_240 : decode cL_holds 240 = .ok (.invokestatic 137, 3) := by decide +kernel
theorem dL_holds_243 : decode cL_holds 243 = .ok (.invokestatic 146, 3) := by decide +kernel
theorem dL_holds_246 : decode cL_holds 246 = .ok (.ifCond .eq 36, 3) := by decide +kernel
theorem dL_holds_249 : decode cL_holds 249 = .ok (.iload 13, 2) := by decide +kernel
theorem dL_holds_251 : decode cL_holds 251 = .ok (.iconst 3, 1) := by decide +kernel
theorem dL_holds_252 : decode cL_holds 252 = .ok (.irem, 1) := by decide +kernel
theorem dL_holds_253 : decode cL_holds 253 = .ok (.iconst 2, 1) := by decide +kernel
theorem dL_holds_254 : decode cL_holds 254 = .ok (.if_icmp .lt 24, 3) := by decide +kernel
theorem dL_holds_257 : decode cL_holds 257 = .ok (.aload_n 1, 1) := by decide +kernel
theorem dL_holds_258 : decode cL_holds 258 = .ok (.aload_n 2, 1) := by decide +kernel
theorem dL_holds_259 : decode cL_holds 259 = .ok (.aload_n 3, 1) := by decide +kernel
theorem dL_holds_260 : decode cL_holds 260 = .ok (.aload 4, 2) := by decide +kernel
theorem dL_holds_262 : decode cL_holds 262 = .ok (.aload 5, 2) := by decide +kernel
theorem dL_holds_264 : decode cL_holds 264 = .ok (.aload 6, 2) := by decide +kernel
theorem dL_holds_266 : decode cL_holds 266 = .ok (.aload 7, 2) := by decide +kernel
theorem dL_holds_268 : decode cL_holds 268 = .ok (.aload 8, 2) := by decide +kernel
theorem dL_holds_270 : decode cL_holds 270 = .ok (.aload 9, 2) := by decide +kernel
theorem dL_holds_272 : decode cL_holds 272 = .ok (.invokestatic 150, 3) := by decide +kernel
theorem dL_holds_275 : decode cL_holds 275 = .ok (.ifCond .eq 7, 3) := by decide +kernel
theorem dL_holds_278 : decode cL_holds 278 = .ok (.iconst 1, 1) := by decide +kernel
theorem dL_holds_279 : decode cL_holds 279 = .ok (.goto 4, 3) := by decide +kernel
theorem dL_holds_282 : decode cL_holds 282 = .ok (.iconst 0, 1) := by decide +kernel
theorem dL_holds_283 : decode cL_holds 283 = .ok (.istore 12, 2) := by decide +kernel
theorem dL_holds_285 : decode cL_holds 285 = .ok (.iinc 13 1, 3) := by decide +kernel
theorem dL_holds_288 : decode cL_holds 288 = .ok (.goto (-112), 3) := by decide +kernel
theorem dL_holds_291 : decode cL_holds 291 = .ok (.iload 12, 2) := by decide +kernel
theorem dL_holds_293 : decode cL_holds 293 = .ok (.ifCond .eq 28, 3) := by decide +kernel
theorem dL_holds_296 : decode cL_holds 296 = .ok (.aload_n 1, 1) := by decide +kernel
theorem dL_holds_297 : decode cL_holds 297 = .ok (.aload_n 2, 1) := by decide +kernel
theorem dL_holds_298 : decode cL_holds 298 = .ok (.aload_n 3, 1) := by decide +kernel
theorem dL_holds_299 : decode cL_holds 299 = .ok (.aload 4, 2) := by decide +kernel
theorem dL_holds_301 : decode cL_holds 301 = .ok (.aload 5, 2) := by decide +kernel
theorem dL_holds_303 : decode cL_holds 303 = .ok (.aload 6, 2) := by decide +kernel
theorem dL_holds_305 : decode cL_holds 305 = .ok (.aload 7, 2) := by decide +kernel
theorem dL_holds_307 : decode cL_holds 307 = .ok (.aload 8, 2) := by decide +kernel
theorem dL_holds_309 : decode cL_holds 309 = .ok (.aload 9, 2) := by decide +kernel
theorem dL_holds_311 : decode cL_holds 311 = .ok (.invokestatic 150, 3) := by decide +kernel
theorem dL_holds_314 : decode cL_holds 314 = .ok (.ifCond .eq 7, 3) := by decide +kernel
theorem dL_holds_317 : decode cL_holds 317 = .ok (.iconst 1, 1) := by decide +kernel
theorem dL_holds_318 : decode cL_holds 318 = .ok (.goto 4, 3) := by decide +kernel
theorem dL_holds_321 : decode cL_holds 321 = .ok (.iconst 0, 1) := by decide +kernel
theorem dL_holds_322 : decode cL_holds 322 = .ok (.ireturn, 1) := by decide +kernel
set_option maxRecDepth 20000 in
theorem ggL_isHeld_L_holds : GoodIn wsL_isHeld wsL_holds := goodIn_ca (goodIn_ca (goodIn_ca (goodIn_r _ [7, 8, 9, 10, 11, 12, 13, 14, 15, 16, 17, 18, 19, 20, 21, 22, 23, 24, 25, 26, 27, 28, 29, 30, 31, 32, 33, 34, 35, 36, 37, 38, 39, 40, 41, 42, 43, 44, 45, 46, 47, 48, 49, 50, 51, 52, 53, 54, 55, 56, 57, 58, 59, 60, 61, 62, 63, 64, 65, 66, 67, 68, 69, 70, 71, 6, 72, 73, 74, 75, 76, 77, 78, 79, 80, 81, 82, 83, 84, 85, 86, 87, 88, 89, 90, 91, 92, 93, 94, 95, 96, 97, 98, 99, 100, 101, 102, 103, 104, 105, 106, 3, 107, 108, 109, 110, 111, 112, 113, 114, 115, 116, 117, 118, 119, 120, 121, 122, 123, 124, 125, 126, 127, 128, 129, 130, 131, 132, 133, 134, 135, 136, 137, 138, 139, 140, 141, 142, 143, 144, 145, 146, 147, 148, 149, 150, 151, 152, 153, 154, 155, 156, 157, 158, 159, 160, 161, 162, 163, 164, 165, 166, 167, 168, 169, 170, 171, 172, 173, 174, 175, 176, 177, 178, 179, 180, 181, 182, 183, 184, 185, 186, 187, 188, 189, 190, 191, 192, 193, 194, 195, 196, 197, 198, 199, 200, 201, 202, 203, 204, 205, 206, 207, 208, 209, 210, 211, 212, 213, 214, 215, 216, 217, 218, 219, 220, 221, 222, 223, 224, 225, 226, 227, 228, 229, 230, 231, 232, 233, 234, 235, 236, 237, 238, 239, 240, 241, 242, 243, 244, 245, 246, 247, 248, 249, 250, 251, 252, 253, 254, 255, 256, 257, 258, 259, 260, 261, 262, 263, 264, 265, 266, 267, 268, 269, 270, 271, 272, 273, 274, 275, 276, 277, 278, 279, 280, 281, 282, 283, 284, 285, 286, 287, 288, 289, 290, 291, 292, 293, 294, 295, 296, 297, 298, 299, 300, 301, 302, 303, 304, 305, 306, 307, 308, 309, 310, 311, 312, 313, 314, 315, 316, 317, 318, 319, 320, 321, 322, 323, 324, 325, 326, 327, 328, 329, 330, 331, 332, 333, 334, 335, 336, 337, 338, 339, 340, 341, 342, 343, 344, 345, 346, 347, 348, 349, 350, 351, 352, 353, 354, 355, 356, 357, 358, 359, 360, 361, 362, 363, 364, 365, 366, 367, 368, 369, 370, 371, 372, 373, 374, 375, 376] (by decide +kernel) (by decide +kernel)) (goodIn_sub (fun _ h => List.mem_cons_of_mem _ (List.mem_append_left _ (List.mem_append_left _ (List.mem_append_right _ h)))) (by decide +kernel))) (goodIn_sub (fun _ h => List.mem_cons_of_mem _ (List.mem_append_left _ (List.mem_append_right _ h))) (by decide +kernel))) (goodIn_sub (fun _ h => List.mem_cons_of_mem _ (List.mem_append_right _ h)) (by decide +kernel))
set_option maxRecDepth 20000 in
theorem gL_isHeld_L_holds : GoodIn wsL_isHeld (va_wsS RL 154 yL_holds wsL_holds) := goodIn_app (goodIn_of _ (by decide +kernel)) ggL_isHeld_L_holds
theorem dL_isHeld_0 : decode cL_isHeld 0 = .ok (.aload_n 0, 1) := by decide +kernel
theorem dL_isHeld_1 : decode cL_isHeld 1 = .ok (.invokestatic 154, 3) := by decide +kernel
theorem dL_isHeld_4 : decode cL_isHeld 4 = .ok (.ireturn, 1) := by decide +kernel
theorem dL_isHeld_5 : decode cL_isHeld 5 = .ok (.astore_n 1, 1) := by decide +kernel
theorem dL_isHeld_6 : decode cL_isHeld 6 = .ok (.iconst 0, 1) := by decide +kernel
theorem dL_isHeld_7 : decode cL_isHeld 7 = .ok (.ireturn, 1) := by decide +kernel
theorem dL_isHeld_8 : decode cL_isHeld 8 = .ok (.astore_n 1, 1) := by decide +kernel
theorem dL_isHeld_9 : decode cL_isHeld 9 = .ok (.iconst 0, 1) := by decide +kernel
theorem dL_isHeld_10 : decode cL_isHeld 10 = .ok (.ireturn, 1) := by decide +kernel
theorem dL_isHeld_11 : decode cL_isHeld 11 = .ok (.astore_n 1, 1) := by decide +kernel
theorem dL_isHeld_12 : decode cL_isHeld 12 = .ok (.iconst 0, 1) := by decide +kernel
theorem dL_isHeld_13 : decode cL_isHeld 13 = .ok (.ireturn, 1) := by decide +kernel
set_option maxRecDepth 20000 in
theorem ggL_law_L_isHeld : GoodIn wsL_law wsL_isHeld := goodIn_ca (goodIn_ca (goodIn_ca (goodIn_r _ [3, 4, 5, 6, 7, 8, 2, 9, 10, 11, 12, 13, 14, 15, 16, 17, 18, 19, 20, 21, 22, 23, 24, 25, 26, 27, 28, 29, 30, 31, 32, 33, 34, 35, 36, 37, 38, 39, 40, 41, 42, 43, 44, 45, 46, 47, 48, 49, 50, 51, 52, 53, 54, 55, 56, 57, 58, 59, 60, 61, 62, 63, 64, 65, 66, 67, 68, 69, 70, 71, 72, 73, 74, 75, 76, 77, 78, 79, 80, 81, 82, 83, 84, 85, 86, 87, 88, 89, 90, 91, 92, 93, 94, 95, 96, 97, 98, 99, 100, 101, 102, 103, 104, 105, 106, 107, 108, 109, 110, 111, 112, 113, 114, 115, 116, 117, 118, 119, 120, 121, 122, 123, 124, 125, 126, 127, 128, 129, 130, 131, 132, 133, 134, 135, 136, 137, 138, 139, 140, 141, 142, 143, 144, 145, 146, 147, 148, 149, 150, 151, 152, 153, 154, 155, 156, 157, 158, 159, 160, 161, 162, 163, 164, 165, 166, 167, 168, 169, 170, 171, 172, 173, 174, 175, 176, 177, 178, 179, 180, 181, 182, 183, 184, 185, 186, 187, 188, 189, 190, 191, 192, 193, 194, 195, 196, 197, 198, 199, 200, 201, 202, 203, 204, 205, 206, 207, 208, 209, 210, 211, 212, 213, 214, 215, 216, 217, 218, 219, 220, 221, 222, 223, 224, 225, 226, 227, 228, 229, 230, 231, 232, 233, 234, 235, 236, 237, 238, 239, 240, 241, 242, 243, 244, 245, 246, 247, 248, 249, 250, 251, 252, 253, 254, 255, 256, 257, 258, 259, 260, 261, 262, 263, 264, 265, 266, 267, 268, 269, 270, 271, 272, 273, 274, 275, 276, 277, 278, 279, 280, 281, 282, 283, 284, 285, 286, 287, 288, 289, 290, 291, 292, 293, 294, 295, 296, 297, 298, 299, 300, 301, 302, 303, 304, 305, 306, 307, 308, 309, 310, 311, 312, 313, 314, 315, 316, 317, 318, 319, 320, 321, 322, 323, 324, 325, 326, 327, 328, 329, 330, 331, 332, 333, 334, 335, 336, 337, 338, 339, 340, 341, 342, 343, 344, 345, 346, 347, 348, 349, 350, 351, 352, 353, 354, 355, 356, 357, 358, 359, 360, 361, 362, 363, 364, 365, 366, 367, 368, 369, 370, 371, 372, 373, 374, 375, 376, 377, 378] (by decide +kernel) (by decide +kernel)) (goodIn_sub (fun _ h => List.mem_append_left _ (List.mem_append_left _ (List.mem_append_right _ h))) (by decide +kernel))) (goodIn_sub (fun _ h => List.mem_append_left _ (List.mem_append_right _ h)) (by decide +kernel))) (goodIn_sub (fun _ h => List.mem_append_right _ h) (by decide +kernel))
set_option maxRecDepth 20000 in
theorem gL_law_L_isHeld : GoodIn wsL_law (va_wsS RL 162 yL_isHeld wsL_isHeld) := goodIn_app (goodIn_of _ (by decide +kernel)) ggL_law_L_isHeld
theorem dL_law_0 : decode cL_law 0 = .ok (.aload_n 0, 1) := by decide +kernel
theorem dL_law_1 : decode cL_law 1 = .ok (.invokestatic 162, 3) := by decide +kernel
