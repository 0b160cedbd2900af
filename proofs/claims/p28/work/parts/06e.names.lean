theorem goodIn_cnse {big a : List Cond} {c : Cond} (h : GoodIn big [c]) (ha : GoodIn big a) : GoodIn big (c :: a) := fun w hw => (List.mem_cons.mp hw).elim (fun e => h w (by rw [e]; exact List.mem_singleton.mpr rfl)) (ha w)
theorem dL_acts_0 : decode cL_acts 0 = .ok (.iload 11, 2) := by decide +kernel
theorem dL_acts_2 : decode cL_acts 2 = .ok (.aload 8, 2) := by decide +kernel
theorem dL_acts_4 : decode cL_acts 4 = .ok (.iconst 0, 1) := by decide +kernel
theorem dL_acts_5 : decode cL_acts 5 = .ok (.iaload, 1) := by decide +kernel
theorem dL_acts_6 : decode cL_acts 6 = .ok (.irem, 1) := by decide +kernel
theorem dL_acts_7 : decode cL_acts 7 = .ok (.istore 12, 2) := by decide +kernel
theorem dL_acts_9 : decode cL_acts 9 = .ok (.iload 10, 2) := by decide +kernel
theorem dL_acts_11 : decode cL_acts 11 = .ok (.ifCond .ne 48, 3) := by decide +kernel
theorem dL_acts_14 : decode cL_acts 14 = .ok (.aload 8, 2) := by decide +kernel
theorem dL_acts_16 : decode cL_acts 16 = .ok (.iconst 0, 1) := by decide +kernel
theorem dL_acts_17 : decode cL_acts 17 = .ok (.iaload, 1) := by decide +kernel
theorem dL_acts_18 : decode cL_acts 18 = .ok (.iconst 3, 1) := by decide +kernel
theorem dL_acts_19 : decode cL_acts 19 = .ok (.if_icmp .ge 40, 3) := by decide +kernel
theorem dL_acts_22 : decode cL_acts 22 = .ok (.aload_n 3, 1) := by decide +kernel
theorem dL_acts_23 : decode cL_acts 23 = .ok (.aload 8, 2) := by decide +kernel
theorem dL_acts_25 : decode cL_acts 25 = .ok (.iconst 0, 1) := by decide +kernel
theorem dL_acts_26 : decode cL_acts 26 = .ok (.iaload, 1) := by decide +kernel
theorem dL_acts_27 : decode cL_acts 27 = .ok (.aload 8, 2) := by decide +kernel
theorem dL_acts_29 : decode cL_acts 29 = .ok (.iconst 3, 1) := by decide +kernel
theorem dL_acts_30 : decode cL_acts 30 = .ok (.iaload, 1) := by decide +kernel
theorem dL_acts_31 : decode cL_acts 31 = .ok (.iastore, 1) := by decide +kernel
theorem dL_acts_32 : decode cL_acts 32 = .ok (.aload 8, 2) := by decide +kernel
theorem dL_acts_34 : decode cL_acts 34 = .ok (.iconst 0, 1) := by decide +kernel
theorem dL_acts_35 : decode cL_acts 35 = .ok (.dup2, 1) := by decide +kernel
theorem dL_acts_36 : decode cL_acts 36 = .ok (.iaload, 1) := by decide +kernel
theorem dL_acts_37 : decode cL_acts 37 = .ok (.iconst 1, 1) := by decide +kernel
theorem dL_acts_38 : decode cL_acts 38 = .ok (.iadd, 1) := by decide +kernel
theorem dL_acts_39 : decode cL_acts 39 = .ok (.iastore, 1) := by decide +kernel
theorem dL_acts_40 : decode cL_acts 40 = .ok (.aload_n 0, 1) := by decide +kernel
theorem dL_acts_41 : decode cL_acts 41 = .ok (.invokevirtual 107, 3) := by decide +kernel
theorem dL_acts_44 : decode cL_acts 44 = .ok (.aload 8, 2) := by decide +kernel
theorem dL_acts_46 : decode cL_acts 46 = .ok (.iconst 0, 1) := by decide +kernel
theorem dL_acts_47 : decode cL_acts 47 = .ok (.iaload, 1) := by decide +kernel
theorem dL_acts_48 : decode cL_acts 48 = .ok (.iconst 1, 1) := by decide +kernel
theorem dL_acts_49 : decode cL_acts 49 = .ok (.isub, 1) := by decide +kernel
theorem dL_acts_50 : decode cL_acts 50 = .ok (.if_icmp .ne 7, 3) := by decide +kernel
theorem dL_acts_53 : decode cL_acts 53 = .ok (.iconst 1, 1) := by decide +kernel
theorem dL_acts_54 : decode cL_acts 54 = .ok (.goto 4, 3) := by decide +kernel
theorem dL_acts_57 : decode cL_acts 57 = .ok (.iconst 0, 1) := by decide +kernel
theorem dL_acts_58 : decode cL_acts 58 = .ok (.ireturn, 1) := by decide +kernel
theorem dL_acts_59 : decode cL_acts 59 = .ok (.iload 10, 2) := by decide +kernel
theorem dL_acts_61 : decode cL_acts 61 = .ok (.iconst 1, 1) := by decide +kernel
theorem dL_acts_62 : decode cL_acts 62 = .ok (.if_icmp .ne 41, 3) := by decide +kernel
theorem dL_acts_65 : decode cL_acts 65 = .ok (.aload 8, 2) := by decide +kernel
theorem dL_acts_67 : decode cL_acts 67 = .ok (.iconst 3, 1) := by decide +kernel
theorem dL_acts_68 : decode cL_acts 68 = .ok (.iaload, 1) := by decide +kernel
theorem dL_acts_69 : decode cL_acts 69 = .ok (.istore 13, 2) := by decide +kernel
theorem dL_acts_71 : decode cL_acts 71 = .ok (.aload 8, 2) := by decide +kernel
theorem dL_acts_73 : decode cL_acts 73 = .ok (.iconst 3, 1) := by decide +kernel
theorem dL_acts_74 : decode cL_acts 74 = .ok (.bipush 100, 2) := by decide +kernel
theorem dL_acts_76 : decode cL_acts 76 = .ok (.iload 11, 2) := by decide +kernel
theorem dL_acts_78 : decode cL_acts 78 = .ok (.sipush 301, 3) := by decide +kernel
theorem dL_acts_81 : decode cL_acts 81 = .ok (.irem, 1) := by decide +kernel
theorem dL_acts_82 : decode cL_acts 82 = .ok (.iadd, 1) := by decide +kernel
theorem dL_acts_83 : decode cL_acts 83 = .ok (.iastore, 1) := by decide +kernel
theorem dL_acts_84 : decode cL_acts 84 = .ok (.aload_n 0, 1) := by decide +kernel
theorem dL_acts_85 : decode cL_acts 85 = .ok (.aload 8, 2) := by decide +kernel
theorem dL_acts_87 : decode cL_acts 87 = .ok (.iconst 3, 1) := by decide +kernel
theorem dL_acts_88 : decode cL_acts 88 = .ok (.iaload, 1) := by decide +kernel
theorem dL_acts_89 : decode cL_acts 89 = .ok (.invokevirtual 110, 3) := by decide +kernel
theorem dL_acts_92 : decode cL_acts 92 = .ok (.iload 13, 2) := by decide +kernel
theorem dL_acts_94 : decode cL_acts 94 = .ok (.if_icmp .ne 7, 3) := by decide +kernel
theorem dL_acts_97 : decode cL_acts 97 = .ok (.iconst 1, 1) := by decide +kernel
theorem dL_acts_98 : decode cL_acts 98 = .ok (.goto 4, 3) := by decide +kernel
theorem dL_acts_101 : decode cL_acts 101 = .ok (.iconst 0, 1) := by decide +kernel
theorem dL_acts_102 : decode cL_acts 102 = .ok (.ireturn, 1) := by decide +kernel
theorem dL_acts_103 : decode cL_acts 103 = .ok (.iload 10, 2) := by decide +kernel
theorem dL_acts_105 : decode cL_acts 105 = .ok (.iconst 2, 1) := by decide +kernel
theorem dL_acts_106 : decode cL_acts 106 = .ok (.if_icmp .ne 39, 3) := by decide +kernel
theorem dL_acts_109 : decode cL_acts 109 = .ok (.aload 8, 2) := by decide +kernel
theorem dL_acts_111 : decode cL_acts 111 = .ok (.iconst 4, 1) := by decide +kernel
theorem dL_acts_112 : decode cL_acts 112 = .ok (.iaload, 1) := by decide +kernel
theorem dL_acts_113 : decode cL_acts 113 = .ok (.istore 13, 2) := by decide +kernel
theorem dL_acts_115 : decode cL_acts 115 = .ok (.aload 8, 2) := by decide +kernel
theorem dL_acts_117 : decode cL_acts 117 = .ok (.iconst 4, 1) := by decide +kernel
theorem dL_acts_118 : decode cL_acts 118 = .ok (.iload 11, 2) := by decide +kernel
theorem dL_acts_120 : decode cL_acts 120 = .ok (.iconst 3, 1) := by decide +kernel
theorem dL_acts_121 : decode cL_acts 121 = .ok (.irem, 1) := by decide +kernel
theorem dL_acts_122 : decode cL_acts 122 = .ok (.bipush 37, 2) := by decide +kernel
theorem dL_acts_124 : decode cL_acts 124 = .ok (.imul, 1) := by decide +kernel
theorem dL_acts_125 : decode cL_acts 125 = .ok (.iastore, 1) := by decide +kernel
theorem dL_acts_126 : decode cL_acts 126 = .ok (.aload_n 0, 1) := by decide +kernel
theorem dL_acts_127 : decode cL_acts 127 = .ok (.aload 8, 2) := by decide +kernel
theorem dL_acts_129 : decode cL_acts 129 = .ok (.iconst 4, 1) := by decide +kernel
theorem dL_acts_130 : decode cL_acts 130 = .ok (.iaload, 1) := by decide +kernel
theorem dL_acts_131 : decode cL_acts 131 = .ok (.invokevirtual 113, 3) := by decide +kernel
theorem dL_acts_134 : decode cL_acts 134 = .ok (.iload 13, 2) := by decide +kernel
theorem dL_acts_136 : decode cL_acts 136 = .ok (.if_icmp .ne 7, 3) := by decide +kernel
theorem dL_acts_139 : decode cL_acts 139 = .ok (.iconst 1, 1) := by decide +kernel
theorem dL_acts_140 : decode cL_acts 140 = .ok (.goto 4, 3) := by decide +kernel
theorem dL_acts_143 : decode cL_acts 143 = .ok (.iconst 0, 1) := by decide +kernel
theorem dL_acts_144 : decode cL_acts 144 = .ok (.ireturn, 1) := by decide +kernel
theorem dL_acts_145 : decode cL_acts 145 = .ok (.iload 10, 2) := by decide +kernel
theorem dL_acts_147 : decode cL_acts 147 = .ok (.bipush 6, 2) := by decide +kernel
theorem dL_acts_149 : decode cL_acts 149 = .ok (.if_icmp .ge 187, 3) := by decide +kernel
theorem dL_acts_152 : decode cL_acts 152 = .ok (.iload 11, 2) := by decide +kernel
theorem dL_acts_154 : decode cL_acts 154 = .ok (.iconst 3, 1) := by decide +kernel
theorem dL_acts_155 : decode cL_acts 155 = .ok (.idiv, 1) := by decide +kernel
theorem dL_acts_156 : decode cL_acts 156 = .ok (.iconst 5, 1) := by decide +kernel
theorem dL_acts_157 : decode cL_acts 157 = .ok (.irem, 1) := by decide +kernel
theorem dL_acts_158 : decode cL_acts 158 = .ok (.istore 13, 2) := by decide +kernel
theorem dL_acts_160 : decode cL_acts 160 = .ok (.iload 11, 2) := by decide +kernel
theorem dL_acts_162 : decode cL_acts 162 = .ok (.bipush 15, 2) := by decide +kernel
theorem dL_acts_164 : decode cL_acts 164 = .ok (.idiv, 1) := by decide +kernel
theorem dL_acts_165 : decode cL_acts 165 = .ok (.iconst 3, 1) := by decide +kernel
theorem dL_acts_166 : decode cL_acts 166 = .ok (.irem, 1) := by decide +kernel
theorem dL_acts_167 : decode cL_acts 167 = .ok (.ifCond .ne 7, 3) := by decide +kernel
theorem dL_acts_170 : decode cL_acts 170 = .ok (.iconst 1, 1) := by decide +kernel
theorem dL_acts_171 : decode cL_acts 171 = .ok (.goto 4, 3) := by decide +kernel
theorem dL_acts_174 : decode cL_acts 174 = .ok (.iconst 0, 1) := by decide +kernel
theorem dL_acts_175 : decode cL_acts 175 = .ok (.istore 14, 2) := by decide +kernel
theorem dL_acts_177 : decode cL_acts 177 = .ok (.iconst 0, 1) := by decide +kernel
theorem dL_acts_178 : decode cL_acts 178 = .ok (.istore 15, 2) := by decide +kernel
theorem dL_acts_180 : decode cL_acts 180 = .ok (.iconst 0, 1) := by decide +kernel
theorem dL_acts_181 : decode cL_acts 181 = .ok (.istore 16, 2) := by decide +kernel
theorem dL_acts_183 : decode cL_acts 183 = .ok (.iload 16, 2) := by decide +kernel
theorem dL_acts_185 : decode cL_acts 185 = .ok (.iconst 5, 1) := by decide +kernel
theorem dL_acts_186 : decode cL_acts 186 = .ok (.if_icmp .ge 45, 3) := by decide +kernel
theorem dL_acts_189 : decode cL_acts 189 = .ok (.iload 15, 2) := by decide +kernel
theorem dL_acts_191 : decode cL_acts 191 = .ok (.iload 16, 2) := by decide +kernel
theorem dL_acts_193 : decode cL_acts 193 = .ok (.iload 13, 2) := by decide +kernel
theorem dL_acts_195 : decode cL_acts 195 = .ok (.if_icmp .eq 26, 3) := by decide +kernel
theorem dL_acts_198 : decode cL_acts 198 = .ok (.aload_n 1, 1) := by decide +kernel
theorem dL_acts_199 : decode cL_acts 199 = .ok (.iload 16, 2) := by decide +kernel
theorem dL_acts_201 : decode cL_acts 201 = .ok (.iaload, 1) := by decide +kernel
theorem dL_acts_202 : decode cL_acts 202 = .ok (.ifCond .le 19, 3) := by decide +kernel
theorem dL_acts_205 : decode cL_acts 205 = .ok (.aload_n 2, 1) := by decide +kernel
theorem dL_acts_206 : decode cL_acts 206 = .ok (.iconst 5, 1) := by decide +kernel
theorem dL_acts_207 : decode cL_acts 207 = .ok (.iload 12, 2) := by decide +kernel
theorem dL_acts_209 : decode cL_acts 209 = .ok (.imul, 1) := by decide +kernel
theorem dL_acts_210 : decode cL_acts 210 = .ok (.iload 16, 2) := by decide +kernel
theorem dL_acts_212 : decode cL_acts 212 = .ok (.iadd, 1) := by decide +kernel
theorem dL_acts_213 : decode cL_acts 213 = .ok (.iaload, 1) := by decide +kernel
theorem dL_acts_214 : decode cL_acts 214 = .ok (.ifCond .ne 7, 3) := by decide +kernel
theorem dL_acts_217 : decode cL_acts 217 = .ok (.iconst 1, 1) := by decide +kernel
theorem dL_acts_218 : decode cL_acts 218 = .ok (.goto 4, 3) := by decide +kernel
theorem dL_acts_221 : decode cL_acts 221 = .ok (.iconst 0, 1) := by decide +kernel
theorem dL_acts_222 : decode cL_acts 222 = .ok (.iadd, 1) := by decide +kernel
theorem dL_acts_223 : decode cL_acts 223 = .ok (.istore 15, 2) := by decide +kernel
theorem dL_acts_225 : decode cL_acts 225 = .ok (.iinc 16 1, 3) := by decide +kernel
theorem dL_acts_228 : decode cL_acts 228 = .ok (.goto (-45), 3) := by decide +kernel
theorem dL_acts_231 : decode cL_acts 231 = .ok (.aload 9, 2) := by decide +kernel
theorem dL_acts_233 : decode cL_acts 233 = .ok (.iload 12, 2) := by decide +kernel
theorem dL_acts_235 : decode cL_acts 235 = .ok (.iaload, 1) := by decide +kernel
theorem dL_acts_236 : decode cL_acts 236 = .ok (.ifCond .ne 24, 3) := by decide +kernel
theorem dL_acts_239 : decode cL_acts 239 = .ok (.aload_n 1, 1) := by decide +kernel
theorem dL_acts_240 : decode cL_acts 240 = .ok (.iload 13, 2) := by decide +kernel
theorem dL_acts_242 : decode cL_acts 242 = .ok (.iaload, 1) := by decide +kernel
theorem dL_acts_243 : decode cL_acts 243 = .ok (.ifCond .le 17, 3) := by decide +kernel
theorem dL_acts_246 : decode cL_acts 246 = .ok (.iload 14, 2) := by decide +kernel
theorem dL_acts_248 : decode cL_acts 248 = .ok (.ifCond .ne 8, 3) := by decide +kernel
theorem dL_acts_251 : decode cL_acts 251 = .ok (.iload 15, 2) := by decide +kernel
theorem dL_acts_253 : decode cL_acts 253 = .ok (.ifCond .le 7, 3) := by decide +kernel
theorem dL_acts_256 : decode cL_acts 256 = .ok (.iconst 1, 1) := by decide +kernel
theorem dL_acts_257 : decode cL_acts 257 = .ok (.goto 4, 3) := by decide +kernel
theorem dL_acts_260 : decode cL_acts 260 = .ok (.iconst 0, 1) := by decide +kernel
theorem dL_acts_261 : decode cL_acts 261 = .ok (.istore 16, 2) := by decide +kernel
theorem dL_acts_263 : decode cL_acts 263 = .ok (.aload_n 2, 1) := by decide +kernel
theorem dL_acts_264 : decode cL_acts 264 = .ok (.iconst 5, 1) := by decide +kernel
theorem dL_acts_265 : decode cL_acts 265 = .ok (.iload 12, 2) := by decide +kernel
theorem dL_acts_267 : decode cL_acts 267 = .ok (.imul, 1) := by decide +kernel
theorem dL_acts_268 : decode cL_acts 268 = .ok (.iload 13, 2) := by decide +kernel
theorem dL_acts_270 : decode cL_acts 270 = .ok (.iadd, 1) := by decide +kernel
theorem dL_acts_271 : decode cL_acts 271 = .ok (.iaload, 1) := by decide +kernel
theorem dL_acts_272 : decode cL_acts 272 = .ok (.istore 17, 2) := by decide +kernel
theorem dL_acts_274 : decode cL_acts 274 = .ok (.aload_n 2, 1) := by decide +kernel
theorem dL_acts_275 : decode cL_acts 275 = .ok (.iconst 5, 1) := by decide +kernel
theorem dL_acts_276 : decode cL_acts 276 = .ok (.iload 12, 2) := by decide +kernel
theorem dL_acts_278 : decode cL_acts 278 = .ok (.imul, 1) := by decide +kernel
theorem dL_acts_279 : decode cL_acts 279 = .ok (.iload 13, 2) := by decide +kernel
theorem dL_acts_281 : decode cL_acts 281 = .ok (.iadd, 1) := by decide +kernel
theorem dL_acts_282 : decode cL_acts 282 = .ok (.iload 16, 2) := by decide +kernel
theorem dL_acts_284 : decode cL_acts 284 = .ok (.ifCond .eq 16, 3) := by decide +kernel
theorem dL_acts_287 : decode cL_acts 287 = .ok (.iload 14, 2) := by decide +kernel
theorem dL_acts_289 : decode cL_acts 289 = .ok (.ifCond .eq 7, 3) := by decide +kernel
theorem dL_acts_292 : decode cL_acts 292 = .ok (.iconst 0, 1) := by decide +kernel
theorem dL_acts_293 : decode cL_acts 293 = .ok (.goto 9, 3) := by decide +kernel
theorem dL_acts_296 : decode cL_acts 296 = .ok (.iconst 1, 1) := by decide +kernel
theorem dL_acts_297 : decode cL_acts 297 = .ok (.goto 5, 3) := by decide +kernel
theorem dL_acts_300 : decode cL_acts 300 = .ok (.iload 17, 2) := by decide +kernel
theorem dL_acts_302 : decode cL_acts 302 = .ok (.iastore, 1) := by decide +kernel
theorem dL_acts_303 : decode cL_acts 303 = .ok (.aload_n 0, 1) := by decide +kernel
theorem dL_acts_304 : decode cL_acts 304 = .ok (.iload 12, 2) := by decide +kernel
theorem dL_acts_306 : decode cL_acts 306 = .ok (.iload 13, 2) := by decide +kernel
theorem dL_acts_308 : decode cL_acts 308 = .ok (.iload 14, 2) := by decide +kernel
theorem dL_acts_310 : decode cL_acts 310 = .ok (.invokestatic 116, 3) := by decide +kernel
theorem dL_acts_313 : decode cL_acts 313 = .ok (.iload 16, 2) := by decide +kernel
theorem dL_acts_315 : decode cL_acts 315 = .ok (.ifCond .eq 10, 3) := by decide +kernel
theorem dL_acts_318 : decode cL_acts 318 = .ok (.iconst 1, 1) := by decide +kernel
theorem dL_acts_319 : decode cL_acts 319 = .ok (.iload 17, 2) := by decide +kernel
theorem dL_acts_321 : decode cL_acts 321 = .ok (.isub, 1) := by decide +kernel
theorem dL_acts_322 : decode cL_acts 322 = .ok (.goto 5, 3) := by decide +kernel
theorem dL_acts_325 : decode cL_acts 325 = .ok (.bipush (-2), 2) := by decide +kernel
theorem dL_acts_327 : decode cL_acts 327 = .ok (.if_icmp .ne 7, 3) := by decide +kernel
theorem dL_acts_330 : decode cL_acts 330 = .ok (.iconst 1, 1) := by decide +kernel
theorem dL_acts_331 : decode cL_acts 331 = .ok (.goto 4, 3) := by decide +kernel
theorem dL_acts_334 : decode cL_acts 334 = .ok (.iconst 0, 1) := by decide +kernel
theorem dL_acts_335 : decode cL_acts 335 = .ok (.ireturn, 1) := by decide +kernel
theorem dL_acts_336 : decode cL_acts 336 = .ok (.iload 10, 2) := by decide +kernel
theorem dL_acts_338 : decode cL_acts 338 = .ok (.bipush 13, 2) := by decide +kernel
theorem dL_acts_340 : decode cL_acts 340 = .ok (.if_icmp .ge 239, 3) := by decide +kernel
theorem dL_acts_343 : decode cL_acts 343 = .ok (.aload 8, 2) := by decide +kernel
theorem dL_acts_345 : decode cL_acts 345 = .ok (.iconst 1, 1) := by decide +kernel
theorem dL_acts_346 : decode cL_acts 346 = .ok (.iaload, 1) := by decide +kernel
theorem dL_acts_347 : decode cL_acts 347 = .ok (.bipush 16, 2) := by decide +kernel
theorem dL_acts_349 : decode cL_acts 349 = .ok (.if_icmp .ge 230, 3) := by decide +kernel
theorem dL_acts_352 : decode cL_acts 352 = .ok (.iconst 1, 1) := by decide +kernel
theorem dL_acts_353 : decode cL_acts 353 = .ok (.iload 11, 2) := by decide +kernel
theorem dL_acts_355 : decode cL_acts 355 = .ok (.iconst 3, 1) := by decide +kernel
theorem dL_acts_356 : decode cL_acts 356 = .ok (.idiv, 1) := by decide +kernel
theorem dL_acts_357 : decode cL_acts 357 = .ok (.iload 11, 2) := by decide +kernel
theorem dL_acts_359 : decode cL_acts 359 = .ok (.iconst 4, 1) := by decide +kernel
theorem dL_acts_360 : decode cL_acts 360 = .ok (.irem, 1) := by decide +kernel
theorem dL_acts_361 : decode cL_acts 361 = .ok (.ifCond .ne 8, 3) := by decide +kernel
theorem dL_acts_364 : decode cL_acts 364 = .ok (.bipush 50, 2) := by decide +kernel
theorem dL_acts_366 : decode cL_acts 366 = .ok (.goto 6, 3) := by decide +kernel
theorem dL_acts_369 : decode cL_acts 369 = .ok (.sipush 9000, 3) := by decide +kernel
theorem dL_acts_372 : decode cL_acts 372 = .ok (.irem, 1) := by decide +kernel
theorem dL_acts_373 : decode cL_acts 373 = .ok (.iadd, 1) := by decide +kernel
theorem dL_acts_374 : decode cL_acts 374 = .ok (.istore 13, 2) := by decide +kernel
theorem dL_acts_376 : decode cL_acts 376 = .ok (.iload 10, 2) := by decide +kernel
theorem dL_acts_378 : decode cL_acts 378 = .ok (.bipush 9, 2) := by decide +kernel
theorem dL_acts_380 : decode cL_acts 380 = .ok (.if_icmp .le 7, 3) := by decide +kernel
theorem dL_acts_383 : decode cL_acts 383 = .ok (.iconst 1, 1) := by decide +kernel
theorem dL_acts_384 : decode cL_acts 384 = .ok (.goto 4, 3) := by decide +kernel
theorem dL_acts_387 : decode cL_acts 387 = .ok (.iconst 0, 1) := by decide +kernel
theorem dL_acts_388 : decode cL_acts 388 = .ok (.istore 14, 2) := by decide +kernel
theorem dL_acts_390 : decode cL_acts 390 = .ok (.iload 10, 2) := by decide +kernel
theorem dL_acts_392 : decode cL_acts 392 = .ok (.bipush 6, 2) := by decide +kernel
theorem dL_acts_394 : decode cL_acts 394 = .ok (.if_icmp .ne 7, 3) := by decide +kernel
theorem dL_acts_397 : decode cL_acts 397 = .ok (.iconst 1, 1) := by decide +kernel
theorem dL_acts_398 : decode cL_acts 398 = .ok (.goto 4, 3) := by decide +kernel
theorem dL_acts_401 : decode cL_acts 401 = .ok (.iconst 0, 1) := by decide +kernel
theorem dL_acts_402 : decode cL_acts 402 = .ok (.istore 15, 2) := by decide +kernel
theorem dL_acts_404 : decode cL_acts 404 = .ok (.iload 15, 2) := by decide +kernel
theorem dL_acts_406 : decode cL_acts 406 = .ok (.ifCond .eq 34, 3) := by decide +kernel
theorem dL_acts_409 : decode cL_acts 409 = .ok (.aload 8, 2) := by decide +kernel
theorem dL_acts_411 : decode cL_acts 411 = .ok (.iconst 4, 1) := by decide +kernel
theorem dL_acts_412 : decode cL_acts 412 = .ok (.iaload, 1) := by decide +kernel
theorem dL_acts_413 : decode cL_acts 413 = .ok (.ifCond .ne 27, 3) := by decide +kernel
theorem dL_acts_416 : decode cL_acts 416 = .ok (.aload_n 0, 1) := by decide +kernel
theorem dL_acts_417 : decode cL_acts 417 = .ok (.iload 12, 2) := by decide +kernel
theorem dL_acts_419 : decode cL_acts 419 = .ok (.iconst 1, 1) := by decide +kernel
theorem dL_acts_420 : decode cL_acts 420 = .ok (.iload 11, 2) := by decide +kernel
theorem dL_acts_422 : decode cL_acts 422 = .ok (.bipush 24, 2) := by decide +kernel
theorem dL_acts_424 : decode cL_acts 424 = .ok (.irem, 1) := by decide +kernel
theorem dL_acts_425 : decode cL_acts 425 = .ok (.iadd, 1) := by decide +kernel
theorem dL_acts_426 : decode cL_acts 426 = .ok (.invokestatic 120, 3) := by decide +kernel
theorem dL_acts_429 : decode cL_acts 429 = .ok (.bipush (-2), 2) := by decide +kernel
theorem dL_acts_431 : decode cL_acts 431 = .ok (.if_icmp .ne 7, 3) := by decide +kernel
theorem dL_acts_434 : decode cL_acts 434 = .ok (.iconst 1, 1) := by decide +kernel
theorem dL_acts_435 : decode cL_acts 435 = .ok (.goto 4, 3) := by decide +kernel
theorem dL_acts_438 : decode cL_acts 438 = .ok (.iconst 0, 1) := by decide +kernel
theorem dL_acts_439 : decode cL_acts 439 = .ok (.ireturn, 1) := by decide +kernel
theorem dL_acts_440 : decode cL_acts 440 = .ok (.aload 4, 2) := by decide +kernel
theorem dL_acts_442 : decode cL_acts 442 = .ok (.iconst 3, 1) := by decide +kernel
theorem dL_acts_443 : decode cL_acts 443 = .ok (.aload 8, 2) := by decide +kernel
theorem dL_acts_445 : decode cL_acts 445 = .ok (.iconst 1, 1) := by decide +kernel
theorem dL_acts_446 : decode cL_acts 446 = .ok (.iaload, 1) := by decide +kernel
theorem dL_acts_447 : decode cL_acts 447 = .ok (.imul, 1) := by decide +kernel
theorem dL_acts_448 : decode cL_acts 448 = .ok (.iload 12, 2) := by decide +kernel
theorem dL_acts_450 : decode cL_acts 450 = .ok (.iastore, 1) := by decide +kernel
theorem dL_acts_451 : decode cL_acts 451 = .ok (.aload 4, 2) := by decide +kernel
theorem dL_acts_453 : decode cL_acts 453 = .ok (.iconst 3, 1) := by decide +kernel
theorem dL_acts_454 : decode cL_acts 454 = .ok (.aload 8, 2) := by decide +kernel
theorem dL_acts_456 : decode cL_acts 456 = .ok (.iconst 1, 1) := by decide +kernel
theorem dL_acts_457 : decode cL_acts 457 = .ok (.iaload, 1) := by decide +kernel
theorem dL_acts_458 : decode cL_acts 458 = .ok (.imul, 1) := by decide +kernel
theorem dL_acts_459 : decode cL_acts 459 = .ok (.iconst 1, 1) := by decide +kernel
theorem dL_acts_460 : decode cL_acts 460 = .ok (.iadd, 1) := by decide +kernel
theorem dL_acts_461 : decode cL_acts 461 = .ok (.iload 15, 2) := by decide +kernel
theorem dL_acts_463 : decode cL_acts 463 = .ok (.ifCond .eq 18, 3) := by decide +kernel
theorem dL_acts_466 : decode cL_acts 466 = .ok (.aload 8, 2) := by decide +kernel
theorem dL_acts_468 : decode cL_acts 468 = .ok (.iconst 4, 1) := by decide +kernel
theorem dL_acts_469 : decode cL_acts 469 = .ok (.iaload, 1) := by decide +kernel
theorem dL_acts_470 : decode cL_acts 470 = .ok (.iconst 1, 1) := by decide +kernel
theorem dL_acts_471 : decode cL_acts 471 = .ok (.iload 11, 2) := by decide +kernel
theorem dL_acts_473 : decode cL_acts 473 = .ok (.bipush 24, 2) := by decide +kernel
theorem dL_acts_475 : decode cL_acts 475 = .ok (.irem, 1) := by decide +kernel
theorem dL_acts_476 : decode cL_acts 476 = .ok (.iadd, 1) := by decide +kernel
theorem dL_acts_477 : decode cL_acts 477 = .ok (.imul, 1) := by decide +kernel
theorem dL_acts_478 : decode cL_acts 478 = .ok (.goto 5, 3) := by decide +kernel
theorem dL_acts_481 : decode cL_acts 481 = .ok (.iload 13, 2) := by decide +kernel
theorem dL_acts_483 : decode cL_acts 483 = .ok (.iastore, 1) := by decide +kernel
theorem dL_acts_484 : decode cL_acts 484 = .ok (.aload 4, 2) := by decide +kernel
theorem dL_acts_486 : decode cL_acts 486 = .ok (.iconst 3, 1) := by decide +kernel
theorem dL_acts_487 : decode cL_acts 487 = .ok (.aload 8, 2) := by decide +kernel
theorem dL_acts_489 : decode cL_acts 489 = .ok (.iconst 1, 1) := by decide +kernel
theorem dL_acts_490 : decode cL_acts 490 = .ok (.iaload, 1) := by decide +kernel
theorem dL_acts_491 : decode cL_acts 491 = .ok (.imul, 1) := by decide +kernel
theorem dL_acts_492 : decode cL_acts 492 = .ok (.iconst 2, 1) := by decide +kernel
theorem dL_acts_493 : decode cL_acts 493 = .ok (.iadd, 1) := by decide +kernel
theorem dL_acts_494 : decode cL_acts 494 = .ok (.iload 14, 2) := by decide +kernel
theorem dL_acts_496 : decode cL_acts 496 = .ok (.ifCond .eq 7, 3) := by decide +kernel
theorem dL_acts_499 : decode cL_acts 499 = .ok (.iconst 1, 1) := by decide +kernel
theorem dL_acts_500 : decode cL_acts 500 = .ok (.goto 4, 3) := by decide +kernel
theorem dL_acts_503 : decode cL_acts 503 = .ok (.iconst 0, 1) := by decide +kernel
theorem dL_acts_504 : decode cL_acts 504 = .ok (.iastore, 1) := by decide +kernel
theorem dL_acts_505 : decode cL_acts 505 = .ok (.aload 9, 2) := by decide +kernel
theorem dL_acts_507 : decode cL_acts 507 = .ok (.iload 12, 2) := by decide +kernel
theorem dL_acts_509 : decode cL_acts 509 = .ok (.iconst 1, 1) := by decide +kernel
theorem dL_acts_510 : decode cL_acts 510 = .ok (.iastore, 1) := by decide +kernel
theorem dL_acts_511 : decode cL_acts 511 = .ok (.aload 8, 2) := by decide +kernel
theorem dL_acts_513 : decode cL_acts 513 = .ok (.iconst 1, 1) := by decide +kernel
theorem dL_acts_514 : decode cL_acts 514 = .ok (.dup2, 1) := by decide +kernel
theorem dL_acts_515 : decode cL_acts 515 = .ok (.iaload, 1) := by decide +kernel
theorem dL_acts_516 : decode cL_acts 516 = .ok (.iconst 1, 1) := by decide +kernel
theorem dL_acts_517 : decode cL_acts 517 = .ok (.iadd, 1) := by decide +kernel
theorem dL_acts_518 : decode cL_acts 518 = .ok (.iastore, 1) := by decide +kernel
theorem dL_acts_519 : decode cL_acts 519 = .ok (.iload 15, 2) := by decide +kernel
theorem dL_acts_521 : decode cL_acts 521 = .ok (.ifCond .eq 19, 3) := by decide +kernel
theorem dL_acts_524 : decode cL_acts 524 = .ok (.aload_n 0, 1) := by decide +kernel
theorem dL_acts_525 : decode cL_acts 525 = .ok (.iload 12, 2) := by decide +kernel
theorem dL_acts_527 : decode cL_acts 527 = .ok (.iconst 1, 1) := by decide +kernel
theorem dL_acts_528 : decode cL_acts 528 = .ok (.iload 11, 2) := by decide +kernel
theorem dL_acts_530 : decode cL_acts 530 = .ok (.bipush 24, 2) := by decide +kernel
theorem dL_acts_532 : decode cL_acts 532 = .ok (.irem, 1) := by decide +kernel
theorem dL_acts_533 : decode cL_acts 533 = .ok (.iadd, 1) := by decide +kernel
theorem dL_acts_534 : decode cL_acts 534 = .ok (.invokestatic 120, 3) := by decide +kernel
theorem dL_acts_537 : decode cL_acts 537 = .ok (.goto 27, 3) := by decide +kernel
theorem dL_acts_540 : decode cL_acts 540 = .ok (.iload 14, 2) := by decide +kernel
theorem dL_acts_542 : decode cL_acts 542 = .ok (.ifCond .eq 14, 3) := by decide +kernel
theorem dL_acts_545 : decode cL_acts 545 = .ok (.aload_n 0, 1) := by decide +kernel
theorem dL_acts_546 : decode cL_acts 546 = .ok (.iload 12, 2) := by decide +kernel
theorem dL_acts_548 : decode cL_acts 548 = .ok (.iload 13, 2) := by decide +kernel
theorem dL_acts_550 : decode cL_acts 550 = .ok (.invokevirtual 123, 3) := by decide +kernel
theorem dL_acts_553 : decode cL_acts 553 = .ok (.goto 11, 3) := by decide +kernel
theorem dL_acts_556 : decode cL_acts 556 = .ok (.aload_n 0, 1) := by decide +kernel
theorem dL_acts_557 : decode cL_acts 557 = .ok (.iload 12, 2) := by decide +kernel
theorem dL_acts_559 : decode cL_acts 559 = .ok (.iload 13, 2) := by decide +kernel
theorem dL_acts_561 : decode cL_acts 561 = .ok (.invokevirtual 126, 3) := by decide +kernel
theorem dL_acts_564 : decode cL_acts 564 = .ok (.aload 8, 2) := by decide +kernel
theorem dL_acts_566 : decode cL_acts 566 = .ok (.iconst 1, 1) := by decide +kernel
theorem dL_acts_567 : decode cL_acts 567 = .ok (.iaload, 1) := by decide +kernel
theorem dL_acts_568 : decode cL_acts 568 = .ok (.iconst 1, 1) := by decide +kernel
theorem dL_acts_569 : decode cL_acts 569 = .ok (.isub, 1) := by decide +kernel
theorem dL_acts_570 : decode cL_acts 570 = .ok (.if_icmp .ne 7, 3) := by decide +kernel
theorem dL_acts_573 : decode cL_acts 573 = .ok (.iconst 1, 1) := by decide +kernel
theorem dL_acts_574 : decode cL_acts 574 = .ok (.goto 4, 3) := by decide +kernel
theorem dL_acts_577 : decode cL_acts 577 = .ok (.iconst 0, 1) := by decide +kernel
theorem dL_acts_578 : decode cL_acts 578 = .ok (.ireturn, 1) := by decide +kernel
theorem dL_acts_579 : decode cL_acts 579 = .ok (.iload 10, 2) := by decide +kernel
theorem dL_acts_581 : decode cL_acts 581 = .ok (.bipush 15, 2) := by decide +kernel
theorem dL_acts_583 : decode cL_acts 583 = .ok (.if_icmp .ge 116, 3) := by decide +kernel
theorem dL_acts_586 : decode cL_acts 586 = .ok (.aload 8, 2) := by decide +kernel
theorem dL_acts_588 : decode cL_acts 588 = .ok (.iconst 1, 1) := by decide +kernel
theorem dL_acts_589 : decode cL_acts 589 = .ok (.iaload, 1) := by decide +kernel
theorem dL_acts_590 : decode cL_acts 590 = .ok (.ifCond .le 109, 3) := by decide +kernel
theorem dL_acts_593 : decode cL_acts 593 = .ok (.iload 11, 2) := by decide +kernel
theorem dL_acts_595 : decode cL_acts 595 = .ok (.iconst 3, 1) := by decide +kernel
theorem dL_acts_596 : decode cL_acts 596 = .ok (.idiv, 1) := by decide +kernel
theorem dL_acts_597 : decode cL_acts 597 = .ok (.aload 8, 2) := by decide +kernel
theorem dL_acts_599 : decode cL_acts 599 = .ok (.iconst 1, 1) := by decide +kernel
theorem dL_acts_600 : decode cL_acts 600 = .ok (.iaload, 1) := by decide +kernel
theorem dL_acts_601 : decode cL_acts 601 = .ok (.irem, 1) := by decide +kernel
theorem dL_acts_602 : decode cL_acts 602 = .ok (.istore 13, 2) := by decide +kernel
theorem dL_acts_604 : decode cL_acts 604 = .ok (.aload 4, 2) := by decide +kernel
theorem dL_acts_606 : decode cL_acts 606 = .ok (.iconst 3, 1) := by decide +kernel
theorem dL_acts_607 : decode cL_acts 607 = .ok (.iload 13, 2) := by decide +kernel
theorem dL_acts_609 : decode cL_acts 609 = .ok (.imul, 1) := by decide +kernel
theorem dL_acts_610 : decode cL_acts 610 = .ok (.iconst 2, 1) := by decide +kernel
theorem dL_acts_611 : decode cL_acts 611 = .ok (.iadd, 1) := by decide +kernel
theorem dL_acts_612 : decode cL_acts 612 = .ok (.iaload, 1) := by decide +kernel
theorem dL_acts_613 : decode cL_acts 613 = .ok (.ifCond .ne 7, 3) := by decide +kernel
theorem dL_acts_616 : decode cL_acts 616 = .ok (.iconst 1, 1) := by decide +kernel
theorem dL_acts_617 : decode cL_acts 617 = .ok (.goto 4, 3) := by decide +kernel
theorem dL_acts_620 : decode cL_acts 620 = .ok (.iconst 0, 1) := by decide +kernel
theorem dL_acts_621 : decode cL_acts 621 = .ok (.istore 14, 2) := by decide +kernel
theorem dL_acts_623 : decode cL_acts 623 = .ok (.aload 4, 2) := by decide +kernel
theorem dL_acts_625 : decode cL_acts 625 = .ok (.iconst 3, 1) := by decide +kernel
theorem dL_acts_626 : decode cL_acts 626 = .ok (.iload 13, 2) := by decide +kernel
theorem dL_acts_628 : decode cL_acts 628 = .ok (.imul, 1) := by decide +kernel
theorem dL_acts_629 : decode cL_acts 629 = .ok (.iaload, 1) := by decide +kernel
theorem dL_acts_630 : decode cL_acts 630 = .ok (.istore 15, 2) := by decide +kernel
theorem dL_acts_632 : decode cL_acts 632 = .ok (.aload 4, 2) := by decide +kernel
theorem dL_acts_634 : decode cL_acts 634 = .ok (.iconst 3, 1) := by decide +kernel
theorem dL_acts_635 : decode cL_acts 635 = .ok (.iload 13, 2) := by decide +kernel
theorem dL_acts_637 : decode cL_acts 637 = .ok (.imul, 1) := by decide +kernel
theorem dL_acts_638 : decode cL_acts 638 = .ok (.iload 14, 2) := by decide +kernel
theorem dL_acts_640 : decode cL_acts 640 = .ok (.ifCond .eq 8, 3) := by decide +kernel
theorem dL_acts_643 : decode cL_acts 643 = .ok (.iload 12, 2) := by decide +kernel
theorem dL_acts_645 : decode cL_acts 645 = .ok (.goto 5, 3) := by decide +kernel
theorem dL_acts_648 : decode cL_acts 648 = .ok (.iload 15, 2) := by decide +kernel
theorem dL_acts_650 : decode cL_acts 650 = .ok (.iastore, 1) := by decide +kernel
theorem dL_acts_651 : decode cL_acts 651 = .ok (.aload 9, 2) := by decide +kernel
theorem dL_acts_653 : decode cL_acts 653 = .ok (.iload 12, 2) := by decide +kernel
theorem dL_acts_655 : decode cL_acts 655 = .ok (.iload 14, 2) := by decide +kernel
theorem dL_acts_657 : decode cL_acts 657 = .ok (.ifCond .eq 7, 3) := by decide +kernel
theorem dL_acts_660 : decode cL_acts 660 = .ok (.iconst 1, 1) := by decide +kernel
theorem dL_acts_661 : decode cL_acts 661 = .ok (.goto 8, 3) := by decide +kernel
theorem dL_acts_664 : decode cL_acts 664 = .ok (.aload 9, 2) := by decide +kernel
theorem dL_acts_666 : decode cL_acts 666 = .ok (.iload 12, 2) := by decide +kernel
theorem dL_acts_668 : decode cL_acts 668 = .ok (.iaload, 1) := by decide +kernel
theorem dL_acts_669 : decode cL_acts 669 = .ok (.iastore, 1) := by decide +kernel
theorem dL_acts_670 : decode cL_acts 670 = .ok (.aload_n 0, 1) := by decide +kernel
theorem dL_acts_671 : decode cL_acts 671 = .ok (.iload 13, 2) := by decide +kernel
theorem dL_acts_673 : decode cL_acts 673 = .ok (.iload 12, 2) := by decide +kernel
theorem dL_acts_675 : decode cL_acts 675 = .ok (.invokestatic 129, 3) := by decide +kernel
theorem dL_acts_678 : decode cL_acts 678 = .ok (.iload 14, 2) := by decide +kernel
theorem dL_acts_680 : decode cL_acts 680 = .ok (.ifCond .eq 8, 3) := by decide +kernel
theorem dL_acts_683 : decode cL_acts 683 = .ok (.iload 15, 2) := by decide +kernel
theorem dL_acts_685 : decode cL_acts 685 = .ok (.goto 5, 3) := by decide +kernel
theorem dL_acts_688 : decode cL_acts 688 = .ok (.bipush (-2), 2) := by decide +kernel
theorem dL_acts_690 : decode cL_acts 690 = .ok (.if_icmp .ne 7, 3) := by decide +kernel
theorem dL_acts_693 : decode cL_acts 693 = .ok (.iconst 1, 1) := by decide +kernel
theorem dL_acts_694 : decode cL_acts 694 = .ok (.goto 4, 3) := by decide +kernel
theorem dL_acts_697 : decode cL_acts 697 = .ok (.iconst 0, 1) := by decide +kernel
theorem dL_acts_698 : decode cL_acts 698 = .ok (.ireturn, 1) := by decide +kernel
theorem dL_acts_699 : decode cL_acts 699 = .ok (.aload_n 0, 1) := by decide +kernel
theorem dL_acts_700 : decode cL_acts 700 = .ok (.aload_n 1, 1) := by decide +kernel
theorem dL_acts_701 : decode cL_acts 701 = .ok (.aload_n 2, 1) := by decide +kernel
theorem dL_acts_702 : decode cL_acts 702 = .ok (.aload_n 3, 1) := by decide +kernel
theorem dL_acts_703 : decode cL_acts 703 = .ok (.aload 4, 2) := by decide +kernel
theorem dL_acts_705 : decode cL_acts 705 = .ok (.aload 5, 2) := by decide +kernel
theorem dL_acts_707 : decode cL_acts 707 = .ok (.aload 6, 2) := by decide +kernel
theorem dL_acts_709 : decode cL_acts 709 = .ok (.aload 7, 2) := by decide +kernel
theorem dL_acts_711 : decode cL_acts 711 = .ok (.aload 8, 2) := by decide +kernel
theorem dL_acts_713 : decode cL_acts 713 = .ok (.iload 10, 2) := by decide +kernel
theorem dL_acts_715 : decode cL_acts 715 = .ok (.iconst 5, 1) := by decide +kernel
theorem dL_acts_716 : decode cL_acts 716 = .ok (.irem, 1) := by decide +kernel
theorem dL_acts_717 : decode cL_acts 717 = .ok (.iload 11, 2) := by decide +kernel
theorem dL_acts_719 : decode cL_acts 719 = .ok (.invokestatic 132, 3) := by decide +kernel
theorem dL_acts_722 : decode cL_acts 722 = .ok (.ireturn, 1) := by decide +kernel
set_option maxRecDepth 20000 in
theorem ggL_holds_X3_init : GoodIn wsL_holds wsX3_init := goodIn_r _ [8, 9, 10, 11, 4, 12, 13, 14, 15, 16, 17, 18, 19, 20, 21, 22, 23, 24, 25, 26, 27, 28, 29, 30, 31, 32, 33, 34, 35, 36, 37, 38, 39, 40, 41, 42, 43, 44, 45, 46, 47, 48, 49, 50, 51, 52, 53, 54, 55, 56, 57, 58, 59, 60, 61, 62, 346, 347, 348, 349, 350, 351, 352, 353, 354, 355, 356, 357, 358, 359, 360, 361, 362, 363, 364, 365, 366, 367, 368, 369, 370, 371] (by decide +kernel) (by decide +kernel)
set_option maxRecDepth 20000 in
theorem gL_holds_X3_init : GoodIn wsL_holds (wsX3_init) := ggL_holds_X3_init
set_option maxRecDepth 20000 in
theorem ggL_holds_L_from : GoodIn wsL_holds wsL_from := goodIn_r _ [66, 67, 68] (by decide +kernel) (by decide +kernel)
set_option maxRecDepth 20000 in
theorem gL_holds_L_from : GoodIn wsL_holds (va_wsS RL 137 yL_from wsL_from) := goodIn_app (goodIn_of _ (by decide +kernel)) ggL_holds_L_from
set_option maxRecDepth 20000 in
theorem ggL_holds_X3_setShares : GoodIn wsL_holds wsX3_setShares := goodIn_ca (goodIn_ca (goodIn_r _ [72, 73, 74, 75, 76, 17, 12, 77, 78, 79, 3, 80, 346, 347, 348, 349, 350, 351, 352, 353, 354, 355, 356, 357, 358, 359, 360] (by decide +kernel) (by decide +kernel)) (goodIn_sub (fun _ h => List.mem_cons_of_mem _ (List.mem_append_left _ (List.mem_append_left _ (List.mem_append_right _ h)))) (by decide +kernel))) (goodIn_sub (fun _ h => List.mem_cons_of_mem _ (List.mem_append_left _ (List.mem_append_right _ h))) (by decide +kernel))
set_option maxRecDepth 20000 in
theorem gL_holds_X3_setShares : GoodIn wsL_holds (wsV RL 141 RX3 yX3_setShares wsX3_setShares) := goodIn_app (goodIn_of _ (by decide +kernel)) ggL_holds_X3_setShares
set_option maxRecDepth 20000 in
theorem ggL_holds_X3_addWell : GoodIn wsL_holds wsX3_addWell := goodIn_ca (goodIn_r _ [84, 75, 76, 17, 16, 13, 85, 346, 347, 348, 349, 350, 351, 352, 353, 354, 355, 356, 357, 358, 359, 360, 362, 363, 364, 365, 366, 367, 368, 369] (by decide +kernel) (by decide +kernel)) (goodIn_sub (fun _ h => List.mem_cons_of_mem _ (List.mem_append_left _ (List.mem_append_right _ h))) (by decide +kernel))
set_option maxRecDepth 20000 in
theorem gL_holds_X3_addWell : GoodIn wsL_holds (wsV RL 107 RX3 yX3_addWell wsX3_addWell) := goodIn_app (goodIn_of _ (by decide +kernel)) ggL_holds_X3_addWell
def ggL_holds_L_acts_h : Cond := Cond.code yL_acts cL_acts 18 (some .boolean)
set_option maxRecDepth 20000 in
theorem ggL_holds_L_acts_h_p : wsL_holds[88]? = some ggL_holds_L_acts_h := rfl
theorem ggL_holds_L_acts_h_s : GoodIn wsL_holds [ggL_holds_L_acts_h] := fun w h => by
  rw [List.mem_singleton.mp h]
  exact ⟨List.mem_of_getElem? ggL_holds_L_acts_h_p, good_of_word rfl⟩
set_option maxRecDepth 20000 in
theorem ggL_holds_L_acts_wsL_acts_r1_0 : GoodIn wsL_holds [Cond.methodLink RL 107 yX3_addWell, Cond.instanceMethod yX3_addWell, Cond.selects RX3 yX3_addWell yX3_addWell, Cond.initialized RX3, Cond.code yX3_addWell cX3_addWell 1 (some .int), Cond.classLink RX3 79 "java/lang/IllegalStateException", Cond.initialized "java/lang/IllegalStateException", Cond.fieldLink RX3 26 "JointVenture" "wellCount" "I", Cond.fieldLink RX3 22 "JointVenture" "wells" "[LJointVenture$Well;", Cond.fieldLink RX3 13 "JointVenture" "newPenalty" "I", Cond.fieldLink RX3 87 "JointVenture$Well" "penalty" "I", Cond.methodLink RL 110 yX3_setPenalty, Cond.instanceMethod yX3_setPenalty, Cond.selects RX3 yX3_setPenalty yX3_setPenalty, Cond.code yX3_setPenalty cX3_setPenalty 3 (some .int), Cond.methodLink RX3 68 yX3_requireRange, Cond.instanceMethod yX3_requireRange, Cond.selects RX3 yX3_requireRange yX3_requireRange, Cond.code yX3_requireRange cX3_requireRange 4 none, Cond.classLink RX3 72 "java/lang/IllegalArgumentException", Cond.initialized "java/lang/IllegalArgumentException", Cond.methodLink RL 113 yX3_setOverhead, Cond.instanceMethod yX3_setOverhead, Cond.selects RX3 yX3_setOverhead yX3_setOverhead] := goodIn_r _ [81, 82, 83, 3, 84, 75, 76, 17, 16, 13, 85, 89, 90, 91, 92, 77, 78, 79, 80, 73, 74, 93, 94, 95] (by decide +kernel) (by decide +kernel)
theorem ggL_holds_L_acts_wsL_acts_r1_all : GoodIn wsL_holds wsL_acts_r1 := ggL_holds_L_acts_wsL_acts_r1_0
set_option maxRecDepth 20000 in
theorem ggL_holds_L_acts_wsL_acts_r2_0 : GoodIn wsL_holds [Cond.code yX3_setOverhead cX3_setOverhead 3 (some .int), Cond.constant RX3 84 (100000), Cond.fieldLink RX3 17 "JointVenture" "monthlyOverhead" "I", Cond.methodLink RL 116 yL_elected, Cond.static yL_elected, Cond.initialized RL, Cond.codeWith yL_elected cL_elected 5 (some .int) [(0, 15, 16, 83)], Cond.classLink RL 83 "java/lang/IllegalStateException", Cond.methodLink RL 79 yX3_elect, Cond.instanceMethod yX3_elect, Cond.selects RX3 yX3_elect yX3_elect, Cond.code yX3_elect cX3_elect 6 (some .boolean), Cond.fieldLink RX3 97 "JointVenture$Well" "hadVoucher" "Z", Cond.fieldLink RX3 9 "JointVenture" "shares" "[I", Cond.fieldLink RX3 111 "JointVenture$Well" "electedOut" "[Z", Cond.fieldLink RX3 115 "JointVenture$Well" "out" "[Z", Cond.methodLink RX3 90 yX3_requireWell, Cond.instanceMethod yX3_requireWell, Cond.selects RX3 yX3_requireWell yX3_requireWell, Cond.code yX3_requireWell cX3_requireWell 2 none, Cond.classLink RX3 196 "java/lang/IndexOutOfBoundsException", Cond.initialized "java/lang/IndexOutOfBoundsException", Cond.methodLink RX3 94 yX3_requirePartner, Cond.instanceMethod yX3_requirePartner] := goodIn_r _ [96, 97, 14, 98, 99, 65, 100, 101, 102, 103, 104, 105, 106, 12, 107, 108, 109, 110, 111, 112, 113, 114, 115, 116] (by decide +kernel) (by decide +kernel)
theorem ggL_holds_L_acts_wsL_acts_r2_all : GoodIn wsL_holds wsL_acts_r2 := ggL_holds_L_acts_wsL_acts_r2_0
set_option maxRecDepth 20000 in
theorem ggL_holds_L_acts_wsL_acts_r3_0 : GoodIn wsL_holds [Cond.selects RX3 yX3_requirePartner yX3_requirePartner, Cond.code yX3_requirePartner cX3_requirePartner 2 none, Cond.methodLink RX3 105 yX3_isAnotherIn, Cond.instanceMethod yX3_isAnotherIn, Cond.selects RX3 yX3_isAnotherIn yX3_isAnotherIn, Cond.code yX3_isAnotherIn cX3_isAnotherIn 4 (some .boolean), Cond.methodLink RX3 136 yX3_shareIfIn, Cond.instanceMethod yX3_shareIfIn, Cond.selects RX3 yX3_shareIfIn yX3_shareIfIn, Cond.code yX3_shareIfIn cX3_shareIfIn 3 (some .int), Cond.methodLink RL 120 yL_entered, Cond.static yL_entered, Cond.codeWith yL_entered cL_entered 4 (some .int) [(0, 6, 7, 83)], Cond.methodLink RL 85 yX3_overhead, Cond.instanceMethod yX3_overhead, Cond.selects RX3 yX3_overhead yX3_overhead, Cond.code yX3_overhead cX3_overhead 3 (some .int), Cond.methodLink RX3 119 yX3_requireRoomForVoucher, Cond.instanceMethod yX3_requireRoomForVoucher, Cond.selects RX3 yX3_requireRoomForVoucher yX3_requireRoomForVoucher, Cond.code yX3_requireRoomForVoucher cX3_requireRoomForVoucher 1 none, Cond.fieldLink RX3 35 "JointVenture" "voucherCount" "I", Cond.methodLink RX3 122 yX3_addVoucher, Cond.instanceMethod yX3_addVoucher] := goodIn_r _ [117, 118, 119, 120, 121, 122, 123, 124, 125, 126, 127, 128, 129, 130, 131, 132, 133, 134, 135, 136, 137, 20, 138, 139] (by decide +kernel) (by decide +kernel)
theorem ggL_holds_L_acts_wsL_acts_r3_all : GoodIn wsL_holds wsL_acts_r3 := ggL_holds_L_acts_wsL_acts_r3_0
set_option maxRecDepth 20000 in
theorem ggL_holds_L_acts_wsL_acts_r4_0 : GoodIn wsL_holds [Cond.selects RX3 yX3_addVoucher yX3_addVoucher, Cond.code yX3_addVoucher cX3_addVoucher 4 (some .int), Cond.fieldLink RX3 29 "JointVenture" "voucherWells" "[I", Cond.fieldLink RX3 32 "JointVenture" "voucherAmounts" "[I", Cond.methodLink RX3 209 yX3_account, Cond.instanceMethod yX3_account, Cond.selects RX3 yX3_account yX3_account, Cond.code yX3_account cX3_account 4 none, Cond.methodLink RX3 215 yX3_accountCost, Cond.instanceMethod yX3_accountCost, Cond.selects RX3 yX3_accountCost yX3_accountCost, Cond.code yX3_accountCost cX3_accountCost 4 none, Cond.fieldLink RX3 147 "JointVenture$Well" "charged" "[I", Cond.fieldLink RX3 63 "JointVenture" "portions" "[I", Cond.fieldLink RX3 140 "JointVenture$Well" "toEarn" "[J", Cond.fieldLink RX3 57 "JointVenture" "ownParts" "[I", Cond.methodLink RX3 153 yX3_divideCost, Cond.instanceMethod yX3_divideCost, Cond.selects RX3 yX3_divideCost yX3_divideCost, Cond.code yX3_divideCost cX3_divideCost 4 none, Cond.fieldLink RX3 53 "JointVenture" "division" "LJointVenture$Division;", Cond.fieldLink RX3 60 "JointVenture" "weights" "[I", Cond.methodLink RX3 162 yX1_divide, Cond.instanceMethod yX1_divide] := goodIn_r _ [140, 141, 18, 19, 142, 143, 144, 145, 146, 147, 148, 149, 150, 31, 151, 29, 152, 153, 154, 155, 28, 30, 156, 157] (by decide +kernel) (by decide +kernel)
theorem ggL_holds_L_acts_wsL_acts_r4_all : GoodIn wsL_holds wsL_acts_r4 := ggL_holds_L_acts_wsL_acts_r4_0
set_option maxRecDepth 20000 in
theorem ggL_holds_L_acts_wsL_acts_r5_0 : GoodIn wsL_holds [Cond.selects RX1 yX1_divide yX1_divide, Cond.initialized RX1, Cond.code yX1_divide cX1_divide 10 none, Cond.fieldLink RX1 9 "JointVenture$Division" "remainders" "[J", Cond.constantLong RX1 25 (-1), Cond.methodLink RX1 15 yJ7_fill_53178, Cond.static yJ7_fill_53178, Cond.initialized RJ7, Cond.code yJ7_fill_53178 cJ7_fill_53178 4 none, Cond.methodLink RX1 21 yX1_firstWithGreatestRemainder, Cond.instanceMethod yX1_firstWithGreatestRemainder, Cond.selects RX1 yX1_firstWithGreatestRemainder yX1_firstWithGreatestRemainder, Cond.code yX1_firstWithGreatestRemainder cX1_firstWithGreatestRemainder 3 (some .int), Cond.methodLink RX3 232 yX3_weighThoseIn, Cond.instanceMethod yX3_weighThoseIn, Cond.selects RX3 yX3_weighThoseIn yX3_weighThoseIn, Cond.code yX3_weighThoseIn cX3_weighThoseIn 3 none, Cond.methodLink RX3 236 yX3_ownPartsOfThoseOut, Cond.instanceMethod yX3_ownPartsOfThoseOut, Cond.selects RX3 yX3_ownPartsOfThoseOut yX3_ownPartsOfThoseOut, Cond.code yX3_ownPartsOfThoseOut cX3_ownPartsOfThoseOut 4 (some .int), Cond.methodLink RX3 224 yX3_penaltyOn, Cond.instanceMethod yX3_penaltyOn, Cond.selects RX3 yX3_penaltyOn yX3_penaltyOn] := goodIn_r _ [158, 27, 159, 40, 160, 161, 55, 56, 57, 162, 163, 164, 165, 166, 167, 168, 169, 170, 171, 172, 173, 174, 175, 176] (by decide +kernel) (by decide +kernel)
theorem ggL_holds_L_acts_wsL_acts_r5_all : GoodIn wsL_holds wsL_acts_r5 := ggL_holds_L_acts_wsL_acts_r5_0
set_option maxRecDepth 20000 in
theorem ggL_holds_L_acts_wsL_acts_r6_0 : GoodIn wsL_holds [Cond.code yX3_penaltyOn cX3_penaltyOn 3 (some .long), Cond.constantLong RX3 228 (99), Cond.constantLong RX3 230 (100), Cond.methodLink RX3 218 yX3_accountIncome, Cond.instanceMethod yX3_accountIncome, Cond.selects RX3 yX3_accountIncome yX3_accountIncome, Cond.code yX3_accountIncome cX3_accountIncome 5 none, Cond.fieldLink RX3 150 "JointVenture$Well" "credited" "[I", Cond.methodLink RX3 240 yX2_takenOf, Cond.instanceMethod yX2_takenOf, Cond.selects RX2 yX2_takenOf yX2_takenOf, Cond.initialized RX2, Cond.code yX2_takenOf cX2_takenOf 3 (some .int), Cond.fieldLink RX2 23 "JointVenture$Well" "out" "[Z", Cond.fieldLink RX2 26 "JointVenture$Well" "toEarn" "[J", Cond.methodLink RX2 49 Lib.MathLoose.min_long.x, Cond.static Lib.MathLoose.min_long.x, Cond.initialized "java/lang/Math", Cond.code Lib.MathLoose.min_long.x Lib.MathLoose.min_long.code 4 (some .long), Cond.methodLink RX3 243 yX3_creditTaken, Cond.instanceMethod yX3_creditTaken, Cond.selects RX3 yX3_creditTaken yX3_creditTaken, Cond.code yX3_creditTaken cX3_creditTaken 4 none, Cond.methodLink RX3 221 yX2_takeBack] := goodIn_r _ [177, 178, 179, 180, 181, 182, 183, 184, 185, 186, 187, 33, 188, 49, 50, 189, 190, 191, 192, 193, 194, 195, 196, 197] (by decide +kernel) (by decide +kernel)
theorem ggL_holds_L_acts_wsL_acts_r6_all : GoodIn wsL_holds wsL_acts_r6 := ggL_holds_L_acts_wsL_acts_r6_0
set_option maxRecDepth 20000 in
theorem ggL_holds_L_acts_wsL_acts_r7_0 : GoodIn wsL_holds [Cond.instanceMethod yX2_takeBack, Cond.selects RX2 yX2_takeBack yX2_takeBack, Cond.code yX2_takeBack cX2_takeBack 3 none, Cond.fieldLink RX2 30 "JointVenture$Well" "backAt" "[I", Cond.methodLink RL 123 yX3_income, Cond.instanceMethod yX3_income, Cond.selects RX3 yX3_income yX3_income, Cond.code yX3_income cX3_income 3 (some .int), Cond.constant RX3 118 (10000000), Cond.methodLink RL 126 yX3_cost, Cond.instanceMethod yX3_cost, Cond.selects RX3 yX3_cost yX3_cost, Cond.code yX3_cost cX3_cost 3 (some .int), Cond.methodLink RL 129 yL_moved, Cond.static yL_moved, Cond.codeWith yL_moved cL_moved 4 (some .int) [(0, 6, 7, 83)], Cond.methodLink RL 88 yX3_move, Cond.instanceMethod yX3_move, Cond.selects RX3 yX3_move yX3_move, Cond.code yX3_move cX3_move 4 (some .int), Cond.methodLink RX3 128 yX3_requireVoucher, Cond.instanceMethod yX3_requireVoucher, Cond.selects RX3 yX3_requireVoucher yX3_requireVoucher, Cond.code yX3_requireVoucher cX3_requireVoucher 2 none] := goodIn_r _ [198, 199, 200, 51, 201, 202, 203, 204, 205, 206, 207, 208, 209, 210, 211, 212, 213, 214, 215, 216, 217, 218, 219, 220] (by decide +kernel) (by decide +kernel)
theorem ggL_holds_L_acts_wsL_acts_r7_all : GoodIn wsL_holds wsL_acts_r7 := ggL_holds_L_acts_wsL_acts_r7_0
set_option maxRecDepth 20000 in
theorem ggL_holds_L_acts_wsL_acts_r8_0 : GoodIn wsL_holds [Cond.methodLink RX3 133 yX3_accountAnew, Cond.instanceMethod yX3_accountAnew, Cond.selects RX3 yX3_accountAnew yX3_accountAnew, Cond.code yX3_accountAnew cX3_accountAnew 3 none, Cond.methodLink RX3 212 yX2_clearAccounts, Cond.instanceMethod yX2_clearAccounts, Cond.selects RX2 yX2_clearAccounts yX2_clearAccounts, Cond.code yX2_clearAccounts cX2_clearAccounts 2 none, Cond.fieldLink RX2 34 "JointVenture$Well" "charged" "[I", Cond.fieldLink RX2 37 "JointVenture$Well" "credited" "[I", Cond.fieldLink RX2 19 "JointVenture$Well" "electedOut" "[Z", Cond.methodLink RX2 46 yJ7_fill_d0a16, Cond.static yJ7_fill_d0a16, Cond.code yJ7_fill_d0a16 cJ7_fill_d0a16 5 none, Cond.methodLink RX2 40 yJ7_fill_53178, Cond.methodLink RL 132 yL_isCash, Cond.static yL_isCash] := goodIn_r _ [221, 222, 223, 224, 225, 226, 227, 228, 52, 53, 48, 229, 230, 231, 54, 232, 233] (by decide +kernel) (by decide +kernel)
def ggL_holds_L_acts_wsL_acts_r8_1 : Cond := Cond.code yL_isCash cL_isCash 21 (some .boolean)
set_option maxRecDepth 20000 in
theorem ggL_holds_L_acts_wsL_acts_r8_1_p : wsL_holds[234]? = some ggL_holds_L_acts_wsL_acts_r8_1 := rfl
theorem ggL_holds_L_acts_wsL_acts_r8_1_s : GoodIn wsL_holds [ggL_holds_L_acts_wsL_acts_r8_1] := fun w h => by
  rw [List.mem_singleton.mp h]
  exact ⟨List.mem_of_getElem? ggL_holds_L_acts_wsL_acts_r8_1_p, good_of_word rfl⟩
set_option maxRecDepth 20000 in
theorem ggL_holds_L_acts_wsL_acts_r8_2 : GoodIn wsL_holds [Cond.arrayClass .long, Cond.methodLink RL 42 yL_weigh, Cond.static yL_weigh, Cond.code yL_weigh cL_weigh 9 none, Cond.constantLong RL 27 (10000), Cond.methodLink RL 23 yL_account] := goodIn_r _ [39, 235, 236, 237, 238, 239] (by decide +kernel) (by decide +kernel)
theorem ggL_holds_L_acts_wsL_acts_r8_all : GoodIn wsL_holds wsL_acts_r8 := (goodIn_app ggL_holds_L_acts_wsL_acts_r8_0 (goodIn_app ggL_holds_L_acts_wsL_acts_r8_1_s ggL_holds_L_acts_wsL_acts_r8_2))
set_option maxRecDepth 20000 in
theorem ggL_holds_L_acts_wsL_acts_r9_0 : GoodIn wsL_holds [Cond.static yL_account, Cond.code yL_account cL_account 8 none, Cond.constantLong RL 17 (-1), Cond.methodLink RL 19 yL_enter, Cond.static yL_enter] := goodIn_r _ [240, 241, 242, 243, 244] (by decide +kernel) (by decide +kernel)
def ggL_holds_L_acts_wsL_acts_r9_1 : Cond := Cond.code yL_enter cL_enter 18 none
set_option maxRecDepth 20000 in
theorem ggL_holds_L_acts_wsL_acts_r9_1_p : wsL_holds[245]? = some ggL_holds_L_acts_wsL_acts_r9_1 := rfl
theorem ggL_holds_L_acts_wsL_acts_r9_1_s : GoodIn wsL_holds [ggL_holds_L_acts_wsL_acts_r9_1] := fun w h => by
  rw [List.mem_singleton.mp h]
  exact ⟨List.mem_of_getElem? ggL_holds_L_acts_wsL_acts_r9_1_p, good_of_word rfl⟩
set_option maxRecDepth 20000 in
theorem ggL_holds_L_acts_wsL_acts_r9_2 : GoodIn wsL_holds [Cond.constantLong RL 15 (100), Cond.methodLink RL 9 yL_divide, Cond.static yL_divide, Cond.code yL_divide cL_divide 13 none, Cond.methodLink RL 97 yX3_call, Cond.instanceMethod yX3_call, Cond.selects RX3 yX3_call yX3_call, Cond.code yX3_call cX3_call 3 (some .int), Cond.fieldLink RX3 44 "JointVenture" "cashCallCount" "I", Cond.fieldLink RX3 40 "JointVenture" "cashCalls" "[LJointVenture$CashCall;", Cond.fieldLink RX3 159 "JointVenture$CashCall" "asked" "[I", Cond.methodLink RL 100 yL_paid, Cond.static yL_paid, Cond.codeWith yL_paid cL_paid 4 (some .int) [(0, 6, 7, 83)], Cond.methodLink RL 91 yX3_pay, Cond.instanceMethod yX3_pay, Cond.selects RX3 yX3_pay yX3_pay, Cond.code yX3_pay cX3_pay 5 (some .int)] := goodIn_r _ [246, 247, 248, 249, 250, 251, 252, 253, 23, 22, 254, 255, 256, 257, 258, 259, 260, 261] (by decide +kernel) (by decide +kernel)
theorem ggL_holds_L_acts_wsL_acts_r9_all : GoodIn wsL_holds wsL_acts_r9 := (goodIn_app ggL_holds_L_acts_wsL_acts_r9_0 (goodIn_app ggL_holds_L_acts_wsL_acts_r9_1_s ggL_holds_L_acts_wsL_acts_r9_2))
set_option maxRecDepth 20000 in
theorem ggL_holds_L_acts_wsL_acts_r10_0 : GoodIn wsL_holds [Cond.fieldLink RX3 169 "JointVenture$CashCall" "paid" "[I", Cond.methodLink RX3 166 yX3_requireCashCall, Cond.instanceMethod yX3_requireCashCall, Cond.selects RX3 yX3_requireCashCall yX3_requireCashCall, Cond.code yX3_requireCashCall cX3_requireCashCall 2 none, Cond.methodLink RL 103 yL_shared, Cond.static yL_shared, Cond.codeWith yL_shared cL_shared 3 (some .int) [(0, 5, 6, 83)], Cond.methodLink RL 94 yX3_shareOut, Cond.instanceMethod yX3_shareOut, Cond.selects RX3 yX3_shareOut yX3_shareOut, Cond.code yX3_shareOut cX3_shareOut 4 (some .int), Cond.methodLink RX3 174 yX0_hasPayer, Cond.instanceMethod yX0_hasPayer, Cond.selects RX0 yX0_hasPayer yX0_hasPayer, Cond.initialized RX0, Cond.code yX0_hasPayer cX0_hasPayer 2 (some .boolean), Cond.fieldLink RX0 15 "JointVenture$CashCall" "paid" "[I", Cond.methodLink RX3 180 yX0_askedOfNonPayers, Cond.instanceMethod yX0_askedOfNonPayers, Cond.selects RX0 yX0_askedOfNonPayers yX0_askedOfNonPayers, Cond.code yX0_askedOfNonPayers cX0_askedOfNonPayers 3 (some .int), Cond.fieldLink RX0 9 "JointVenture$CashCall" "asked" "[I", Cond.methodLink RX3 186 yX3_moveToPayers] := goodIn_r _ [262, 263, 264, 265, 266, 267, 268, 269, 270, 271, 272, 273, 274, 275, 276, 35, 277, 62, 278, 279, 280, 281, 61, 282] (by decide +kernel) (by decide +kernel)
theorem ggL_holds_L_acts_wsL_acts_r10_all : GoodIn wsL_holds wsL_acts_r10 := ggL_holds_L_acts_wsL_acts_r10_0
set_option maxRecDepth 20000 in
theorem ggL_holds_L_acts_wsL_acts_r11_0 : GoodIn wsL_holds [Cond.instanceMethod yX3_moveToPayers, Cond.selects RX3 yX3_moveToPayers yX3_moveToPayers, Cond.code yX3_moveToPayers cX3_moveToPayers 4 none, Cond.fieldLink RX3 47 "JointVenture" "owed" "[I"] := goodIn_r _ [283, 284, 285, 24] (by decide +kernel) (by decide +kernel)
theorem ggL_holds_L_acts_wsL_acts_r11_all : GoodIn wsL_holds wsL_acts_r11 := ggL_holds_L_acts_wsL_acts_r11_0
set_option maxRecDepth 20000 in
theorem ggL_holds_L_acts_wsX30 : GoodIn wsL_holds wsX30 := goodIn_r _ [346, 347, 348, 349, 350, 351, 352, 353, 354, 355, 356, 357, 358, 359, 360] (by decide +kernel) (by decide +kernel)
set_option maxRecDepth 20000 in
theorem ggL_holds_L_acts_wsX20 : GoodIn wsL_holds wsX20 := goodIn_r _ [362, 363, 364, 365, 366, 367, 368, 369] (by decide +kernel) (by decide +kernel)
set_option maxRecDepth 20000 in
theorem ggL_holds_L_acts_wsX10 : GoodIn wsL_holds wsX10 := goodIn_r _ [361] (by decide +kernel) (by decide +kernel)
set_option maxRecDepth 20000 in
theorem ggL_holds_L_acts_wsX00 : GoodIn wsL_holds wsX00 := goodIn_r _ [370, 371] (by decide +kernel) (by decide +kernel)
set_option maxRecDepth 20000 in
theorem ggL_holds_L_acts : GoodIn wsL_holds wsL_acts := goodIn_ca (goodIn_ca (goodIn_ca (goodIn_cnse ggL_holds_L_acts_h_s (goodIn_app (goodIn_app (goodIn_app (goodIn_app (goodIn_app ggL_holds_L_acts_wsL_acts_r1_all (goodIn_app ggL_holds_L_acts_wsL_acts_r2_all (goodIn_app ggL_holds_L_acts_wsL_acts_r3_all (goodIn_app ggL_holds_L_acts_wsL_acts_r4_all (goodIn_app ggL_holds_L_acts_wsL_acts_r5_all (goodIn_app ggL_holds_L_acts_wsL_acts_r6_all (goodIn_app ggL_holds_L_acts_wsL_acts_r7_all (goodIn_app ggL_holds_L_acts_wsL_acts_r8_all (goodIn_app ggL_holds_L_acts_wsL_acts_r9_all (goodIn_app ggL_holds_L_acts_wsL_acts_r10_all ggL_holds_L_acts_wsL_acts_r11_all)))))))))) ggL_holds_L_acts_wsX30) ggL_holds_L_acts_wsX20) ggL_holds_L_acts_wsX10) ggL_holds_L_acts_wsX00)) (goodIn_sub (fun _ h => List.mem_cons_of_mem _ (List.mem_append_left _ (List.mem_append_right _ h))) (by decide +kernel))) (goodIn_sub (fun _ h => List.mem_cons_of_mem _ (List.mem_append_left _ (List.mem_append_left _ (List.mem_append_right _ h)))) (by decide +kernel))) (goodIn_sub (fun _ h => List.mem_cons_of_mem _ (List.mem_append_right _ h)) (by decide +kernel))
set_option maxRecDepth 20000 in
theorem gL_holds_L_acts : GoodIn wsL_holds (va_wsS RL 146 yL_acts wsL_acts) := goodIn_app (goodIn_of _ (by decide +kernel)) ggL_holds_L_acts
def ggL_holds_L_isTold_h : Cond := Cond.code yL_isTold cL_isTold 16 (some .boolean)
set_option maxRecDepth 20000 in
theorem ggL_holds_L_isTold_h_p : wsL_holds[288]? = some ggL_holds_L_isTold_h := rfl
theorem ggL_holds_L_isTold_h_s : GoodIn wsL_holds [ggL_holds_L_isTold_h] := fun w h => by
  rw [List.mem_singleton.mp h]
  exact ⟨List.mem_of_getElem? ggL_holds_L_isTold_h_p, good_of_word rfl⟩
set_option maxRecDepth 20000 in
theorem ggL_holds_L_isTold_wsL_isTold_r1_0 : GoodIn wsL_holds [Cond.arrayClass .long, Cond.methodLink RL 29 yX3_vouchers, Cond.instanceMethod yX3_vouchers, Cond.selects RX3 yX3_vouchers yX3_vouchers, Cond.initialized RX3, Cond.code yX3_vouchers cX3_vouchers 1 (some .int), Cond.fieldLink RX3 35 "JointVenture" "voucherCount" "I", Cond.methodLink RL 35 yX3_wellOf, Cond.instanceMethod yX3_wellOf, Cond.selects RX3 yX3_wellOf yX3_wellOf, Cond.code yX3_wellOf cX3_wellOf 2 (some .int), Cond.fieldLink RX3 29 "JointVenture" "voucherWells" "[I", Cond.methodLink RX3 128 yX3_requireVoucher, Cond.instanceMethod yX3_requireVoucher, Cond.selects RX3 yX3_requireVoucher yX3_requireVoucher, Cond.code yX3_requireVoucher cX3_requireVoucher 2 none, Cond.classLink RX3 196 "java/lang/IndexOutOfBoundsException", Cond.initialized "java/lang/IndexOutOfBoundsException", Cond.methodLink RL 39 yX3_amountOf, Cond.instanceMethod yX3_amountOf, Cond.selects RX3 yX3_amountOf yX3_amountOf, Cond.code yX3_amountOf cX3_amountOf 2 (some .int), Cond.fieldLink RX3 32 "JointVenture" "voucherAmounts" "[I", Cond.methodLink RL 23 yL_account] := goodIn_r _ [39, 289, 290, 291, 3, 292, 20, 293, 294, 295, 296, 18, 217, 218, 219, 220, 113, 114, 297, 298, 299, 300, 19, 239] (by decide +kernel) (by decide +kernel)
theorem ggL_holds_L_isTold_wsL_isTold_r1_all : GoodIn wsL_holds wsL_isTold_r1 := ggL_holds_L_isTold_wsL_isTold_r1_0
set_option maxRecDepth 20000 in
theorem ggL_holds_L_isTold_wsL_isTold_r2_0 : GoodIn wsL_holds [Cond.static yL_account, Cond.initialized RL, Cond.code yL_account cL_account 8 none, Cond.constantLong RL 17 (-1), Cond.methodLink RL 19 yL_enter, Cond.static yL_enter] := goodIn_r _ [240, 65, 241, 242, 243, 244] (by decide +kernel) (by decide +kernel)
def ggL_holds_L_isTold_wsL_isTold_r2_1 : Cond := Cond.code yL_enter cL_enter 18 none
set_option maxRecDepth 20000 in
theorem ggL_holds_L_isTold_wsL_isTold_r2_1_p : wsL_holds[245]? = some ggL_holds_L_isTold_wsL_isTold_r2_1 := rfl
theorem ggL_holds_L_isTold_wsL_isTold_r2_1_s : GoodIn wsL_holds [ggL_holds_L_isTold_wsL_isTold_r2_1] := fun w h => by
  rw [List.mem_singleton.mp h]
  exact ⟨List.mem_of_getElem? ggL_holds_L_isTold_wsL_isTold_r2_1_p, good_of_word rfl⟩
set_option maxRecDepth 20000 in
theorem ggL_holds_L_isTold_wsL_isTold_r2_2 : GoodIn wsL_holds [Cond.constantLong RL 15 (100), Cond.methodLink RL 9 yL_divide, Cond.static yL_divide, Cond.code yL_divide cL_divide 13 none, Cond.methodLink RL 42 yL_weigh, Cond.static yL_weigh, Cond.code yL_weigh cL_weigh 9 none, Cond.constantLong RL 27 (10000), Cond.methodLink RL 45 yX3_isIn, Cond.instanceMethod yX3_isIn, Cond.selects RX3 yX3_isIn yX3_isIn, Cond.code yX3_isIn cX3_isIn 3 (some .boolean), Cond.fieldLink RX3 22 "JointVenture" "wells" "[LJointVenture$Well;", Cond.methodLink RX3 90 yX3_requireWell, Cond.instanceMethod yX3_requireWell, Cond.selects RX3 yX3_requireWell yX3_requireWell, Cond.code yX3_requireWell cX3_requireWell 2 none] := goodIn_r _ [246, 247, 248, 249, 235, 236, 237, 238, 301, 302, 303, 304, 16, 109, 110, 111, 112] (by decide +kernel) (by decide +kernel)
theorem ggL_holds_L_isTold_wsL_isTold_r2_all : GoodIn wsL_holds wsL_isTold_r2 := (goodIn_app ggL_holds_L_isTold_wsL_isTold_r2_0 (goodIn_app ggL_holds_L_isTold_wsL_isTold_r2_1_s ggL_holds_L_isTold_wsL_isTold_r2_2))
set_option maxRecDepth 20000 in
theorem ggL_holds_L_isTold_wsL_isTold_r3_0 : GoodIn wsL_holds [Cond.fieldLink RX3 26 "JointVenture" "wellCount" "I", Cond.methodLink RX3 94 yX3_requirePartner, Cond.instanceMethod yX3_requirePartner, Cond.selects RX3 yX3_requirePartner yX3_requirePartner, Cond.code yX3_requirePartner cX3_requirePartner 2 none, Cond.methodLink RX3 136 yX3_shareIfIn, Cond.instanceMethod yX3_shareIfIn, Cond.selects RX3 yX3_shareIfIn yX3_shareIfIn, Cond.code yX3_shareIfIn cX3_shareIfIn 3 (some .int), Cond.fieldLink RX3 115 "JointVenture$Well" "out" "[Z", Cond.fieldLink RX3 9 "JointVenture" "shares" "[I", Cond.methodLink RL 49 yX3_toEarn, Cond.instanceMethod yX3_toEarn, Cond.selects RX3 yX3_toEarn yX3_toEarn, Cond.code yX3_toEarn cX3_toEarn 3 (some .long), Cond.fieldLink RX3 140 "JointVenture$Well" "toEarn" "[J", Cond.methodLink RL 53 yX3_backAt, Cond.instanceMethod yX3_backAt, Cond.selects RX3 yX3_backAt yX3_backAt, Cond.code yX3_backAt cX3_backAt 3 (some .int), Cond.fieldLink RX3 144 "JointVenture$Well" "backAt" "[I", Cond.methodLink RL 57 yX3_charged, Cond.instanceMethod yX3_charged, Cond.selects RX3 yX3_charged yX3_charged] := goodIn_r _ [17, 115, 116, 117, 118, 123, 124, 125, 126, 108, 12, 305, 306, 307, 308, 151, 309, 310, 311, 312, 313, 314, 315, 316] (by decide +kernel) (by decide +kernel)
theorem ggL_holds_L_isTold_wsL_isTold_r3_all : GoodIn wsL_holds wsL_isTold_r3 := ggL_holds_L_isTold_wsL_isTold_r3_0
set_option maxRecDepth 20000 in
theorem ggL_holds_L_isTold_wsL_isTold_r4_0 : GoodIn wsL_holds [Cond.code yX3_charged cX3_charged 3 (some .int), Cond.fieldLink RX3 147 "JointVenture$Well" "charged" "[I", Cond.methodLink RL 60 yX3_credited, Cond.instanceMethod yX3_credited, Cond.selects RX3 yX3_credited yX3_credited, Cond.code yX3_credited cX3_credited 3 (some .int), Cond.fieldLink RX3 150 "JointVenture$Well" "credited" "[I", Cond.methodLink RL 63 yX3_weight, Cond.instanceMethod yX3_weight, Cond.selects RX3 yX3_weight yX3_weight, Cond.code yX3_weight cX3_weight 3 (some .int), Cond.fieldLink RX3 63 "JointVenture" "portions" "[I", Cond.methodLink RX3 153 yX3_divideCost, Cond.instanceMethod yX3_divideCost, Cond.selects RX3 yX3_divideCost yX3_divideCost, Cond.code yX3_divideCost cX3_divideCost 4 none, Cond.fieldLink RX3 53 "JointVenture" "division" "LJointVenture$Division;", Cond.fieldLink RX3 57 "JointVenture" "ownParts" "[I", Cond.fieldLink RX3 60 "JointVenture" "weights" "[I", Cond.methodLink RX3 162 yX1_divide, Cond.instanceMethod yX1_divide, Cond.selects RX1 yX1_divide yX1_divide, Cond.initialized RX1, Cond.code yX1_divide cX1_divide 10 none] := goodIn_r _ [317, 150, 318, 319, 320, 321, 184, 322, 323, 324, 325, 31, 152, 153, 154, 155, 28, 29, 30, 156, 157, 158, 27, 159] (by decide +kernel) (by decide +kernel)
theorem ggL_holds_L_isTold_wsL_isTold_r4_all : GoodIn wsL_holds wsL_isTold_r4 := ggL_holds_L_isTold_wsL_isTold_r4_0
set_option maxRecDepth 20000 in
theorem ggL_holds_L_isTold_wsL_isTold_r5_0 : GoodIn wsL_holds [Cond.fieldLink RX1 9 "JointVenture$Division" "remainders" "[J", Cond.constantLong RX1 25 (-1), Cond.methodLink RX1 15 yJ7_fill_53178, Cond.static yJ7_fill_53178, Cond.initialized RJ7, Cond.code yJ7_fill_53178 cJ7_fill_53178 4 none, Cond.methodLink RX1 21 yX1_firstWithGreatestRemainder, Cond.instanceMethod yX1_firstWithGreatestRemainder, Cond.selects RX1 yX1_firstWithGreatestRemainder yX1_firstWithGreatestRemainder, Cond.code yX1_firstWithGreatestRemainder cX1_firstWithGreatestRemainder 3 (some .int), Cond.methodLink RX3 232 yX3_weighThoseIn, Cond.instanceMethod yX3_weighThoseIn, Cond.selects RX3 yX3_weighThoseIn yX3_weighThoseIn, Cond.code yX3_weighThoseIn cX3_weighThoseIn 3 none, Cond.methodLink RX3 236 yX3_ownPartsOfThoseOut, Cond.instanceMethod yX3_ownPartsOfThoseOut, Cond.selects RX3 yX3_ownPartsOfThoseOut yX3_ownPartsOfThoseOut, Cond.code yX3_ownPartsOfThoseOut cX3_ownPartsOfThoseOut 4 (some .int), Cond.methodLink RL 66 yX3_asked, Cond.instanceMethod yX3_asked, Cond.selects RX3 yX3_asked yX3_asked, Cond.code yX3_asked cX3_asked 3 (some .int), Cond.fieldLink RX3 40 "JointVenture" "cashCalls" "[LJointVenture$CashCall;", Cond.fieldLink RX3 159 "JointVenture$CashCall" "asked" "[I"] := goodIn_r _ [40, 160, 161, 55, 56, 57, 162, 163, 164, 165, 166, 167, 168, 169, 170, 171, 172, 173, 326, 327, 328, 329, 22, 254] (by decide +kernel) (by decide +kernel)
theorem ggL_holds_L_isTold_wsL_isTold_r5_all : GoodIn wsL_holds wsL_isTold_r5 := ggL_holds_L_isTold_wsL_isTold_r5_0
set_option maxRecDepth 20000 in
theorem ggL_holds_L_isTold_wsL_isTold_r6_0 : GoodIn wsL_holds [Cond.methodLink RX3 166 yX3_requireCashCall, Cond.instanceMethod yX3_requireCashCall, Cond.selects RX3 yX3_requireCashCall yX3_requireCashCall, Cond.code yX3_requireCashCall cX3_requireCashCall 2 none, Cond.fieldLink RX3 44 "JointVenture" "cashCallCount" "I", Cond.methodLink RL 69 yX3_paid, Cond.instanceMethod yX3_paid, Cond.selects RX3 yX3_paid yX3_paid, Cond.code yX3_paid cX3_paid 2 (some .int), Cond.methodLink RX3 190 yX3_paidOfAllCalls, Cond.instanceMethod yX3_paidOfAllCalls, Cond.selects RX3 yX3_paidOfAllCalls yX3_paidOfAllCalls, Cond.code yX3_paidOfAllCalls cX3_paidOfAllCalls 4 (some .int), Cond.fieldLink RX3 169 "JointVenture$CashCall" "paid" "[I", Cond.methodLink RL 72 yX3_owes, Cond.instanceMethod yX3_owes, Cond.selects RX3 yX3_owes yX3_owes, Cond.code yX3_owes cX3_owes 2 (some .int), Cond.fieldLink RX3 47 "JointVenture" "owed" "[I", Cond.methodLink RL 75 yX3_balance, Cond.instanceMethod yX3_balance, Cond.selects RX3 yX3_balance yX3_balance, Cond.code yX3_balance cX3_balance 5 (some .long)] := goodIn_r _ [263, 264, 265, 266, 23, 330, 331, 332, 333, 334, 335, 336, 337, 262, 338, 339, 340, 341, 24, 342, 343, 344, 345] (by decide +kernel) (by decide +kernel)
theorem ggL_holds_L_isTold_wsL_isTold_r6_all : GoodIn wsL_holds wsL_isTold_r6 := ggL_holds_L_isTold_wsL_isTold_r6_0
set_option maxRecDepth 20000 in
theorem ggL_holds_L_isTold_wsX30 : GoodIn wsL_holds wsX30 := goodIn_r _ [346, 347, 348, 349, 350, 351, 352, 353, 354, 355, 356, 357, 358, 359, 360] (by decide +kernel) (by decide +kernel)
set_option maxRecDepth 20000 in
theorem ggL_holds_L_isTold_wsX20 : GoodIn wsL_holds wsX20 := goodIn_r _ [362, 363, 364, 365, 366, 367, 368, 369] (by decide +kernel) (by decide +kernel)
set_option maxRecDepth 20000 in
theorem ggL_holds_L_isTold_wsX10 : GoodIn wsL_holds wsX10 := goodIn_r _ [361] (by decide +kernel) (by decide +kernel)
set_option maxRecDepth 20000 in
theorem ggL_holds_L_isTold_wsX00 : GoodIn wsL_holds wsX00 := goodIn_r _ [370, 371] (by decide +kernel) (by decide +kernel)
set_option maxRecDepth 20000 in
theorem ggL_holds_L_isTold : GoodIn wsL_holds wsL_isTold := goodIn_ca (goodIn_cnse ggL_holds_L_isTold_h_s (goodIn_app (goodIn_app (goodIn_app (goodIn_app (goodIn_app ggL_holds_L_isTold_wsL_isTold_r1_all (goodIn_app ggL_holds_L_isTold_wsL_isTold_r2_all (goodIn_app ggL_holds_L_isTold_wsL_isTold_r3_all (goodIn_app ggL_holds_L_isTold_wsL_isTold_r4_all (goodIn_app ggL_holds_L_isTold_wsL_isTold_r5_all ggL_holds_L_isTold_wsL_isTold_r6_all))))) ggL_holds_L_isTold_wsX30) ggL_holds_L_isTold_wsX20) ggL_holds_L_isTold_wsX10) ggL_holds_L_isTold_wsX00)) (goodIn_sub (fun _ h => List.mem_cons_of_mem _ (List.mem_append_right _ h)) (by decide +kernel))
set_option maxRecDepth 20000 in
theorem gL_holds_L_isTold : GoodIn wsL_holds (va_wsS RL 150 yL_isTold wsL_isTold) := goodIn_app (goodIn_of _ (by decide +kernel)) ggL_holds_L_isTold
theorem dL_holds_0 : decode cL_holds 0 = .ok (.new 30, 3) := by decide +kernel
theorem dL_holds_3 : decode cL_holds 3 = .ok (.dup, 1) := by decide +kernel
theorem dL_holds_4 : decode cL_holds 4 = .ok (.invokespecial 136, 3) := by decide +kernel
theorem dL_holds_7 : decode cL_holds 7 = .ok (.astore_n 1, 1) := by decide +kernel
theorem dL_holds_8 : decode cL_holds 8 = .ok (.iconst 5, 1) := by decide +kernel
theorem dL_holds_9 : decode cL_holds 9 = .ok (.newarray .int, 2) := by decide +kernel
theorem dL_holds_11 : decode cL_holds 11 = .ok (.astore_n 2, 1) := by decide +kernel
theorem dL_holds_12 : decode cL_holds 12 = .ok (.bipush 15, 2) := by decide +kernel
theorem dL_holds_14 : decode cL_holds 14 = .ok (.newarray .int, 2) := by decide +kernel
theorem dL_holds_16 : decode cL_holds 16 = .ok (.astore_n 3, 1) := by decide +kernel
theorem dL_holds_17 : decode cL_holds 17 = .ok (.iconst 3, 1) := by decide +kernel
theorem dL_holds_18 : decode cL_holds 18 = .ok (.newarray .int, 2) := by decide +kernel
theorem dL_holds_20 : decode cL_holds 20 = .ok (.astore 4, 2) := by decide +kernel
theorem dL_holds_22 : decode cL_holds 22 = .ok (.bipush 48, 2) := by decide +kernel
theorem dL_holds_24 : decode cL_holds 24 = .ok (.newarray .int, 2) := by decide +kernel
theorem dL_holds_26 : decode cL_holds 26 = .ok (.astore 5, 2) := by decide +kernel
theorem dL_holds_28 : decode cL_holds 28 = .ok (.bipush 30, 2) := by decide +kernel
theorem dL_holds_30 : decode cL_holds 30 = .ok (.newarray .int, 2) := by decide +kernel
theorem dL_holds_32 : decode cL_holds 32 = .ok (.astore 6, 2) := by decide +kernel
theorem dL_holds_34 : decode cL_holds 34 = .ok (.bipush 30, 2) := by decide +kernel
theorem dL_holds_36 : decode cL_holds 36 = .ok (.newarray .int, 2) := by decide +kernel
theorem dL_holds_38 : decode cL_holds 38 = .ok (.astore 7, 2) := by decide +kernel
theorem dL_holds_40 : decode cL_holds 40 = .ok (.iconst 5, 1) := by decide +kernel
theorem dL_holds_41 : decode cL_holds 41 = .ok (.newarray .int, 2) := by decide +kernel
theorem dL_holds_43 : decode cL_holds 43 = .ok (.astore 8, 2) := by decide +kernel
theorem dL_holds_45 : decode cL_holds 45 = .ok (.iconst 5, 1) := by decide +kernel
theorem dL_holds_46 : decode cL_holds 46 = .ok (.newarray .int, 2) := by decide +kernel
theorem dL_holds_48 : decode cL_holds 48 = .ok (.astore 9, 2) := by decide +kernel
theorem dL_holds_50 : decode cL_holds 50 = .ok (.iconst 3, 1) := by decide +kernel
theorem dL_holds_51 : decode cL_holds 51 = .ok (.newarray .int, 2) := by decide +kernel
theorem dL_holds_53 : decode cL_holds 53 = .ok (.astore 10, 2) := by decide +kernel
theorem dL_holds_55 : decode cL_holds 55 = .ok (.sipush 10000, 3) := by decide +kernel
theorem dL_holds_58 : decode cL_holds 58 = .ok (.istore 11, 2) := by decide +kernel
theorem dL_holds_60 : decode cL_holds 60 = .ok (.iconst 0, 1) := by decide +kernel
theorem dL_holds_61 : decode cL_holds 61 = .ok (.istore 12, 2) := by decide +kernel
theorem dL_holds_63 : decode cL_holds 63 = .ok (.iload 12, 2) := by decide +kernel
theorem dL_holds_65 : decode cL_holds 65 = .ok (.iconst 4, 1) := by decide +kernel
theorem dL_holds_66 : decode cL_holds 66 = .ok (.if_icmp .ge 50, 3) := by decide +kernel
theorem dL_holds_69 : decode cL_holds 69 = .ok (.aload_n 2, 1) := by decide +kernel
theorem dL_holds_70 : decode cL_holds 70 = .ok (.iload 12, 2) := by decide +kernel
theorem dL_holds_72 : decode cL_holds 72 = .ok (.aload_n 0, 1) := by decide +kernel
theorem dL_holds_73 : decode cL_holds 73 = .ok (.iload 12, 2) := by decide +kernel
theorem dL_holds_75 : decode cL_holds 75 = .ok (.iconst 3, 1) := by decide +kernel
theorem dL_holds_76 : decode cL_holds 76 = .ok (.invokestatic 137, 3) := by decide +kernel
theorem dL_holds_79 : decode cL_holds 79 = .ok (.ifCond .ne 7, 3) := by decide +kernel
theorem dL_holds_82 : decode cL_holds 82 = .ok (.iconst 0, 1) := by decide +kernel
theorem dL_holds_83 : decode cL_holds 83 = .ok (.goto 17, 3) := by decide +kernel
theorem dL_holds_86 : decode cL_holds 86 = .ok (.aload_n 0, 1) := by decide +kernel
theorem dL_holds_87 : decode cL_holds 87 = .ok (.iconst 4, 1) := by decide +kernel
theorem dL_holds_88 : decode cL_holds 88 = .ok (.iload 12, 2) := by decide +kernel
theorem dL_holds_90 : decode cL_holds 90 = .ok (.iadd, 1) := by decide +kernel
theorem dL_holds_91 : decode cL_holds 91 = .ok (.iload 11, 2) := by decide +kernel
theorem dL_holds_93 : decode cL_holds 93 = .ok (.iconst 2, 1) := by decide +kernel
theorem dL_holds_94 : decode cL_holds 94 = .ok (.idiv, 1) := by decide +kernel
theorem dL_holds_95 : decode cL_holds 95 = .ok (.iconst 1, 1) := by decide +kernel
theorem dL_holds_96 : decode cL_holds 96 = .ok (.iadd, 1) := by decide +kernel
theorem dL_holds_97 : decode cL_holds 97 = .ok (.invokestatic 137, 3) := by decide +kernel
theorem dL_holds_100 : decode cL_holds 100 = .ok (.iastore, 1) := by decide +kernel
theorem dL_holds_101 : decode cL_holds 101 = .ok (.iload 11, 2) := by decide +kernel
theorem dL_holds_103 : decode cL_holds 103 = .ok (.aload_n 2, 1) := by decide +kernel
theorem dL_holds_104 : decode cL_holds 104 = .ok (.iload 12, 2) := by decide +kernel
theorem dL_holds_106 : decode cL_holds 106 = .ok (.iaload, 1) := by decide +kernel
theorem dL_holds_107 : decode cL_holds 107 = .ok (.isub, 1) := by decide +kernel
theorem dL_holds_108 : decode cL_holds 108 = .ok (.istore 11, 2) := by decide +kernel
theorem dL_holds_110 : decode cL_holds 110 = .ok (.iinc 12 1, 3) := by decide +kernel
theorem dL_holds_113 : decode cL_holds 113 = .ok (.goto (-50), 3) := by decide +kernel
theorem dL_holds_116 : decode cL_holds 116 = .ok (.aload_n 2, 1) := by decide +kernel
theorem dL_holds_117 : decode cL_holds 117 = .ok (.iconst 4, 1) := by decide +kernel
theorem dL_holds_118 : decode cL_holds 118 = .ok (.iload 11, 2) := by decide +kernel
theorem dL_holds_120 : decode cL_holds 120 = .ok (.iastore, 1) := by decide +kernel
theorem dL_holds_121 : decode cL_holds 121 = .ok (.aload_n 1, 1) := by decide +kernel
theorem dL_holds_122 : decode cL_holds 122 = .ok (.aload_n 2, 1) := by decide +kernel
theorem dL_holds_123 : decode cL_holds 123 = .ok (.iconst 0, 1) := by decide +kernel
theorem dL_holds_124 : decode cL_holds 124 = .ok (.iaload, 1) := by decide +kernel
theorem dL_holds_125 : decode cL_holds 125 = .ok (.aload_n 2, 1) := by decide +kernel
theorem dL_holds_126 : decode cL_holds 126 = .ok (.iconst 1, 1) := by decide +kernel
theorem dL_holds_127 : decode cL_holds 127 = .ok (.iaload, 1) := by decide +kernel
theorem dL_holds_128 : decode cL_holds 128 = .ok (.aload_n 2, 1) := by decide +kernel
theorem dL_holds_129 : decode cL_holds 129 = .ok (.iconst 2, 1) := by decide +kernel
theorem dL_holds_130 : decode cL_holds 130 = .ok (.iaload, 1) := by decide +kernel
theorem dL_holds_131 : decode cL_holds 131 = .ok (.aload_n 2, 1) := by decide +kernel
theorem dL_holds_132 : decode cL_holds 132 = .ok (.iconst 3, 1) := by decide +kernel
theorem dL_holds_133 : decode cL_holds 133 = .ok (.iaload, 1) := by decide +kernel
theorem dL_holds_134 : decode cL_holds 134 = .ok (.aload_n 2, 1) := by decide +kernel
theorem dL_holds_135 : decode cL_holds 135 = .ok (.iconst 4, 1) := by decide +kernel
theorem dL_holds_136 : decode cL_holds 136 = .ok (.iaload, 1) := by decide +kernel
theorem dL_holds_137 : decode cL_holds 137 = .ok (.invokevirtual 141, 3) := by decide +kernel
theorem dL_holds_140 : decode cL_holds 140 = .ok (.aload 9, 2) := by decide +kernel
theorem dL_holds_142 : decode cL_holds 142 = .ok (.iconst 0, 1) := by decide +kernel
theorem dL_holds_143 : decode cL_holds 143 = .ok (.iconst 1, 1) := by decide +kernel
theorem dL_holds_144 : decode cL_holds 144 = .ok (.iastore, 1) := by decide +kernel
theorem dL_holds_145 : decode cL_holds 145 = .ok (.aload 9, 2) := by decide +kernel
theorem dL_holds_147 : decode cL_holds 147 = .ok (.iconst 3, 1) := by decide +kernel
theorem dL_holds_148 : decode cL_holds 148 = .ok (.sipush 300, 3) := by decide +kernel
theorem dL_holds_151 : decode cL_holds 151 = .ok (.iastore, 1) := by decide +kernel
theorem dL_holds_152 : decode cL_holds 152 = .ok (.aload 4, 2) := by decide +kernel
theorem dL_holds_154 : decode cL_holds 154 = .ok (.iconst 0, 1) := by decide +kernel
theorem dL_holds_155 : decode cL_holds 155 = .ok (.sipush 300, 3) := by decide +kernel
theorem dL_holds_158 : decode cL_holds 158 = .ok (.iastore, 1) := by decide +kernel
theorem dL_holds_159 : decode cL_holds 159 = .ok (.aload_n 1, 1) := by decide +kernel
theorem dL_holds_160 : decode cL_holds 160 = .ok (.invokevirtual 107, 3) := by decide +kernel
theorem dL_holds_163 : decode cL_holds 163 = .ok (.ifCond .ne 7, 3) := by decide +kernel
theorem dL_holds_166 : decode cL_holds 166 = .ok (.iconst 1, 1) := by decide +kernel
theorem dL_holds_167 : decode cL_holds 167 = .ok (.goto 4, 3) := by decide +kernel
theorem dL_holds_170 : decode cL_holds 170 = .ok (.iconst 0, 1) := by decide +kernel
theorem dL_holds_171 : decode cL_holds 171 = .ok (.istore 12, 2) := by decide +kernel
theorem dL_holds_173 : decode cL_holds 173 = .ok (.iconst 0, 1) := by decide +kernel
theorem dL_holds_174 : decode cL_holds 174 = .ok (.istore 13, 2) := by decide +kernel
theorem dL_holds_176 : decode cL_holds 176 = .ok (.iload 13, 2) := by decide +kernel
theorem dL_holds_178 : decode cL_holds 178 = .ok (.bipush 70, 2) := by decide +kernel
theorem dL_holds_180 : decode cL_holds 180 = .ok (.if_icmp .ge 111, 3) := by decide +kernel
theorem dL_holds_183 : decode cL_holds 183 = .ok (.iload 12, 2) := by decide +kernel
theorem dL_holds_185 : decode cL_holds 185 = .ok (.ifCond .eq 106, 3) := by decide +kernel
theorem dL_holds_188 : decode cL_holds 188 = .ok (.aload_n 1, 1) := by decide +kernel
theorem dL_holds_189 : decode cL_holds 189 = .ok (.aload_n 2, 1) := by decide +kernel
theorem dL_holds_190 : decode cL_holds 190 = .ok (.aload_n 3, 1) := by decide +kernel
theorem dL_holds_191 : decode cL_holds 191 = .ok (.aload 4, 2) := by decide +kernel
theorem dL_holds_193 : decode cL_holds 193 = .ok (.aload 5, 2) := by decide +kernel
theorem dL_holds_195 : decode cL_holds 195 = .ok (.aload 6, 2) := by decide +kernel
theorem dL_holds_197 : decode cL_holds 197 = .ok (.aload 7, 2) := by decide +kernel
theorem dL_holds_199 : decode cL_holds 199 = .ok (.aload 8, 2) := by decide +kernel
theorem dL_holds_201 : decode cL_holds 201 = .ok (.aload 9, 2) := by decide +kernel
theorem dL_holds_203 : decode cL_holds 203 = .ok (.aload 10, 2) := by decide +kernel
theorem dL_holds_205 : decode cL_holds 205 = .ok (.aload_n 0, 1) := by decide +kernel
theorem dL_holds_206 : decode cL_holds 206 = .ok (.bipush 10, 2) := by decide +kernel
theorem dL_holds_208 : decode cL_holds 208 = .ok (.iconst 2, 1) := by decide +kernel
theorem dL_holds_209 : decode cL_holds 209 = .ok (.iload 13, 2) := by decide +kernel
theorem dL_holds_211 : decode cL_holds 211 = .ok (.imul, 1) := by decide +kernel
theorem dL_holds_212 : decode cL_holds 212 = .ok (.iadd, 1) := by decide +kernel
theorem dL_holds_213 : decode cL_holds 213 = .ok (.iload 13, 2) := by decide +kernel
theorem dL_holds_215 : decode cL_holds 215 = .ok (.bipush 8, 2) := by decide +kernel
theorem dL_holds_217 : decode cL_holds 217 = .ok (.if_icmp .ge 8, 3) := by decide +kernel
theorem dL_holds_220 : decode cL_holds 220 = .ok (.bipush 6, 2) := by decide +kernel
theorem dL_holds_222 : decode cL_holds 222 = .ok (.goto 5, 3) := by decide +kernel
theorem dL_holds_225 : decode cL_holds 225 = .ok (.bipush 22, 2) := by decide +kernel
theorem dL_holds_227 : decode cL_holds 227 = .ok (.invokestatic 137, 3) := by decide +kernel
theorem dL_holds_230 : decode cL_holds 230 = .ok (.aload_n 0, 1) := by decide +kernel
theorem dL_holds_231 : decode cL_holds 231 = .ok (.bipush 11, 2) := by decide +kernel
theorem dL_holds_233 : decode cL_holds 233 = .ok (.iconst 2, 1) := by decide +kernel
theorem dL_holds_234 : decode cL_holds 234 = .ok (.iload 13, 2) := by decide +kernel
theorem dL_holds_236 : decode cL_holds 236 = .ok (.imul, 1) := by decide +kernel
theorem dL_holds_237 : decode cL_holds 237 = .ok (.iadd, 1) := by decide +kernel
theorem dL_holds_238 : decode cL_holds 238 = .ok (.ldc 145, 2) := by decide +kernel
theorem dL_holds_240 : decode cL_holds 240 = .ok (.invokestatic 137, 3) := by decide +kernel
theorem dL_holds_243 : decode cL_holds 243 = .ok (.invokestatic 146, 3) := by decide +kernel
theorem dL_holds_246 : decode cL_holds 246 = .ok (.ifCond .eq 36, 3) := by decide +kernel
theorem dL_holds_249 : decode cL_holds 249 = .ok (.iload 13, 2) := by decide +kernel
theorem dL_holds_251 : decode cL_holds 251 = .ok (.iconst 3, 1) := by decide +kernel
theorem dL_holds_252 : decode cL_holds 252 = .ok (.irem, 1) := by decide +kernel
theorem dL_holds_253 : decode cL_holds 253 = .ok (.iconst 2, 1) := by decide +kernel
theorem dL_holds_254 : decode cL_holds 254 = .ok (.if_icmp .lt 24, 3) := by decide +kernel
theorem dL_holds_257 : decode cL_holds 257 = .ok (.aload_n 1, 1) := by decide +kernel
theorem dL_holds_258 : decode cL_holds 258 = .ok (.aload_n 2, 1) := by decide +kernel
theorem dL_holds_259 : decode cL_holds 259 = .ok (.aload_n 3, 1) := by decide +kernel
theorem dL_holds_260 : decode cL_holds 260 = .ok (.aload 4, 2) := by decide +kernel
theorem dL_holds_262 : decode cL_holds 262 = .ok (.aload 5, 2) := by decide +kernel
theorem dL_holds_264 : decode cL_holds 264 = .ok (.aload 6, 2) := by decide +kernel
theorem dL_holds_266 : decode cL_holds 266 = .ok (.aload 7, 2) := by decide +kernel
theorem dL_holds_268 : decode cL_holds 268 = .ok (.aload 8, 2) := by decide +kernel
theorem dL_holds_270 : decode cL_holds 270 = .ok (.aload 9, 2) := by decide +kernel
theorem dL_holds_272 : decode cL_holds 272 = .ok (.invokestatic 150, 3) := by decide +kernel
theorem dL_holds_275 : decode cL_holds 275 = .ok (.ifCond .eq 7, 3) := by decide +kernel
theorem dL_holds_278 : decode cL_holds 278 = .ok (.iconst 1, 1) := by decide +kernel
theorem dL_holds_279 : decode cL_holds 279 = .ok (.goto 4, 3) := by decide +kernel
theorem dL_holds_282 : decode cL_holds 282 = .ok (.iconst 0, 1) := by decide +kernel
theorem dL_holds_283 : decode cL_holds 283 = .ok (.istore 12, 2) := by decide +kernel
theorem dL_holds_285 : decode cL_holds 285 = .ok (.iinc 13 1, 3) := by decide +kernel
theorem dL_holds_288 : decode cL_holds 288 = .ok (.goto (-112), 3) := by decide +kernel
theorem dL_holds_291 : decode cL_holds 291 = .ok (.iload 12, 2) := by decide +kernel
theorem dL_holds_293 : decode cL_holds 293 = .ok (.ifCond .eq 28, 3) := by decide +kernel
theorem dL_holds_296 : decode cL_holds 296 = .ok (.aload_n 1, 1) := by decide +kernel
theorem dL_holds_297 : decode cL_holds 297 = .ok (.aload_n 2, 1) := by decide +kernel
theorem dL_holds_298 : decode cL_holds 298 = .ok (.aload_n 3, 1) := by decide +kernel
theorem dL_holds_299 : decode cL_holds 299 = .ok (.aload 4, 2) := by decide +kernel
theorem dL_holds_301 : decode cL_holds 301 = .ok (.aload 5, 2) := by decide +kernel
theorem dL_holds_303 : decode cL_holds 303 = .ok (.aload 6, 2) := by decide +kernel
theorem dL_holds_305 : decode cL_holds 305 = .ok (.aload 7, 2) := by decide +kernel
theorem dL_holds_307 : decode cL_holds 307 = .ok (.aload 8, 2) := by decide +kernel
theorem dL_holds_309 : decode cL_holds 309 = .ok (.aload 9, 2) := by decide +kernel
theorem dL_holds_311 : decode cL_holds 311 = .ok (.invokestatic 150, 3) := by decide +kernel
theorem dL_holds_314 : decode cL_holds 314 = .ok (.ifCond .eq 7, 3) := by decide +kernel
theorem dL_holds_317 : decode cL_holds 317 = .ok (.iconst 1, 1) := by decide +kernel
theorem dL_holds_318 : decode cL_holds 318 = .ok (.goto 4, 3) := by decide +kernel
theorem dL_holds_321 : decode cL_holds 321 = .ok (.iconst 0, 1) := by decide +kernel
theorem dL_holds_322 : decode cL_holds 322 = .ok (.ireturn, 1) := by decide +kernel
def ggL_isHeld_L_holds_h : Cond := Cond.code yL_holds cL_holds 14 (some .boolean)
set_option maxRecDepth 20000 in
theorem ggL_isHeld_L_holds_h_p : wsL_isHeld[7]? = some ggL_isHeld_L_holds_h := rfl
theorem ggL_isHeld_L_holds_h_s : GoodIn wsL_isHeld [ggL_isHeld_L_holds_h] := fun w h => by
  rw [List.mem_singleton.mp h]
  exact ⟨List.mem_of_getElem? ggL_isHeld_L_holds_h_p, good_of_word rfl⟩
set_option maxRecDepth 20000 in
theorem ggL_isHeld_L_holds_wsL_holds_r1_0 : GoodIn wsL_isHeld [Cond.classLink RL 30 RX3, Cond.instantiable RX3 15, Cond.initialized RX3, Cond.arrayClass .int, Cond.constant RL 145 (1000000), Cond.methodLink RL 136 yX3_init, Cond.instanceMethod yX3_init, Cond.code yX3_init cX3_init 2 none, Cond.methodLink RX3 1 objectInit, Cond.instanceMethod objectInit, Cond.code objectInit ⟨#[0xb1]⟩ 1 none, Cond.fieldLink RX3 9 "JointVenture" "shares" "[I", Cond.fieldLink RX3 13 "JointVenture" "newPenalty" "I", Cond.fieldLink RX3 17 "JointVenture" "monthlyOverhead" "I", Cond.classLink RX3 20 RX2, Cond.fieldLink RX3 22 "JointVenture" "wells" "[LJointVenture$Well;", Cond.fieldLink RX3 26 "JointVenture" "wellCount" "I", Cond.fieldLink RX3 29 "JointVenture" "voucherWells" "[I", Cond.fieldLink RX3 32 "JointVenture" "voucherAmounts" "[I", Cond.fieldLink RX3 35 "JointVenture" "voucherCount" "I", Cond.classLink RX3 38 RX0, Cond.fieldLink RX3 40 "JointVenture" "cashCalls" "[LJointVenture$CashCall;", Cond.fieldLink RX3 44 "JointVenture" "cashCallCount" "I", Cond.fieldLink RX3 47 "JointVenture" "owed" "[I"] := goodIn_r _ [8, 9, 10, 11, 12, 13, 14, 15, 16, 17, 18, 19, 20, 21, 22, 23, 24, 25, 26, 27, 28, 29, 30, 31] (by decide +kernel) (by decide +kernel)
theorem ggL_isHeld_L_holds_wsL_holds_r1_all : GoodIn wsL_isHeld wsL_holds_r1 := ggL_isHeld_L_holds_wsL_holds_r1_0
set_option maxRecDepth 20000 in
theorem ggL_isHeld_L_holds_wsL_holds_r2_0 : GoodIn wsL_isHeld [Cond.classLink RX3 50 RX1, Cond.instantiable RX1 1, Cond.initialized RX1, Cond.fieldLink RX3 53 "JointVenture" "division" "LJointVenture$Division;", Cond.fieldLink RX3 57 "JointVenture" "ownParts" "[I", Cond.fieldLink RX3 60 "JointVenture" "weights" "[I", Cond.fieldLink RX3 63 "JointVenture" "portions" "[I", Cond.instantiable RX2 8, Cond.initialized RX2, Cond.instantiable RX0 2, Cond.initialized RX0, Cond.instanceMethod yX1_init, Cond.code yX1_init cX1_init 1 none, Cond.methodLink RX1 3 objectInit, Cond.arrayClass .long, Cond.fieldLink RX1 9 "JointVenture$Division" "remainders" "[J", Cond.methodLink RX3 66 yX2_init, Cond.instanceMethod yX2_init, Cond.code yX2_init cX2_init 1 none, Cond.methodLink RX2 3 objectInit, Cond.fieldLink RX2 9 "JointVenture$Well" "penalty" "I", Cond.fieldLink RX2 15 "JointVenture$Well" "hadVoucher" "Z", Cond.arrayClass .boolean, Cond.fieldLink RX2 19 "JointVenture$Well" "electedOut" "[Z"] := goodIn_r _ [32, 33, 34, 35, 36, 37, 38, 39, 40, 41, 42, 43, 44, 45, 46, 47, 48, 49, 50, 51, 52, 53, 54, 55] (by decide +kernel) (by decide +kernel)
theorem ggL_isHeld_L_holds_wsL_holds_r2_all : GoodIn wsL_isHeld wsL_holds_r2 := ggL_isHeld_L_holds_wsL_holds_r2_0
set_option maxRecDepth 20000 in
theorem ggL_isHeld_L_holds_wsL_holds_r3_0 : GoodIn wsL_isHeld [Cond.fieldLink RX2 23 "JointVenture$Well" "out" "[Z", Cond.fieldLink RX2 26 "JointVenture$Well" "toEarn" "[J", Cond.fieldLink RX2 30 "JointVenture$Well" "backAt" "[I", Cond.fieldLink RX2 34 "JointVenture$Well" "charged" "[I", Cond.fieldLink RX2 37 "JointVenture$Well" "credited" "[I", Cond.methodLink RX2 40 yJ7_fill_53178, Cond.static yJ7_fill_53178, Cond.initialized RJ7, Cond.code yJ7_fill_53178 cJ7_fill_53178 4 none, Cond.instanceMethod yX0_init, Cond.code yX0_init cX0_init 1 none, Cond.methodLink RX0 3 objectInit, Cond.fieldLink RX0 9 "JointVenture$CashCall" "asked" "[I", Cond.fieldLink RX0 15 "JointVenture$CashCall" "paid" "[I", Cond.methodLink RL 137 yL_from, Cond.static yL_from, Cond.initialized RL, Cond.code yL_from cL_from 4 (some .int), Cond.constant RL 7 (132049), Cond.constant RL 8 (2147483647), Cond.methodLink RL 141 yX3_setShares, Cond.instanceMethod yX3_setShares, Cond.selects RX3 yX3_setShares yX3_setShares, Cond.code yX3_setShares cX3_setShares 6 none] := goodIn_r _ [56, 57, 58, 59, 60, 61, 62, 63, 64, 65, 66, 67, 68, 69, 70, 71, 6, 72, 73, 74, 75, 76, 77, 78] (by decide +kernel) (by decide +kernel)
theorem ggL_isHeld_L_holds_wsL_holds_r3_all : GoodIn wsL_isHeld wsL_holds_r3 := ggL_isHeld_L_holds_wsL_holds_r3_0
set_option maxRecDepth 20000 in
theorem ggL_isHeld_L_holds_wsL_holds_r4_0 : GoodIn wsL_isHeld [Cond.classLink RX3 72 "java/lang/IllegalArgumentException", Cond.initialized "java/lang/IllegalArgumentException", Cond.classLink RX3 79 "java/lang/IllegalStateException", Cond.initialized "java/lang/IllegalStateException", Cond.methodLink RX3 68 yX3_requireRange, Cond.instanceMethod yX3_requireRange, Cond.selects RX3 yX3_requireRange yX3_requireRange, Cond.code yX3_requireRange cX3_requireRange 4 none, Cond.methodLink RL 107 yX3_addWell, Cond.instanceMethod yX3_addWell, Cond.selects RX3 yX3_addWell yX3_addWell, Cond.code yX3_addWell cX3_addWell 1 (some .int), Cond.fieldLink RX3 87 "JointVenture$Well" "penalty" "I", Cond.methodLink RL 146 yL_acts, Cond.static yL_acts] := goodIn_r _ [79, 80, 81, 82, 83, 84, 85, 86, 87, 88, 89, 90, 91, 92, 93] (by decide +kernel) (by decide +kernel)
def ggL_isHeld_L_holds_wsL_holds_r4_1 : Cond := Cond.code yL_acts cL_acts 18 (some .boolean)
set_option maxRecDepth 20000 in
theorem ggL_isHeld_L_holds_wsL_holds_r4_1_p : wsL_isHeld[94]? = some ggL_isHeld_L_holds_wsL_holds_r4_1 := rfl
theorem ggL_isHeld_L_holds_wsL_holds_r4_1_s : GoodIn wsL_isHeld [ggL_isHeld_L_holds_wsL_holds_r4_1] := fun w h => by
  rw [List.mem_singleton.mp h]
  exact ⟨List.mem_of_getElem? ggL_isHeld_L_holds_wsL_holds_r4_1_p, good_of_word rfl⟩
set_option maxRecDepth 20000 in
theorem ggL_isHeld_L_holds_wsL_holds_r4_2 : GoodIn wsL_isHeld [Cond.methodLink RL 110 yX3_setPenalty, Cond.instanceMethod yX3_setPenalty, Cond.selects RX3 yX3_setPenalty yX3_setPenalty, Cond.code yX3_setPenalty cX3_setPenalty 3 (some .int), Cond.methodLink RL 113 yX3_setOverhead, Cond.instanceMethod yX3_setOverhead, Cond.selects RX3 yX3_setOverhead yX3_setOverhead, Cond.code yX3_setOverhead cX3_setOverhead 3 (some .int)] := goodIn_r _ [95, 96, 97, 98, 99, 100, 101, 102] (by decide +kernel) (by decide +kernel)
theorem ggL_isHeld_L_holds_wsL_holds_r4_all : GoodIn wsL_isHeld wsL_holds_r4 := (goodIn_app ggL_isHeld_L_holds_wsL_holds_r4_0 (goodIn_app ggL_isHeld_L_holds_wsL_holds_r4_1_s ggL_isHeld_L_holds_wsL_holds_r4_2))
set_option maxRecDepth 20000 in
theorem ggL_isHeld_L_holds_wsL_holds_r5_0 : GoodIn wsL_isHeld [Cond.constant RX3 84 (100000), Cond.methodLink RL 116 yL_elected, Cond.static yL_elected, Cond.codeWith yL_elected cL_elected 5 (some .int) [(0, 15, 16, 83)], Cond.classLink RL 83 "java/lang/IllegalStateException", Cond.methodLink RL 79 yX3_elect, Cond.instanceMethod yX3_elect, Cond.selects RX3 yX3_elect yX3_elect, Cond.code yX3_elect cX3_elect 6 (some .boolean), Cond.fieldLink RX3 97 "JointVenture$Well" "hadVoucher" "Z", Cond.fieldLink RX3 111 "JointVenture$Well" "electedOut" "[Z", Cond.fieldLink RX3 115 "JointVenture$Well" "out" "[Z", Cond.methodLink RX3 90 yX3_requireWell, Cond.instanceMethod yX3_requireWell, Cond.selects RX3 yX3_requireWell yX3_requireWell, Cond.code yX3_requireWell cX3_requireWell 2 none, Cond.classLink RX3 196 "java/lang/IndexOutOfBoundsException", Cond.initialized "java/lang/IndexOutOfBoundsException", Cond.methodLink RX3 94 yX3_requirePartner, Cond.instanceMethod yX3_requirePartner, Cond.selects RX3 yX3_requirePartner yX3_requirePartner, Cond.code yX3_requirePartner cX3_requirePartner 2 none, Cond.methodLink RX3 105 yX3_isAnotherIn, Cond.instanceMethod yX3_isAnotherIn] := goodIn_r _ [103, 104, 105, 106, 3, 107, 108, 109, 110, 111, 112, 113, 114, 115, 116, 117, 118, 119, 120, 121, 122, 123, 124, 125] (by decide +kernel) (by decide +kernel)
theorem ggL_isHeld_L_holds_wsL_holds_r5_all : GoodIn wsL_isHeld wsL_holds_r5 := ggL_isHeld_L_holds_wsL_holds_r5_0
set_option maxRecDepth 20000 in
theorem ggL_isHeld_L_holds_wsL_holds_r6_0 : GoodIn wsL_isHeld [Cond.selects RX3 yX3_isAnotherIn yX3_isAnotherIn, Cond.code yX3_isAnotherIn cX3_isAnotherIn 4 (some .boolean), Cond.methodLink RX3 136 yX3_shareIfIn, Cond.instanceMethod yX3_shareIfIn, Cond.selects RX3 yX3_shareIfIn yX3_shareIfIn, Cond.code yX3_shareIfIn cX3_shareIfIn 3 (some .int), Cond.methodLink RL 120 yL_entered, Cond.static yL_entered, Cond.codeWith yL_entered cL_entered 4 (some .int) [(0, 6, 7, 83)], Cond.methodLink RL 85 yX3_overhead, Cond.instanceMethod yX3_overhead, Cond.selects RX3 yX3_overhead yX3_overhead, Cond.code yX3_overhead cX3_overhead 3 (some .int), Cond.methodLink RX3 119 yX3_requireRoomForVoucher, Cond.instanceMethod yX3_requireRoomForVoucher, Cond.selects RX3 yX3_requireRoomForVoucher yX3_requireRoomForVoucher, Cond.code yX3_requireRoomForVoucher cX3_requireRoomForVoucher 1 none, Cond.methodLink RX3 122 yX3_addVoucher, Cond.instanceMethod yX3_addVoucher, Cond.selects RX3 yX3_addVoucher yX3_addVoucher, Cond.code yX3_addVoucher cX3_addVoucher 4 (some .int), Cond.methodLink RX3 209 yX3_account, Cond.instanceMethod yX3_account, Cond.selects RX3 yX3_account yX3_account] := goodIn_r _ [126, 127, 128, 129, 130, 131, 132, 133, 134, 135, 136, 137, 138, 139, 140, 141, 142, 143, 144, 145, 146, 147, 148, 149] (by decide +kernel) (by decide +kernel)
theorem ggL_isHeld_L_holds_wsL_holds_r6_all : GoodIn wsL_isHeld wsL_holds_r6 := ggL_isHeld_L_holds_wsL_holds_r6_0
set_option maxRecDepth 20000 in
theorem ggL_isHeld_L_holds_wsL_holds_r7_0 : GoodIn wsL_isHeld [Cond.code yX3_account cX3_account 4 none, Cond.methodLink RX3 215 yX3_accountCost, Cond.instanceMethod yX3_accountCost, Cond.selects RX3 yX3_accountCost yX3_accountCost, Cond.code yX3_accountCost cX3_accountCost 4 none, Cond.fieldLink RX3 147 "JointVenture$Well" "charged" "[I", Cond.fieldLink RX3 140 "JointVenture$Well" "toEarn" "[J", Cond.methodLink RX3 153 yX3_divideCost, Cond.instanceMethod yX3_divideCost, Cond.selects RX3 yX3_divideCost yX3_divideCost, Cond.code yX3_divideCost cX3_divideCost 4 none, Cond.methodLink RX3 162 yX1_divide, Cond.instanceMethod yX1_divide, Cond.selects RX1 yX1_divide yX1_divide, Cond.code yX1_divide cX1_divide 10 none, Cond.constantLong RX1 25 (-1), Cond.methodLink RX1 15 yJ7_fill_53178, Cond.methodLink RX1 21 yX1_firstWithGreatestRemainder, Cond.instanceMethod yX1_firstWithGreatestRemainder, Cond.selects RX1 yX1_firstWithGreatestRemainder yX1_firstWithGreatestRemainder, Cond.code yX1_firstWithGreatestRemainder cX1_firstWithGreatestRemainder 3 (some .int), Cond.methodLink RX3 232 yX3_weighThoseIn, Cond.instanceMethod yX3_weighThoseIn, Cond.selects RX3 yX3_weighThoseIn yX3_weighThoseIn] := goodIn_r _ [150, 151, 152, 153, 154, 155, 156, 157, 158, 159, 160, 161, 162, 163, 164, 165, 166, 167, 168, 169, 170, 171, 172, 173] (by decide +kernel) (by decide +kernel)
theorem ggL_isHeld_L_holds_wsL_holds_r7_all : GoodIn wsL_isHeld wsL_holds_r7 := ggL_isHeld_L_holds_wsL_holds_r7_0
set_option maxRecDepth 20000 in
theorem ggL_isHeld_L_holds_wsL_holds_r8_0 : GoodIn wsL_isHeld [Cond.code yX3_weighThoseIn cX3_weighThoseIn 3 none, Cond.methodLink RX3 236 yX3_ownPartsOfThoseOut, Cond.instanceMethod yX3_ownPartsOfThoseOut, Cond.selects RX3 yX3_ownPartsOfThoseOut yX3_ownPartsOfThoseOut, Cond.code yX3_ownPartsOfThoseOut cX3_ownPartsOfThoseOut 4 (some .int), Cond.methodLink RX3 224 yX3_penaltyOn, Cond.instanceMethod yX3_penaltyOn, Cond.selects RX3 yX3_penaltyOn yX3_penaltyOn, Cond.code yX3_penaltyOn cX3_penaltyOn 3 (some .long), Cond.constantLong RX3 228 (99), Cond.constantLong RX3 230 (100), Cond.methodLink RX3 218 yX3_accountIncome, Cond.instanceMethod yX3_accountIncome, Cond.selects RX3 yX3_accountIncome yX3_accountIncome, Cond.code yX3_accountIncome cX3_accountIncome 5 none, Cond.fieldLink RX3 150 "JointVenture$Well" "credited" "[I", Cond.methodLink RX3 240 yX2_takenOf, Cond.instanceMethod yX2_takenOf, Cond.selects RX2 yX2_takenOf yX2_takenOf, Cond.code yX2_takenOf cX2_takenOf 3 (some .int), Cond.methodLink RX2 49 Lib.MathLoose.min_long.x, Cond.static Lib.MathLoose.min_long.x, Cond.initialized "java/lang/Math", Cond.code Lib.MathLoose.min_long.x Lib.MathLoose.min_long.code 4 (some .long)] := goodIn_r _ [174, 175, 176, 177, 178, 179, 180, 181, 182, 183, 184, 185, 186, 187, 188, 189, 190, 191, 192, 193, 194, 195, 196, 197] (by decide +kernel) (by decide +kernel)
theorem ggL_isHeld_L_holds_wsL_holds_r8_all : GoodIn wsL_isHeld wsL_holds_r8 := ggL_isHeld_L_holds_wsL_holds_r8_0
set_option maxRecDepth 20000 in
theorem ggL_isHeld_L_holds_wsL_holds_r9_0 : GoodIn wsL_isHeld [Cond.methodLink RX3 243 yX3_creditTaken, Cond.instanceMethod yX3_creditTaken, Cond.selects RX3 yX3_creditTaken yX3_creditTaken, Cond.code yX3_creditTaken cX3_creditTaken 4 none, Cond.methodLink RX3 221 yX2_takeBack, Cond.instanceMethod yX2_takeBack, Cond.selects RX2 yX2_takeBack yX2_takeBack, Cond.code yX2_takeBack cX2_takeBack 3 none, Cond.methodLink RL 123 yX3_income, Cond.instanceMethod yX3_income, Cond.selects RX3 yX3_income yX3_income, Cond.code yX3_income cX3_income 3 (some .int), Cond.constant RX3 118 (10000000), Cond.methodLink RL 126 yX3_cost, Cond.instanceMethod yX3_cost, Cond.selects RX3 yX3_cost yX3_cost, Cond.code yX3_cost cX3_cost 3 (some .int), Cond.methodLink RL 129 yL_moved, Cond.static yL_moved, Cond.codeWith yL_moved cL_moved 4 (some .int) [(0, 6, 7, 83)], Cond.methodLink RL 88 yX3_move, Cond.instanceMethod yX3_move, Cond.selects RX3 yX3_move yX3_move, Cond.code yX3_move cX3_move 4 (some .int)] := goodIn_r _ [198, 199, 200, 201, 202, 203, 204, 205, 206, 207, 208, 209, 210, 211, 212, 213, 214, 215, 216, 217, 218, 219, 220, 221] (by decide +kernel) (by decide +kernel)
theorem ggL_isHeld_L_holds_wsL_holds_r9_all : GoodIn wsL_isHeld wsL_holds_r9 := ggL_isHeld_L_holds_wsL_holds_r9_0
set_option maxRecDepth 20000 in
theorem ggL_isHeld_L_holds_wsL_holds_r10_0 : GoodIn wsL_isHeld [Cond.methodLink RX3 128 yX3_requireVoucher, Cond.instanceMethod yX3_requireVoucher, Cond.selects RX3 yX3_requireVoucher yX3_requireVoucher, Cond.code yX3_requireVoucher cX3_requireVoucher 2 none, Cond.methodLink RX3 133 yX3_accountAnew, Cond.instanceMethod yX3_accountAnew, Cond.selects RX3 yX3_accountAnew yX3_accountAnew, Cond.code yX3_accountAnew cX3_accountAnew 3 none, Cond.methodLink RX3 212 yX2_clearAccounts, Cond.instanceMethod yX2_clearAccounts, Cond.selects RX2 yX2_clearAccounts yX2_clearAccounts, Cond.code yX2_clearAccounts cX2_clearAccounts 2 none, Cond.methodLink RX2 46 yJ7_fill_d0a16, Cond.static yJ7_fill_d0a16, Cond.code yJ7_fill_d0a16 cJ7_fill_d0a16 5 none, Cond.methodLink RL 132 yL_isCash, Cond.static yL_isCash] := goodIn_r _ [222, 223, 224, 225, 226, 227, 228, 229, 230, 231, 232, 233, 234, 235, 236, 237, 238] (by decide +kernel) (by decide +kernel)
def ggL_isHeld_L_holds_wsL_holds_r10_1 : Cond := Cond.code yL_isCash cL_isCash 21 (some .boolean)
set_option maxRecDepth 20000 in
theorem ggL_isHeld_L_holds_wsL_holds_r10_1_p : wsL_isHeld[239]? = some ggL_isHeld_L_holds_wsL_holds_r10_1 := rfl
theorem ggL_isHeld_L_holds_wsL_holds_r10_1_s : GoodIn wsL_isHeld [ggL_isHeld_L_holds_wsL_holds_r10_1] := fun w h => by
  rw [List.mem_singleton.mp h]
  exact ⟨List.mem_of_getElem? ggL_isHeld_L_holds_wsL_holds_r10_1_p, good_of_word rfl⟩
set_option maxRecDepth 20000 in
theorem ggL_isHeld_L_holds_wsL_holds_r10_2 : GoodIn wsL_isHeld [Cond.methodLink RL 42 yL_weigh, Cond.static yL_weigh, Cond.code yL_weigh cL_weigh 9 none, Cond.constantLong RL 27 (10000), Cond.methodLink RL 23 yL_account, Cond.static yL_account] := goodIn_r _ [240, 241, 242, 243, 244, 245] (by decide +kernel) (by decide +kernel)
theorem ggL_isHeld_L_holds_wsL_holds_r10_all : GoodIn wsL_isHeld wsL_holds_r10 := (goodIn_app ggL_isHeld_L_holds_wsL_holds_r10_0 (goodIn_app ggL_isHeld_L_holds_wsL_holds_r10_1_s ggL_isHeld_L_holds_wsL_holds_r10_2))
set_option maxRecDepth 20000 in
theorem ggL_isHeld_L_holds_wsL_holds_r11_0 : GoodIn wsL_isHeld [Cond.code yL_account cL_account 8 none, Cond.constantLong RL 17 (-1), Cond.methodLink RL 19 yL_enter, Cond.static yL_enter] := goodIn_r _ [246, 247, 248, 249] (by decide +kernel) (by decide +kernel)
def ggL_isHeld_L_holds_wsL_holds_r11_1 : Cond := Cond.code yL_enter cL_enter 18 none
set_option maxRecDepth 20000 in
theorem ggL_isHeld_L_holds_wsL_holds_r11_1_p : wsL_isHeld[250]? = some ggL_isHeld_L_holds_wsL_holds_r11_1 := rfl
theorem ggL_isHeld_L_holds_wsL_holds_r11_1_s : GoodIn wsL_isHeld [ggL_isHeld_L_holds_wsL_holds_r11_1] := fun w h => by
  rw [List.mem_singleton.mp h]
  exact ⟨List.mem_of_getElem? ggL_isHeld_L_holds_wsL_holds_r11_1_p, good_of_word rfl⟩
set_option maxRecDepth 20000 in
theorem ggL_isHeld_L_holds_wsL_holds_r11_2 : GoodIn wsL_isHeld [Cond.constantLong RL 15 (100), Cond.methodLink RL 9 yL_divide, Cond.static yL_divide, Cond.code yL_divide cL_divide 13 none, Cond.methodLink RL 97 yX3_call, Cond.instanceMethod yX3_call, Cond.selects RX3 yX3_call yX3_call, Cond.code yX3_call cX3_call 3 (some .int), Cond.fieldLink RX3 159 "JointVenture$CashCall" "asked" "[I", Cond.methodLink RL 100 yL_paid, Cond.static yL_paid, Cond.codeWith yL_paid cL_paid 4 (some .int) [(0, 6, 7, 83)], Cond.methodLink RL 91 yX3_pay, Cond.instanceMethod yX3_pay, Cond.selects RX3 yX3_pay yX3_pay, Cond.code yX3_pay cX3_pay 5 (some .int), Cond.fieldLink RX3 169 "JointVenture$CashCall" "paid" "[I", Cond.methodLink RX3 166 yX3_requireCashCall, Cond.instanceMethod yX3_requireCashCall] := goodIn_r _ [251, 252, 253, 254, 255, 256, 257, 258, 259, 260, 261, 262, 263, 264, 265, 266, 267, 268, 269] (by decide +kernel) (by decide +kernel)
theorem ggL_isHeld_L_holds_wsL_holds_r11_all : GoodIn wsL_isHeld wsL_holds_r11 := (goodIn_app ggL_isHeld_L_holds_wsL_holds_r11_0 (goodIn_app ggL_isHeld_L_holds_wsL_holds_r11_1_s ggL_isHeld_L_holds_wsL_holds_r11_2))
set_option maxRecDepth 20000 in
theorem ggL_isHeld_L_holds_wsL_holds_r12_0 : GoodIn wsL_isHeld [Cond.selects RX3 yX3_requireCashCall yX3_requireCashCall, Cond.code yX3_requireCashCall cX3_requireCashCall 2 none, Cond.methodLink RL 103 yL_shared, Cond.static yL_shared, Cond.codeWith yL_shared cL_shared 3 (some .int) [(0, 5, 6, 83)], Cond.methodLink RL 94 yX3_shareOut, Cond.instanceMethod yX3_shareOut, Cond.selects RX3 yX3_shareOut yX3_shareOut, Cond.code yX3_shareOut cX3_shareOut 4 (some .int), Cond.methodLink RX3 174 yX0_hasPayer, Cond.instanceMethod yX0_hasPayer, Cond.selects RX0 yX0_hasPayer yX0_hasPayer, Cond.code yX0_hasPayer cX0_hasPayer 2 (some .boolean), Cond.methodLink RX3 180 yX0_askedOfNonPayers, Cond.instanceMethod yX0_askedOfNonPayers, Cond.selects RX0 yX0_askedOfNonPayers yX0_askedOfNonPayers, Cond.code yX0_askedOfNonPayers cX0_askedOfNonPayers 3 (some .int), Cond.methodLink RX3 186 yX3_moveToPayers, Cond.instanceMethod yX3_moveToPayers, Cond.selects RX3 yX3_moveToPayers yX3_moveToPayers, Cond.code yX3_moveToPayers cX3_moveToPayers 4 none, Cond.methodLink RL 150 yL_isTold, Cond.static yL_isTold] := goodIn_r _ [270, 271, 272, 273, 274, 275, 276, 277, 278, 279, 280, 281, 282, 283, 284, 285, 286, 287, 288, 289, 290, 291, 292] (by decide +kernel) (by decide +kernel)
def ggL_isHeld_L_holds_wsL_holds_r12_1 : Cond := Cond.code yL_isTold cL_isTold 16 (some .boolean)
set_option maxRecDepth 20000 in
theorem ggL_isHeld_L_holds_wsL_holds_r12_1_p : wsL_isHeld[293]? = some ggL_isHeld_L_holds_wsL_holds_r12_1 := rfl
theorem ggL_isHeld_L_holds_wsL_holds_r12_1_s : GoodIn wsL_isHeld [ggL_isHeld_L_holds_wsL_holds_r12_1] := fun w h => by
  rw [List.mem_singleton.mp h]
  exact ⟨List.mem_of_getElem? ggL_isHeld_L_holds_wsL_holds_r12_1_p, good_of_word rfl⟩
theorem ggL_isHeld_L_holds_wsL_holds_r12_all : GoodIn wsL_isHeld wsL_holds_r12 := (goodIn_app ggL_isHeld_L_holds_wsL_holds_r12_0 ggL_isHeld_L_holds_wsL_holds_r12_1_s)
set_option maxRecDepth 20000 in
theorem ggL_isHeld_L_holds_wsL_holds_r13_0 : GoodIn wsL_isHeld [Cond.methodLink RL 29 yX3_vouchers, Cond.instanceMethod yX3_vouchers, Cond.selects RX3 yX3_vouchers yX3_vouchers, Cond.code yX3_vouchers cX3_vouchers 1 (some .int), Cond.methodLink RL 35 yX3_wellOf, Cond.instanceMethod yX3_wellOf, Cond.selects RX3 yX3_wellOf yX3_wellOf, Cond.code yX3_wellOf cX3_wellOf 2 (some .int), Cond.methodLink RL 39 yX3_amountOf, Cond.instanceMethod yX3_amountOf, Cond.selects RX3 yX3_amountOf yX3_amountOf, Cond.code yX3_amountOf cX3_amountOf 2 (some .int), Cond.methodLink RL 45 yX3_isIn, Cond.instanceMethod yX3_isIn, Cond.selects RX3 yX3_isIn yX3_isIn, Cond.code yX3_isIn cX3_isIn 3 (some .boolean), Cond.methodLink RL 49 yX3_toEarn, Cond.instanceMethod yX3_toEarn, Cond.selects RX3 yX3_toEarn yX3_toEarn, Cond.code yX3_toEarn cX3_toEarn 3 (some .long), Cond.methodLink RL 53 yX3_backAt, Cond.instanceMethod yX3_backAt, Cond.selects RX3 yX3_backAt yX3_backAt, Cond.code yX3_backAt cX3_backAt 3 (some .int)] := goodIn_r _ [294, 295, 296, 297, 298, 299, 300, 301, 302, 303, 304, 305, 306, 307, 308, 309, 310, 311, 312, 313, 314, 315, 316, 317] (by decide +kernel) (by decide +kernel)
theorem ggL_isHeld_L_holds_wsL_holds_r13_all : GoodIn wsL_isHeld wsL_holds_r13 := ggL_isHeld_L_holds_wsL_holds_r13_0
set_option maxRecDepth 20000 in
theorem ggL_isHeld_L_holds_wsL_holds_r14_0 : GoodIn wsL_isHeld [Cond.fieldLink RX3 144 "JointVenture$Well" "backAt" "[I", Cond.methodLink RL 57 yX3_charged, Cond.instanceMethod yX3_charged, Cond.selects RX3 yX3_charged yX3_charged, Cond.code yX3_charged cX3_charged 3 (some .int), Cond.methodLink RL 60 yX3_credited, Cond.instanceMethod yX3_credited, Cond.selects RX3 yX3_credited yX3_credited, Cond.code yX3_credited cX3_credited 3 (some .int), Cond.methodLink RL 63 yX3_weight, Cond.instanceMethod yX3_weight, Cond.selects RX3 yX3_weight yX3_weight, Cond.code yX3_weight cX3_weight 3 (some .int), Cond.methodLink RL 66 yX3_asked, Cond.instanceMethod yX3_asked, Cond.selects RX3 yX3_asked yX3_asked, Cond.code yX3_asked cX3_asked 3 (some .int), Cond.methodLink RL 69 yX3_paid, Cond.instanceMethod yX3_paid, Cond.selects RX3 yX3_paid yX3_paid, Cond.code yX3_paid cX3_paid 2 (some .int), Cond.methodLink RX3 190 yX3_paidOfAllCalls, Cond.instanceMethod yX3_paidOfAllCalls, Cond.selects RX3 yX3_paidOfAllCalls yX3_paidOfAllCalls] := goodIn_r _ [318, 319, 320, 321, 322, 323, 324, 325, 326, 327, 328, 329, 330, 331, 332, 333, 334, 335, 336, 337, 338, 339, 340, 341] (by decide +kernel) (by decide +kernel)
theorem ggL_isHeld_L_holds_wsL_holds_r14_all : GoodIn wsL_isHeld wsL_holds_r14 := ggL_isHeld_L_holds_wsL_holds_r14_0
set_option maxRecDepth 20000 in
theorem ggL_isHeld_L_holds_wsL_holds_r15_0 : GoodIn wsL_isHeld [Cond.code yX3_paidOfAllCalls cX3_paidOfAllCalls 4 (some .int), Cond.methodLink RL 72 yX3_owes, Cond.instanceMethod yX3_owes, Cond.selects RX3 yX3_owes yX3_owes, Cond.code yX3_owes cX3_owes 2 (some .int), Cond.methodLink RL 75 yX3_balance, Cond.instanceMethod yX3_balance, Cond.selects RX3 yX3_balance yX3_balance, Cond.code yX3_balance cX3_balance 5 (some .long)] := goodIn_r _ [342, 343, 344, 345, 346, 347, 348, 349, 350] (by decide +kernel) (by decide +kernel)
theorem ggL_isHeld_L_holds_wsL_holds_r15_all : GoodIn wsL_isHeld wsL_holds_r15 := ggL_isHeld_L_holds_wsL_holds_r15_0
set_option maxRecDepth 20000 in
theorem ggL_isHeld_L_holds_wsX30 : GoodIn wsL_isHeld wsX30 := goodIn_r _ [351, 352, 353, 354, 355, 356, 357, 358, 359, 360, 361, 362, 363, 364, 365] (by decide +kernel) (by decide +kernel)
set_option maxRecDepth 20000 in
theorem ggL_isHeld_L_holds_wsX10 : GoodIn wsL_isHeld wsX10 := goodIn_r _ [366] (by decide +kernel) (by decide +kernel)
set_option maxRecDepth 20000 in
theorem ggL_isHeld_L_holds_wsX20 : GoodIn wsL_isHeld wsX20 := goodIn_r _ [367, 368, 369, 370, 371, 372, 373, 374] (by decide +kernel) (by decide +kernel)
set_option maxRecDepth 20000 in
theorem ggL_isHeld_L_holds_wsX00 : GoodIn wsL_isHeld wsX00 := goodIn_r _ [375, 376] (by decide +kernel) (by decide +kernel)
set_option maxRecDepth 20000 in
theorem ggL_isHeld_L_holds : GoodIn wsL_isHeld wsL_holds := goodIn_ca (goodIn_ca (goodIn_ca (goodIn_cnse ggL_isHeld_L_holds_h_s (goodIn_app (goodIn_app (goodIn_app (goodIn_app (goodIn_app ggL_isHeld_L_holds_wsL_holds_r1_all (goodIn_app ggL_isHeld_L_holds_wsL_holds_r2_all (goodIn_app ggL_isHeld_L_holds_wsL_holds_r3_all (goodIn_app ggL_isHeld_L_holds_wsL_holds_r4_all (goodIn_app ggL_isHeld_L_holds_wsL_holds_r5_all (goodIn_app ggL_isHeld_L_holds_wsL_holds_r6_all (goodIn_app ggL_isHeld_L_holds_wsL_holds_r7_all (goodIn_app ggL_isHeld_L_holds_wsL_holds_r8_all (goodIn_app ggL_isHeld_L_holds_wsL_holds_r9_all (goodIn_app ggL_isHeld_L_holds_wsL_holds_r10_all (goodIn_app ggL_isHeld_L_holds_wsL_holds_r11_all (goodIn_app ggL_isHeld_L_holds_wsL_holds_r12_all (goodIn_app ggL_isHeld_L_holds_wsL_holds_r13_all (goodIn_app ggL_isHeld_L_holds_wsL_holds_r14_all ggL_isHeld_L_holds_wsL_holds_r15_all)))))))))))))) ggL_isHeld_L_holds_wsX30) ggL_isHeld_L_holds_wsX10) ggL_isHeld_L_holds_wsX20) ggL_isHeld_L_holds_wsX00)) (goodIn_sub (fun _ h => List.mem_cons_of_mem _ (List.mem_append_left _ (List.mem_append_left _ (List.mem_append_right _ h)))) (by decide +kernel))) (goodIn_sub (fun _ h => List.mem_cons_of_mem _ (List.mem_append_left _ (List.mem_append_right _ h))) (by decide +kernel))) (goodIn_sub (fun _ h => List.mem_cons_of_mem _ (List.mem_append_right _ h)) (by decide +kernel))
set_option maxRecDepth 20000 in
theorem gL_isHeld_L_holds : GoodIn wsL_isHeld (va_wsS RL 154 yL_holds wsL_holds) := goodIn_app (goodIn_of _ (by decide +kernel)) ggL_isHeld_L_holds
theorem dL_isHeld_0 : decode cL_isHeld 0 = .ok (.aload_n 0, 1) := by decide +kernel
theorem dL_isHeld_1 : decode cL_isHeld 1 = .ok (.invokestatic 154, 3) := by decide +kernel
theorem dL_isHeld_4 : decode cL_isHeld 4 = .ok (.ireturn, 1) := by decide +kernel
theorem dL_isHeld_5 : decode cL_isHeld 5 = .ok (.astore_n 1, 1) := by decide +kernel
theorem dL_isHeld_6 : decode cL_isHeld 6 = .ok (.iconst 0, 1) := by decide +kernel
theorem dL_isHeld_7 : decode cL_isHeld 7 = .ok (.ireturn, 1) := by decide +kernel
theorem dL_isHeld_8 : decode cL_isHeld 8 = .ok (.astore_n 1, 1) := by decide +kernel
theorem dL_isHeld_9 : decode cL_isHeld 9 = .ok (.iconst 0, 1) := by decide +kernel
theorem dL_isHeld_10 : decode cL_isHeld 10 = .ok (.ireturn, 1) := by decide +kernel
theorem dL_isHeld_11 : decode cL_isHeld 11 = .ok (.astore_n 1, 1) := by decide +kernel
theorem dL_isHeld_12 : decode cL_isHeld 12 = .ok (.iconst 0, 1) := by decide +kernel
theorem dL_isHeld_13 : decode cL_isHeld 13 = .ok (.ireturn, 1) := by decide +kernel
def ggL_law_L_isHeld_h : Cond := Cond.codeWith yL_isHeld cL_isHeld 2 (some .boolean) [(0, 4, 5, 158), (0, 4, 8, 160), (0, 4, 11, 83)]
set_option maxRecDepth 20000 in
theorem ggL_law_L_isHeld_h_p : wsL_law[3]? = some ggL_law_L_isHeld_h := rfl
theorem ggL_law_L_isHeld_h_s : GoodIn wsL_law [ggL_law_L_isHeld_h] := fun w h => by
  rw [List.mem_singleton.mp h]
  exact ⟨List.mem_of_getElem? ggL_law_L_isHeld_h_p, good_of_word rfl⟩
set_option maxRecDepth 20000 in
theorem ggL_law_L_isHeld_wsL_isHeld_r1_0 : GoodIn wsL_law [Cond.classLink RL 158 "java/lang/IndexOutOfBoundsException", Cond.classLink RL 160 "java/lang/IllegalArgumentException", Cond.classLink RL 83 "java/lang/IllegalStateException", Cond.methodLink RL 154 yL_holds, Cond.static yL_holds, Cond.initialized RL] := goodIn_r _ [4, 5, 6, 7, 8, 2] (by decide +kernel) (by decide +kernel)
def ggL_law_L_isHeld_wsL_isHeld_r1_1 : Cond := Cond.code yL_holds cL_holds 14 (some .boolean)
set_option maxRecDepth 20000 in
theorem ggL_law_L_isHeld_wsL_isHeld_r1_1_p : wsL_law[9]? = some ggL_law_L_isHeld_wsL_isHeld_r1_1 := rfl
theorem ggL_law_L_isHeld_wsL_isHeld_r1_1_s : GoodIn wsL_law [ggL_law_L_isHeld_wsL_isHeld_r1_1] := fun w h => by
  rw [List.mem_singleton.mp h]
  exact ⟨List.mem_of_getElem? ggL_law_L_isHeld_wsL_isHeld_r1_1_p, good_of_word rfl⟩
set_option maxRecDepth 20000 in
theorem ggL_law_L_isHeld_wsL_isHeld_r1_2 : GoodIn wsL_law [Cond.classLink RL 30 RX3, Cond.instantiable RX3 15, Cond.initialized RX3, Cond.arrayClass .int, Cond.constant RL 145 (1000000), Cond.methodLink RL 136 yX3_init, Cond.instanceMethod yX3_init, Cond.code yX3_init cX3_init 2 none, Cond.methodLink RX3 1 objectInit, Cond.instanceMethod objectInit, Cond.code objectInit ⟨#[0xb1]⟩ 1 none, Cond.fieldLink RX3 9 "JointVenture" "shares" "[I", Cond.fieldLink RX3 13 "JointVenture" "newPenalty" "I", Cond.fieldLink RX3 17 "JointVenture" "monthlyOverhead" "I", Cond.classLink RX3 20 RX2, Cond.fieldLink RX3 22 "JointVenture" "wells" "[LJointVenture$Well;", Cond.fieldLink RX3 26 "JointVenture" "wellCount" "I"] := goodIn_r _ [10, 11, 12, 13, 14, 15, 16, 17, 18, 19, 20, 21, 22, 23, 24, 25, 26] (by decide +kernel) (by decide +kernel)
theorem ggL_law_L_isHeld_wsL_isHeld_r1_all : GoodIn wsL_law wsL_isHeld_r1 := (goodIn_app ggL_law_L_isHeld_wsL_isHeld_r1_0 (goodIn_app ggL_law_L_isHeld_wsL_isHeld_r1_1_s ggL_law_L_isHeld_wsL_isHeld_r1_2))
set_option maxRecDepth 20000 in
theorem ggL_law_L_isHeld_wsL_isHeld_r2_0 : GoodIn wsL_law [Cond.fieldLink RX3 29 "JointVenture" "voucherWells" "[I", Cond.fieldLink RX3 32 "JointVenture" "voucherAmounts" "[I", Cond.fieldLink RX3 35 "JointVenture" "voucherCount" "I", Cond.classLink RX3 38 RX0, Cond.fieldLink RX3 40 "JointVenture" "cashCalls" "[LJointVenture$CashCall;", Cond.fieldLink RX3 44 "JointVenture" "cashCallCount" "I", Cond.fieldLink RX3 47 "JointVenture" "owed" "[I", Cond.classLink RX3 50 RX1, Cond.instantiable RX1 1, Cond.initialized RX1, Cond.fieldLink RX3 53 "JointVenture" "division" "LJointVenture$Division;", Cond.fieldLink RX3 57 "JointVenture" "ownParts" "[I", Cond.fieldLink RX3 60 "JointVenture" "weights" "[I", Cond.fieldLink RX3 63 "JointVenture" "portions" "[I", Cond.instantiable RX2 8, Cond.initialized RX2, Cond.instantiable RX0 2, Cond.initialized RX0, Cond.instanceMethod yX1_init, Cond.code yX1_init cX1_init 1 none, Cond.methodLink RX1 3 objectInit, Cond.arrayClass .long, Cond.fieldLink RX1 9 "JointVenture$Division" "remainders" "[J", Cond.methodLink RX3 66 yX2_init] := goodIn_r _ [27, 28, 29, 30, 31, 32, 33, 34, 35, 36, 37, 38, 39, 40, 41, 42, 43, 44, 45, 46, 47, 48, 49, 50] (by decide +kernel) (by decide +kernel)
theorem ggL_law_L_isHeld_wsL_isHeld_r2_all : GoodIn wsL_law wsL_isHeld_r2 := ggL_law_L_isHeld_wsL_isHeld_r2_0
set_option maxRecDepth 20000 in
theorem ggL_law_L_isHeld_wsL_isHeld_r3_0 : GoodIn wsL_law [Cond.instanceMethod yX2_init, Cond.code yX2_init cX2_init 1 none, Cond.methodLink RX2 3 objectInit, Cond.fieldLink RX2 9 "JointVenture$Well" "penalty" "I", Cond.fieldLink RX2 15 "JointVenture$Well" "hadVoucher" "Z", Cond.arrayClass .boolean, Cond.fieldLink RX2 19 "JointVenture$Well" "electedOut" "[Z", Cond.fieldLink RX2 23 "JointVenture$Well" "out" "[Z", Cond.fieldLink RX2 26 "JointVenture$Well" "toEarn" "[J", Cond.fieldLink RX2 30 "JointVenture$Well" "backAt" "[I", Cond.fieldLink RX2 34 "JointVenture$Well" "charged" "[I", Cond.fieldLink RX2 37 "JointVenture$Well" "credited" "[I", Cond.methodLink RX2 40 yJ7_fill_53178, Cond.static yJ7_fill_53178, Cond.initialized RJ7, Cond.code yJ7_fill_53178 cJ7_fill_53178 4 none, Cond.instanceMethod yX0_init, Cond.code yX0_init cX0_init 1 none, Cond.methodLink RX0 3 objectInit, Cond.fieldLink RX0 9 "JointVenture$CashCall" "asked" "[I", Cond.fieldLink RX0 15 "JointVenture$CashCall" "paid" "[I", Cond.methodLink RL 137 yL_from, Cond.static yL_from, Cond.code yL_from cL_from 4 (some .int)] := goodIn_r _ [51, 52, 53, 54, 55, 56, 57, 58, 59, 60, 61, 62, 63, 64, 65, 66, 67, 68, 69, 70, 71, 72, 73, 74] (by decide +kernel) (by decide +kernel)
theorem ggL_law_L_isHeld_wsL_isHeld_r3_all : GoodIn wsL_law wsL_isHeld_r3 := ggL_law_L_isHeld_wsL_isHeld_r3_0
set_option maxRecDepth 20000 in
theorem ggL_law_L_isHeld_wsL_isHeld_r4_0 : GoodIn wsL_law [Cond.constant RL 7 (132049), Cond.constant RL 8 (2147483647), Cond.methodLink RL 141 yX3_setShares, Cond.instanceMethod yX3_setShares, Cond.selects RX3 yX3_setShares yX3_setShares, Cond.code yX3_setShares cX3_setShares 6 none, Cond.classLink RX3 72 "java/lang/IllegalArgumentException", Cond.initialized "java/lang/IllegalArgumentException", Cond.classLink RX3 79 "java/lang/IllegalStateException", Cond.initialized "java/lang/IllegalStateException", Cond.methodLink RX3 68 yX3_requireRange, Cond.instanceMethod yX3_requireRange, Cond.selects RX3 yX3_requireRange yX3_requireRange, Cond.code yX3_requireRange cX3_requireRange 4 none, Cond.methodLink RL 107 yX3_addWell, Cond.instanceMethod yX3_addWell, Cond.selects RX3 yX3_addWell yX3_addWell, Cond.code yX3_addWell cX3_addWell 1 (some .int), Cond.fieldLink RX3 87 "JointVenture$Well" "penalty" "I", Cond.methodLink RL 146 yL_acts, Cond.static yL_acts] := goodIn_r _ [75, 76, 77, 78, 79, 80, 81, 82, 83, 84, 85, 86, 87, 88, 89, 90, 91, 92, 93, 94, 95] (by decide +kernel) (by decide +kernel)
def ggL_law_L_isHeld_wsL_isHeld_r4_1 : Cond := Cond.code yL_acts cL_acts 18 (some .boolean)
set_option maxRecDepth 20000 in
theorem ggL_law_L_isHeld_wsL_isHeld_r4_1_p : wsL_law[96]? = some ggL_law_L_isHeld_wsL_isHeld_r4_1 := rfl
theorem ggL_law_L_isHeld_wsL_isHeld_r4_1_s : GoodIn wsL_law [ggL_law_L_isHeld_wsL_isHeld_r4_1] := fun w h => by
  rw [List.mem_singleton.mp h]
  exact ⟨List.mem_of_getElem? ggL_law_L_isHeld_wsL_isHeld_r4_1_p, good_of_word rfl⟩
set_option maxRecDepth 20000 in
theorem ggL_law_L_isHeld_wsL_isHeld_r4_2 : GoodIn wsL_law [Cond.methodLink RL 110 yX3_setPenalty, Cond.instanceMethod yX3_setPenalty] := goodIn_r _ [97, 98] (by decide +kernel) (by decide +kernel)
theorem ggL_law_L_isHeld_wsL_isHeld_r4_all : GoodIn wsL_law wsL_isHeld_r4 := (goodIn_app ggL_law_L_isHeld_wsL_isHeld_r4_0 (goodIn_app ggL_law_L_isHeld_wsL_isHeld_r4_1_s ggL_law_L_isHeld_wsL_isHeld_r4_2))
set_option maxRecDepth 20000 in
theorem ggL_law_L_isHeld_wsL_isHeld_r5_0 : GoodIn wsL_law [Cond.selects RX3 yX3_setPenalty yX3_setPenalty, Cond.code yX3_setPenalty cX3_setPenalty 3 (some .int), Cond.methodLink RL 113 yX3_setOverhead, Cond.instanceMethod yX3_setOverhead, Cond.selects RX3 yX3_setOverhead yX3_setOverhead, Cond.code yX3_setOverhead cX3_setOverhead 3 (some .int), Cond.constant RX3 84 (100000), Cond.methodLink RL 116 yL_elected, Cond.static yL_elected, Cond.codeWith yL_elected cL_elected 5 (some .int) [(0, 15, 16, 83)], Cond.methodLink RL 79 yX3_elect, Cond.instanceMethod yX3_elect, Cond.selects RX3 yX3_elect yX3_elect, Cond.code yX3_elect cX3_elect 6 (some .boolean), Cond.fieldLink RX3 97 "JointVenture$Well" "hadVoucher" "Z", Cond.fieldLink RX3 111 "JointVenture$Well" "electedOut" "[Z", Cond.fieldLink RX3 115 "JointVenture$Well" "out" "[Z", Cond.methodLink RX3 90 yX3_requireWell, Cond.instanceMethod yX3_requireWell, Cond.selects RX3 yX3_requireWell yX3_requireWell, Cond.code yX3_requireWell cX3_requireWell 2 none, Cond.classLink RX3 196 "java/lang/IndexOutOfBoundsException", Cond.initialized "java/lang/IndexOutOfBoundsException", Cond.methodLink RX3 94 yX3_requirePartner] := goodIn_r _ [99, 100, 101, 102, 103, 104, 105, 106, 107, 108, 109, 110, 111, 112, 113, 114, 115, 116, 117, 118, 119, 120, 121, 122] (by decide +kernel) (by decide +kernel)
theorem ggL_law_L_isHeld_wsL_isHeld_r5_all : GoodIn wsL_law wsL_isHeld_r5 := ggL_law_L_isHeld_wsL_isHeld_r5_0
set_option maxRecDepth 20000 in
theorem ggL_law_L_isHeld_wsL_isHeld_r6_0 : GoodIn wsL_law [Cond.instanceMethod yX3_requirePartner, Cond.selects RX3 yX3_requirePartner yX3_requirePartner, Cond.code yX3_requirePartner cX3_requirePartner 2 none, Cond.methodLink RX3 105 yX3_isAnotherIn, Cond.instanceMethod yX3_isAnotherIn, Cond.selects RX3 yX3_isAnotherIn yX3_isAnotherIn, Cond.code yX3_isAnotherIn cX3_isAnotherIn 4 (some .boolean), Cond.methodLink RX3 136 yX3_shareIfIn, Cond.instanceMethod yX3_shareIfIn, Cond.selects RX3 yX3_shareIfIn yX3_shareIfIn, Cond.code yX3_shareIfIn cX3_shareIfIn 3 (some .int), Cond.methodLink RL 120 yL_entered, Cond.static yL_entered, Cond.codeWith yL_entered cL_entered 4 (some .int) [(0, 6, 7, 83)], Cond.methodLink RL 85 yX3_overhead, Cond.instanceMethod yX3_overhead, Cond.selects RX3 yX3_overhead yX3_overhead, Cond.code yX3_overhead cX3_overhead 3 (some .int), Cond.methodLink RX3 119 yX3_requireRoomForVoucher, Cond.instanceMethod yX3_requireRoomForVoucher, Cond.selects RX3 yX3_requireRoomForVoucher yX3_requireRoomForVoucher, Cond.code yX3_requireRoomForVoucher cX3_requireRoomForVoucher 1 none, Cond.methodLink RX3 122 yX3_addVoucher, Cond.instanceMethod yX3_addVoucher] := goodIn_r _ [123, 124, 125, 126, 127, 128, 129, 130, 131, 132, 133, 134, 135, 136, 137, 138, 139, 140, 141, 142, 143, 144, 145, 146] (by decide +kernel) (by decide +kernel)
theorem ggL_law_L_isHeld_wsL_isHeld_r6_all : GoodIn wsL_law wsL_isHeld_r6 := ggL_law_L_isHeld_wsL_isHeld_r6_0
set_option maxRecDepth 20000 in
theorem ggL_law_L_isHeld_wsL_isHeld_r7_0 : GoodIn wsL_law [Cond.selects RX3 yX3_addVoucher yX3_addVoucher, Cond.code yX3_addVoucher cX3_addVoucher 4 (some .int), Cond.methodLink RX3 209 yX3_account, Cond.instanceMethod yX3_account, Cond.selects RX3 yX3_account yX3_account, Cond.code yX3_account cX3_account 4 none, Cond.methodLink RX3 215 yX3_accountCost, Cond.instanceMethod yX3_accountCost, Cond.selects RX3 yX3_accountCost yX3_accountCost, Cond.code yX3_accountCost cX3_accountCost 4 none, Cond.fieldLink RX3 147 "JointVenture$Well" "charged" "[I", Cond.fieldLink RX3 140 "JointVenture$Well" "toEarn" "[J", Cond.methodLink RX3 153 yX3_divideCost, Cond.instanceMethod yX3_divideCost, Cond.selects RX3 yX3_divideCost yX3_divideCost, Cond.code yX3_divideCost cX3_divideCost 4 none, Cond.methodLink RX3 162 yX1_divide, Cond.instanceMethod yX1_divide, Cond.selects RX1 yX1_divide yX1_divide, Cond.code yX1_divide cX1_divide 10 none, Cond.constantLong RX1 25 (-1), Cond.methodLink RX1 15 yJ7_fill_53178, Cond.methodLink RX1 21 yX1_firstWithGreatestRemainder, Cond.instanceMethod yX1_firstWithGreatestRemainder] := goodIn_r _ [147, 148, 149, 150, 151, 152, 153, 154, 155, 156, 157, 158, 159, 160, 161, 162, 163, 164, 165, 166, 167, 168, 169, 170] (by decide +kernel) (by decide +kernel)
theorem ggL_law_L_isHeld_wsL_isHeld_r7_all : GoodIn wsL_law wsL_isHeld_r7 := ggL_law_L_isHeld_wsL_isHeld_r7_0
set_option maxRecDepth 20000 in
theorem ggL_law_L_isHeld_wsL_isHeld_r8_0 : GoodIn wsL_law [Cond.selects RX1 yX1_firstWithGreatestRemainder yX1_firstWithGreatestRemainder, Cond.code yX1_firstWithGreatestRemainder cX1_firstWithGreatestRemainder 3 (some .int), Cond.methodLink RX3 232 yX3_weighThoseIn, Cond.instanceMethod yX3_weighThoseIn, Cond.selects RX3 yX3_weighThoseIn yX3_weighThoseIn, Cond.code yX3_weighThoseIn cX3_weighThoseIn 3 none, Cond.methodLink RX3 236 yX3_ownPartsOfThoseOut, Cond.instanceMethod yX3_ownPartsOfThoseOut, Cond.selects RX3 yX3_ownPartsOfThoseOut yX3_ownPartsOfThoseOut, Cond.code yX3_ownPartsOfThoseOut cX3_ownPartsOfThoseOut 4 (some .int), Cond.methodLink RX3 224 yX3_penaltyOn, Cond.instanceMethod yX3_penaltyOn, Cond.selects RX3 yX3_penaltyOn yX3_penaltyOn, Cond.code yX3_penaltyOn cX3_penaltyOn 3 (some .long), Cond.constantLong RX3 228 (99), Cond.constantLong RX3 230 (100), Cond.methodLink RX3 218 yX3_accountIncome, Cond.instanceMethod yX3_accountIncome, Cond.selects RX3 yX3_accountIncome yX3_accountIncome, Cond.code yX3_accountIncome cX3_accountIncome 5 none, Cond.fieldLink RX3 150 "JointVenture$Well" "credited" "[I", Cond.methodLink RX3 240 yX2_takenOf, Cond.instanceMethod yX2_takenOf, Cond.selects RX2 yX2_takenOf yX2_takenOf] := goodIn_r _ [171, 172, 173, 174, 175, 176, 177, 178, 179, 180, 181, 182, 183, 184, 185, 186, 187, 188, 189, 190, 191, 192, 193, 194] (by decide +kernel) (by decide +kernel)
theorem ggL_law_L_isHeld_wsL_isHeld_r8_all : GoodIn wsL_law wsL_isHeld_r8 := ggL_law_L_isHeld_wsL_isHeld_r8_0
set_option maxRecDepth 20000 in
theorem ggL_law_L_isHeld_wsL_isHeld_r9_0 : GoodIn wsL_law [Cond.code yX2_takenOf cX2_takenOf 3 (some .int), Cond.methodLink RX2 49 Lib.MathLoose.min_long.x, Cond.static Lib.MathLoose.min_long.x, Cond.initialized "java/lang/Math", Cond.code Lib.MathLoose.min_long.x Lib.MathLoose.min_long.code 4 (some .long), Cond.methodLink RX3 243 yX3_creditTaken, Cond.instanceMethod yX3_creditTaken, Cond.selects RX3 yX3_creditTaken yX3_creditTaken, Cond.code yX3_creditTaken cX3_creditTaken 4 none, Cond.methodLink RX3 221 yX2_takeBack, Cond.instanceMethod yX2_takeBack, Cond.selects RX2 yX2_takeBack yX2_takeBack, Cond.code yX2_takeBack cX2_takeBack 3 none, Cond.methodLink RL 123 yX3_income, Cond.instanceMethod yX3_income, Cond.selects RX3 yX3_income yX3_income, Cond.code yX3_income cX3_income 3 (some .int), Cond.constant RX3 118 (10000000), Cond.methodLink RL 126 yX3_cost, Cond.instanceMethod yX3_cost, Cond.selects RX3 yX3_cost yX3_cost, Cond.code yX3_cost cX3_cost 3 (some .int), Cond.methodLink RL 129 yL_moved, Cond.static yL_moved] := goodIn_r _ [195, 196, 197, 198, 199, 200, 201, 202, 203, 204, 205, 206, 207, 208, 209, 210, 211, 212, 213, 214, 215, 216, 217, 218] (by decide +kernel) (by decide +kernel)
theorem ggL_law_L_isHeld_wsL_isHeld_r9_all : GoodIn wsL_law wsL_isHeld_r9 := ggL_law_L_isHeld_wsL_isHeld_r9_0
set_option maxRecDepth 20000 in
theorem ggL_law_L_isHeld_wsL_isHeld_r10_0 : GoodIn wsL_law [Cond.codeWith yL_moved cL_moved 4 (some .int) [(0, 6, 7, 83)], Cond.methodLink RL 88 yX3_move, Cond.instanceMethod yX3_move, Cond.selects RX3 yX3_move yX3_move, Cond.code yX3_move cX3_move 4 (some .int), Cond.methodLink RX3 128 yX3_requireVoucher, Cond.instanceMethod yX3_requireVoucher, Cond.selects RX3 yX3_requireVoucher yX3_requireVoucher, Cond.code yX3_requireVoucher cX3_requireVoucher 2 none, Cond.methodLink RX3 133 yX3_accountAnew, Cond.instanceMethod yX3_accountAnew, Cond.selects RX3 yX3_accountAnew yX3_accountAnew, Cond.code yX3_accountAnew cX3_accountAnew 3 none, Cond.methodLink RX3 212 yX2_clearAccounts, Cond.instanceMethod yX2_clearAccounts, Cond.selects RX2 yX2_clearAccounts yX2_clearAccounts, Cond.code yX2_clearAccounts cX2_clearAccounts 2 none, Cond.methodLink RX2 46 yJ7_fill_d0a16, Cond.static yJ7_fill_d0a16, Cond.code yJ7_fill_d0a16 cJ7_fill_d0a16 5 none, Cond.methodLink RL 132 yL_isCash, Cond.static yL_isCash] := goodIn_r _ [219, 220, 221, 222, 223, 224, 225, 226, 227, 228, 229, 230, 231, 232, 233, 234, 235, 236, 237, 238, 239, 240] (by decide +kernel) (by decide +kernel)
def ggL_law_L_isHeld_wsL_isHeld_r10_1 : Cond := Cond.code yL_isCash cL_isCash 21 (some .boolean)
set_option maxRecDepth 20000 in
theorem ggL_law_L_isHeld_wsL_isHeld_r10_1_p : wsL_law[241]? = some ggL_law_L_isHeld_wsL_isHeld_r10_1 := rfl
theorem ggL_law_L_isHeld_wsL_isHeld_r10_1_s : GoodIn wsL_law [ggL_law_L_isHeld_wsL_isHeld_r10_1] := fun w h => by
  rw [List.mem_singleton.mp h]
  exact ⟨List.mem_of_getElem? ggL_law_L_isHeld_wsL_isHeld_r10_1_p, good_of_word rfl⟩
set_option maxRecDepth 20000 in
theorem ggL_law_L_isHeld_wsL_isHeld_r10_2 : GoodIn wsL_law [Cond.methodLink RL 42 yL_weigh] := goodIn_r _ [242] (by decide +kernel) (by decide +kernel)
theorem ggL_law_L_isHeld_wsL_isHeld_r10_all : GoodIn wsL_law wsL_isHeld_r10 := (goodIn_app ggL_law_L_isHeld_wsL_isHeld_r10_0 (goodIn_app ggL_law_L_isHeld_wsL_isHeld_r10_1_s ggL_law_L_isHeld_wsL_isHeld_r10_2))
set_option maxRecDepth 20000 in
theorem ggL_law_L_isHeld_wsL_isHeld_r11_0 : GoodIn wsL_law [Cond.static yL_weigh, Cond.code yL_weigh cL_weigh 9 none, Cond.constantLong RL 27 (10000), Cond.methodLink RL 23 yL_account, Cond.static yL_account, Cond.code yL_account cL_account 8 none, Cond.constantLong RL 17 (-1), Cond.methodLink RL 19 yL_enter, Cond.static yL_enter] := goodIn_r _ [243, 244, 245, 246, 247, 248, 249, 250, 251] (by decide +kernel) (by decide +kernel)
def ggL_law_L_isHeld_wsL_isHeld_r11_1 : Cond := Cond.code yL_enter cL_enter 18 none
set_option maxRecDepth 20000 in
theorem ggL_law_L_isHeld_wsL_isHeld_r11_1_p : wsL_law[252]? = some ggL_law_L_isHeld_wsL_isHeld_r11_1 := rfl
theorem ggL_law_L_isHeld_wsL_isHeld_r11_1_s : GoodIn wsL_law [ggL_law_L_isHeld_wsL_isHeld_r11_1] := fun w h => by
  rw [List.mem_singleton.mp h]
  exact ⟨List.mem_of_getElem? ggL_law_L_isHeld_wsL_isHeld_r11_1_p, good_of_word rfl⟩
set_option maxRecDepth 20000 in
theorem ggL_law_L_isHeld_wsL_isHeld_r11_2 : GoodIn wsL_law [Cond.constantLong RL 15 (100), Cond.methodLink RL 9 yL_divide, Cond.static yL_divide, Cond.code yL_divide cL_divide 13 none, Cond.methodLink RL 97 yX3_call, Cond.instanceMethod yX3_call, Cond.selects RX3 yX3_call yX3_call, Cond.code yX3_call cX3_call 3 (some .int), Cond.fieldLink RX3 159 "JointVenture$CashCall" "asked" "[I", Cond.methodLink RL 100 yL_paid, Cond.static yL_paid, Cond.codeWith yL_paid cL_paid 4 (some .int) [(0, 6, 7, 83)], Cond.methodLink RL 91 yX3_pay, Cond.instanceMethod yX3_pay] := goodIn_r _ [253, 254, 255, 256, 257, 258, 259, 260, 261, 262, 263, 264, 265, 266] (by decide +kernel) (by decide +kernel)
theorem ggL_law_L_isHeld_wsL_isHeld_r11_all : GoodIn wsL_law wsL_isHeld_r11 := (goodIn_app ggL_law_L_isHeld_wsL_isHeld_r11_0 (goodIn_app ggL_law_L_isHeld_wsL_isHeld_r11_1_s ggL_law_L_isHeld_wsL_isHeld_r11_2))
set_option maxRecDepth 20000 in
theorem ggL_law_L_isHeld_wsL_isHeld_r12_0 : GoodIn wsL_law [Cond.selects RX3 yX3_pay yX3_pay, Cond.code yX3_pay cX3_pay 5 (some .int), Cond.fieldLink RX3 169 "JointVenture$CashCall" "paid" "[I", Cond.methodLink RX3 166 yX3_requireCashCall, Cond.instanceMethod yX3_requireCashCall, Cond.selects RX3 yX3_requireCashCall yX3_requireCashCall, Cond.code yX3_requireCashCall cX3_requireCashCall 2 none, Cond.methodLink RL 103 yL_shared, Cond.static yL_shared, Cond.codeWith yL_shared cL_shared 3 (some .int) [(0, 5, 6, 83)], Cond.methodLink RL 94 yX3_shareOut, Cond.instanceMethod yX3_shareOut, Cond.selects RX3 yX3_shareOut yX3_shareOut, Cond.code yX3_shareOut cX3_shareOut 4 (some .int), Cond.methodLink RX3 174 yX0_hasPayer, Cond.instanceMethod yX0_hasPayer, Cond.selects RX0 yX0_hasPayer yX0_hasPayer, Cond.code yX0_hasPayer cX0_hasPayer 2 (some .boolean), Cond.methodLink RX3 180 yX0_askedOfNonPayers, Cond.instanceMethod yX0_askedOfNonPayers, Cond.selects RX0 yX0_askedOfNonPayers yX0_askedOfNonPayers, Cond.code yX0_askedOfNonPayers cX0_askedOfNonPayers 3 (some .int), Cond.methodLink RX3 186 yX3_moveToPayers, Cond.instanceMethod yX3_moveToPayers] := goodIn_r _ [267, 268, 269, 270, 271, 272, 273, 274, 275, 276, 277, 278, 279, 280, 281, 282, 283, 284, 285, 286, 287, 288, 289, 290] (by decide +kernel) (by decide +kernel)
theorem ggL_law_L_isHeld_wsL_isHeld_r12_all : GoodIn wsL_law wsL_isHeld_r12 := ggL_law_L_isHeld_wsL_isHeld_r12_0
set_option maxRecDepth 20000 in
theorem ggL_law_L_isHeld_wsL_isHeld_r13_0 : GoodIn wsL_law [Cond.selects RX3 yX3_moveToPayers yX3_moveToPayers, Cond.code yX3_moveToPayers cX3_moveToPayers 4 none, Cond.methodLink RL 150 yL_isTold, Cond.static yL_isTold] := goodIn_r _ [291, 292, 293, 294] (by decide +kernel) (by decide +kernel)
def ggL_law_L_isHeld_wsL_isHeld_r13_1 : Cond := Cond.code yL_isTold cL_isTold 16 (some .boolean)
set_option maxRecDepth 20000 in
theorem ggL_law_L_isHeld_wsL_isHeld_r13_1_p : wsL_law[295]? = some ggL_law_L_isHeld_wsL_isHeld_r13_1 := rfl
theorem ggL_law_L_isHeld_wsL_isHeld_r13_1_s : GoodIn wsL_law [ggL_law_L_isHeld_wsL_isHeld_r13_1] := fun w h => by
  rw [List.mem_singleton.mp h]
  exact ⟨List.mem_of_getElem? ggL_law_L_isHeld_wsL_isHeld_r13_1_p, good_of_word rfl⟩
set_option maxRecDepth 20000 in
theorem ggL_law_L_isHeld_wsL_isHeld_r13_2 : GoodIn wsL_law [Cond.methodLink RL 29 yX3_vouchers, Cond.instanceMethod yX3_vouchers, Cond.selects RX3 yX3_vouchers yX3_vouchers, Cond.code yX3_vouchers cX3_vouchers 1 (some .int), Cond.methodLink RL 35 yX3_wellOf, Cond.instanceMethod yX3_wellOf, Cond.selects RX3 yX3_wellOf yX3_wellOf, Cond.code yX3_wellOf cX3_wellOf 2 (some .int), Cond.methodLink RL 39 yX3_amountOf, Cond.instanceMethod yX3_amountOf, Cond.selects RX3 yX3_amountOf yX3_amountOf, Cond.code yX3_amountOf cX3_amountOf 2 (some .int), Cond.methodLink RL 45 yX3_isIn, Cond.instanceMethod yX3_isIn, Cond.selects RX3 yX3_isIn yX3_isIn, Cond.code yX3_isIn cX3_isIn 3 (some .boolean), Cond.methodLink RL 49 yX3_toEarn, Cond.instanceMethod yX3_toEarn, Cond.selects RX3 yX3_toEarn yX3_toEarn] := goodIn_r _ [296, 297, 298, 299, 300, 301, 302, 303, 304, 305, 306, 307, 308, 309, 310, 311, 312, 313, 314] (by decide +kernel) (by decide +kernel)
theorem ggL_law_L_isHeld_wsL_isHeld_r13_all : GoodIn wsL_law wsL_isHeld_r13 := (goodIn_app ggL_law_L_isHeld_wsL_isHeld_r13_0 (goodIn_app ggL_law_L_isHeld_wsL_isHeld_r13_1_s ggL_law_L_isHeld_wsL_isHeld_r13_2))
set_option maxRecDepth 20000 in
theorem ggL_law_L_isHeld_wsL_isHeld_r14_0 : GoodIn wsL_law [Cond.code yX3_toEarn cX3_toEarn 3 (some .long), Cond.methodLink RL 53 yX3_backAt, Cond.instanceMethod yX3_backAt, Cond.selects RX3 yX3_backAt yX3_backAt, Cond.code yX3_backAt cX3_backAt 3 (some .int), Cond.fieldLink RX3 144 "JointVenture$Well" "backAt" "[I", Cond.methodLink RL 57 yX3_charged, Cond.instanceMethod yX3_charged, Cond.selects RX3 yX3_charged yX3_charged, Cond.code yX3_charged cX3_charged 3 (some .int), Cond.methodLink RL 60 yX3_credited, Cond.instanceMethod yX3_credited, Cond.selects RX3 yX3_credited yX3_credited, Cond.code yX3_credited cX3_credited 3 (some .int), Cond.methodLink RL 63 yX3_weight, Cond.instanceMethod yX3_weight, Cond.selects RX3 yX3_weight yX3_weight, Cond.code yX3_weight cX3_weight 3 (some .int), Cond.methodLink RL 66 yX3_asked, Cond.instanceMethod yX3_asked, Cond.selects RX3 yX3_asked yX3_asked, Cond.code yX3_asked cX3_asked 3 (some .int), Cond.methodLink RL 69 yX3_paid, Cond.instanceMethod yX3_paid] := goodIn_r _ [315, 316, 317, 318, 319, 320, 321, 322, 323, 324, 325, 326, 327, 328, 329, 330, 331, 332, 333, 334, 335, 336, 337, 338] (by decide +kernel) (by decide +kernel)
theorem ggL_law_L_isHeld_wsL_isHeld_r14_all : GoodIn wsL_law wsL_isHeld_r14 := ggL_law_L_isHeld_wsL_isHeld_r14_0
set_option maxRecDepth 20000 in
theorem ggL_law_L_isHeld_wsL_isHeld_r15_0 : GoodIn wsL_law [Cond.selects RX3 yX3_paid yX3_paid, Cond.code yX3_paid cX3_paid 2 (some .int), Cond.methodLink RX3 190 yX3_paidOfAllCalls, Cond.instanceMethod yX3_paidOfAllCalls, Cond.selects RX3 yX3_paidOfAllCalls yX3_paidOfAllCalls, Cond.code yX3_paidOfAllCalls cX3_paidOfAllCalls 4 (some .int), Cond.methodLink RL 72 yX3_owes, Cond.instanceMethod yX3_owes, Cond.selects RX3 yX3_owes yX3_owes, Cond.code yX3_owes cX3_owes 2 (some .int), Cond.methodLink RL 75 yX3_balance, Cond.instanceMethod yX3_balance, Cond.selects RX3 yX3_balance yX3_balance, Cond.code yX3_balance cX3_balance 5 (some .long)] := goodIn_r _ [339, 340, 341, 342, 343, 344, 345, 346, 347, 348, 349, 350, 351, 352] (by decide +kernel) (by decide +kernel)
theorem ggL_law_L_isHeld_wsL_isHeld_r15_all : GoodIn wsL_law wsL_isHeld_r15 := ggL_law_L_isHeld_wsL_isHeld_r15_0
set_option maxRecDepth 20000 in
theorem ggL_law_L_isHeld_wsX30 : GoodIn wsL_law wsX30 := goodIn_r _ [353, 354, 355, 356, 357, 358, 359, 360, 361, 362, 363, 364, 365, 366, 367] (by decide +kernel) (by decide +kernel)
set_option maxRecDepth 20000 in
theorem ggL_law_L_isHeld_wsX10 : GoodIn wsL_law wsX10 := goodIn_r _ [368] (by decide +kernel) (by decide +kernel)
set_option maxRecDepth 20000 in
theorem ggL_law_L_isHeld_wsX20 : GoodIn wsL_law wsX20 := goodIn_r _ [369, 370, 371, 372, 373, 374, 375, 376] (by decide +kernel) (by decide +kernel)
set_option maxRecDepth 20000 in
theorem ggL_law_L_isHeld_wsX00 : GoodIn wsL_law wsX00 := goodIn_r _ [377, 378] (by decide +kernel) (by decide +kernel)
set_option maxRecDepth 20000 in
theorem ggL_law_L_isHeld : GoodIn wsL_law wsL_isHeld := goodIn_ca (goodIn_ca (goodIn_ca (goodIn_cnse ggL_law_L_isHeld_h_s (goodIn_app (goodIn_app (goodIn_app (goodIn_app (goodIn_app ggL_law_L_isHeld_wsL_isHeld_r1_all (goodIn_app ggL_law_L_isHeld_wsL_isHeld_r2_all (goodIn_app ggL_law_L_isHeld_wsL_isHeld_r3_all (goodIn_app ggL_law_L_isHeld_wsL_isHeld_r4_all (goodIn_app ggL_law_L_isHeld_wsL_isHeld_r5_all (goodIn_app ggL_law_L_isHeld_wsL_isHeld_r6_all (goodIn_app ggL_law_L_isHeld_wsL_isHeld_r7_all (goodIn_app ggL_law_L_isHeld_wsL_isHeld_r8_all (goodIn_app ggL_law_L_isHeld_wsL_isHeld_r9_all (goodIn_app ggL_law_L_isHeld_wsL_isHeld_r10_all (goodIn_app ggL_law_L_isHeld_wsL_isHeld_r11_all (goodIn_app ggL_law_L_isHeld_wsL_isHeld_r12_all (goodIn_app ggL_law_L_isHeld_wsL_isHeld_r13_all (goodIn_app ggL_law_L_isHeld_wsL_isHeld_r14_all ggL_law_L_isHeld_wsL_isHeld_r15_all)))))))))))))) ggL_law_L_isHeld_wsX30) ggL_law_L_isHeld_wsX10) ggL_law_L_isHeld_wsX20) ggL_law_L_isHeld_wsX00)) (goodIn_sub (fun _ h => List.mem_append_left _ (List.mem_append_left _ (List.mem_append_right _ h))) (by decide +kernel))) (goodIn_sub (fun _ h => List.mem_append_left _ (List.mem_append_right _ h)) (by decide +kernel))) (goodIn_sub (fun _ h => List.mem_append_right _ h) (by decide +kernel))
set_option maxRecDepth 20000 in
theorem gL_law_L_isHeld : GoodIn wsL_law (va_wsS RL 162 yL_isHeld wsL_isHeld) := goodIn_app (goodIn_of _ (by decide +kernel)) ggL_law_L_isHeld
theorem dL_law_0 : decode cL_law 0 = .ok (.aload_n 0, 1) := by decide +kernel
theorem dL_law_1 : decode cL_law 1 = .ok (.invokestatic 162, 3) := by decide +kernel
