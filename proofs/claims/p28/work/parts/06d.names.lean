theorem goodIn_cnsd {big a : List Cond} {c : Cond} (h : GoodIn big [c]) (ha : GoodIn big a) : GoodIn big (c :: a) := fun w hw => (List.mem_cons.mp hw).elim (fun e => h w (by rw [e]; exact List.mem_singleton.mpr rfl)) (ha w)
theorem dL_isTold_0 : decode cL_isTold 0 = .ok (.bipush 25, 2) := by decide +kernel
theorem dL_isTold_2 : decode cL_isTold 2 = .ok (.newarray .long, 2) := by decide +kernel
theorem dL_isTold_4 : decode cL_isTold 4 = .ok (.astore 9, 2) := by decide +kernel
theorem dL_isTold_6 : decode cL_isTold 6 = .ok (.iconst 5, 1) := by decide +kernel
theorem dL_isTold_7 : decode cL_isTold 7 = .ok (.newarray .long, 2) := by decide +kernel
theorem dL_isTold_9 : decode cL_isTold 9 = .ok (.astore 10, 2) := by decide +kernel
theorem dL_isTold_11 : decode cL_isTold 11 = .ok (.iconst 5, 1) := by decide +kernel
theorem dL_isTold_12 : decode cL_isTold 12 = .ok (.newarray .long, 2) := by decide +kernel
theorem dL_isTold_14 : decode cL_isTold 14 = .ok (.astore 11, 2) := by decide +kernel
theorem dL_isTold_16 : decode cL_isTold 16 = .ok (.aload_n 0, 1) := by decide +kernel
theorem dL_isTold_17 : decode cL_isTold 17 = .ok (.invokevirtual 29, 3) := by decide +kernel
theorem dL_isTold_20 : decode cL_isTold 20 = .ok (.aload 8, 2) := by decide +kernel
theorem dL_isTold_22 : decode cL_isTold 22 = .ok (.iconst 1, 1) := by decide +kernel
theorem dL_isTold_23 : decode cL_isTold 23 = .ok (.iaload, 1) := by decide +kernel
theorem dL_isTold_24 : decode cL_isTold 24 = .ok (.if_icmp .ne 7, 3) := by decide +kernel
theorem dL_isTold_27 : decode cL_isTold 27 = .ok (.iconst 1, 1) := by decide +kernel
theorem dL_isTold_28 : decode cL_isTold 28 = .ok (.goto 4, 3) := by decide +kernel
theorem dL_isTold_31 : decode cL_isTold 31 = .ok (.iconst 0, 1) := by decide +kernel
theorem dL_isTold_32 : decode cL_isTold 32 = .ok (.istore 12, 2) := by decide +kernel
theorem dL_isTold_34 : decode cL_isTold 34 = .ok (.iconst 0, 1) := by decide +kernel
theorem dL_isTold_35 : decode cL_isTold 35 = .ok (.istore 13, 2) := by decide +kernel
theorem dL_isTold_37 : decode cL_isTold 37 = .ok (.iload 13, 2) := by decide +kernel
theorem dL_isTold_39 : decode cL_isTold 39 = .ok (.aload 8, 2) := by decide +kernel
theorem dL_isTold_41 : decode cL_isTold 41 = .ok (.iconst 1, 1) := by decide +kernel
theorem dL_isTold_42 : decode cL_isTold 42 = .ok (.iaload, 1) := by decide +kernel
theorem dL_isTold_43 : decode cL_isTold 43 = .ok (.if_icmp .ge 81, 3) := by decide +kernel
theorem dL_isTold_46 : decode cL_isTold 46 = .ok (.iload 12, 2) := by decide +kernel
theorem dL_isTold_48 : decode cL_isTold 48 = .ok (.ifCond .eq 76, 3) := by decide +kernel
theorem dL_isTold_51 : decode cL_isTold 51 = .ok (.aload_n 0, 1) := by decide +kernel
theorem dL_isTold_52 : decode cL_isTold 52 = .ok (.iload 13, 2) := by decide +kernel
theorem dL_isTold_54 : decode cL_isTold 54 = .ok (.invokevirtual 35, 3) := by decide +kernel
theorem dL_isTold_57 : decode cL_isTold 57 = .ok (.aload 4, 2) := by decide +kernel
theorem dL_isTold_59 : decode cL_isTold 59 = .ok (.iconst 3, 1) := by decide +kernel
theorem dL_isTold_60 : decode cL_isTold 60 = .ok (.iload 13, 2) := by decide +kernel
theorem dL_isTold_62 : decode cL_isTold 62 = .ok (.imul, 1) := by decide +kernel
theorem dL_isTold_63 : decode cL_isTold 63 = .ok (.iaload, 1) := by decide +kernel
theorem dL_isTold_64 : decode cL_isTold 64 = .ok (.if_icmp .ne 51, 3) := by decide +kernel
theorem dL_isTold_67 : decode cL_isTold 67 = .ok (.aload_n 0, 1) := by decide +kernel
theorem dL_isTold_68 : decode cL_isTold 68 = .ok (.iload 13, 2) := by decide +kernel
theorem dL_isTold_70 : decode cL_isTold 70 = .ok (.invokevirtual 39, 3) := by decide +kernel
theorem dL_isTold_73 : decode cL_isTold 73 = .ok (.aload 4, 2) := by decide +kernel
theorem dL_isTold_75 : decode cL_isTold 75 = .ok (.iconst 3, 1) := by decide +kernel
theorem dL_isTold_76 : decode cL_isTold 76 = .ok (.iload 13, 2) := by decide +kernel
theorem dL_isTold_78 : decode cL_isTold 78 = .ok (.imul, 1) := by decide +kernel
theorem dL_isTold_79 : decode cL_isTold 79 = .ok (.iconst 2, 1) := by decide +kernel
theorem dL_isTold_80 : decode cL_isTold 80 = .ok (.iadd, 1) := by decide +kernel
theorem dL_isTold_81 : decode cL_isTold 81 = .ok (.iaload, 1) := by decide +kernel
theorem dL_isTold_82 : decode cL_isTold 82 = .ok (.iconst 1, 1) := by decide +kernel
theorem dL_isTold_83 : decode cL_isTold 83 = .ok (.if_icmp .ne 16, 3) := by decide +kernel
theorem dL_isTold_86 : decode cL_isTold 86 = .ok (.aload 4, 2) := by decide +kernel
theorem dL_isTold_88 : decode cL_isTold 88 = .ok (.iconst 3, 1) := by decide +kernel
theorem dL_isTold_89 : decode cL_isTold 89 = .ok (.iload 13, 2) := by decide +kernel
theorem dL_isTold_91 : decode cL_isTold 91 = .ok (.imul, 1) := by decide +kernel
theorem dL_isTold_92 : decode cL_isTold 92 = .ok (.iconst 1, 1) := by decide +kernel
theorem dL_isTold_93 : decode cL_isTold 93 = .ok (.iadd, 1) := by decide +kernel
theorem dL_isTold_94 : decode cL_isTold 94 = .ok (.iaload, 1) := by decide +kernel
theorem dL_isTold_95 : decode cL_isTold 95 = .ok (.ineg, 1) := by decide +kernel
theorem dL_isTold_96 : decode cL_isTold 96 = .ok (.goto 12, 3) := by decide +kernel
theorem dL_isTold_99 : decode cL_isTold 99 = .ok (.aload 4, 2) := by decide +kernel
theorem dL_isTold_101 : decode cL_isTold 101 = .ok (.iconst 3, 1) := by decide +kernel
theorem dL_isTold_102 : decode cL_isTold 102 = .ok (.iload 13, 2) := by decide +kernel
theorem dL_isTold_104 : decode cL_isTold 104 = .ok (.imul, 1) := by decide +kernel
theorem dL_isTold_105 : decode cL_isTold 105 = .ok (.iconst 1, 1) := by decide +kernel
theorem dL_isTold_106 : decode cL_isTold 106 = .ok (.iadd, 1) := by decide +kernel
theorem dL_isTold_107 : decode cL_isTold 107 = .ok (.iaload, 1) := by decide +kernel
theorem dL_isTold_108 : decode cL_isTold 108 = .ok (.if_icmp .ne 7, 3) := by decide +kernel
theorem dL_isTold_111 : decode cL_isTold 111 = .ok (.iconst 1, 1) := by decide +kernel
theorem dL_isTold_112 : decode cL_isTold 112 = .ok (.goto 4, 3) := by decide +kernel
theorem dL_isTold_115 : decode cL_isTold 115 = .ok (.iconst 0, 1) := by decide +kernel
theorem dL_isTold_116 : decode cL_isTold 116 = .ok (.istore 12, 2) := by decide +kernel
theorem dL_isTold_118 : decode cL_isTold 118 = .ok (.iinc 13 1, 3) := by decide +kernel
theorem dL_isTold_121 : decode cL_isTold 121 = .ok (.goto (-84), 3) := by decide +kernel
theorem dL_isTold_124 : decode cL_isTold 124 = .ok (.iconst 0, 1) := by decide +kernel
theorem dL_isTold_125 : decode cL_isTold 125 = .ok (.istore 13, 2) := by decide +kernel
theorem dL_isTold_127 : decode cL_isTold 127 = .ok (.iload 13, 2) := by decide +kernel
theorem dL_isTold_129 : decode cL_isTold 129 = .ok (.aload 8, 2) := by decide +kernel
theorem dL_isTold_131 : decode cL_isTold 131 = .ok (.iconst 0, 1) := by decide +kernel
theorem dL_isTold_132 : decode cL_isTold 132 = .ok (.iaload, 1) := by decide +kernel
theorem dL_isTold_133 : decode cL_isTold 133 = .ok (.if_icmp .ge 220, 3) := by decide +kernel
theorem dL_isTold_136 : decode cL_isTold 136 = .ok (.iload 12, 2) := by decide +kernel
theorem dL_isTold_138 : decode cL_isTold 138 = .ok (.ifCond .eq 215, 3) := by decide +kernel
theorem dL_isTold_141 : decode cL_isTold 141 = .ok (.aload_n 1, 1) := by decide +kernel
theorem dL_isTold_142 : decode cL_isTold 142 = .ok (.aload_n 2, 1) := by decide +kernel
theorem dL_isTold_143 : decode cL_isTold 143 = .ok (.aload_n 3, 1) := by decide +kernel
theorem dL_isTold_144 : decode cL_isTold 144 = .ok (.aload 4, 2) := by decide +kernel
theorem dL_isTold_146 : decode cL_isTold 146 = .ok (.aload 8, 2) := by decide +kernel
theorem dL_isTold_148 : decode cL_isTold 148 = .ok (.aload 9, 2) := by decide +kernel
theorem dL_isTold_150 : decode cL_isTold 150 = .ok (.iload 13, 2) := by decide +kernel
theorem dL_isTold_152 : decode cL_isTold 152 = .ok (.invokestatic 23, 3) := by decide +kernel
theorem dL_isTold_155 : decode cL_isTold 155 = .ok (.aload_n 1, 1) := by decide +kernel
theorem dL_isTold_156 : decode cL_isTold 156 = .ok (.aload_n 2, 1) := by decide +kernel
theorem dL_isTold_157 : decode cL_isTold 157 = .ok (.aload_n 3, 1) := by decide +kernel
theorem dL_isTold_158 : decode cL_isTold 158 = .ok (.aload 4, 2) := by decide +kernel
theorem dL_isTold_160 : decode cL_isTold 160 = .ok (.aload 8, 2) := by decide +kernel
theorem dL_isTold_162 : decode cL_isTold 162 = .ok (.aload 10, 2) := by decide +kernel
theorem dL_isTold_164 : decode cL_isTold 164 = .ok (.iload 13, 2) := by decide +kernel
theorem dL_isTold_166 : decode cL_isTold 166 = .ok (.invokestatic 42, 3) := by decide +kernel
theorem dL_isTold_169 : decode cL_isTold 169 = .ok (.iconst 0, 1) := by decide +kernel
theorem dL_isTold_170 : decode cL_isTold 170 = .ok (.istore 14, 2) := by decide +kernel
theorem dL_isTold_172 : decode cL_isTold 172 = .ok (.iload 14, 2) := by decide +kernel
theorem dL_isTold_174 : decode cL_isTold 174 = .ok (.iconst 5, 1) := by decide +kernel
theorem dL_isTold_175 : decode cL_isTold 175 = .ok (.if_icmp .ge 172, 3) := by decide +kernel
theorem dL_isTold_178 : decode cL_isTold 178 = .ok (.iload 12, 2) := by decide +kernel
theorem dL_isTold_180 : decode cL_isTold 180 = .ok (.ifCond .eq 167, 3) := by decide +kernel
theorem dL_isTold_183 : decode cL_isTold 183 = .ok (.aload 11, 2) := by decide +kernel
theorem dL_isTold_185 : decode cL_isTold 185 = .ok (.iload 14, 2) := by decide +kernel
theorem dL_isTold_187 : decode cL_isTold 187 = .ok (.dup2, 1) := by decide +kernel
theorem dL_isTold_188 : decode cL_isTold 188 = .ok (.laload, 1) := by decide +kernel
theorem dL_isTold_189 : decode cL_isTold 189 = .ok (.aload 9, 2) := by decide +kernel
theorem dL_isTold_191 : decode cL_isTold 191 = .ok (.bipush 20, 2) := by decide +kernel
theorem dL_isTold_193 : decode cL_isTold 193 = .ok (.iload 14, 2) := by decide +kernel
theorem dL_isTold_195 : decode cL_isTold 195 = .ok (.iadd, 1) := by decide +kernel
theorem dL_isTold_196 : decode cL_isTold 196 = .ok (.laload, 1) := by decide +kernel
theorem dL_isTold_197 : decode cL_isTold 197 = .ok (.aload 9, 2) := by decide +kernel
theorem dL_isTold_199 : decode cL_isTold 199 = .ok (.bipush 15, 2) := by decide +kernel
theorem dL_isTold_201 : decode cL_isTold 201 = .ok (.iload 14, 2) := by decide +kernel
theorem dL_isTold_203 : decode cL_isTold 203 = .ok (.iadd, 1) := by decide +kernel
theorem dL_isTold_204 : decode cL_isTold 204 = .ok (.laload, 1) := by decide +kernel
theorem dL_isTold_205 : decode cL_isTold 205 = .ok (.lsub, 1) := by decide +kernel
theorem dL_isTold_206 : decode cL_isTold 206 = .ok (.ladd, 1) := by decide +kernel
theorem dL_isTold_207 : decode cL_isTold 207 = .ok (.lastore, 1) := by decide +kernel
theorem dL_isTold_208 : decode cL_isTold 208 = .ok (.aload_n 0, 1) := by decide +kernel
theorem dL_isTold_209 : decode cL_isTold 209 = .ok (.iload 13, 2) := by decide +kernel
theorem dL_isTold_211 : decode cL_isTold 211 = .ok (.iload 14, 2) := by decide +kernel
theorem dL_isTold_213 : decode cL_isTold 213 = .ok (.invokevirtual 45, 3) := by decide +kernel
theorem dL_isTold_216 : decode cL_isTold 216 = .ok (.aload 9, 2) := by decide +kernel
theorem dL_isTold_218 : decode cL_isTold 218 = .ok (.iload 14, 2) := by decide +kernel
theorem dL_isTold_220 : decode cL_isTold 220 = .ok (.laload, 1) := by decide +kernel
theorem dL_isTold_221 : decode cL_isTold 221 = .ok (.lconst 1, 1) := by decide +kernel
theorem dL_isTold_222 : decode cL_isTold 222 = .ok (.lcmp, 1) := by decide +kernel
theorem dL_isTold_223 : decode cL_isTold 223 = .ok (.ifCond .ne 7, 3) := by decide +kernel
theorem dL_isTold_226 : decode cL_isTold 226 = .ok (.iconst 1, 1) := by decide +kernel
theorem dL_isTold_227 : decode cL_isTold 227 = .ok (.goto 4, 3) := by decide +kernel
theorem dL_isTold_230 : decode cL_isTold 230 = .ok (.iconst 0, 1) := by decide +kernel
theorem dL_isTold_231 : decode cL_isTold 231 = .ok (.if_icmp .ne 107, 3) := by decide +kernel
theorem dL_isTold_234 : decode cL_isTold 234 = .ok (.aload_n 0, 1) := by decide +kernel
theorem dL_isTold_235 : decode cL_isTold 235 = .ok (.iload 13, 2) := by decide +kernel
theorem dL_isTold_237 : decode cL_isTold 237 = .ok (.iload 14, 2) := by decide +kernel
theorem dL_isTold_239 : decode cL_isTold 239 = .ok (.invokevirtual 49, 3) := by decide +kernel
theorem dL_isTold_242 : decode cL_isTold 242 = .ok (.aload 9, 2) := by decide +kernel
theorem dL_isTold_244 : decode cL_isTold 244 = .ok (.iconst 5, 1) := by decide +kernel
theorem dL_isTold_245 : decode cL_isTold 245 = .ok (.iload 14, 2) := by decide +kernel
theorem dL_isTold_247 : decode cL_isTold 247 = .ok (.iadd, 1) := by decide +kernel
theorem dL_isTold_248 : decode cL_isTold 248 = .ok (.laload, 1) := by decide +kernel
theorem dL_isTold_249 : decode cL_isTold 249 = .ok (.lcmp, 1) := by decide +kernel
theorem dL_isTold_250 : decode cL_isTold 250 = .ok (.ifCond .ne 88, 3) := by decide +kernel
theorem dL_isTold_253 : decode cL_isTold 253 = .ok (.aload_n 0, 1) := by decide +kernel
theorem dL_isTold_254 : decode cL_isTold 254 = .ok (.iload 13, 2) := by decide +kernel
theorem dL_isTold_256 : decode cL_isTold 256 = .ok (.iload 14, 2) := by decide +kernel
theorem dL_isTold_258 : decode cL_isTold 258 = .ok (.invokevirtual 53, 3) := by decide +kernel
theorem dL_isTold_261 : decode cL_isTold 261 = .ok (.i2l, 1) := by decide +kernel
theorem dL_isTold_262 : decode cL_isTold 262 = .ok (.aload 9, 2) := by decide +kernel
theorem dL_isTold_264 : decode cL_isTold 264 = .ok (.bipush 10, 2) := by decide +kernel
theorem dL_isTold_266 : decode cL_isTold 266 = .ok (.iload 14, 2) := by decide +kernel
theorem dL_isTold_268 : decode cL_isTold 268 = .ok (.iadd, 1) := by decide +kernel
theorem dL_isTold_269 : decode cL_isTold 269 = .ok (.laload, 1) := by decide +kernel
theorem dL_isTold_270 : decode cL_isTold 270 = .ok (.lcmp, 1) := by decide +kernel
theorem dL_isTold_271 : decode cL_isTold 271 = .ok (.ifCond .ne 67, 3) := by decide +kernel
theorem dL_isTold_274 : decode cL_isTold 274 = .ok (.aload_n 0, 1) := by decide +kernel
theorem dL_isTold_275 : decode cL_isTold 275 = .ok (.iload 13, 2) := by decide +kernel
theorem dL_isTold_277 : decode cL_isTold 277 = .ok (.iload 14, 2) := by decide +kernel
theorem dL_isTold_279 : decode cL_isTold 279 = .ok (.invokevirtual 57, 3) := by decide +kernel
theorem dL_isTold_282 : decode cL_isTold 282 = .ok (.i2l, 1) := by decide +kernel
theorem dL_isTold_283 : decode cL_isTold 283 = .ok (.aload 9, 2) := by decide +kernel
theorem dL_isTold_285 : decode cL_isTold 285 = .ok (.bipush 15, 2) := by decide +kernel
theorem dL_isTold_287 : decode cL_isTold 287 = .ok (.iload 14, 2) := by decide +kernel
theorem dL_isTold_289 : decode cL_isTold 289 = .ok (.iadd, 1) := by decide +kernel
theorem dL_isTold_290 : decode cL_isTold 290 = .ok (.laload, 1) := by decide +kernel
theorem dL_isTold_291 : decode cL_isTold 291 = .ok (.lcmp, 1) := by decide +kernel
theorem dL_isTold_292 : decode cL_isTold 292 = .ok (.ifCond .ne 46, 3) := by decide +kernel
theorem dL_isTold_295 : decode cL_isTold 295 = .ok (.aload_n 0, 1) := by decide +kernel
theorem dL_isTold_296 : decode cL_isTold 296 = .ok (.iload 13, 2) := by decide +kernel
theorem dL_isTold_298 : decode cL_isTold 298 = .ok (.iload 14, 2) := by decide +kernel
theorem dL_isTold_300 : decode cL_isTold 300 = .ok (.invokevirtual 60, 3) := by decide +kernel
theorem dL_isTold_303 : decode cL_isTold 303 = .ok (.i2l, 1) := by decide +kernel
theorem dL_isTold_304 : decode cL_isTold 304 = .ok (.aload 9, 2) := by decide +kernel
theorem dL_isTold_306 : decode cL_isTold 306 = .ok (.bipush 20, 2) := by decide +kernel
theorem dL_isTold_308 : decode cL_isTold 308 = .ok (.iload 14, 2) := by decide +kernel
theorem dL_isTold_310 : decode cL_isTold 310 = .ok (.iadd, 1) := by decide +kernel
theorem dL_isTold_311 : decode cL_isTold 311 = .ok (.laload, 1) := by decide +kernel
theorem dL_isTold_312 : decode cL_isTold 312 = .ok (.lcmp, 1) := by decide +kernel
theorem dL_isTold_313 : decode cL_isTold 313 = .ok (.ifCond .ne 25, 3) := by decide +kernel
theorem dL_isTold_316 : decode cL_isTold 316 = .ok (.aload_n 0, 1) := by decide +kernel
theorem dL_isTold_317 : decode cL_isTold 317 = .ok (.iload 13, 2) := by decide +kernel
theorem dL_isTold_319 : decode cL_isTold 319 = .ok (.iload 14, 2) := by decide +kernel
theorem dL_isTold_321 : decode cL_isTold 321 = .ok (.invokevirtual 63, 3) := by decide +kernel
theorem dL_isTold_324 : decode cL_isTold 324 = .ok (.i2l, 1) := by decide +kernel
theorem dL_isTold_325 : decode cL_isTold 325 = .ok (.aload 10, 2) := by decide +kernel
theorem dL_isTold_327 : decode cL_isTold 327 = .ok (.iload 14, 2) := by decide +kernel
theorem dL_isTold_329 : decode cL_isTold 329 = .ok (.laload, 1) := by decide +kernel
theorem dL_isTold_330 : decode cL_isTold 330 = .ok (.lcmp, 1) := by decide +kernel
theorem dL_isTold_331 : decode cL_isTold 331 = .ok (.ifCond .ne 7, 3) := by decide +kernel
theorem dL_isTold_334 : decode cL_isTold 334 = .ok (.iconst 1, 1) := by decide +kernel
theorem dL_isTold_335 : decode cL_isTold 335 = .ok (.goto 4, 3) := by decide +kernel
theorem dL_isTold_338 : decode cL_isTold 338 = .ok (.iconst 0, 1) := by decide +kernel
theorem dL_isTold_339 : decode cL_isTold 339 = .ok (.istore 12, 2) := by decide +kernel
theorem dL_isTold_341 : decode cL_isTold 341 = .ok (.iinc 14 1, 3) := by decide +kernel
theorem dL_isTold_344 : decode cL_isTold 344 = .ok (.goto (-172), 3) := by decide +kernel
theorem dL_isTold_347 : decode cL_isTold 347 = .ok (.iinc 13 1, 3) := by decide +kernel
theorem dL_isTold_350 : decode cL_isTold 350 = .ok (.goto (-223), 3) := by decide +kernel
theorem dL_isTold_353 : decode cL_isTold 353 = .ok (.iconst 0, 1) := by decide +kernel
theorem dL_isTold_354 : decode cL_isTold 354 = .ok (.istore 13, 2) := by decide +kernel
theorem dL_isTold_356 : decode cL_isTold 356 = .ok (.iload 13, 2) := by decide +kernel
theorem dL_isTold_358 : decode cL_isTold 358 = .ok (.iconst 5, 1) := by decide +kernel
theorem dL_isTold_359 : decode cL_isTold 359 = .ok (.if_icmp .ge 146, 3) := by decide +kernel
theorem dL_isTold_362 : decode cL_isTold 362 = .ok (.iload 12, 2) := by decide +kernel
theorem dL_isTold_364 : decode cL_isTold 364 = .ok (.ifCond .eq 141, 3) := by decide +kernel
theorem dL_isTold_367 : decode cL_isTold 367 = .ok (.iconst 0, 1) := by decide +kernel
theorem dL_isTold_368 : decode cL_isTold 368 = .ok (.istore 14, 2) := by decide +kernel
theorem dL_isTold_370 : decode cL_isTold 370 = .ok (.iconst 0, 1) := by decide +kernel
theorem dL_isTold_371 : decode cL_isTold 371 = .ok (.istore 15, 2) := by decide +kernel
theorem dL_isTold_373 : decode cL_isTold 373 = .ok (.iload 15, 2) := by decide +kernel
theorem dL_isTold_375 : decode cL_isTold 375 = .ok (.aload 8, 2) := by decide +kernel
theorem dL_isTold_377 : decode cL_isTold 377 = .ok (.iconst 2, 1) := by decide +kernel
theorem dL_isTold_378 : decode cL_isTold 378 = .ok (.iaload, 1) := by decide +kernel
theorem dL_isTold_379 : decode cL_isTold 379 = .ok (.if_icmp .ge 57, 3) := by decide +kernel
theorem dL_isTold_382 : decode cL_isTold 382 = .ok (.iload 12, 2) := by decide +kernel
theorem dL_isTold_384 : decode cL_isTold 384 = .ok (.ifCond .eq 52, 3) := by decide +kernel
theorem dL_isTold_387 : decode cL_isTold 387 = .ok (.iload 14, 2) := by decide +kernel
theorem dL_isTold_389 : decode cL_isTold 389 = .ok (.aload 6, 2) := by decide +kernel
theorem dL_isTold_391 : decode cL_isTold 391 = .ok (.iconst 5, 1) := by decide +kernel
theorem dL_isTold_392 : decode cL_isTold 392 = .ok (.iload 15, 2) := by decide +kernel
theorem dL_isTold_394 : decode cL_isTold 394 = .ok (.imul, 1) := by decide +kernel
theorem dL_isTold_395 : decode cL_isTold 395 = .ok (.iload 13, 2) := by decide +kernel
theorem dL_isTold_397 : decode cL_isTold 397 = .ok (.iadd, 1) := by decide +kernel
theorem dL_isTold_398 : decode cL_isTold 398 = .ok (.iaload, 1) := by decide +kernel
theorem dL_isTold_399 : decode cL_isTold 399 = .ok (.iadd, 1) := by decide +kernel
theorem dL_isTold_400 : decode cL_isTold 400 = .ok (.istore 14, 2) := by decide +kernel
theorem dL_isTold_402 : decode cL_isTold 402 = .ok (.aload_n 0, 1) := by decide +kernel
theorem dL_isTold_403 : decode cL_isTold 403 = .ok (.iload 15, 2) := by decide +kernel
theorem dL_isTold_405 : decode cL_isTold 405 = .ok (.iload 13, 2) := by decide +kernel
theorem dL_isTold_407 : decode cL_isTold 407 = .ok (.invokevirtual 66, 3) := by decide +kernel
theorem dL_isTold_410 : decode cL_isTold 410 = .ok (.aload 5, 2) := by decide +kernel
theorem dL_isTold_412 : decode cL_isTold 412 = .ok (.iconst 5, 1) := by decide +kernel
theorem dL_isTold_413 : decode cL_isTold 413 = .ok (.iload 15, 2) := by decide +kernel
theorem dL_isTold_415 : decode cL_isTold 415 = .ok (.imul, 1) := by decide +kernel
theorem dL_isTold_416 : decode cL_isTold 416 = .ok (.iload 13, 2) := by decide +kernel
theorem dL_isTold_418 : decode cL_isTold 418 = .ok (.iadd, 1) := by decide +kernel
theorem dL_isTold_419 : decode cL_isTold 419 = .ok (.iaload, 1) := by decide +kernel
theorem dL_isTold_420 : decode cL_isTold 420 = .ok (.if_icmp .ne 7, 3) := by decide +kernel
theorem dL_isTold_423 : decode cL_isTold 423 = .ok (.iconst 1, 1) := by decide +kernel
theorem dL_isTold_424 : decode cL_isTold 424 = .ok (.goto 4, 3) := by decide +kernel
theorem dL_isTold_427 : decode cL_isTold 427 = .ok (.iconst 0, 1) := by decide +kernel
theorem dL_isTold_428 : decode cL_isTold 428 = .ok (.istore 12, 2) := by decide +kernel
theorem dL_isTold_430 : decode cL_isTold 430 = .ok (.iinc 15 1, 3) := by decide +kernel
theorem dL_isTold_433 : decode cL_isTold 433 = .ok (.goto (-60), 3) := by decide +kernel
theorem dL_isTold_436 : decode cL_isTold 436 = .ok (.iload 12, 2) := by decide +kernel
theorem dL_isTold_438 : decode cL_isTold 438 = .ok (.ifCond .eq 58, 3) := by decide +kernel
theorem dL_isTold_441 : decode cL_isTold 441 = .ok (.aload_n 0, 1) := by decide +kernel
theorem dL_isTold_442 : decode cL_isTold 442 = .ok (.iload 13, 2) := by decide +kernel
theorem dL_isTold_444 : decode cL_isTold 444 = .ok (.invokevirtual 69, 3) := by decide +kernel
theorem dL_isTold_447 : decode cL_isTold 447 = .ok (.iload 14, 2) := by decide +kernel
theorem dL_isTold_449 : decode cL_isTold 449 = .ok (.if_icmp .ne 47, 3) := by decide +kernel
theorem dL_isTold_452 : decode cL_isTold 452 = .ok (.aload_n 0, 1) := by decide +kernel
theorem dL_isTold_453 : decode cL_isTold 453 = .ok (.iload 13, 2) := by decide +kernel
theorem dL_isTold_455 : decode cL_isTold 455 = .ok (.invokevirtual 72, 3) := by decide +kernel
theorem dL_isTold_458 : decode cL_isTold 458 = .ok (.aload 7, 2) := by decide +kernel
theorem dL_isTold_460 : decode cL_isTold 460 = .ok (.iload 13, 2) := by decide +kernel
theorem dL_isTold_462 : decode cL_isTold 462 = .ok (.iaload, 1) := by decide +kernel
theorem dL_isTold_463 : decode cL_isTold 463 = .ok (.if_icmp .ne 33, 3) := by decide +kernel
theorem dL_isTold_466 : decode cL_isTold 466 = .ok (.aload_n 0, 1) := by decide +kernel
theorem dL_isTold_467 : decode cL_isTold 467 = .ok (.iload 13, 2) := by decide +kernel
theorem dL_isTold_469 : decode cL_isTold 469 = .ok (.invokevirtual 75, 3) := by decide +kernel
theorem dL_isTold_472 : decode cL_isTold 472 = .ok (.aload 11, 2) := by decide +kernel
theorem dL_isTold_474 : decode cL_isTold 474 = .ok (.iload 13, 2) := by decide +kernel
theorem dL_isTold_476 : decode cL_isTold 476 = .ok (.laload, 1) := by decide +kernel
theorem dL_isTold_477 : decode cL_isTold 477 = .ok (.iload 14, 2) := by decide +kernel
theorem dL_isTold_479 : decode cL_isTold 479 = .ok (.i2l, 1) := by decide +kernel
theorem dL_isTold_480 : decode cL_isTold 480 = .ok (.ladd, 1) := by decide +kernel
theorem dL_isTold_481 : decode cL_isTold 481 = .ok (.aload 7, 2) := by decide +kernel
theorem dL_isTold_483 : decode cL_isTold 483 = .ok (.iload 13, 2) := by decide +kernel
theorem dL_isTold_485 : decode cL_isTold 485 = .ok (.iaload, 1) := by decide +kernel
theorem dL_isTold_486 : decode cL_isTold 486 = .ok (.i2l, 1) := by decide +kernel
theorem dL_isTold_487 : decode cL_isTold 487 = .ok (.lsub, 1) := by decide +kernel
theorem dL_isTold_488 : decode cL_isTold 488 = .ok (.lcmp, 1) := by decide +kernel
theorem dL_isTold_489 : decode cL_isTold 489 = .ok (.ifCond .ne 7, 3) := by decide +kernel
theorem dL_isTold_492 : decode cL_isTold 492 = .ok (.iconst 1, 1) := by decide +kernel
theorem dL_isTold_493 : decode cL_isTold 493 = .ok (.goto 4, 3) := by decide +kernel
theorem dL_isTold_496 : decode cL_isTold 496 = .ok (.iconst 0, 1) := by decide +kernel
theorem dL_isTold_497 : decode cL_isTold 497 = .ok (.istore 12, 2) := by decide +kernel
theorem dL_isTold_499 : decode cL_isTold 499 = .ok (.iinc 13 1, 3) := by decide +kernel
theorem dL_isTold_502 : decode cL_isTold 502 = .ok (.goto (-146), 3) := by decide +kernel
theorem dL_isTold_505 : decode cL_isTold 505 = .ok (.iload 12, 2) := by decide +kernel
theorem dL_isTold_507 : decode cL_isTold 507 = .ok (.ireturn, 1) := by decide +kernel
set_option maxRecDepth 20000 in
theorem ggL_elected_X3_elect : GoodIn wsL_elected wsX3_elect := goodIn_ca (goodIn_ca (goodIn_r _ [6, 7, 8, 9, 10, 11, 12, 13, 14, 15, 16, 5, 17, 18, 19, 20, 21, 22, 23, 24, 25, 26, 27, 28, 29, 30, 31, 32, 33, 34, 35, 36, 37, 38, 39, 40, 41, 42, 43, 44, 45, 46, 47, 48, 49, 50, 51, 52, 53, 54, 55] (by decide +kernel) (by decide +kernel)) (goodIn_sub (fun _ h => List.mem_cons_of_mem _ (List.mem_append_left _ (List.mem_append_right _ h))) (by decide +kernel))) (goodIn_sub (fun _ h => List.mem_cons_of_mem _ (List.mem_append_right _ h)) (by decide +kernel))
set_option maxRecDepth 20000 in
theorem gL_elected_X3_elect : GoodIn wsL_elected (wsV RL 79 RX3 yX3_elect wsX3_elect) := goodIn_app (goodIn_of _ (by decide +kernel)) ggL_elected_X3_elect
theorem dL_elected_0 : decode cL_elected 0 = .ok (.aload_n 0, 1) := by decide +kernel
theorem dL_elected_1 : decode cL_elected 1 = .ok (.iload_n 1, 1) := by decide +kernel
theorem dL_elected_2 : decode cL_elected 2 = .ok (.iload_n 2, 1) := by decide +kernel
theorem dL_elected_3 : decode cL_elected 3 = .ok (.iload_n 3, 1) := by decide +kernel
theorem dL_elected_4 : decode cL_elected 4 = .ok (.invokevirtual 79, 3) := by decide +kernel
theorem dL_elected_7 : decode cL_elected 7 = .ok (.ifCond .eq 7, 3) := by decide +kernel
theorem dL_elected_10 : decode cL_elected 10 = .ok (.iconst 1, 1) := by decide +kernel
theorem dL_elected_11 : decode cL_elected 11 = .ok (.goto 4, 3) := by decide +kernel
theorem dL_elected_14 : decode cL_elected 14 = .ok (.iconst 0, 1) := by decide +kernel
theorem dL_elected_15 : decode cL_elected 15 = .ok (.ireturn, 1) := by decide +kernel
theorem dL_elected_16 : decode cL_elected 16 = .ok (.astore 4, 2) := by decide +kernel
theorem dL_elected_18 : decode cL_elected 18 = .ok (.bipush (-2), 2) := by decide +kernel
theorem dL_elected_20 : decode cL_elected 20 = .ok (.ireturn, 1) := by decide +kernel
set_option maxRecDepth 20000 in
theorem ggL_entered_X3_overhead : GoodIn wsL_entered wsX3_overhead := goodIn_ca (goodIn_ca (goodIn_ca (goodIn_r _ [6, 7, 8, 9, 10, 11, 12, 5, 13, 14, 15, 16, 17, 18, 19, 20, 21, 22, 23, 24, 25, 26, 27, 28, 29, 30, 31, 32, 33, 34, 35, 36, 37, 38, 39, 40, 41, 42, 43, 44, 45, 46, 47, 48, 49, 50, 51, 52, 53, 54, 55, 56, 57, 58, 59, 60, 61, 62, 63, 64, 65, 66, 67, 68, 69, 70, 71, 72, 73, 74, 75, 76, 77, 78, 79, 80, 81, 82, 83, 84, 85, 86, 87, 88, 89, 90, 91, 92, 93, 94, 95, 96, 97, 98, 99, 100, 101, 102, 103, 104, 105, 106, 107, 108, 109, 110, 111, 112, 113, 114, 115, 116, 117, 118, 119, 120, 121, 122, 123, 124, 125, 126, 127, 128, 129, 130, 131, 132, 133, 134, 135, 136, 137, 138] (by decide +kernel) (by decide +kernel)) (goodIn_sub (fun _ h => List.mem_cons_of_mem _ (List.mem_append_left _ (List.mem_append_left _ (List.mem_append_right _ h)))) (by decide +kernel))) (goodIn_sub (fun _ h => List.mem_cons_of_mem _ (List.mem_append_left _ (List.mem_append_right _ h))) (by decide +kernel))) (goodIn_sub (fun _ h => List.mem_cons_of_mem _ (List.mem_append_right _ h)) (by decide +kernel))
set_option maxRecDepth 20000 in
theorem gL_entered_X3_overhead : GoodIn wsL_entered (wsV RL 85 RX3 yX3_overhead wsX3_overhead) := goodIn_app (goodIn_of _ (by decide +kernel)) ggL_entered_X3_overhead
theorem dL_entered_0 : decode cL_entered 0 = .ok (.aload_n 0, 1) := by decide +kernel
theorem dL_entered_1 : decode cL_entered 1 = .ok (.iload_n 1, 1) := by decide +kernel
theorem dL_entered_2 : decode cL_entered 2 = .ok (.iload_n 2, 1) := by decide +kernel
theorem dL_entered_3 : decode cL_entered 3 = .ok (.invokevirtual 85, 3) := by decide +kernel
theorem dL_entered_6 : decode cL_entered 6 = .ok (.ireturn, 1) := by decide +kernel
theorem dL_entered_7 : decode cL_entered 7 = .ok (.astore_n 3, 1) := by decide +kernel
theorem dL_entered_8 : decode cL_entered 8 = .ok (.bipush (-2), 2) := by decide +kernel
theorem dL_entered_10 : decode cL_entered 10 = .ok (.ireturn, 1) := by decide +kernel
set_option maxRecDepth 20000 in
theorem ggL_moved_X3_move : GoodIn wsL_moved wsX3_move := goodIn_ca (goodIn_ca (goodIn_r _ [6, 7, 8, 9, 10, 11, 12, 13, 14, 15, 5, 16, 17, 18, 19, 20, 21, 22, 23, 24, 25, 26, 27, 28, 29, 30, 31, 32, 33, 34, 35, 36, 37, 38, 39, 40, 41, 42, 43, 44, 45, 46, 47, 48, 49, 50, 51, 52, 53, 54, 55, 56, 57, 58, 59, 60, 61, 62, 63, 64, 65, 66, 67, 68, 69, 70, 71, 72, 73, 74, 75, 76, 77, 78, 79, 80, 81, 82, 83, 84, 85, 86, 87, 88, 89, 90, 91, 92, 93, 94, 95, 96, 97, 98, 99, 100, 101, 102, 103, 104, 105, 106, 107, 108, 109, 110, 111, 112, 113, 114, 115, 116, 117, 118, 119, 120, 121, 122, 123, 124, 125, 126, 127, 128, 129, 130, 131, 132, 133, 134, 135, 136, 137, 138, 139, 140, 141, 142] (by decide +kernel) (by decide +kernel)) (goodIn_sub (fun _ h => List.mem_cons_of_mem _ (List.mem_append_left _ (List.mem_append_right _ h))) (by decide +kernel))) (goodIn_sub (fun _ h => List.mem_cons_of_mem _ (List.mem_append_right _ h)) (by decide +kernel))
set_option maxRecDepth 20000 in
theorem gL_moved_X3_move : GoodIn wsL_moved (wsV RL 88 RX3 yX3_move wsX3_move) := goodIn_app (goodIn_of _ (by decide +kernel)) ggL_moved_X3_move
theorem dL_moved_0 : decode cL_moved 0 = .ok (.aload_n 0, 1) := by decide +kernel
theorem dL_moved_1 : decode cL_moved 1 = .ok (.iload_n 1, 1) := by decide +kernel
theorem dL_moved_2 : decode cL_moved 2 = .ok (.iload_n 2, 1) := by decide +kernel
theorem dL_moved_3 : decode cL_moved 3 = .ok (.invokevirtual 88, 3) := by decide +kernel
theorem dL_moved_6 : decode cL_moved 6 = .ok (.ireturn, 1) := by decide +kernel
theorem dL_moved_7 : decode cL_moved 7 = .ok (.astore_n 3, 1) := by decide +kernel
theorem dL_moved_8 : decode cL_moved 8 = .ok (.bipush (-2), 2) := by decide +kernel
theorem dL_moved_10 : decode cL_moved 10 = .ok (.ireturn, 1) := by decide +kernel
set_option maxRecDepth 20000 in
theorem ggL_paid_X3_pay : GoodIn wsL_paid wsX3_pay := goodIn_ca (goodIn_ca (goodIn_r _ [6, 7, 8, 9, 10, 11, 12, 13, 14, 5, 15, 16, 17, 18, 19, 20, 21, 22, 23, 24, 25, 26, 27, 28, 29, 30, 31, 32, 33, 34, 35, 36, 37, 38, 39] (by decide +kernel) (by decide +kernel)) (goodIn_sub (fun _ h => List.mem_cons_of_mem _ (List.mem_append_left _ (List.mem_append_right _ h))) (by decide +kernel))) (goodIn_sub (fun _ h => List.mem_cons_of_mem _ (List.mem_append_right _ h)) (by decide +kernel))
set_option maxRecDepth 20000 in
theorem gL_paid_X3_pay : GoodIn wsL_paid (wsV RL 91 RX3 yX3_pay wsX3_pay) := goodIn_app (goodIn_of _ (by decide +kernel)) ggL_paid_X3_pay
theorem dL_paid_0 : decode cL_paid 0 = .ok (.aload_n 0, 1) := by decide +kernel
theorem dL_paid_1 : decode cL_paid 1 = .ok (.iload_n 1, 1) := by decide +kernel
theorem dL_paid_2 : decode cL_paid 2 = .ok (.iload_n 2, 1) := by decide +kernel
theorem dL_paid_3 : decode cL_paid 3 = .ok (.invokevirtual 91, 3) := by decide +kernel
theorem dL_paid_6 : decode cL_paid 6 = .ok (.ireturn, 1) := by decide +kernel
theorem dL_paid_7 : decode cL_paid 7 = .ok (.astore_n 3, 1) := by decide +kernel
theorem dL_paid_8 : decode cL_paid 8 = .ok (.bipush (-2), 2) := by decide +kernel
theorem dL_paid_10 : decode cL_paid 10 = .ok (.ireturn, 1) := by decide +kernel
set_option maxRecDepth 20000 in
theorem ggL_shared_X3_shareOut : GoodIn wsL_shared wsX3_shareOut := goodIn_ca (goodIn_ca (goodIn_r _ [6, 7, 8, 9, 10, 11, 12, 5, 13, 14, 15, 16, 17, 18, 19, 20, 21, 22, 23, 24, 25, 26, 27, 28, 29, 30, 31, 32, 33, 34, 35, 36, 37, 38, 39, 40, 41, 42, 43, 44, 45, 46, 47, 48, 49, 50, 51, 52, 53, 54, 55, 56, 57, 58, 59, 60, 61, 62, 63, 64, 65, 66, 67, 68, 69, 70] (by decide +kernel) (by decide +kernel)) (goodIn_sub (fun _ h => List.mem_cons_of_mem _ (List.mem_append_left _ (List.mem_append_right _ h))) (by decide +kernel))) (goodIn_sub (fun _ h => List.mem_cons_of_mem _ (List.mem_append_right _ h)) (by decide +kernel))
set_option maxRecDepth 20000 in
theorem gL_shared_X3_shareOut : GoodIn wsL_shared (wsV RL 94 RX3 yX3_shareOut wsX3_shareOut) := goodIn_app (goodIn_of _ (by decide +kernel)) ggL_shared_X3_shareOut
theorem dL_shared_0 : decode cL_shared 0 = .ok (.aload_n 0, 1) := by decide +kernel
theorem dL_shared_1 : decode cL_shared 1 = .ok (.iload_n 1, 1) := by decide +kernel
theorem dL_shared_2 : decode cL_shared 2 = .ok (.invokevirtual 94, 3) := by decide +kernel
theorem dL_shared_5 : decode cL_shared 5 = .ok (.ireturn, 1) := by decide +kernel
theorem dL_shared_6 : decode cL_shared 6 = .ok (.astore_n 2, 1) := by decide +kernel
theorem dL_shared_7 : decode cL_shared 7 = .ok (.bipush (-2), 2) := by decide +kernel
theorem dL_shared_9 : decode cL_shared 9 = .ok (.ireturn, 1) := by decide +kernel
set_option maxRecDepth 20000 in
theorem ggL_isCash_L_weigh : GoodIn wsL_isCash wsL_weigh := goodIn_r _ [5, 1, 6, 7, 8, 4, 9, 10, 11, 12, 13, 14, 15, 16, 17] (by decide +kernel) (by decide +kernel)
set_option maxRecDepth 20000 in
theorem gL_isCash_L_weigh : GoodIn wsL_isCash (va_wsS RL 42 yL_weigh wsL_weigh) := goodIn_app (goodIn_of _ (by decide +kernel)) ggL_isCash_L_weigh
set_option maxRecDepth 20000 in
theorem ggL_isCash_L_divide : GoodIn wsL_isCash wsL_divide := goodIn_r _ [17] (by decide +kernel) (by decide +kernel)
set_option maxRecDepth 20000 in
theorem gL_isCash_L_divide : GoodIn wsL_isCash (va_wsS RL 9 yL_divide wsL_divide) := goodIn_app (goodIn_of _ (by decide +kernel)) ggL_isCash_L_divide
set_option maxRecDepth 20000 in
theorem ggL_isCash_X3_call : GoodIn wsL_isCash wsX3_call := goodIn_ca (goodIn_ca (goodIn_ca (goodIn_r _ [22, 23, 24, 25, 26, 27, 28, 29, 30, 31, 32, 33, 34, 21, 35, 36, 37, 38, 39, 40, 41, 42, 43, 44, 45, 46, 47, 48, 49, 50, 51, 52, 53, 54, 55, 56, 57, 58, 59, 60, 61, 62, 63, 64, 65, 66, 67, 68, 69, 70, 71, 72, 73, 74, 75, 76, 77, 78, 79, 120, 121, 122, 123, 124, 125, 126, 127, 128, 129, 130, 131, 132, 133, 134, 135, 136, 137, 138, 139, 140, 141, 142, 143, 144, 145] (by decide +kernel) (by decide +kernel)) (goodIn_sub (fun _ h => List.mem_cons_of_mem _ (List.mem_append_left _ (List.mem_append_left _ (List.mem_append_right _ h)))) (by decide +kernel))) (goodIn_sub (fun _ h => List.mem_cons_of_mem _ (List.mem_append_left _ (List.mem_append_right _ h))) (by decide +kernel))) (goodIn_sub (fun _ h => List.mem_cons_of_mem _ (List.mem_append_right _ h)) (by decide +kernel))
set_option maxRecDepth 20000 in
theorem gL_isCash_X3_call : GoodIn wsL_isCash (wsV RL 97 RX3 yX3_call wsX3_call) := goodIn_app (goodIn_of _ (by decide +kernel)) ggL_isCash_X3_call
set_option maxRecDepth 20000 in
theorem ggL_isCash_L_paid : GoodIn wsL_isCash wsL_paid := goodIn_ca (goodIn_ca (goodIn_r _ [82, 83, 84, 85, 86, 21, 87, 23, 24, 30, 31, 88, 89, 90, 91, 92, 36, 37, 26, 93, 94, 95, 96, 120, 121, 122, 123, 124, 125, 126, 127, 128, 129, 130, 131, 132, 133, 134, 135, 136] (by decide +kernel) (by decide +kernel)) (goodIn_sub (fun _ h => List.mem_cons_of_mem _ (List.mem_append_left _ (List.mem_append_left _ (List.mem_append_right _ h)))) (by decide +kernel))) (goodIn_sub (fun _ h => List.mem_cons_of_mem _ (List.mem_append_left _ (List.mem_append_right _ h))) (by decide +kernel))
set_option maxRecDepth 20000 in
theorem gL_isCash_L_paid : GoodIn wsL_isCash (va_wsS RL 100 yL_paid wsL_paid) := goodIn_app (goodIn_of _ (by decide +kernel)) ggL_isCash_L_paid
set_option maxRecDepth 20000 in
theorem ggL_isCash_L_shared : GoodIn wsL_isCash wsL_shared := goodIn_ca (goodIn_ca (goodIn_r _ [99, 83, 100, 101, 102, 21, 103, 23, 24, 30, 89, 90, 91, 92, 36, 37, 26, 104, 105, 106, 107, 108, 109, 110, 111, 112, 113, 114, 115, 116, 117, 118, 51, 88, 31, 28, 29, 119, 53, 54, 55, 56, 57, 58, 59, 60, 61, 62, 63, 64, 65, 66, 67, 120, 121, 122, 123, 124, 125, 126, 127, 128, 129, 130, 131, 132, 133, 134, 135, 136, 145] (by decide +kernel) (by decide +kernel)) (goodIn_sub (fun _ h => List.mem_cons_of_mem _ (List.mem_append_left _ (List.mem_append_left _ (List.mem_append_right _ h)))) (by decide +kernel))) (goodIn_sub (fun _ h => List.mem_cons_of_mem _ (List.mem_append_left _ (List.mem_append_right _ h))) (by decide +kernel))
set_option maxRecDepth 20000 in
theorem gL_isCash_L_shared : GoodIn wsL_isCash (va_wsS RL 103 yL_shared wsL_shared) := goodIn_app (goodIn_of _ (by decide +kernel)) ggL_isCash_L_shared
theorem dL_isCash_0 : decode cL_isCash 0 = .ok (.iload 9, 2) := by decide +kernel
theorem dL_isCash_2 : decode cL_isCash 2 = .ok (.ifCond .ne 149, 3) := by decide +kernel
theorem dL_isCash_5 : decode cL_isCash 5 = .ok (.aload 8, 2) := by decide +kernel
theorem dL_isCash_7 : decode cL_isCash 7 = .ok (.iconst 2, 1) := by decide +kernel
theorem dL_isCash_8 : decode cL_isCash 8 = .ok (.iaload, 1) := by decide +kernel
theorem dL_isCash_9 : decode cL_isCash 9 = .ok (.bipush 6, 2) := by decide +kernel
theorem dL_isCash_11 : decode cL_isCash 11 = .ok (.if_icmp .ge 140, 3) := by decide +kernel
theorem dL_isCash_14 : decode cL_isCash 14 = .ok (.iconst 5, 1) := by decide +kernel
theorem dL_isCash_15 : decode cL_isCash 15 = .ok (.newarray .long, 2) := by decide +kernel
theorem dL_isCash_17 : decode cL_isCash 17 = .ok (.astore 11, 2) := by decide +kernel
theorem dL_isCash_19 : decode cL_isCash 19 = .ok (.iconst 5, 1) := by decide +kernel
theorem dL_isCash_20 : decode cL_isCash 20 = .ok (.newarray .long, 2) := by decide +kernel
theorem dL_isCash_22 : decode cL_isCash 22 = .ok (.astore 12, 2) := by decide +kernel
theorem dL_isCash_24 : decode cL_isCash 24 = .ok (.aload_n 1, 1) := by decide +kernel
theorem dL_isCash_25 : decode cL_isCash 25 = .ok (.aload_n 2, 1) := by decide +kernel
theorem dL_isCash_26 : decode cL_isCash 26 = .ok (.aload_n 3, 1) := by decide +kernel
theorem dL_isCash_27 : decode cL_isCash 27 = .ok (.aload 4, 2) := by decide +kernel
theorem dL_isCash_29 : decode cL_isCash 29 = .ok (.aload 8, 2) := by decide +kernel
theorem dL_isCash_31 : decode cL_isCash 31 = .ok (.aload 11, 2) := by decide +kernel
theorem dL_isCash_33 : decode cL_isCash 33 = .ok (.iload 10, 2) := by decide +kernel
theorem dL_isCash_35 : decode cL_isCash 35 = .ok (.aload 8, 2) := by decide +kernel
theorem dL_isCash_37 : decode cL_isCash 37 = .ok (.iconst 0, 1) := by decide +kernel
theorem dL_isCash_38 : decode cL_isCash 38 = .ok (.iaload, 1) := by decide +kernel
theorem dL_isCash_39 : decode cL_isCash 39 = .ok (.irem, 1) := by decide +kernel
theorem dL_isCash_40 : decode cL_isCash 40 = .ok (.invokestatic 42, 3) := by decide +kernel
theorem dL_isCash_43 : decode cL_isCash 43 = .ok (.iconst 1, 1) := by decide +kernel
theorem dL_isCash_44 : decode cL_isCash 44 = .ok (.iload 10, 2) := by decide +kernel
theorem dL_isCash_46 : decode cL_isCash 46 = .ok (.iconst 4, 1) := by decide +kernel
theorem dL_isCash_47 : decode cL_isCash 47 = .ok (.idiv, 1) := by decide +kernel
theorem dL_isCash_48 : decode cL_isCash 48 = .ok (.sipush 5000, 3) := by decide +kernel
theorem dL_isCash_51 : decode cL_isCash 51 = .ok (.irem, 1) := by decide +kernel
theorem dL_isCash_52 : decode cL_isCash 52 = .ok (.iadd, 1) := by decide +kernel
theorem dL_isCash_53 : decode cL_isCash 53 = .ok (.i2l, 1) := by decide +kernel
theorem dL_isCash_54 : decode cL_isCash 54 = .ok (.aload 11, 2) := by decide +kernel
theorem dL_isCash_56 : decode cL_isCash 56 = .ok (.aload 12, 2) := by decide +kernel
theorem dL_isCash_58 : decode cL_isCash 58 = .ok (.invokestatic 9, 3) := by decide +kernel
theorem dL_isCash_61 : decode cL_isCash 61 = .ok (.iconst 0, 1) := by decide +kernel
theorem dL_isCash_62 : decode cL_isCash 62 = .ok (.istore 13, 2) := by decide +kernel
theorem dL_isCash_64 : decode cL_isCash 64 = .ok (.iload 13, 2) := by decide +kernel
theorem dL_isCash_66 : decode cL_isCash 66 = .ok (.iconst 5, 1) := by decide +kernel
theorem dL_isCash_67 : decode cL_isCash 67 = .ok (.if_icmp .ge 40, 3) := by decide +kernel
theorem dL_isCash_70 : decode cL_isCash 70 = .ok (.aload 5, 2) := by decide +kernel
theorem dL_isCash_72 : decode cL_isCash 72 = .ok (.iconst 5, 1) := by decide +kernel
theorem dL_isCash_73 : decode cL_isCash 73 = .ok (.aload 8, 2) := by decide +kernel
theorem dL_isCash_75 : decode cL_isCash 75 = .ok (.iconst 2, 1) := by decide +kernel
theorem dL_isCash_76 : decode cL_isCash 76 = .ok (.iaload, 1) := by decide +kernel
theorem dL_isCash_77 : decode cL_isCash 77 = .ok (.imul, 1) := by decide +kernel
theorem dL_isCash_78 : decode cL_isCash 78 = .ok (.iload 13, 2) := by decide +kernel
theorem dL_isCash_80 : decode cL_isCash 80 = .ok (.iadd, 1) := by decide +kernel
theorem dL_isCash_81 : decode cL_isCash 81 = .ok (.aload 12, 2) := by decide +kernel
theorem dL_isCash_83 : decode cL_isCash 83 = .ok (.iload 13, 2) := by decide +kernel
theorem dL_isCash_85 : decode cL_isCash 85 = .ok (.laload, 1) := by decide +kernel
theorem dL_isCash_86 : decode cL_isCash 86 = .ok (.l2i, 1) := by decide +kernel
theorem dL_isCash_87 : decode cL_isCash 87 = .ok (.iastore, 1) := by decide +kernel
theorem dL_isCash_88 : decode cL_isCash 88 = .ok (.aload 6, 2) := by decide +kernel
theorem dL_isCash_90 : decode cL_isCash 90 = .ok (.iconst 5, 1) := by decide +kernel
theorem dL_isCash_91 : decode cL_isCash 91 = .ok (.aload 8, 2) := by decide +kernel
theorem dL_isCash_93 : decode cL_isCash 93 = .ok (.iconst 2, 1) := by decide +kernel
theorem dL_isCash_94 : decode cL_isCash 94 = .ok (.iaload, 1) := by decide +kernel
theorem dL_isCash_95 : decode cL_isCash 95 = .ok (.imul, 1) := by decide +kernel
theorem dL_isCash_96 : decode cL_isCash 96 = .ok (.iload 13, 2) := by decide +kernel
theorem dL_isCash_98 : decode cL_isCash 98 = .ok (.iadd, 1) := by decide +kernel
theorem dL_isCash_99 : decode cL_isCash 99 = .ok (.iconst 0, 1) := by decide +kernel
theorem dL_isCash_100 : decode cL_isCash 100 = .ok (.iastore, 1) := by decide +kernel
theorem dL_isCash_101 : decode cL_isCash 101 = .ok (.iinc 13 1, 3) := by decide +kernel
theorem dL_isCash_104 : decode cL_isCash 104 = .ok (.goto (-40), 3) := by decide +kernel
theorem dL_isCash_107 : decode cL_isCash 107 = .ok (.aload 8, 2) := by decide +kernel
theorem dL_isCash_109 : decode cL_isCash 109 = .ok (.iconst 2, 1) := by decide +kernel
theorem dL_isCash_110 : decode cL_isCash 110 = .ok (.dup2, 1) := by decide +kernel
theorem dL_isCash_111 : decode cL_isCash 111 = .ok (.iaload, 1) := by decide +kernel
theorem dL_isCash_112 : decode cL_isCash 112 = .ok (.iconst 1, 1) := by decide +kernel
theorem dL_isCash_113 : decode cL_isCash 113 = .ok (.iadd, 1) := by decide +kernel
theorem dL_isCash_114 : decode cL_isCash 114 = .ok (.iastore, 1) := by decide +kernel
theorem dL_isCash_115 : decode cL_isCash 115 = .ok (.aload_n 0, 1) := by decide +kernel
theorem dL_isCash_116 : decode cL_isCash 116 = .ok (.iload 10, 2) := by decide +kernel
theorem dL_isCash_118 : decode cL_isCash 118 = .ok (.aload 8, 2) := by decide +kernel
theorem dL_isCash_120 : decode cL_isCash 120 = .ok (.iconst 0, 1) := by decide +kernel
theorem dL_isCash_121 : decode cL_isCash 121 = .ok (.iaload, 1) := by decide +kernel
theorem dL_isCash_122 : decode cL_isCash 122 = .ok (.irem, 1) := by decide +kernel
theorem dL_isCash_123 : decode cL_isCash 123 = .ok (.iconst 1, 1) := by decide +kernel
theorem dL_isCash_124 : decode cL_isCash 124 = .ok (.iload 10, 2) := by decide +kernel
theorem dL_isCash_126 : decode cL_isCash 126 = .ok (.iconst 4, 1) := by decide +kernel
theorem dL_isCash_127 : decode cL_isCash 127 = .ok (.idiv, 1) := by decide +kernel
theorem dL_isCash_128 : decode cL_isCash 128 = .ok (.sipush 5000, 3) := by decide +kernel
theorem dL_isCash_131 : decode cL_isCash 131 = .ok (.irem, 1) := by decide +kernel
theorem dL_isCash_132 : decode cL_isCash 132 = .ok (.iadd, 1) := by decide +kernel
theorem dL_isCash_133 : decode cL_isCash 133 = .ok (.invokevirtual 97, 3) := by decide +kernel
theorem dL_isCash_136 : decode cL_isCash 136 = .ok (.aload 8, 2) := by decide +kernel
theorem dL_isCash_138 : decode cL_isCash 138 = .ok (.iconst 2, 1) := by decide +kernel
theorem dL_isCash_139 : decode cL_isCash 139 = .ok (.iaload, 1) := by decide +kernel
theorem dL_isCash_140 : decode cL_isCash 140 = .ok (.iconst 1, 1) := by decide +kernel
theorem dL_isCash_141 : decode cL_isCash 141 = .ok (.isub, 1) := by decide +kernel
theorem dL_isCash_142 : decode cL_isCash 142 = .ok (.if_icmp .ne 7, 3) := by decide +kernel
theorem dL_isCash_145 : decode cL_isCash 145 = .ok (.iconst 1, 1) := by decide +kernel
theorem dL_isCash_146 : decode cL_isCash 146 = .ok (.goto 4, 3) := by decide +kernel
theorem dL_isCash_149 : decode cL_isCash 149 = .ok (.iconst 0, 1) := by decide +kernel
theorem dL_isCash_150 : decode cL_isCash 150 = .ok (.ireturn, 1) := by decide +kernel
theorem dL_isCash_151 : decode cL_isCash 151 = .ok (.aload 8, 2) := by decide +kernel
theorem dL_isCash_153 : decode cL_isCash 153 = .ok (.iconst 2, 1) := by decide +kernel
theorem dL_isCash_154 : decode cL_isCash 154 = .ok (.iaload, 1) := by decide +kernel
theorem dL_isCash_155 : decode cL_isCash 155 = .ok (.ifCond .ne 5, 3) := by decide +kernel
theorem dL_isCash_158 : decode cL_isCash 158 = .ok (.iconst 1, 1) := by decide +kernel
theorem dL_isCash_159 : decode cL_isCash 159 = .ok (.ireturn, 1) := by decide +kernel
theorem dL_isCash_160 : decode cL_isCash 160 = .ok (.iload 10, 2) := by decide +kernel
theorem dL_isCash_162 : decode cL_isCash 162 = .ok (.aload 8, 2) := by decide +kernel
theorem dL_isCash_164 : decode cL_isCash 164 = .ok (.iconst 2, 1) := by decide +kernel
theorem dL_isCash_165 : decode cL_isCash 165 = .ok (.iaload, 1) := by decide +kernel
theorem dL_isCash_166 : decode cL_isCash 166 = .ok (.irem, 1) := by decide +kernel
theorem dL_isCash_167 : decode cL_isCash 167 = .ok (.istore 11, 2) := by decide +kernel
theorem dL_isCash_169 : decode cL_isCash 169 = .ok (.iload 9, 2) := by decide +kernel
theorem dL_isCash_171 : decode cL_isCash 171 = .ok (.iconst 4, 1) := by decide +kernel
theorem dL_isCash_172 : decode cL_isCash 172 = .ok (.if_icmp .ge 74, 3) := by decide +kernel
theorem dL_isCash_175 : decode cL_isCash 175 = .ok (.iconst 5, 1) := by decide +kernel
theorem dL_isCash_176 : decode cL_isCash 176 = .ok (.iload 11, 2) := by decide +kernel
theorem dL_isCash_178 : decode cL_isCash 178 = .ok (.imul, 1) := by decide +kernel
theorem dL_isCash_179 : decode cL_isCash 179 = .ok (.iload 10, 2) := by decide +kernel
theorem dL_isCash_181 : decode cL_isCash 181 = .ok (.bipush 8, 2) := by decide +kernel
theorem dL_isCash_183 : decode cL_isCash 183 = .ok (.idiv, 1) := by decide +kernel
theorem dL_isCash_184 : decode cL_isCash 184 = .ok (.iconst 5, 1) := by decide +kernel
theorem dL_isCash_185 : decode cL_isCash 185 = .ok (.irem, 1) := by decide +kernel
theorem dL_isCash_186 : decode cL_isCash 186 = .ok (.iadd, 1) := by decide +kernel
theorem dL_isCash_187 : decode cL_isCash 187 = .ok (.istore 12, 2) := by decide +kernel
theorem dL_isCash_189 : decode cL_isCash 189 = .ok (.aload 5, 2) := by decide +kernel
theorem dL_isCash_191 : decode cL_isCash 191 = .ok (.iload 12, 2) := by decide +kernel
theorem dL_isCash_193 : decode cL_isCash 193 = .ok (.iaload, 1) := by decide +kernel
theorem dL_isCash_194 : decode cL_isCash 194 = .ok (.aload 6, 2) := by decide +kernel
theorem dL_isCash_196 : decode cL_isCash 196 = .ok (.iload 12, 2) := by decide +kernel
theorem dL_isCash_198 : decode cL_isCash 198 = .ok (.iaload, 1) := by decide +kernel
theorem dL_isCash_199 : decode cL_isCash 199 = .ok (.isub, 1) := by decide +kernel
theorem dL_isCash_200 : decode cL_isCash 200 = .ok (.istore 13, 2) := by decide +kernel
theorem dL_isCash_202 : decode cL_isCash 202 = .ok (.aload 6, 2) := by decide +kernel
theorem dL_isCash_204 : decode cL_isCash 204 = .ok (.iload 12, 2) := by decide +kernel
theorem dL_isCash_206 : decode cL_isCash 206 = .ok (.aload 5, 2) := by decide +kernel
theorem dL_isCash_208 : decode cL_isCash 208 = .ok (.iload 12, 2) := by decide +kernel
theorem dL_isCash_210 : decode cL_isCash 210 = .ok (.iaload, 1) := by decide +kernel
theorem dL_isCash_211 : decode cL_isCash 211 = .ok (.iastore, 1) := by decide +kernel
theorem dL_isCash_212 : decode cL_isCash 212 = .ok (.aload_n 0, 1) := by decide +kernel
theorem dL_isCash_213 : decode cL_isCash 213 = .ok (.iload 11, 2) := by decide +kernel
theorem dL_isCash_215 : decode cL_isCash 215 = .ok (.iload 10, 2) := by decide +kernel
theorem dL_isCash_217 : decode cL_isCash 217 = .ok (.bipush 8, 2) := by decide +kernel
theorem dL_isCash_219 : decode cL_isCash 219 = .ok (.idiv, 1) := by decide +kernel
theorem dL_isCash_220 : decode cL_isCash 220 = .ok (.iconst 5, 1) := by decide +kernel
theorem dL_isCash_221 : decode cL_isCash 221 = .ok (.irem, 1) := by decide +kernel
theorem dL_isCash_222 : decode cL_isCash 222 = .ok (.invokestatic 100, 3) := by decide +kernel
theorem dL_isCash_225 : decode cL_isCash 225 = .ok (.iload 13, 2) := by decide +kernel
theorem dL_isCash_227 : decode cL_isCash 227 = .ok (.ifCond .le 8, 3) := by decide +kernel
theorem dL_isCash_230 : decode cL_isCash 230 = .ok (.iload 13, 2) := by decide +kernel
theorem dL_isCash_232 : decode cL_isCash 232 = .ok (.goto 5, 3) := by decide +kernel
theorem dL_isCash_235 : decode cL_isCash 235 = .ok (.bipush (-2), 2) := by decide +kernel
theorem dL_isCash_237 : decode cL_isCash 237 = .ok (.if_icmp .ne 7, 3) := by decide +kernel
theorem dL_isCash_240 : decode cL_isCash 240 = .ok (.iconst 1, 1) := by decide +kernel
theorem dL_isCash_241 : decode cL_isCash 241 = .ok (.goto 4, 3) := by decide +kernel
theorem dL_isCash_244 : decode cL_isCash 244 = .ok (.iconst 0, 1) := by decide +kernel
theorem dL_isCash_245 : decode cL_isCash 245 = .ok (.ireturn, 1) := by decide +kernel
theorem dL_isCash_246 : decode cL_isCash 246 = .ok (.iconst 5, 1) := by decide +kernel
theorem dL_isCash_247 : decode cL_isCash 247 = .ok (.newarray .long, 2) := by decide +kernel
theorem dL_isCash_249 : decode cL_isCash 249 = .ok (.astore 12, 2) := by decide +kernel
theorem dL_isCash_251 : decode cL_isCash 251 = .ok (.iconst 5, 1) := by decide +kernel
theorem dL_isCash_252 : decode cL_isCash 252 = .ok (.newarray .long, 2) := by decide +kernel
theorem dL_isCash_254 : decode cL_isCash 254 = .ok (.astore 13, 2) := by decide +kernel
theorem dL_isCash_256 : decode cL_isCash 256 = .ok (.lconst 0, 1) := by decide +kernel
theorem dL_isCash_257 : decode cL_isCash 257 = .ok (.lstore 14, 2) := by decide +kernel
theorem dL_isCash_259 : decode cL_isCash 259 = .ok (.lconst 0, 1) := by decide +kernel
theorem dL_isCash_260 : decode cL_isCash 260 = .ok (.lstore 16, 2) := by decide +kernel
theorem dL_isCash_262 : decode cL_isCash 262 = .ok (.iconst 0, 1) := by decide +kernel
theorem dL_isCash_263 : decode cL_isCash 263 = .ok (.istore 18, 2) := by decide +kernel
theorem dL_isCash_265 : decode cL_isCash 265 = .ok (.iload 18, 2) := by decide +kernel
theorem dL_isCash_267 : decode cL_isCash 267 = .ok (.iconst 5, 1) := by decide +kernel
theorem dL_isCash_268 : decode cL_isCash 268 = .ok (.if_icmp .ge 82, 3) := by decide +kernel
theorem dL_isCash_271 : decode cL_isCash 271 = .ok (.aload 12, 2) := by decide +kernel
theorem dL_isCash_273 : decode cL_isCash 273 = .ok (.iload 18, 2) := by decide +kernel
theorem dL_isCash_275 : decode cL_isCash 275 = .ok (.aload 6, 2) := by decide +kernel
theorem dL_isCash_277 : decode cL_isCash 277 = .ok (.iconst 5, 1) := by decide +kernel
theorem dL_isCash_278 : decode cL_isCash 278 = .ok (.iload 11, 2) := by decide +kernel
theorem dL_isCash_280 : decode cL_isCash 280 = .ok (.imul, 1) := by decide +kernel
theorem dL_isCash_281 : decode cL_isCash 281 = .ok (.iload 18, 2) := by decide +kernel
theorem dL_isCash_283 : decode cL_isCash 283 = .ok (.iadd, 1) := by decide +kernel
theorem dL_isCash_284 : decode cL_isCash 284 = .ok (.iaload, 1) := by decide +kernel
theorem dL_isCash_285 : decode cL_isCash 285 = .ok (.ifCond .le 17, 3) := by decide +kernel
theorem dL_isCash_288 : decode cL_isCash 288 = .ok (.aload 5, 2) := by decide +kernel
theorem dL_isCash_290 : decode cL_isCash 290 = .ok (.iconst 5, 1) := by decide +kernel
theorem dL_isCash_291 : decode cL_isCash 291 = .ok (.iload 11, 2) := by decide +kernel
theorem dL_isCash_293 : decode cL_isCash 293 = .ok (.imul, 1) := by decide +kernel
theorem dL_isCash_294 : decode cL_isCash 294 = .ok (.iload 18, 2) := by decide +kernel
theorem dL_isCash_296 : decode cL_isCash 296 = .ok (.iadd, 1) := by decide +kernel
theorem dL_isCash_297 : decode cL_isCash 297 = .ok (.iaload, 1) := by decide +kernel
theorem dL_isCash_298 : decode cL_isCash 298 = .ok (.i2l, 1) := by decide +kernel
theorem dL_isCash_299 : decode cL_isCash 299 = .ok (.goto 4, 3) := by decide +kernel
theorem dL_isCash_302 : decode cL_isCash 302 = .ok (.lconst 0, 1) := by decide +kernel
theorem dL_isCash_303 : decode cL_isCash 303 = .ok (.lastore, 1) := by decide +kernel
theorem dL_isCash_304 : decode cL_isCash 304 = .ok (.lload 16, 2) := by decide +kernel
theorem dL_isCash_306 : decode cL_isCash 306 = .ok (.aload 12, 2) := by decide +kernel
theorem dL_isCash_308 : decode cL_isCash 308 = .ok (.iload 18, 2) := by decide +kernel
theorem dL_isCash_310 : decode cL_isCash 310 = .ok (.laload, 1) := by decide +kernel
theorem dL_isCash_311 : decode cL_isCash 311 = .ok (.ladd, 1) := by decide +kernel
theorem dL_isCash_312 : decode cL_isCash 312 = .ok (.lstore 16, 2) := by decide +kernel
theorem dL_isCash_314 : decode cL_isCash 314 = .ok (.lload 14, 2) := by decide +kernel
theorem dL_isCash_316 : decode cL_isCash 316 = .ok (.aload 12, 2) := by decide +kernel
theorem dL_isCash_318 : decode cL_isCash 318 = .ok (.iload 18, 2) := by decide +kernel
theorem dL_isCash_320 : decode cL_isCash 320 = .ok (.laload, 1) := by decide +kernel
theorem dL_isCash_321 : decode cL_isCash 321 = .ok (.lconst 0, 1) := by decide +kernel
theorem dL_isCash_322 : decode cL_isCash 322 = .ok (.lcmp, 1) := by decide +kernel
theorem dL_isCash_323 : decode cL_isCash 323 = .ok (.ifCond .le 7, 3) := by decide +kernel
theorem dL_isCash_326 : decode cL_isCash 326 = .ok (.lconst 0, 1) := by decide +kernel
theorem dL_isCash_327 : decode cL_isCash 327 = .ok (.goto 14, 3) := by decide +kernel
theorem dL_isCash_330 : decode cL_isCash 330 = .ok (.aload 5, 2) := by decide +kernel
theorem dL_isCash_332 : decode cL_isCash 332 = .ok (.iconst 5, 1) := by decide +kernel
theorem dL_isCash_333 : decode cL_isCash 333 = .ok (.iload 11, 2) := by decide +kernel
theorem dL_isCash_335 : decode cL_isCash 335 = .ok (.imul, 1) := by decide +kernel
theorem dL_isCash_336 : decode cL_isCash 336 = .ok (.iload 18, 2) := by decide +kernel
theorem dL_isCash_338 : decode cL_isCash 338 = .ok (.iadd, 1) := by decide +kernel
theorem dL_isCash_339 : decode cL_isCash 339 = .ok (.iaload, 1) := by decide +kernel
theorem dL_isCash_340 : decode cL_isCash 340 = .ok (.i2l, 1) := by decide +kernel
theorem dL_isCash_341 : decode cL_isCash 341 = .ok (.ladd, 1) := by decide +kernel
theorem dL_isCash_342 : decode cL_isCash 342 = .ok (.lstore 14, 2) := by decide +kernel
theorem dL_isCash_344 : decode cL_isCash 344 = .ok (.iinc 18 1, 3) := by decide +kernel
theorem dL_isCash_347 : decode cL_isCash 347 = .ok (.goto (-82), 3) := by decide +kernel
theorem dL_isCash_350 : decode cL_isCash 350 = .ok (.lload 16, 2) := by decide +kernel
theorem dL_isCash_352 : decode cL_isCash 352 = .ok (.lconst 0, 1) := by decide +kernel
theorem dL_isCash_353 : decode cL_isCash 353 = .ok (.lcmp, 1) := by decide +kernel
theorem dL_isCash_354 : decode cL_isCash 354 = .ok (.ifCond .le 14, 3) := by decide +kernel
theorem dL_isCash_357 : decode cL_isCash 357 = .ok (.lload 14, 2) := by decide +kernel
theorem dL_isCash_359 : decode cL_isCash 359 = .ok (.lconst 0, 1) := by decide +kernel
theorem dL_isCash_360 : decode cL_isCash 360 = .ok (.lcmp, 1) := by decide +kernel
theorem dL_isCash_361 : decode cL_isCash 361 = .ok (.ifCond .le 7, 3) := by decide +kernel
theorem dL_isCash_364 : decode cL_isCash 364 = .ok (.iconst 1, 1) := by decide +kernel
theorem dL_isCash_365 : decode cL_isCash 365 = .ok (.goto 4, 3) := by decide +kernel
theorem dL_isCash_368 : decode cL_isCash 368 = .ok (.iconst 0, 1) := by decide +kernel
theorem dL_isCash_369 : decode cL_isCash 369 = .ok (.istore 18, 2) := by decide +kernel
theorem dL_isCash_371 : decode cL_isCash 371 = .ok (.iload 18, 2) := by decide +kernel
theorem dL_isCash_373 : decode cL_isCash 373 = .ok (.ifCond .eq 12, 3) := by decide +kernel
theorem dL_isCash_376 : decode cL_isCash 376 = .ok (.lload 14, 2) := by decide +kernel
theorem dL_isCash_378 : decode cL_isCash 378 = .ok (.aload 12, 2) := by decide +kernel
theorem dL_isCash_380 : decode cL_isCash 380 = .ok (.aload 13, 2) := by decide +kernel
theorem dL_isCash_382 : decode cL_isCash 382 = .ok (.invokestatic 9, 3) := by decide +kernel
theorem dL_isCash_385 : decode cL_isCash 385 = .ok (.iconst 0, 1) := by decide +kernel
theorem dL_isCash_386 : decode cL_isCash 386 = .ok (.istore 19, 2) := by decide +kernel
theorem dL_isCash_388 : decode cL_isCash 388 = .ok (.iload 19, 2) := by decide +kernel
theorem dL_isCash_390 : decode cL_isCash 390 = .ok (.iconst 5, 1) := by decide +kernel
theorem dL_isCash_391 : decode cL_isCash 391 = .ok (.if_icmp .ge 94, 3) := by decide +kernel
theorem dL_isCash_394 : decode cL_isCash 394 = .ok (.iload 18, 2) := by decide +kernel
theorem dL_isCash_396 : decode cL_isCash 396 = .ok (.ifCond .eq 89, 3) := by decide +kernel
theorem dL_isCash_399 : decode cL_isCash 399 = .ok (.aload 12, 2) := by decide +kernel
theorem dL_isCash_401 : decode cL_isCash 401 = .ok (.iload 19, 2) := by decide +kernel
theorem dL_isCash_403 : decode cL_isCash 403 = .ok (.laload, 1) := by decide +kernel
theorem dL_isCash_404 : decode cL_isCash 404 = .ok (.lconst 0, 1) := by decide +kernel
theorem dL_isCash_405 : decode cL_isCash 405 = .ok (.lcmp, 1) := by decide +kernel
theorem dL_isCash_406 : decode cL_isCash 406 = .ok (.ifCond .le 7, 3) := by decide +kernel
theorem dL_isCash_409 : decode cL_isCash 409 = .ok (.iconst 1, 1) := by decide +kernel
theorem dL_isCash_410 : decode cL_isCash 410 = .ok (.goto 4, 3) := by decide +kernel
theorem dL_isCash_413 : decode cL_isCash 413 = .ok (.iconst 0, 1) := by decide +kernel
theorem dL_isCash_414 : decode cL_isCash 414 = .ok (.istore 20, 2) := by decide +kernel
theorem dL_isCash_416 : decode cL_isCash 416 = .ok (.aload 7, 2) := by decide +kernel
theorem dL_isCash_418 : decode cL_isCash 418 = .ok (.iload 19, 2) := by decide +kernel
theorem dL_isCash_420 : decode cL_isCash 420 = .ok (.dup2, 1) := by decide +kernel
theorem dL_isCash_421 : decode cL_isCash 421 = .ok (.iaload, 1) := by decide +kernel
theorem dL_isCash_422 : decode cL_isCash 422 = .ok (.iload 20, 2) := by decide +kernel
theorem dL_isCash_424 : decode cL_isCash 424 = .ok (.ifCond .eq 7, 3) := by decide +kernel
theorem dL_isCash_427 : decode cL_isCash 427 = .ok (.iconst 0, 1) := by decide +kernel
theorem dL_isCash_428 : decode cL_isCash 428 = .ok (.goto 13, 3) := by decide +kernel
theorem dL_isCash_431 : decode cL_isCash 431 = .ok (.aload 5, 2) := by decide +kernel
theorem dL_isCash_433 : decode cL_isCash 433 = .ok (.iconst 5, 1) := by decide +kernel
theorem dL_isCash_434 : decode cL_isCash 434 = .ok (.iload 11, 2) := by decide +kernel
theorem dL_isCash_436 : decode cL_isCash 436 = .ok (.imul, 1) := by decide +kernel
theorem dL_isCash_437 : decode cL_isCash 437 = .ok (.iload 19, 2) := by decide +kernel
theorem dL_isCash_439 : decode cL_isCash 439 = .ok (.iadd, 1) := by decide +kernel
theorem dL_isCash_440 : decode cL_isCash 440 = .ok (.iaload, 1) := by decide +kernel
theorem dL_isCash_441 : decode cL_isCash 441 = .ok (.iadd, 1) := by decide +kernel
theorem dL_isCash_442 : decode cL_isCash 442 = .ok (.iastore, 1) := by decide +kernel
theorem dL_isCash_443 : decode cL_isCash 443 = .ok (.aload 5, 2) := by decide +kernel
theorem dL_isCash_445 : decode cL_isCash 445 = .ok (.iconst 5, 1) := by decide +kernel
theorem dL_isCash_446 : decode cL_isCash 446 = .ok (.iload 11, 2) := by decide +kernel
theorem dL_isCash_448 : decode cL_isCash 448 = .ok (.imul, 1) := by decide +kernel
theorem dL_isCash_449 : decode cL_isCash 449 = .ok (.iload 19, 2) := by decide +kernel
theorem dL_isCash_451 : decode cL_isCash 451 = .ok (.iadd, 1) := by decide +kernel
theorem dL_isCash_452 : decode cL_isCash 452 = .ok (.iload 20, 2) := by decide +kernel
theorem dL_isCash_454 : decode cL_isCash 454 = .ok (.ifCond .eq 23, 3) := by decide +kernel
theorem dL_isCash_457 : decode cL_isCash 457 = .ok (.aload 5, 2) := by decide +kernel
theorem dL_isCash_459 : decode cL_isCash 459 = .ok (.iconst 5, 1) := by decide +kernel
theorem dL_isCash_460 : decode cL_isCash 460 = .ok (.iload 11, 2) := by decide +kernel
theorem dL_isCash_462 : decode cL_isCash 462 = .ok (.imul, 1) := by decide +kernel
theorem dL_isCash_463 : decode cL_isCash 463 = .ok (.iload 19, 2) := by decide +kernel
theorem dL_isCash_465 : decode cL_isCash 465 = .ok (.iadd, 1) := by decide +kernel
theorem dL_isCash_466 : decode cL_isCash 466 = .ok (.iaload, 1) := by decide +kernel
theorem dL_isCash_467 : decode cL_isCash 467 = .ok (.aload 13, 2) := by decide +kernel
theorem dL_isCash_469 : decode cL_isCash 469 = .ok (.iload 19, 2) := by decide +kernel
theorem dL_isCash_471 : decode cL_isCash 471 = .ok (.laload, 1) := by decide +kernel
theorem dL_isCash_472 : decode cL_isCash 472 = .ok (.l2i, 1) := by decide +kernel
theorem dL_isCash_473 : decode cL_isCash 473 = .ok (.iadd, 1) := by decide +kernel
theorem dL_isCash_474 : decode cL_isCash 474 = .ok (.goto 4, 3) := by decide +kernel
theorem dL_isCash_477 : decode cL_isCash 477 = .ok (.iconst 0, 1) := by decide +kernel
theorem dL_isCash_478 : decode cL_isCash 478 = .ok (.iastore, 1) := by decide +kernel
theorem dL_isCash_479 : decode cL_isCash 479 = .ok (.iinc 19 1, 3) := by decide +kernel
theorem dL_isCash_482 : decode cL_isCash 482 = .ok (.goto (-94), 3) := by decide +kernel
theorem dL_isCash_485 : decode cL_isCash 485 = .ok (.aload_n 0, 1) := by decide +kernel
theorem dL_isCash_486 : decode cL_isCash 486 = .ok (.iload 11, 2) := by decide +kernel
theorem dL_isCash_488 : decode cL_isCash 488 = .ok (.invokestatic 103, 3) := by decide +kernel
theorem dL_isCash_491 : decode cL_isCash 491 = .ok (.iload 18, 2) := by decide +kernel
theorem dL_isCash_493 : decode cL_isCash 493 = .ok (.ifCond .eq 9, 3) := by decide +kernel
theorem dL_isCash_496 : decode cL_isCash 496 = .ok (.lload 14, 2) := by decide +kernel
theorem dL_isCash_498 : decode cL_isCash 498 = .ok (.l2i, 1) := by decide +kernel
theorem dL_isCash_499 : decode cL_isCash 499 = .ok (.goto 5, 3) := by decide +kernel
theorem dL_isCash_502 : decode cL_isCash 502 = .ok (.bipush (-2), 2) := by decide +kernel
theorem dL_isCash_504 : decode cL_isCash 504 = .ok (.if_icmp .ne 7, 3) := by decide +kernel
theorem dL_isCash_507 : decode cL_isCash 507 = .ok (.iconst 1, 1) := by decide +kernel
theorem dL_isCash_508 : decode cL_isCash 508 = .ok (.goto 4, 3) := by decide +kernel
theorem dL_isCash_511 : decode cL_isCash 511 = .ok (.iconst 0, 1) := by decide +kernel
theorem dL_isCash_512 : decode cL_isCash 512 = .ok (.ireturn, 1) := by decide +kernel
set_option maxRecDepth 20000 in
theorem ggL_acts_X3_addWell : GoodIn wsL_acts wsX3_addWell := goodIn_ca (goodIn_r _ [5, 6, 7, 8, 9, 10, 11, 245, 246, 247, 248, 249, 250, 251, 252, 253, 254, 255, 256, 257, 258, 259, 260, 261, 262, 263, 264, 265, 266, 267] (by decide +kernel) (by decide +kernel)) (goodIn_sub (fun _ h => List.mem_cons_of_mem _ (List.mem_append_left _ (List.mem_append_left _ (List.mem_append_right _ h)))) (by decide +kernel))
set_option maxRecDepth 20000 in
theorem gL_acts_X3_addWell : GoodIn wsL_acts (wsV RL 107 RX3 yX3_addWell wsX3_addWell) := goodIn_app (goodIn_of _ (by decide +kernel)) ggL_acts_X3_addWell
set_option maxRecDepth 20000 in
theorem ggL_acts_X3_setPenalty : GoodIn wsL_acts wsX3_setPenalty := goodIn_ca (goodIn_r _ [15, 10, 16, 17, 18, 4, 19, 20, 21, 245, 246, 247, 248, 249, 250, 251, 252, 253, 254, 255, 256, 257, 258, 259] (by decide +kernel) (by decide +kernel)) (goodIn_sub (fun _ h => List.mem_cons_of_mem _ (List.mem_append_left _ (List.mem_append_right _ h))) (by decide +kernel))
set_option maxRecDepth 20000 in
theorem gL_acts_X3_setPenalty : GoodIn wsL_acts (wsV RL 110 RX3 yX3_setPenalty wsX3_setPenalty) := goodIn_app (goodIn_of _ (by decide +kernel)) ggL_acts_X3_setPenalty
set_option maxRecDepth 20000 in
theorem ggL_acts_X3_setOverhead : GoodIn wsL_acts wsX3_setOverhead := goodIn_ca (goodIn_r _ [25, 26, 27, 16, 17, 18, 4, 19, 20, 21, 245, 246, 247, 248, 249, 250, 251, 252, 253, 254, 255, 256, 257, 258, 259] (by decide +kernel) (by decide +kernel)) (goodIn_sub (fun _ h => List.mem_cons_of_mem _ (List.mem_append_left _ (List.mem_append_right _ h))) (by decide +kernel))
set_option maxRecDepth 20000 in
theorem gL_acts_X3_setOverhead : GoodIn wsL_acts (wsV RL 113 RX3 yX3_setOverhead wsX3_setOverhead) := goodIn_app (goodIn_of _ (by decide +kernel)) ggL_acts_X3_setOverhead
set_option maxRecDepth 20000 in
theorem ggL_acts_L_elected : GoodIn wsL_acts wsL_elected := goodIn_ca (goodIn_ca (goodIn_r _ [31, 32, 33, 34, 35, 4, 36, 6, 7, 9, 37, 38, 39, 40, 41, 42, 43, 44, 45, 46, 8, 47, 48, 49, 50, 51, 52, 53, 54, 55, 56, 57, 58, 245, 246, 247, 248, 249, 250, 251, 252, 253, 254, 255, 256, 257, 258, 259, 260, 261, 262, 263, 264, 265, 266, 267] (by decide +kernel) (by decide +kernel)) (goodIn_sub (fun _ h => List.mem_cons_of_mem _ (List.mem_append_left _ (List.mem_append_left _ (List.mem_append_right _ h)))) (by decide +kernel))) (goodIn_sub (fun _ h => List.mem_cons_of_mem _ (List.mem_append_right _ h)) (by decide +kernel))
set_option maxRecDepth 20000 in
theorem gL_acts_L_elected : GoodIn wsL_acts (va_wsS RL 116 yL_elected wsL_elected) := goodIn_app (goodIn_of _ (by decide +kernel)) ggL_acts_L_elected
set_option maxRecDepth 20000 in
theorem ggL_acts_L_entered : GoodIn wsL_acts wsL_entered := goodIn_ca (goodIn_ca (goodIn_ca (goodIn_r _ [61, 32, 62, 63, 64, 4, 65, 6, 7, 27, 41, 42, 43, 44, 45, 46, 8, 16, 17, 18, 19, 20, 21, 66, 67, 68, 69, 70, 71, 72, 73, 74, 75, 76, 9, 37, 77, 78, 79, 80, 81, 82, 83, 84, 85, 86, 40, 87, 88, 11, 89, 90, 91, 92, 93, 38, 94, 95, 96, 97, 98, 99, 100, 101, 102, 103, 104, 105, 106, 107, 108, 109, 110, 111, 112, 113, 55, 56, 57, 58, 114, 115, 116, 117, 118, 119, 120, 121, 122, 123, 124, 125, 126, 127, 128, 129, 130, 131, 132, 133, 134, 135, 136, 137, 138, 139, 140, 141, 142, 143, 144, 145, 146, 147, 148, 245, 246, 247, 248, 249, 250, 251, 252, 253, 254, 255, 256, 257, 258, 259, 260, 261, 262, 263, 264, 265, 266, 267, 268] (by decide +kernel) (by decide +kernel)) (goodIn_sub (fun _ h => List.mem_cons_of_mem _ (List.mem_append_left _ (List.mem_append_left _ (List.mem_append_right _ h)))) (by decide +kernel))) (goodIn_sub (fun _ h => List.mem_cons_of_mem _ (List.mem_append_right _ h)) (by decide +kernel))) (goodIn_sub (fun _ h => List.mem_cons_of_mem _ (List.mem_append_left _ (List.mem_append_right _ h))) (by decide +kernel))
set_option maxRecDepth 20000 in
theorem gL_acts_L_entered : GoodIn wsL_acts (va_wsS RL 120 yL_entered wsL_entered) := goodIn_app (goodIn_of _ (by decide +kernel)) ggL_acts_L_entered
set_option maxRecDepth 20000 in
theorem ggL_acts_X3_income : GoodIn wsL_acts wsX3_income := goodIn_ca (goodIn_ca (goodIn_ca (goodIn_r _ [152, 153, 41, 42, 43, 4, 44, 45, 46, 8, 16, 17, 18, 19, 20, 21, 66, 67, 68, 69, 6, 7, 70, 71, 72, 73, 74, 75, 76, 9, 37, 77, 78, 79, 80, 81, 82, 83, 84, 85, 86, 40, 87, 88, 11, 89, 90, 91, 92, 93, 38, 94, 95, 96, 97, 98, 99, 100, 101, 102, 103, 104, 105, 106, 107, 108, 109, 110, 111, 112, 113, 55, 56, 57, 58, 114, 115, 116, 117, 118, 119, 120, 121, 122, 123, 124, 125, 126, 127, 128, 129, 130, 131, 132, 133, 134, 135, 136, 137, 138, 139, 140, 141, 142, 143, 144, 145, 146, 147, 148, 245, 246, 247, 248, 249, 250, 251, 252, 253, 254, 255, 256, 257, 258, 259, 260, 261, 262, 263, 264, 265, 266, 267, 268] (by decide +kernel) (by decide +kernel)) (goodIn_sub (fun _ h => List.mem_cons_of_mem _ (List.mem_append_right _ h)) (by decide +kernel))) (goodIn_sub (fun _ h => List.mem_cons_of_mem _ (List.mem_append_left _ (List.mem_append_right _ h))) (by decide +kernel))) (goodIn_sub (fun _ h => List.mem_cons_of_mem _ (List.mem_append_left _ (List.mem_append_left _ (List.mem_append_right _ h)))) (by decide +kernel))
set_option maxRecDepth 20000 in
theorem gL_acts_X3_income : GoodIn wsL_acts (wsV RL 123 RX3 yX3_income wsX3_income) := goodIn_app (goodIn_of _ (by decide +kernel)) ggL_acts_X3_income
set_option maxRecDepth 20000 in
theorem ggL_acts_X3_cost : GoodIn wsL_acts wsX3_cost := goodIn_ca (goodIn_ca (goodIn_ca (goodIn_r _ [157, 153, 41, 42, 43, 4, 44, 45, 46, 8, 16, 17, 18, 19, 20, 21, 66, 67, 68, 69, 6, 7, 70, 71, 72, 73, 74, 75, 76, 9, 37, 77, 78, 79, 80, 81, 82, 83, 84, 85, 86, 40, 87, 88, 11, 89, 90, 91, 92, 93, 38, 94, 95, 96, 97, 98, 99, 100, 101, 102, 103, 104, 105, 106, 107, 108, 109, 110, 111, 112, 113, 55, 56, 57, 58, 114, 115, 116, 117, 118, 119, 120, 121, 122, 123, 124, 125, 126, 127, 128, 129, 130, 131, 132, 133, 134, 135, 136, 137, 138, 139, 140, 141, 142, 143, 144, 145, 146, 147, 148, 245, 246, 247, 248, 249, 250, 251, 252, 253, 254, 255, 256, 257, 258, 259, 260, 261, 262, 263, 264, 265, 266, 267, 268] (by decide +kernel) (by decide +kernel)) (goodIn_sub (fun _ h => List.mem_cons_of_mem _ (List.mem_append_right _ h)) (by decide +kernel))) (goodIn_sub (fun _ h => List.mem_cons_of_mem _ (List.mem_append_left _ (List.mem_append_right _ h))) (by decide +kernel))) (goodIn_sub (fun _ h => List.mem_cons_of_mem _ (List.mem_append_left _ (List.mem_append_left _ (List.mem_append_right _ h)))) (by decide +kernel))
set_option maxRecDepth 20000 in
theorem gL_acts_X3_cost : GoodIn wsL_acts (wsV RL 126 RX3 yX3_cost wsX3_cost) := goodIn_app (goodIn_of _ (by decide +kernel)) ggL_acts_X3_cost
set_option maxRecDepth 20000 in
theorem ggL_acts_L_moved : GoodIn wsL_acts wsL_moved := goodIn_ca (goodIn_ca (goodIn_r _ [160, 32, 161, 162, 163, 4, 164, 6, 7, 76, 75, 9, 37, 165, 166, 167, 168, 45, 46, 70, 41, 42, 43, 44, 8, 169, 170, 171, 172, 173, 174, 175, 132, 176, 135, 148, 177, 178, 134, 179, 180, 181, 104, 182, 183, 103, 105, 77, 78, 79, 80, 81, 82, 83, 84, 85, 86, 40, 87, 88, 11, 89, 90, 91, 92, 93, 38, 94, 95, 96, 97, 98, 99, 100, 101, 102, 106, 107, 108, 109, 110, 111, 112, 113, 55, 56, 57, 58, 114, 115, 116, 117, 118, 119, 120, 121, 122, 123, 124, 125, 126, 127, 128, 129, 130, 131, 133, 136, 137, 138, 139, 140, 141, 142, 143, 144, 145, 146, 147, 245, 246, 247, 248, 249, 250, 251, 252, 253, 254, 255, 256, 257, 258, 259, 260, 261, 262, 263, 264, 265, 266, 267, 268] (by decide +kernel) (by decide +kernel)) (goodIn_sub (fun _ h => List.mem_cons_of_mem _ (List.mem_append_left _ (List.mem_append_left _ (List.mem_append_right _ h)))) (by decide +kernel))) (goodIn_sub (fun _ h => List.mem_cons_of_mem _ (List.mem_append_right _ h)) (by decide +kernel))
set_option maxRecDepth 20000 in
theorem gL_acts_L_moved : GoodIn wsL_acts (va_wsS RL 129 yL_moved wsL_moved) := goodIn_app (goodIn_of _ (by decide +kernel)) ggL_acts_L_moved
def ggL_acts_L_isCash_h : Cond := Cond.code yL_isCash cL_isCash 21 (some .boolean)
set_option maxRecDepth 20000 in
theorem ggL_acts_L_isCash_h_p : wsL_acts[186]? = some ggL_acts_L_isCash_h := rfl
theorem ggL_acts_L_isCash_h_s : GoodIn wsL_acts [ggL_acts_L_isCash_h] := fun w h => by
  rw [List.mem_singleton.mp h]
  exact ⟨List.mem_of_getElem? ggL_acts_L_isCash_h_p, good_of_word rfl⟩
set_option maxRecDepth 20000 in
theorem ggL_acts_L_isCash_wsL_isCash_r1_0 : GoodIn wsL_acts [Cond.arrayClass .long, Cond.methodLink RL 42 yL_weigh, Cond.static yL_weigh, Cond.initialized RL, Cond.code yL_weigh cL_weigh 9 none, Cond.constantLong RL 27 (10000), Cond.methodLink RL 23 yL_account, Cond.static yL_account, Cond.code yL_account cL_account 8 none, Cond.constantLong RL 17 (-1), Cond.methodLink RL 19 yL_enter, Cond.static yL_enter] := goodIn_r _ [187, 188, 189, 30, 190, 191, 192, 193, 194, 195, 196, 197] (by decide +kernel) (by decide +kernel)
def ggL_acts_L_isCash_wsL_isCash_r1_1 : Cond := Cond.code yL_enter cL_enter 18 none
set_option maxRecDepth 20000 in
theorem ggL_acts_L_isCash_wsL_isCash_r1_1_p : wsL_acts[198]? = some ggL_acts_L_isCash_wsL_isCash_r1_1 := rfl
theorem ggL_acts_L_isCash_wsL_isCash_r1_1_s : GoodIn wsL_acts [ggL_acts_L_isCash_wsL_isCash_r1_1] := fun w h => by
  rw [List.mem_singleton.mp h]
  exact ⟨List.mem_of_getElem? ggL_acts_L_isCash_wsL_isCash_r1_1_p, good_of_word rfl⟩
set_option maxRecDepth 20000 in
theorem ggL_acts_L_isCash_wsL_isCash_r1_2 : GoodIn wsL_acts [Cond.constantLong RL 15 (100), Cond.methodLink RL 9 yL_divide, Cond.static yL_divide, Cond.code yL_divide cL_divide 13 none, Cond.methodLink RL 97 yX3_call, Cond.instanceMethod yX3_call, Cond.selects RX3 yX3_call yX3_call, Cond.initialized RX3, Cond.code yX3_call cX3_call 3 (some .int), Cond.classLink RX3 79 "java/lang/IllegalStateException", Cond.initialized "java/lang/IllegalStateException"] := goodIn_r _ [199, 200, 201, 202, 203, 204, 205, 4, 206, 6, 7] (by decide +kernel) (by decide +kernel)
theorem ggL_acts_L_isCash_wsL_isCash_r1_all : GoodIn wsL_acts wsL_isCash_r1 := (goodIn_app ggL_acts_L_isCash_wsL_isCash_r1_0 (goodIn_app ggL_acts_L_isCash_wsL_isCash_r1_1_s ggL_acts_L_isCash_wsL_isCash_r1_2))
set_option maxRecDepth 20000 in
theorem ggL_acts_L_isCash_wsL_isCash_r2_0 : GoodIn wsL_acts [Cond.constant RX3 118 (10000000), Cond.fieldLink RX3 44 "JointVenture" "cashCallCount" "I", Cond.fieldLink RX3 22 "JointVenture" "wells" "[LJointVenture$Well;", Cond.fieldLink RX3 53 "JointVenture" "division" "LJointVenture$Division;", Cond.fieldLink RX3 63 "JointVenture" "portions" "[I", Cond.fieldLink RX3 40 "JointVenture" "cashCalls" "[LJointVenture$CashCall;", Cond.fieldLink RX3 159 "JointVenture$CashCall" "asked" "[I", Cond.methodLink RX3 90 yX3_requireWell, Cond.instanceMethod yX3_requireWell, Cond.selects RX3 yX3_requireWell yX3_requireWell, Cond.code yX3_requireWell cX3_requireWell 2 none, Cond.classLink RX3 196 "java/lang/IndexOutOfBoundsException", Cond.initialized "java/lang/IndexOutOfBoundsException", Cond.fieldLink RX3 26 "JointVenture" "wellCount" "I", Cond.methodLink RX3 68 yX3_requireRange, Cond.instanceMethod yX3_requireRange, Cond.selects RX3 yX3_requireRange yX3_requireRange, Cond.code yX3_requireRange cX3_requireRange 4 none, Cond.classLink RX3 72 "java/lang/IllegalArgumentException", Cond.initialized "java/lang/IllegalArgumentException", Cond.methodLink RX3 153 yX3_divideCost, Cond.instanceMethod yX3_divideCost, Cond.selects RX3 yX3_divideCost yX3_divideCost, Cond.code yX3_divideCost cX3_divideCost 4 none] := goodIn_r _ [153, 207, 9, 93, 86, 208, 209, 41, 42, 43, 44, 45, 46, 8, 16, 17, 18, 19, 20, 21, 89, 90, 91, 92] (by decide +kernel) (by decide +kernel)
theorem ggL_acts_L_isCash_wsL_isCash_r2_all : GoodIn wsL_acts wsL_isCash_r2 := ggL_acts_L_isCash_wsL_isCash_r2_0
set_option maxRecDepth 20000 in
theorem ggL_acts_L_isCash_wsL_isCash_r3_0 : GoodIn wsL_acts [Cond.fieldLink RX3 9 "JointVenture" "shares" "[I", Cond.fieldLink RX3 57 "JointVenture" "ownParts" "[I", Cond.fieldLink RX3 60 "JointVenture" "weights" "[I", Cond.fieldLink RX3 115 "JointVenture$Well" "out" "[Z", Cond.methodLink RX3 162 yX1_divide, Cond.instanceMethod yX1_divide, Cond.selects RX1 yX1_divide yX1_divide, Cond.initialized RX1, Cond.code yX1_divide cX1_divide 10 none, Cond.fieldLink RX1 9 "JointVenture$Division" "remainders" "[J", Cond.constantLong RX1 25 (-1), Cond.methodLink RX1 15 yJ7_fill_53178, Cond.static yJ7_fill_53178, Cond.initialized RJ7, Cond.code yJ7_fill_53178 cJ7_fill_53178 4 none, Cond.methodLink RX1 21 yX1_firstWithGreatestRemainder, Cond.instanceMethod yX1_firstWithGreatestRemainder, Cond.selects RX1 yX1_firstWithGreatestRemainder yX1_firstWithGreatestRemainder, Cond.code yX1_firstWithGreatestRemainder cX1_firstWithGreatestRemainder 3 (some .int), Cond.methodLink RX3 232 yX3_weighThoseIn, Cond.instanceMethod yX3_weighThoseIn, Cond.selects RX3 yX3_weighThoseIn yX3_weighThoseIn, Cond.code yX3_weighThoseIn cX3_weighThoseIn 3 none, Cond.methodLink RX3 136 yX3_shareIfIn] := goodIn_r _ [38, 88, 94, 40, 95, 96, 97, 98, 99, 100, 101, 102, 103, 104, 105, 106, 107, 108, 109, 110, 111, 112, 113, 55] (by decide +kernel) (by decide +kernel)
theorem ggL_acts_L_isCash_wsL_isCash_r3_all : GoodIn wsL_acts wsL_isCash_r3 := ggL_acts_L_isCash_wsL_isCash_r3_0
set_option maxRecDepth 20000 in
theorem ggL_acts_L_isCash_wsL_isCash_r4_0 : GoodIn wsL_acts [Cond.instanceMethod yX3_shareIfIn, Cond.selects RX3 yX3_shareIfIn yX3_shareIfIn, Cond.code yX3_shareIfIn cX3_shareIfIn 3 (some .int), Cond.methodLink RX3 236 yX3_ownPartsOfThoseOut, Cond.instanceMethod yX3_ownPartsOfThoseOut, Cond.selects RX3 yX3_ownPartsOfThoseOut yX3_ownPartsOfThoseOut, Cond.code yX3_ownPartsOfThoseOut cX3_ownPartsOfThoseOut 4 (some .int), Cond.methodLink RL 100 yL_paid, Cond.static yL_paid, Cond.codeWith yL_paid cL_paid 4 (some .int) [(0, 6, 7, 83)], Cond.classLink RL 83 "java/lang/IllegalStateException", Cond.methodLink RL 91 yX3_pay, Cond.instanceMethod yX3_pay, Cond.selects RX3 yX3_pay yX3_pay, Cond.code yX3_pay cX3_pay 5 (some .int), Cond.fieldLink RX3 169 "JointVenture$CashCall" "paid" "[I", Cond.methodLink RX3 166 yX3_requireCashCall, Cond.instanceMethod yX3_requireCashCall, Cond.selects RX3 yX3_requireCashCall yX3_requireCashCall, Cond.code yX3_requireCashCall cX3_requireCashCall 2 none, Cond.methodLink RX3 94 yX3_requirePartner, Cond.instanceMethod yX3_requirePartner, Cond.selects RX3 yX3_requirePartner yX3_requirePartner, Cond.code yX3_requirePartner cX3_requirePartner 2 none] := goodIn_r _ [56, 57, 58, 114, 115, 116, 117, 210, 211, 212, 32, 213, 214, 215, 216, 217, 218, 219, 220, 221, 47, 48, 49, 50] (by decide +kernel) (by decide +kernel)
theorem ggL_acts_L_isCash_wsL_isCash_r4_all : GoodIn wsL_acts wsL_isCash_r4 := ggL_acts_L_isCash_wsL_isCash_r4_0
set_option maxRecDepth 20000 in
theorem ggL_acts_L_isCash_wsL_isCash_r5_0 : GoodIn wsL_acts [Cond.methodLink RL 103 yL_shared, Cond.static yL_shared, Cond.codeWith yL_shared cL_shared 3 (some .int) [(0, 5, 6, 83)], Cond.methodLink RL 94 yX3_shareOut, Cond.instanceMethod yX3_shareOut, Cond.selects RX3 yX3_shareOut yX3_shareOut, Cond.code yX3_shareOut cX3_shareOut 4 (some .int), Cond.methodLink RX3 174 yX0_hasPayer, Cond.instanceMethod yX0_hasPayer, Cond.selects RX0 yX0_hasPayer yX0_hasPayer, Cond.initialized RX0, Cond.code yX0_hasPayer cX0_hasPayer 2 (some .boolean), Cond.fieldLink RX0 15 "JointVenture$CashCall" "paid" "[I", Cond.methodLink RX3 180 yX0_askedOfNonPayers, Cond.instanceMethod yX0_askedOfNonPayers, Cond.selects RX0 yX0_askedOfNonPayers yX0_askedOfNonPayers, Cond.code yX0_askedOfNonPayers cX0_askedOfNonPayers 3 (some .int), Cond.fieldLink RX0 9 "JointVenture$CashCall" "asked" "[I", Cond.methodLink RX3 186 yX3_moveToPayers, Cond.instanceMethod yX3_moveToPayers, Cond.selects RX3 yX3_moveToPayers yX3_moveToPayers, Cond.code yX3_moveToPayers cX3_moveToPayers 4 none, Cond.fieldLink RX3 47 "JointVenture" "owed" "[I"] := goodIn_r _ [222, 223, 224, 225, 226, 227, 228, 229, 230, 231, 232, 233, 234, 235, 236, 237, 238, 239, 240, 241, 242, 243, 244] (by decide +kernel) (by decide +kernel)
theorem ggL_acts_L_isCash_wsL_isCash_r5_all : GoodIn wsL_acts wsL_isCash_r5 := ggL_acts_L_isCash_wsL_isCash_r5_0
set_option maxRecDepth 20000 in
theorem ggL_acts_L_isCash_wsX30 : GoodIn wsL_acts wsX30 := goodIn_r _ [245, 246, 247, 248, 249, 250, 251, 252, 253, 254, 255, 256, 257, 258, 259] (by decide +kernel) (by decide +kernel)
set_option maxRecDepth 20000 in
theorem ggL_acts_L_isCash_wsX00 : GoodIn wsL_acts wsX00 := goodIn_r _ [269, 270] (by decide +kernel) (by decide +kernel)
set_option maxRecDepth 20000 in
theorem ggL_acts_L_isCash_wsX20 : GoodIn wsL_acts wsX20 := goodIn_r _ [260, 261, 262, 263, 264, 265, 266, 267] (by decide +kernel) (by decide +kernel)
set_option maxRecDepth 20000 in
theorem ggL_acts_L_isCash_wsX10 : GoodIn wsL_acts wsX10 := goodIn_r _ [268] (by decide +kernel) (by decide +kernel)
set_option maxRecDepth 20000 in
theorem ggL_acts_L_isCash : GoodIn wsL_acts wsL_isCash := goodIn_ca (goodIn_ca (goodIn_ca (goodIn_cnsd ggL_acts_L_isCash_h_s (goodIn_app (goodIn_app (goodIn_app (goodIn_app (goodIn_app ggL_acts_L_isCash_wsL_isCash_r1_all (goodIn_app ggL_acts_L_isCash_wsL_isCash_r2_all (goodIn_app ggL_acts_L_isCash_wsL_isCash_r3_all (goodIn_app ggL_acts_L_isCash_wsL_isCash_r4_all ggL_acts_L_isCash_wsL_isCash_r5_all)))) ggL_acts_L_isCash_wsX30) ggL_acts_L_isCash_wsX00) ggL_acts_L_isCash_wsX20) ggL_acts_L_isCash_wsX10)) (goodIn_sub (fun _ h => List.mem_cons_of_mem _ (List.mem_append_left _ (List.mem_append_left _ (List.mem_append_right _ h)))) (by decide +kernel))) (goodIn_sub (fun _ h => List.mem_cons_of_mem _ (List.mem_append_right _ h)) (by decide +kernel))) (goodIn_sub (fun _ h => List.mem_cons_of_mem _ (List.mem_append_left _ (List.mem_append_right _ h))) (by decide +kernel))
set_option maxRecDepth 20000 in
theorem gL_acts_L_isCash : GoodIn wsL_acts (va_wsS RL 132 yL_isCash wsL_isCash) := goodIn_app (goodIn_of _ (by decide +kernel)) ggL_acts_L_isCash
