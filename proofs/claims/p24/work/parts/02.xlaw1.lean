theorem dL_law_0 : decode cL_law 0 = .ok (.new 9, 3) := by decide +kernel
theorem dL_law_3 : decode cL_law 3 = .ok (.dup, 1) := by decide +kernel
theorem dL_law_4 : decode cL_law 4 = .ok (.invokespecial 45, 3) := by decide +kernel
theorem dL_law_7 : decode cL_law 7 = .ok (.astore_n 1, 1) := by decide +kernel
theorem dL_law_8 : decode cL_law 8 = .ok (.bipush 10, 2) := by decide +kernel
theorem dL_law_10 : decode cL_law 10 = .ok (.newarray .int, 2) := by decide +kernel
theorem dL_law_12 : decode cL_law 12 = .ok (.astore_n 2, 1) := by decide +kernel
theorem dL_law_13 : decode cL_law 13 = .ok (.bipush 10, 2) := by decide +kernel
theorem dL_law_15 : decode cL_law 15 = .ok (.newarray .int, 2) := by decide +kernel
theorem dL_law_17 : decode cL_law 17 = .ok (.astore_n 3, 1) := by decide +kernel
theorem dL_law_18 : decode cL_law 18 = .ok (.bipush 10, 2) := by decide +kernel
theorem dL_law_20 : decode cL_law 20 = .ok (.newarray .int, 2) := by decide +kernel
theorem dL_law_22 : decode cL_law 22 = .ok (.astore 4, 2) := by decide +kernel
theorem dL_law_24 : decode cL_law 24 = .ok (.iconst 2, 1) := by decide +kernel
theorem dL_law_25 : decode cL_law 25 = .ok (.newarray .int, 2) := by decide +kernel
theorem dL_law_27 : decode cL_law 27 = .ok (.astore 5, 2) := by decide +kernel
theorem dL_law_29 : decode cL_law 29 = .ok (.iconst 0, 1) := by decide +kernel
theorem dL_law_30 : decode cL_law 30 = .ok (.istore 6, 2) := by decide +kernel
theorem dL_law_32 : decode cL_law 32 = .ok (.iconst 0, 1) := by decide +kernel
theorem dL_law_33 : decode cL_law 33 = .ok (.istore 7, 2) := by decide +kernel
theorem dL_law_35 : decode cL_law 35 = .ok (.iload 7, 2) := by decide +kernel
theorem dL_law_37 : decode cL_law 37 = .ok (.bipush 44, 2) := by decide +kernel
theorem dL_law_39 : decode cL_law 39 = .ok (.if_icmp .ge 560, 3) := by decide +kernel
theorem dL_law_42 : decode cL_law 42 = .ok (.aload_n 0, 1) := by decide +kernel
theorem dL_law_43 : decode cL_law 43 = .ok (.iconst 2, 1) := by decide +kernel
theorem dL_law_44 : decode cL_law 44 = .ok (.iload 7, 2) := by decide +kernel
theorem dL_law_46 : decode cL_law 46 = .ok (.imul, 1) := by decide +kernel
theorem dL_law_47 : decode cL_law 47 = .ok (.invokestatic 46, 3) := by decide +kernel
theorem dL_law_50 : decode cL_law 50 = .ok (.istore 8, 2) := by decide +kernel
theorem dL_law_52 : decode cL_law 52 = .ok (.aload_n 0, 1) := by decide +kernel
theorem dL_law_53 : decode cL_law 53 = .ok (.iconst 2, 1) := by decide +kernel
theorem dL_law_54 : decode cL_law 54 = .ok (.iload 7, 2) := by decide +kernel
theorem dL_law_56 : decode cL_law 56 = .ok (.imul, 1) := by decide +kernel
theorem dL_law_57 : decode cL_law 57 = .ok (.iconst 1, 1) := by decide +kernel
theorem dL_law_58 : decode cL_law 58 = .ok (.iadd, 1) := by decide +kernel
theorem dL_law_59 : decode cL_law 59 = .ok (.invokestatic 46, 3) := by decide +kernel
theorem dL_law_62 : decode cL_law 62 = .ok (.istore 9, 2) := by decide +kernel
theorem dL_law_64 : decode cL_law 64 = .ok (.iload 8, 2) := by decide +kernel
theorem dL_law_66 : decode cL_law 66 = .ok (.bipush 12, 2) := by decide +kernel
theorem dL_law_68 : decode cL_law 68 = .ok (.invokestatic 52, 3) := by decide +kernel
theorem dL_law_71 : decode cL_law 71 = .ok (.istore 10, 2) := by decide +kernel
theorem dL_law_73 : decode cL_law 73 = .ok (.iconst 1, 1) := by decide +kernel
theorem dL_law_74 : decode cL_law 74 = .ok (.istore 11, 2) := by decide +kernel
theorem dL_law_76 : decode cL_law 76 = .ok (.iload 6, 2) := by decide +kernel
theorem dL_law_78 : decode cL_law 78 = .ok (.iconst 2, 1) := by decide +kernel
theorem dL_law_79 : decode cL_law 79 = .ok (.if_icmp .lt 16, 3) := by decide +kernel
theorem dL_law_82 : decode cL_law 82 = .ok (.iload 10, 2) := by decide +kernel
theorem dL_law_84 : decode cL_law 84 = .ok (.iconst 3, 1) := by decide +kernel
theorem dL_law_85 : decode cL_law 85 = .ok (.if_icmp .ge 105, 3) := by decide +kernel
theorem dL_law_88 : decode cL_law 88 = .ok (.iload 6, 2) := by decide +kernel
theorem dL_law_90 : decode cL_law 90 = .ok (.bipush 10, 2) := by decide +kernel
theorem dL_law_92 : decode cL_law 92 = .ok (.if_icmp .ge 98, 3) := by decide +kernel
theorem dL_law_95 : decode cL_law 95 = .ok (.aload_n 2, 1) := by decide +kernel
theorem dL_law_96 : decode cL_law 96 = .ok (.iload 6, 2) := by decide +kernel
theorem dL_law_98 : decode cL_law 98 = .ok (.iconst 1, 1) := by decide +kernel
theorem dL_law_99 : decode cL_law 99 = .ok (.iload 9, 2) := by decide +kernel
theorem dL_law_101 : decode cL_law 101 = .ok (.bipush 10, 2) := by decide +kernel
theorem dL_law_103 : decode cL_law 103 = .ok (.ishr, 1) := by decide +kernel
theorem dL_law_104 : decode cL_law 104 = .ok (.iconst 5, 1) := by decide +kernel
theorem dL_law_105 : decode cL_law 105 = .ok (.invokestatic 52, 3) := by decide +kernel
theorem dL_law_108 : decode cL_law 108 = .ok (.iadd, 1) := by decide +kernel
theorem dL_law_109 : decode cL_law 109 = .ok (.iastore, 1) := by decide +kernel
theorem dL_law_110 : decode cL_law 110 = .ok (.aload_n 3, 1) := by decide +kernel
theorem dL_law_111 : decode cL_law 111 = .ok (.iload 6, 2) := by decide +kernel
theorem dL_law_113 : decode cL_law 113 = .ok (.iconst 1, 1) := by decide +kernel
theorem dL_law_114 : decode cL_law 114 = .ok (.iload 9, 2) := by decide +kernel
theorem dL_law_116 : decode cL_law 116 = .ok (.bipush 20, 2) := by decide +kernel
theorem dL_law_118 : decode cL_law 118 = .ok (.invokestatic 52, 3) := by decide +kernel
theorem dL_law_121 : decode cL_law 121 = .ok (.iadd, 1) := by decide +kernel
theorem dL_law_122 : decode cL_law 122 = .ok (.iastore, 1) := by decide +kernel
theorem dL_law_123 : decode cL_law 123 = .ok (.aload_n 1, 1) := by decide +kernel
theorem dL_law_124 : decode cL_law 124 = .ok (.iload 9, 2) := by decide +kernel
theorem dL_law_126 : decode cL_law 126 = .ok (.iconst 5, 1) := by decide +kernel
theorem dL_law_127 : decode cL_law 127 = .ok (.ishr, 1) := by decide +kernel
theorem dL_law_128 : decode cL_law 128 = .ok (.iconst 2, 1) := by decide +kernel
theorem dL_law_129 : decode cL_law 129 = .ok (.invokestatic 52, 3) := by decide +kernel
theorem dL_law_132 : decode cL_law 132 = .ok (.aload_n 3, 1) := by decide +kernel
theorem dL_law_133 : decode cL_law 133 = .ok (.iload 6, 2) := by decide +kernel
theorem dL_law_135 : decode cL_law 135 = .ok (.iaload, 1) := by decide +kernel
theorem dL_law_136 : decode cL_law 136 = .ok (.iload 6, 2) := by decide +kernel
theorem dL_law_138 : decode cL_law 138 = .ok (.iconst 2, 1) := by decide +kernel
theorem dL_law_139 : decode cL_law 139 = .ok (.irem, 1) := by decide +kernel
theorem dL_law_140 : decode cL_law 140 = .ok (.ifCond .ne 7, 3) := by decide +kernel
theorem dL_law_143 : decode cL_law 143 = .ok (.iconst 1, 1) := by decide +kernel
theorem dL_law_144 : decode cL_law 144 = .ok (.goto 4, 3) := by decide +kernel
theorem dL_law_147 : decode cL_law 147 = .ok (.iconst 0, 1) := by decide +kernel
theorem dL_law_148 : decode cL_law 148 = .ok (.sipush 300, 3) := by decide +kernel
theorem dL_law_151 : decode cL_law 151 = .ok (.bipush 7, 2) := by decide +kernel
theorem dL_law_153 : decode cL_law 153 = .ok (.iload 9, 2) := by decide +kernel
theorem dL_law_155 : decode cL_law 155 = .ok (.bipush 7, 2) := by decide +kernel
theorem dL_law_157 : decode cL_law 157 = .ok (.ishr, 1) := by decide +kernel
theorem dL_law_158 : decode cL_law 158 = .ok (.iconst 3, 1) := by decide +kernel
theorem dL_law_159 : decode cL_law 159 = .ok (.invokestatic 52, 3) := by decide +kernel
theorem dL_law_162 : decode cL_law 162 = .ok (.imul, 1) := by decide +kernel
theorem dL_law_163 : decode cL_law 163 = .ok (.bipush 30, 2) := by decide +kernel
theorem dL_law_165 : decode cL_law 165 = .ok (.aload_n 2, 1) := by decide +kernel
theorem dL_law_166 : decode cL_law 166 = .ok (.iload 6, 2) := by decide +kernel
theorem dL_law_168 : decode cL_law 168 = .ok (.iaload, 1) := by decide +kernel
theorem dL_law_169 : decode cL_law 169 = .ok (.invokevirtual 55, 3) := by decide +kernel
theorem dL_law_172 : decode cL_law 172 = .ok (.iload 6, 2) := by decide +kernel
theorem dL_law_174 : decode cL_law 174 = .ok (.if_icmp .ne 7, 3) := by decide +kernel
theorem dL_law_177 : decode cL_law 177 = .ok (.iconst 1, 1) := by decide +kernel
theorem dL_law_178 : decode cL_law 178 = .ok (.goto 4, 3) := by decide +kernel
theorem dL_law_181 : decode cL_law 181 = .ok (.iconst 0, 1) := by decide +kernel
theorem dL_law_182 : decode cL_law 182 = .ok (.istore 11, 2) := by decide +kernel
theorem dL_law_184 : decode cL_law 184 = .ok (.iinc 6 1, 3) := by decide +kernel
theorem dL_law_187 : decode cL_law 187 = .ok (.goto 368, 3) := by decide +kernel
theorem dL_law_190 : decode cL_law 190 = .ok (.iload 10, 2) := by decide +kernel
theorem dL_law_192 : decode cL_law 192 = .ok (.iconst 3, 1) := by decide +kernel
theorem dL_law_193 : decode cL_law 193 = .ok (.if_icmp .ne 60, 3) := by decide +kernel
theorem dL_law_196 : decode cL_law 196 = .ok (.iload 9, 2) := by decide +kernel
theorem dL_law_198 : decode cL_law 198 = .ok (.iload 6, 2) := by decide +kernel
theorem dL_law_200 : decode cL_law 200 = .ok (.invokestatic 52, 3) := by decide +kernel
theorem dL_law_203 : decode cL_law 203 = .ok (.istore 12, 2) := by decide +kernel
theorem dL_law_205 : decode cL_law 205 = .ok (.aload 4, 2) := by decide +kernel
theorem dL_law_207 : decode cL_law 207 = .ok (.iload 12, 2) := by decide +kernel
theorem dL_law_209 : decode cL_law 209 = .ok (.iaload, 1) := by decide +kernel
theorem dL_law_210 : decode cL_law 210 = .ok (.bipush 10, 2) := by decide +kernel
theorem dL_law_212 : decode cL_law 212 = .ok (.if_icmp .ge 38, 3) := by decide +kernel
theorem dL_law_215 : decode cL_law 215 = .ok (.aload 4, 2) := by decide +kernel
theorem dL_law_217 : decode cL_law 217 = .ok (.iload 12, 2) := by decide +kernel
theorem dL_law_219 : decode cL_law 219 = .ok (.dup2, 1) := by decide +kernel
theorem dL_law_220 : decode cL_law 220 = .ok (.iaload, 1) := by decide +kernel
theorem dL_law_221 : decode cL_law 221 = .ok (.iconst 1, 1) := by decide +kernel
theorem dL_law_222 : decode cL_law 222 = .ok (.iadd, 1) := by decide +kernel
theorem dL_law_223 : decode cL_law 223 = .ok (.iastore, 1) := by decide +kernel
theorem dL_law_224 : decode cL_law 224 = .ok (.aload_n 1, 1) := by decide +kernel
theorem dL_law_225 : decode cL_law 225 = .ok (.iload 12, 2) := by decide +kernel
theorem dL_law_227 : decode cL_law 227 = .ok (.iload 9, 2) := by decide +kernel
theorem dL_law_229 : decode cL_law 229 = .ok (.iconst 4, 1) := by decide +kernel
theorem dL_law_230 : decode cL_law 230 = .ok (.ishr, 1) := by decide +kernel
theorem dL_law_231 : decode cL_law 231 = .ok (.sipush 200, 3) := by decide +kernel
theorem dL_law_234 : decode cL_law 234 = .ok (.invokestatic 52, 3) := by decide +kernel
theorem dL_law_237 : decode cL_law 237 = .ok (.iload 9, 2) := by decide +kernel
theorem dL_law_239 : decode cL_law 239 = .ok (.bipush 12, 2) := by decide +kernel
theorem dL_law_241 : decode cL_law 241 = .ok (.ishr, 1) := by decide +kernel
theorem dL_law_242 : decode cL_law 242 = .ok (.iconst 2, 1) := by decide +kernel
theorem dL_law_243 : decode cL_law 243 = .ok (.invokestatic 52, 3) := by decide +kernel
theorem dL_law_246 : decode cL_law 246 = .ok (.invokevirtual 59, 3) := by decide +kernel
theorem dL_law_249 : decode cL_law 249 = .ok (.pop, 1) := by decide +kernel
theorem dL_law_250 : decode cL_law 250 = .ok (.goto 305, 3) := by decide +kernel
theorem dL_law_253 : decode cL_law 253 = .ok (.iload 10, 2) := by decide +kernel
theorem dL_law_255 : decode cL_law 255 = .ok (.bipush 6, 2) := by decide +kernel
theorem dL_law_257 : decode cL_law 257 = .ok (.if_icmp .ge 33, 3) := by decide +kernel
theorem dL_law_260 : decode cL_law 260 = .ok (.aload_n 1, 1) := by decide +kernel
theorem dL_law_261 : decode cL_law 261 = .ok (.iload 9, 2) := by decide +kernel
theorem dL_law_263 : decode cL_law 263 = .ok (.sipush 200, 3) := by decide +kernel
theorem dL_law_266 : decode cL_law 266 = .ok (.invokestatic 52, 3) := by decide +kernel
theorem dL_law_269 : decode cL_law 269 = .ok (.iload 9, 2) := by decide +kernel
theorem dL_law_271 : decode cL_law 271 = .ok (.bipush 8, 2) := by decide +kernel
theorem dL_law_273 : decode cL_law 273 = .ok (.ishr, 1) := by decide +kernel
theorem dL_law_274 : decode cL_law 274 = .ok (.sipush 900, 3) := by decide +kernel
theorem dL_law_277 : decode cL_law 277 = .ok (.invokestatic 52, 3) := by decide +kernel
theorem dL_law_280 : decode cL_law 280 = .ok (.bipush 100, 2) := by decide +kernel
theorem dL_law_282 : decode cL_law 282 = .ok (.isub, 1) := by decide +kernel
theorem dL_law_283 : decode cL_law 283 = .ok (.invokevirtual 63, 3) := by decide +kernel
theorem dL_law_286 : decode cL_law 286 = .ok (.pop, 1) := by decide +kernel
theorem dL_law_287 : decode cL_law 287 = .ok (.goto 268, 3) := by decide +kernel
theorem dL_law_290 : decode cL_law 290 = .ok (.iload 10, 2) := by decide +kernel
theorem dL_law_292 : decode cL_law 292 = .ok (.bipush 6, 2) := by decide +kernel
theorem dL_law_294 : decode cL_law 294 = .ok (.if_icmp .ne 93, 3) := by decide +kernel
theorem dL_law_297 : decode cL_law 297 = .ok (.iload 7, 2) := by decide +kernel
theorem dL_law_299 : decode cL_law 299 = .ok (.bipush 30, 2) := by decide +kernel
theorem dL_law_301 : decode cL_law 301 = .ok (.if_icmp .ge 86, 3) := by decide +kernel
theorem dL_law_304 : decode cL_law 304 = .ok (.iload 9, 2) := by decide +kernel
theorem dL_law_306 : decode cL_law 306 = .ok (.iconst 2, 1) := by decide +kernel
theorem dL_law_307 : decode cL_law 307 = .ok (.invokestatic 52, 3) := by decide +kernel
theorem dL_law_310 : decode cL_law 310 = .ok (.istore 12, 2) := by decide +kernel
theorem dL_law_312 : decode cL_law 312 = .ok (.bipush 40, 2) := by decide +kernel
theorem dL_law_314 : decode cL_law 314 = .ok (.iload 12, 2) := by decide +kernel
theorem dL_law_316 : decode cL_law 316 = .ok (.imul, 1) := by decide +kernel
theorem dL_law_317 : decode cL_law 317 = .ok (.iload 7, 2) := by decide +kernel
theorem dL_law_319 : decode cL_law 319 = .ok (.iadd, 1) := by decide +kernel
theorem dL_law_320 : decode cL_law 320 = .ok (.istore 13, 2) := by decide +kernel
theorem dL_law_322 : decode cL_law 322 = .ok (.aload 5, 2) := by decide +kernel
theorem dL_law_324 : decode cL_law 324 = .ok (.iload 12, 2) := by decide +kernel
theorem dL_law_326 : decode cL_law 326 = .ok (.iaload, 1) := by decide +kernel
theorem dL_law_327 : decode cL_law 327 = .ok (.bipush 20, 2) := by decide +kernel
theorem dL_law_329 : decode cL_law 329 = .ok (.if_icmp .ge 55, 3) := by decide +kernel
theorem dL_law_332 : decode cL_law 332 = .ok (.aload 5, 2) := by decide +kernel
theorem dL_law_334 : decode cL_law 334 = .ok (.iload 12, 2) := by decide +kernel
theorem dL_law_336 : decode cL_law 336 = .ok (.dup2, 1) := by decide +kernel
theorem dL_law_337 : decode cL_law 337 = .ok (.iaload, 1) := by decide +kernel
theorem dL_law_338 : decode cL_law 338 = .ok (.iconst 1, 1) := by decide +kernel
theorem dL_law_339 : decode cL_law 339 = .ok (.iadd, 1) := by decide +kernel
theorem dL_law_340 : decode cL_law 340 = .ok (.iastore, 1) := by decide +kernel
theorem dL_law_341 : decode cL_law 341 = .ok (.aload_n 1, 1) := by decide +kernel
theorem dL_law_342 : decode cL_law 342 = .ok (.iload 12, 2) := by decide +kernel
theorem dL_law_344 : decode cL_law 344 = .ok (.iload 13, 2) := by decide +kernel
theorem dL_law_346 : decode cL_law 346 = .ok (.invokevirtual 66, 3) := by decide +kernel
theorem dL_law_349 : decode cL_law 349 = .ok (.aload 5, 2) := by decide +kernel
theorem dL_law_351 : decode cL_law 351 = .ok (.iload 12, 2) := by decide +kernel
theorem dL_law_353 : decode cL_law 353 = .ok (.iaload, 1) := by decide +kernel
theorem dL_law_354 : decode cL_law 354 = .ok (.if_icmp .ne 27, 3) := by decide +kernel
theorem dL_law_357 : decode cL_law 357 = .ok (.aload_n 1, 1) := by decide +kernel
theorem dL_law_358 : decode cL_law 358 = .ok (.iload 13, 2) := by decide +kernel
theorem dL_law_360 : decode cL_law 360 = .ok (.invokevirtual 69, 3) := by decide +kernel
theorem dL_law_363 : decode cL_law 363 = .ok (.ifCond .ne 18, 3) := by decide +kernel
theorem dL_law_366 : decode cL_law 366 = .ok (.aload_n 1, 1) := by decide +kernel
theorem dL_law_367 : decode cL_law 367 = .ok (.iload 13, 2) := by decide +kernel
theorem dL_law_369 : decode cL_law 369 = .ok (.invokevirtual 73, 3) := by decide +kernel
theorem dL_law_372 : decode cL_law 372 = .ok (.iload 13, 2) := by decide +kernel
theorem dL_law_374 : decode cL_law 374 = .ok (.if_icmp .le 7, 3) := by decide +kernel
theorem dL_law_377 : decode cL_law 377 = .ok (.iconst 1, 1) := by decide +kernel
theorem dL_law_378 : decode cL_law 378 = .ok (.goto 4, 3) := by decide +kernel
theorem dL_law_381 : decode cL_law 381 = .ok (.iconst 0, 1) := by decide +kernel
theorem dL_law_382 : decode cL_law 382 = .ok (.istore 11, 2) := by decide +kernel
theorem dL_law_384 : decode cL_law 384 = .ok (.goto 171, 3) := by decide +kernel
theorem dL_law_387 : decode cL_law 387 = .ok (.iload 10, 2) := by decide +kernel
theorem dL_law_389 : decode cL_law 389 = .ok (.bipush 9, 2) := by decide +kernel
theorem dL_law_391 : decode cL_law 391 = .ok (.if_icmp .ge 115, 3) := by decide +kernel
theorem dL_law_394 : decode cL_law 394 = .ok (.iload 9, 2) := by decide +kernel
theorem dL_law_396 : decode cL_law 396 = .ok (.iload 6, 2) := by decide +kernel
theorem dL_law_398 : decode cL_law 398 = .ok (.invokestatic 52, 3) := by decide +kernel
theorem dL_law_401 : decode cL_law 401 = .ok (.istore 12, 2) := by decide +kernel
theorem dL_law_403 : decode cL_law 403 = .ok (.iconst 1, 1) := by decide +kernel
theorem dL_law_404 : decode cL_law 404 = .ok (.iload 9, 2) := by decide +kernel
theorem dL_law_406 : decode cL_law 406 = .ok (.iconst 4, 1) := by decide +kernel
theorem dL_law_407 : decode cL_law 407 = .ok (.ishr, 1) := by decide +kernel
theorem dL_law_408 : decode cL_law 408 = .ok (.iconst 4, 1) := by decide +kernel
theorem dL_law_409 : decode cL_law 409 = .ok (.invokestatic 52, 3) := by decide +kernel
theorem dL_law_412 : decode cL_law 412 = .ok (.iadd, 1) := by decide +kernel
theorem dL_law_413 : decode cL_law 413 = .ok (.istore 13, 2) := by decide +kernel
theorem dL_law_415 : decode cL_law 415 = .ok (.aload_n 1, 1) := by decide +kernel
theorem dL_law_416 : decode cL_law 416 = .ok (.iload 12, 2) := by decide +kernel
theorem dL_law_418 : decode cL_law 418 = .ok (.aload_n 2, 1) := by decide +kernel
theorem dL_law_419 : decode cL_law 419 = .ok (.iload 12, 2) := by decide +kernel
theorem dL_law_421 : decode cL_law 421 = .ok (.iaload, 1) := by decide +kernel
theorem dL_law_422 : decode cL_law 422 = .ok (.iconst 1, 1) := by decide +kernel
theorem dL_law_423 : decode cL_law 423 = .ok (.isub, 1) := by decide +kernel
theorem dL_law_424 : decode cL_law 424 = .ok (.invokevirtual 42, 3) := by decide +kernel
theorem dL_law_427 : decode cL_law 427 = .ok (.istore 14, 2) := by decide +kernel
theorem dL_law_429 : decode cL_law 429 = .ok (.aload_n 1, 1) := by decide +kernel
theorem dL_law_430 : decode cL_law 430 = .ok (.iload 12, 2) := by decide +kernel
theorem dL_law_432 : decode cL_law 432 = .ok (.aload_n 2, 1) := by decide +kernel
theorem dL_law_433 : decode cL_law 433 = .ok (.iload 12, 2) := by decide +kernel
theorem dL_law_435 : decode cL_law 435 = .ok (.iaload, 1) := by decide +kernel
theorem dL_law_436 : decode cL_law 436 = .ok (.iconst 1, 1) := by decide +kernel
theorem dL_law_437 : decode cL_law 437 = .ok (.isub, 1) := by decide +kernel
theorem dL_law_438 : decode cL_law 438 = .ok (.invokevirtual 39, 3) := by decide +kernel
theorem dL_law_441 : decode cL_law 441 = .ok (.istore 15, 2) := by decide +kernel
theorem dL_law_443 : decode cL_law 443 = .ok (.iload 15, 2) := by decide +kernel
theorem dL_law_445 : decode cL_law 445 = .ok (.iload 13, 2) := by decide +kernel
theorem dL_law_447 : decode cL_law 447 = .ok (.if_icmp .lt 56, 3) := by decide +kernel
theorem dL_law_450 : decode cL_law 450 = .ok (.iload 15, 2) := by decide +kernel
theorem dL_law_452 : decode cL_law 452 = .ok (.aload_n 3, 1) := by decide +kernel
theorem dL_law_453 : decode cL_law 453 = .ok (.iload 12, 2) := by decide +kernel
theorem dL_law_455 : decode cL_law 455 = .ok (.iaload, 1) := by decide +kernel
theorem dL_law_456 : decode cL_law 456 = .ok (.if_icmp .gt 47, 3) := by decide +kernel
theorem dL_law_459 : decode cL_law 459 = .ok (.aload_n 1, 1) := by decide +kernel
theorem dL_law_460 : decode cL_law 460 = .ok (.iload 12, 2) := by decide +kernel
theorem dL_law_462 : decode cL_law 462 = .ok (.iload 9, 2) := by decide +kernel
theorem dL_law_464 : decode cL_law 464 = .ok (.bipush 7, 2) := by decide +kernel
theorem dL_law_466 : decode cL_law 466 = .ok (.ishr, 1) := by decide +kernel
theorem dL_law_467 : decode cL_law 467 = .ok (.iload 14, 2) := by decide +kernel
theorem dL_law_469 : decode cL_law 469 = .ok (.iconst 1, 1) := by decide +kernel
theorem dL_law_470 : decode cL_law 470 = .ok (.iadd, 1) := by decide +kernel
theorem dL_law_471 : decode cL_law 471 = .ok (.invokestatic 52, 3) := by decide +kernel
theorem dL_law_474 : decode cL_law 474 = .ok (.iload 13, 2) := by decide +kernel
theorem dL_law_476 : decode cL_law 476 = .ok (.iload 15, 2) := by decide +kernel
theorem dL_law_478 : decode cL_law 478 = .ok (.aload_n 2, 1) := by decide +kernel
theorem dL_law_479 : decode cL_law 479 = .ok (.iload 12, 2) := by decide +kernel
theorem dL_law_481 : decode cL_law 481 = .ok (.iaload, 1) := by decide +kernel
theorem dL_law_482 : decode cL_law 482 = .ok (.invokestatic 76, 3) := by decide +kernel
theorem dL_law_485 : decode cL_law 485 = .ok (.istore 11, 2) := by decide +kernel
theorem dL_law_487 : decode cL_law 487 = .ok (.aload_n 3, 1) := by decide +kernel
theorem dL_law_488 : decode cL_law 488 = .ok (.iload 12, 2) := by decide +kernel
theorem dL_law_490 : decode cL_law 490 = .ok (.aload_n 1, 1) := by decide +kernel
theorem dL_law_491 : decode cL_law 491 = .ok (.iload 12, 2) := by decide +kernel
theorem dL_law_493 : decode cL_law 493 = .ok (.aload_n 2, 1) := by decide +kernel
theorem dL_law_494 : decode cL_law 494 = .ok (.iload 12, 2) := by decide +kernel
theorem dL_law_496 : decode cL_law 496 = .ok (.iaload, 1) := by decide +kernel
theorem dL_law_497 : decode cL_law 497 = .ok (.iconst 1, 1) := by decide +kernel
theorem dL_law_498 : decode cL_law 498 = .ok (.isub, 1) := by decide +kernel
theorem dL_law_499 : decode cL_law 499 = .ok (.invokevirtual 39, 3) := by decide +kernel
theorem dL_law_502 : decode cL_law 502 = .ok (.iastore, 1) := by decide +kernel
theorem dL_law_503 : decode cL_law 503 = .ok (.goto 52, 3) := by decide +kernel
theorem dL_law_506 : decode cL_law 506 = .ok (.iload 9, 2) := by decide +kernel
theorem dL_law_508 : decode cL_law 508 = .ok (.bipush 60, 2) := by decide +kernel
theorem dL_law_510 : decode cL_law 510 = .ok (.invokestatic 52, 3) := by decide +kernel
theorem dL_law_513 : decode cL_law 513 = .ok (.istore 12, 2) := by decide +kernel
theorem dL_law_515 : decode cL_law 515 = .ok (.aload_n 1, 1) := by decide +kernel
theorem dL_law_516 : decode cL_law 516 = .ok (.aload_n 2, 1) := by decide +kernel
theorem dL_law_517 : decode cL_law 517 = .ok (.iload 12, 2) := by decide +kernel
theorem dL_law_519 : decode cL_law 519 = .ok (.iload 9, 2) := by decide +kernel
theorem dL_law_521 : decode cL_law 521 = .ok (.bipush 6, 2) := by decide +kernel
theorem dL_law_523 : decode cL_law 523 = .ok (.ishr, 1) := by decide +kernel
theorem dL_law_524 : decode cL_law 524 = .ok (.bipush 40, 2) := by decide +kernel
theorem dL_law_526 : decode cL_law 526 = .ok (.invokestatic 52, 3) := by decide +kernel
theorem dL_law_529 : decode cL_law 529 = .ok (.invokestatic 80, 3) := by decide +kernel
theorem dL_law_532 : decode cL_law 532 = .ok (.istore 11, 2) := by decide +kernel
theorem dL_law_534 : decode cL_law 534 = .ok (.iconst 0, 1) := by decide +kernel
theorem dL_law_535 : decode cL_law 535 = .ok (.istore 13, 2) := by decide +kernel
theorem dL_law_537 : decode cL_law 537 = .ok (.iload 13, 2) := by decide +kernel
theorem dL_law_539 : decode cL_law 539 = .ok (.iload 6, 2) := by decide +kernel
theorem dL_law_541 : decode cL_law 541 = .ok (.if_icmp .ge 14, 3) := by decide +kernel
theorem dL_law_544 : decode cL_law 544 = .ok (.aload_n 3, 1) := by decide +kernel
theorem dL_law_545 : decode cL_law 545 = .ok (.iload 13, 2) := by decide +kernel
theorem dL_law_547 : decode cL_law 547 = .ok (.iconst 0, 1) := by decide +kernel
theorem dL_law_548 : decode cL_law 548 = .ok (.iastore, 1) := by decide +kernel
theorem dL_law_549 : decode cL_law 549 = .ok (.iinc 13 1, 3) := by decide +kernel
theorem dL_law_552 : decode cL_law 552 = .ok (.goto (-15), 3) := by decide +kernel
theorem dL_law_555 : decode cL_law 555 = .ok (.iload 11, 2) := by decide +kernel
theorem dL_law_557 : decode cL_law 557 = .ok (.ifCond .eq 34, 3) := by decide +kernel
theorem dL_law_560 : decode cL_law 560 = .ok (.aload_n 1, 1) := by decide +kernel
theorem dL_law_561 : decode cL_law 561 = .ok (.aload_n 2, 1) := by decide +kernel
theorem dL_law_562 : decode cL_law 562 = .ok (.iload 9, 2) := by decide +kernel
theorem dL_law_564 : decode cL_law 564 = .ok (.iconst 3, 1) := by decide +kernel
theorem dL_law_565 : decode cL_law 565 = .ok (.ishr, 1) := by decide +kernel
theorem dL_law_566 : decode cL_law 566 = .ok (.bipush 60, 2) := by decide +kernel
theorem dL_law_568 : decode cL_law 568 = .ok (.invokestatic 52, 3) := by decide +kernel
theorem dL_law_571 : decode cL_law 571 = .ok (.bipush 60, 2) := by decide +kernel
theorem dL_law_573 : decode cL_law 573 = .ok (.iload 9, 2) := by decide +kernel
theorem dL_law_575 : decode cL_law 575 = .ok (.bipush 9, 2) := by decide +kernel
theorem dL_law_577 : decode cL_law 577 = .ok (.ishr, 1) := by decide +kernel
theorem dL_law_578 : decode cL_law 578 = .ok (.sipush 300, 3) := by decide +kernel
theorem dL_law_581 : decode cL_law 581 = .ok (.invokestatic 52, 3) := by decide +kernel
theorem dL_law_584 : decode cL_law 584 = .ok (.iadd, 1) := by decide +kernel
theorem dL_law_585 : decode cL_law 585 = .ok (.invokestatic 84, 3) := by decide +kernel
theorem dL_law_588 : decode cL_law 588 = .ok (.ifCond .ne 5, 3) := by decide +kernel
theorem dL_law_591 : decode cL_law 591 = .ok (.iconst 0, 1) := by decide +kernel
theorem dL_law_592 : decode cL_law 592 = .ok (.ireturn, 1) := by decide +kernel
theorem dL_law_593 : decode cL_law 593 = .ok (.iinc 7 1, 3) := by decide +kernel
theorem dL_law_596 : decode cL_law 596 = .ok (.goto (-561), 3) := by decide +kernel
theorem dL_law_599 : decode cL_law 599 = .ok (.iconst 1, 1) := by decide +kernel
theorem dL_law_600 : decode cL_law 600 = .ok (.ireturn, 1) := by decide +kernel
