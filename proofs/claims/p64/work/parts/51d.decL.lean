theorem dL_passes_0 : decode cL_passes 0 = .ok (.aload_n 0, 1) := by decide +kernel
theorem dL_passes_1 : decode cL_passes 1 = .ok (.invokestatic 284, 3) := by decide +kernel
theorem dL_passes_4 : decode cL_passes 4 = .ok (.lstore_n 2, 1) := by decide +kernel
theorem dL_passes_5 : decode cL_passes 5 = .ok (.aload_n 0, 1) := by decide +kernel
theorem dL_passes_6 : decode cL_passes 6 = .ok (.invokevirtual 218, 3) := by decide +kernel
theorem dL_passes_9 : decode cL_passes 9 = .ok (.istore 4, 2) := by decide +kernel
theorem dL_passes_11 : decode cL_passes 11 = .ok (.iconst 1, 1) := by decide +kernel
theorem dL_passes_12 : decode cL_passes 12 = .ok (.iload_n 1, 1) := by decide +kernel
theorem dL_passes_13 : decode cL_passes 13 = .ok (.sipush 255, 3) := by decide +kernel
theorem dL_passes_16 : decode cL_passes 16 = .ok (.iand, 1) := by decide +kernel
theorem dL_passes_17 : decode cL_passes 17 = .ok (.bipush 100, 2) := by decide +kernel
theorem dL_passes_19 : decode cL_passes 19 = .ok (.irem, 1) := by decide +kernel
theorem dL_passes_20 : decode cL_passes 20 = .ok (.iadd, 1) := by decide +kernel
theorem dL_passes_21 : decode cL_passes 21 = .ok (.istore 5, 2) := by decide +kernel
theorem dL_passes_23 : decode cL_passes 23 = .ok (.aload_n 0, 1) := by decide +kernel
theorem dL_passes_24 : decode cL_passes 24 = .ok (.bipush 41, 2) := by decide +kernel
theorem dL_passes_26 : decode cL_passes 26 = .ok (.iload 5, 2) := by decide +kernel
theorem dL_passes_28 : decode cL_passes 28 = .ok (.invokestatic 171, 3) := by decide +kernel
theorem dL_passes_31 : decode cL_passes 31 = .ok (.istore 6, 2) := by decide +kernel
theorem dL_passes_33 : decode cL_passes 33 = .ok (.aload_n 0, 1) := by decide +kernel
theorem dL_passes_34 : decode cL_passes 34 = .ok (.invokevirtual 234, 3) := by decide +kernel
theorem dL_passes_37 : decode cL_passes 37 = .ok (.istore 7, 2) := by decide +kernel
theorem dL_passes_39 : decode cL_passes 39 = .ok (.iload 6, 2) := by decide +kernel
theorem dL_passes_41 : decode cL_passes 41 = .ok (.iload 7, 2) := by decide +kernel
theorem dL_passes_43 : decode cL_passes 43 = .ok (.if_icmp .lt 57, 3) := by decide +kernel
theorem dL_passes_46 : decode cL_passes 46 = .ok (.aload_n 0, 1) := by decide +kernel
theorem dL_passes_47 : decode cL_passes 47 = .ok (.bipush 41, 2) := by decide +kernel
theorem dL_passes_49 : decode cL_passes 49 = .ok (.iconst 0, 1) := by decide +kernel
theorem dL_passes_50 : decode cL_passes 50 = .ok (.invokestatic 171, 3) := by decide +kernel
theorem dL_passes_53 : decode cL_passes 53 = .ok (.iload 7, 2) := by decide +kernel
theorem dL_passes_55 : decode cL_passes 55 = .ok (.if_icmp .ne 45, 3) := by decide +kernel
theorem dL_passes_58 : decode cL_passes 58 = .ok (.aload_n 0, 1) := by decide +kernel
theorem dL_passes_59 : decode cL_passes 59 = .ok (.bipush 41, 2) := by decide +kernel
theorem dL_passes_61 : decode cL_passes 61 = .ok (.sipush 241, 3) := by decide +kernel
theorem dL_passes_64 : decode cL_passes 64 = .ok (.invokestatic 171, 3) := by decide +kernel
theorem dL_passes_67 : decode cL_passes 67 = .ok (.bipush (-103), 2) := by decide +kernel
theorem dL_passes_69 : decode cL_passes 69 = .ok (.if_icmp .ne 31, 3) := by decide +kernel
theorem dL_passes_72 : decode cL_passes 72 = .ok (.aload_n 0, 1) := by decide +kernel
theorem dL_passes_73 : decode cL_passes 73 = .ok (.iconst 4, 1) := by decide +kernel
theorem dL_passes_74 : decode cL_passes 74 = .ok (.iconst 0, 1) := by decide +kernel
theorem dL_passes_75 : decode cL_passes 75 = .ok (.invokestatic 171, 3) := by decide +kernel
theorem dL_passes_78 : decode cL_passes 78 = .ok (.bipush (-103), 2) := by decide +kernel
theorem dL_passes_80 : decode cL_passes 80 = .ok (.if_icmp .ne 20, 3) := by decide +kernel
theorem dL_passes_83 : decode cL_passes 83 = .ok (.aload_n 0, 1) := by decide +kernel
theorem dL_passes_84 : decode cL_passes 84 = .ok (.iconst 4, 1) := by decide +kernel
theorem dL_passes_85 : decode cL_passes 85 = .ok (.sipush 241, 3) := by decide +kernel
theorem dL_passes_88 : decode cL_passes 88 = .ok (.invokestatic 171, 3) := by decide +kernel
theorem dL_passes_91 : decode cL_passes 91 = .ok (.bipush (-103), 2) := by decide +kernel
theorem dL_passes_93 : decode cL_passes 93 = .ok (.if_icmp .ne 7, 3) := by decide +kernel
theorem dL_passes_96 : decode cL_passes 96 = .ok (.iconst 1, 1) := by decide +kernel
theorem dL_passes_97 : decode cL_passes 97 = .ok (.goto 4, 3) := by decide +kernel
theorem dL_passes_100 : decode cL_passes 100 = .ok (.iconst 0, 1) := by decide +kernel
theorem dL_passes_101 : decode cL_passes 101 = .ok (.istore 8, 2) := by decide +kernel
theorem dL_passes_103 : decode cL_passes 103 = .ok (.aload_n 0, 1) := by decide +kernel
theorem dL_passes_104 : decode cL_passes 104 = .ok (.iconst 4, 1) := by decide +kernel
theorem dL_passes_105 : decode cL_passes 105 = .ok (.iload 5, 2) := by decide +kernel
theorem dL_passes_107 : decode cL_passes 107 = .ok (.invokestatic 171, 3) := by decide +kernel
theorem dL_passes_110 : decode cL_passes 110 = .ok (.istore 9, 2) := by decide +kernel
theorem dL_passes_112 : decode cL_passes 112 = .ok (.iload 4, 2) := by decide +kernel
theorem dL_passes_114 : decode cL_passes 114 = .ok (.iload 5, 2) := by decide +kernel
theorem dL_passes_116 : decode cL_passes 116 = .ok (.iadd, 1) := by decide +kernel
theorem dL_passes_117 : decode cL_passes 117 = .ok (.sipush 720, 3) := by decide +kernel
theorem dL_passes_120 : decode cL_passes 120 = .ok (.if_icmp .le 30, 3) := by decide +kernel
theorem dL_passes_123 : decode cL_passes 123 = .ok (.iload 8, 2) := by decide +kernel
theorem dL_passes_125 : decode cL_passes 125 = .ok (.ifCond .eq 23, 3) := by decide +kernel
theorem dL_passes_128 : decode cL_passes 128 = .ok (.iload 9, 2) := by decide +kernel
theorem dL_passes_130 : decode cL_passes 130 = .ok (.bipush (-102), 2) := by decide +kernel
theorem dL_passes_132 : decode cL_passes 132 = .ok (.if_icmp .ne 16, 3) := by decide +kernel
theorem dL_passes_135 : decode cL_passes 135 = .ok (.aload_n 0, 1) := by decide +kernel
theorem dL_passes_136 : decode cL_passes 136 = .ok (.invokestatic 284, 3) := by decide +kernel
theorem dL_passes_139 : decode cL_passes 139 = .ok (.lload_n 2, 1) := by decide +kernel
theorem dL_passes_140 : decode cL_passes 140 = .ok (.lcmp, 1) := by decide +kernel
theorem dL_passes_141 : decode cL_passes 141 = .ok (.ifCond .ne 7, 3) := by decide +kernel
theorem dL_passes_144 : decode cL_passes 144 = .ok (.iconst 1, 1) := by decide +kernel
theorem dL_passes_145 : decode cL_passes 145 = .ok (.goto 4, 3) := by decide +kernel
theorem dL_passes_148 : decode cL_passes 148 = .ok (.iconst 0, 1) := by decide +kernel
theorem dL_passes_149 : decode cL_passes 149 = .ok (.ireturn, 1) := by decide +kernel
theorem dL_passes_150 : decode cL_passes 150 = .ok (.iload 8, 2) := by decide +kernel
theorem dL_passes_152 : decode cL_passes 152 = .ok (.ifCond .eq 55, 3) := by decide +kernel
theorem dL_passes_155 : decode cL_passes 155 = .ok (.iload 9, 2) := by decide +kernel
theorem dL_passes_157 : decode cL_passes 157 = .ok (.iload 6, 2) := by decide +kernel
theorem dL_passes_159 : decode cL_passes 159 = .ok (.iload 7, 2) := by decide +kernel
theorem dL_passes_161 : decode cL_passes 161 = .ok (.isub, 1) := by decide +kernel
theorem dL_passes_162 : decode cL_passes 162 = .ok (.if_icmp .ne 45, 3) := by decide +kernel
theorem dL_passes_165 : decode cL_passes 165 = .ok (.aload_n 0, 1) := by decide +kernel
theorem dL_passes_166 : decode cL_passes 166 = .ok (.invokevirtual 234, 3) := by decide +kernel
theorem dL_passes_169 : decode cL_passes 169 = .ok (.iload 6, 2) := by decide +kernel
theorem dL_passes_171 : decode cL_passes 171 = .ok (.if_icmp .ne 36, 3) := by decide +kernel
theorem dL_passes_174 : decode cL_passes 174 = .ok (.aload_n 0, 1) := by decide +kernel
theorem dL_passes_175 : decode cL_passes 175 = .ok (.invokevirtual 218, 3) := by decide +kernel
theorem dL_passes_178 : decode cL_passes 178 = .ok (.iload 4, 2) := by decide +kernel
theorem dL_passes_180 : decode cL_passes 180 = .ok (.iload 5, 2) := by decide +kernel
theorem dL_passes_182 : decode cL_passes 182 = .ok (.iadd, 1) := by decide +kernel
theorem dL_passes_183 : decode cL_passes 183 = .ok (.if_icmp .ne 24, 3) := by decide +kernel
theorem dL_passes_186 : decode cL_passes 186 = .ok (.aload_n 0, 1) := by decide +kernel
theorem dL_passes_187 : decode cL_passes 187 = .ok (.invokestatic 288, 3) := by decide +kernel
theorem dL_passes_190 : decode cL_passes 190 = .ok (.ifCond .eq 17, 3) := by decide +kernel
theorem dL_passes_193 : decode cL_passes 193 = .ok (.aload_n 0, 1) := by decide +kernel
theorem dL_passes_194 : decode cL_passes 194 = .ok (.bipush 8, 2) := by decide +kernel
theorem dL_passes_196 : decode cL_passes 196 = .ok (.iconst 0, 1) := by decide +kernel
theorem dL_passes_197 : decode cL_passes 197 = .ok (.invokestatic 171, 3) := by decide +kernel
theorem dL_passes_200 : decode cL_passes 200 = .ok (.ifCond .lt 7, 3) := by decide +kernel
theorem dL_passes_203 : decode cL_passes 203 = .ok (.iconst 1, 1) := by decide +kernel
theorem dL_passes_204 : decode cL_passes 204 = .ok (.goto 4, 3) := by decide +kernel
theorem dL_passes_207 : decode cL_passes 207 = .ok (.iconst 0, 1) := by decide +kernel
theorem dL_passes_208 : decode cL_passes 208 = .ok (.istore 8, 2) := by decide +kernel
theorem dL_passes_210 : decode cL_passes 210 = .ok (.aload_n 0, 1) := by decide +kernel
theorem dL_passes_211 : decode cL_passes 211 = .ok (.invokevirtual 243, 3) := by decide +kernel
theorem dL_passes_214 : decode cL_passes 214 = .ok (.istore 10, 2) := by decide +kernel
theorem dL_passes_216 : decode cL_passes 216 = .ok (.aload_n 0, 1) := by decide +kernel
theorem dL_passes_217 : decode cL_passes 217 = .ok (.invokevirtual 229, 3) := by decide +kernel
theorem dL_passes_220 : decode cL_passes 220 = .ok (.istore 11, 2) := by decide +kernel
theorem dL_passes_222 : decode cL_passes 222 = .ok (.aload_n 0, 1) := by decide +kernel
theorem dL_passes_223 : decode cL_passes 223 = .ok (.invokevirtual 237, 3) := by decide +kernel
theorem dL_passes_226 : decode cL_passes 226 = .ok (.istore 12, 2) := by decide +kernel
theorem dL_passes_228 : decode cL_passes 228 = .ok (.bipush 12, 2) := by decide +kernel
theorem dL_passes_230 : decode cL_passes 230 = .ok (.newarray .int, 2) := by decide +kernel
theorem dL_passes_232 : decode cL_passes 232 = .ok (.astore 13, 2) := by decide +kernel
theorem dL_passes_234 : decode cL_passes 234 = .ok (.bipush 10, 2) := by decide +kernel
theorem dL_passes_236 : decode cL_passes 236 = .ok (.newarray .int, 2) := by decide +kernel
theorem dL_passes_238 : decode cL_passes 238 = .ok (.astore 14, 2) := by decide +kernel
theorem dL_passes_240 : decode cL_passes 240 = .ok (.iconst 0, 1) := by decide +kernel
theorem dL_passes_241 : decode cL_passes 241 = .ok (.istore 15, 2) := by decide +kernel
theorem dL_passes_243 : decode cL_passes 243 = .ok (.iload 15, 2) := by decide +kernel
theorem dL_passes_245 : decode cL_passes 245 = .ok (.aload_n 0, 1) := by decide +kernel
theorem dL_passes_246 : decode cL_passes 246 = .ok (.invokevirtual 246, 3) := by decide +kernel
theorem dL_passes_249 : decode cL_passes 249 = .ok (.if_icmp .ge 92, 3) := by decide +kernel
theorem dL_passes_252 : decode cL_passes 252 = .ok (.aload_n 0, 1) := by decide +kernel
theorem dL_passes_253 : decode cL_passes 253 = .ok (.bipush 26, 2) := by decide +kernel
theorem dL_passes_255 : decode cL_passes 255 = .ok (.iload 15, 2) := by decide +kernel
theorem dL_passes_257 : decode cL_passes 257 = .ok (.invokestatic 171, 3) := by decide +kernel
theorem dL_passes_260 : decode cL_passes 260 = .ok (.iconst 1, 1) := by decide +kernel
theorem dL_passes_261 : decode cL_passes 261 = .ok (.if_icmp .ne 7, 3) := by decide +kernel
theorem dL_passes_264 : decode cL_passes 264 = .ok (.iconst 1, 1) := by decide +kernel
theorem dL_passes_265 : decode cL_passes 265 = .ok (.goto 4, 3) := by decide +kernel
theorem dL_passes_268 : decode cL_passes 268 = .ok (.iconst 0, 1) := by decide +kernel
theorem dL_passes_269 : decode cL_passes 269 = .ok (.istore 16, 2) := by decide +kernel
theorem dL_passes_271 : decode cL_passes 271 = .ok (.aload 13, 2) := by decide +kernel
theorem dL_passes_273 : decode cL_passes 273 = .ok (.iload 15, 2) := by decide +kernel
theorem dL_passes_275 : decode cL_passes 275 = .ok (.iload 16, 2) := by decide +kernel
theorem dL_passes_277 : decode cL_passes 277 = .ok (.ifCond .eq 20, 3) := by decide +kernel
theorem dL_passes_280 : decode cL_passes 280 = .ok (.iconst 0, 1) := by decide +kernel
theorem dL_passes_281 : decode cL_passes 281 = .ok (.aload_n 0, 1) := by decide +kernel
theorem dL_passes_282 : decode cL_passes 282 = .ok (.bipush 25, 2) := by decide +kernel
theorem dL_passes_284 : decode cL_passes 284 = .ok (.iload 15, 2) := by decide +kernel
theorem dL_passes_286 : decode cL_passes 286 = .ok (.invokestatic 171, 3) := by decide +kernel
theorem dL_passes_289 : decode cL_passes 289 = .ok (.iconst 1, 1) := by decide +kernel
theorem dL_passes_290 : decode cL_passes 290 = .ok (.isub, 1) := by decide +kernel
theorem dL_passes_291 : decode cL_passes 291 = .ok (.invokestatic 258, 3) := by decide +kernel
theorem dL_passes_294 : decode cL_passes 294 = .ok (.goto 21, 3) := by decide +kernel
theorem dL_passes_297 : decode cL_passes 297 = .ok (.bipush 99, 2) := by decide +kernel
theorem dL_passes_299 : decode cL_passes 299 = .ok (.aload_n 0, 1) := by decide +kernel
theorem dL_passes_300 : decode cL_passes 300 = .ok (.bipush 25, 2) := by decide +kernel
theorem dL_passes_302 : decode cL_passes 302 = .ok (.iload 15, 2) := by decide +kernel
theorem dL_passes_304 : decode cL_passes 304 = .ok (.invokestatic 171, 3) := by decide +kernel
theorem dL_passes_307 : decode cL_passes 307 = .ok (.aload_n 0, 1) := by decide +kernel
theorem dL_passes_308 : decode cL_passes 308 = .ok (.invokevirtual 221, 3) := by decide +kernel
theorem dL_passes_311 : decode cL_passes 311 = .ok (.iadd, 1) := by decide +kernel
theorem dL_passes_312 : decode cL_passes 312 = .ok (.invokestatic 272, 3) := by decide +kernel
theorem dL_passes_315 : decode cL_passes 315 = .ok (.iastore, 1) := by decide +kernel
theorem dL_passes_316 : decode cL_passes 316 = .ok (.iload 16, 2) := by decide +kernel
theorem dL_passes_318 : decode cL_passes 318 = .ok (.ifCond .eq 17, 3) := by decide +kernel
theorem dL_passes_321 : decode cL_passes 321 = .ok (.aload_n 0, 1) := by decide +kernel
theorem dL_passes_322 : decode cL_passes 322 = .ok (.bipush 25, 2) := by decide +kernel
theorem dL_passes_324 : decode cL_passes 324 = .ok (.iload 15, 2) := by decide +kernel
theorem dL_passes_326 : decode cL_passes 326 = .ok (.invokestatic 171, 3) := by decide +kernel
theorem dL_passes_329 : decode cL_passes 329 = .ok (.ifCond .le 6, 3) := by decide +kernel
theorem dL_passes_332 : decode cL_passes 332 = .ok (.iinc 12 1, 3) := by decide +kernel
theorem dL_passes_335 : decode cL_passes 335 = .ok (.iinc 15 1, 3) := by decide +kernel
theorem dL_passes_338 : decode cL_passes 338 = .ok (.goto (-95), 3) := by decide +kernel
theorem dL_passes_341 : decode cL_passes 341 = .ok (.iconst 0, 1) := by decide +kernel
theorem dL_passes_342 : decode cL_passes 342 = .ok (.istore 15, 2) := by decide +kernel
theorem dL_passes_344 : decode cL_passes 344 = .ok (.iload 15, 2) := by decide +kernel
theorem dL_passes_346 : decode cL_passes 346 = .ok (.iload 10, 2) := by decide +kernel
theorem dL_passes_348 : decode cL_passes 348 = .ok (.if_icmp .ge 81, 3) := by decide +kernel
theorem dL_passes_351 : decode cL_passes 351 = .ok (.aload 14, 2) := by decide +kernel
theorem dL_passes_353 : decode cL_passes 353 = .ok (.iload 15, 2) := by decide +kernel
theorem dL_passes_355 : decode cL_passes 355 = .ok (.aload_n 0, 1) := by decide +kernel
theorem dL_passes_356 : decode cL_passes 356 = .ok (.bipush 22, 2) := by decide +kernel
theorem dL_passes_358 : decode cL_passes 358 = .ok (.iload 15, 2) := by decide +kernel
theorem dL_passes_360 : decode cL_passes 360 = .ok (.invokestatic 171, 3) := by decide +kernel
theorem dL_passes_363 : decode cL_passes 363 = .ok (.aload_n 0, 1) := by decide +kernel
theorem dL_passes_364 : decode cL_passes 364 = .ok (.bipush 20, 2) := by decide +kernel
theorem dL_passes_366 : decode cL_passes 366 = .ok (.iload 15, 2) := by decide +kernel
theorem dL_passes_368 : decode cL_passes 368 = .ok (.invokestatic 171, 3) := by decide +kernel
theorem dL_passes_371 : decode cL_passes 371 = .ok (.iconst 1, 1) := by decide +kernel
theorem dL_passes_372 : decode cL_passes 372 = .ok (.if_icmp .ne 23, 3) := by decide +kernel
theorem dL_passes_375 : decode cL_passes 375 = .ok (.aload_n 0, 1) := by decide +kernel
theorem dL_passes_376 : decode cL_passes 376 = .ok (.bipush 29, 2) := by decide +kernel
theorem dL_passes_378 : decode cL_passes 378 = .ok (.iload 15, 2) := by decide +kernel
theorem dL_passes_380 : decode cL_passes 380 = .ok (.invokestatic 171, 3) := by decide +kernel
theorem dL_passes_383 : decode cL_passes 383 = .ok (.bipush (-101), 2) := by decide +kernel
theorem dL_passes_385 : decode cL_passes 385 = .ok (.if_icmp .ne 10, 3) := by decide +kernel
theorem dL_passes_388 : decode cL_passes 388 = .ok (.aload_n 0, 1) := by decide +kernel
theorem dL_passes_389 : decode cL_passes 389 = .ok (.invokevirtual 221, 3) := by decide +kernel
theorem dL_passes_392 : decode cL_passes 392 = .ok (.goto 4, 3) := by decide +kernel
theorem dL_passes_395 : decode cL_passes 395 = .ok (.iconst 0, 1) := by decide +kernel
theorem dL_passes_396 : decode cL_passes 396 = .ok (.iadd, 1) := by decide +kernel
theorem dL_passes_397 : decode cL_passes 397 = .ok (.iastore, 1) := by decide +kernel
theorem dL_passes_398 : decode cL_passes 398 = .ok (.aload_n 0, 1) := by decide +kernel
theorem dL_passes_399 : decode cL_passes 399 = .ok (.bipush 23, 2) := by decide +kernel
theorem dL_passes_401 : decode cL_passes 401 = .ok (.iload 15, 2) := by decide +kernel
theorem dL_passes_403 : decode cL_passes 403 = .ok (.invokestatic 171, 3) := by decide +kernel
theorem dL_passes_406 : decode cL_passes 406 = .ok (.iconst 1, 1) := by decide +kernel
theorem dL_passes_407 : decode cL_passes 407 = .ok (.if_icmp .ne 16, 3) := by decide +kernel
theorem dL_passes_410 : decode cL_passes 410 = .ok (.iload 11, 2) := by decide +kernel
theorem dL_passes_412 : decode cL_passes 412 = .ok (.aload_n 0, 1) := by decide +kernel
theorem dL_passes_413 : decode cL_passes 413 = .ok (.bipush 19, 2) := by decide +kernel
theorem dL_passes_415 : decode cL_passes 415 = .ok (.iload 15, 2) := by decide +kernel
theorem dL_passes_417 : decode cL_passes 417 = .ok (.invokestatic 171, 3) := by decide +kernel
theorem dL_passes_420 : decode cL_passes 420 = .ok (.iadd, 1) := by decide +kernel
theorem dL_passes_421 : decode cL_passes 421 = .ok (.istore 11, 2) := by decide +kernel
theorem dL_passes_423 : decode cL_passes 423 = .ok (.iinc 15 1, 3) := by decide +kernel
theorem dL_passes_426 : decode cL_passes 426 = .ok (.goto (-82), 3) := by decide +kernel
theorem dL_passes_429 : decode cL_passes 429 = .ok (.iload 4, 2) := by decide +kernel
theorem dL_passes_431 : decode cL_passes 431 = .ok (.iconst 1, 1) := by decide +kernel
theorem dL_passes_432 : decode cL_passes 432 = .ok (.iadd, 1) := by decide +kernel
theorem dL_passes_433 : decode cL_passes 433 = .ok (.bipush 60, 2) := by decide +kernel
theorem dL_passes_435 : decode cL_passes 435 = .ok (.irem, 1) := by decide +kernel
theorem dL_passes_436 : decode cL_passes 436 = .ok (.ifCond .ne 7, 3) := by decide +kernel
theorem dL_passes_439 : decode cL_passes 439 = .ok (.iconst 1, 1) := by decide +kernel
theorem dL_passes_440 : decode cL_passes 440 = .ok (.goto 4, 3) := by decide +kernel
theorem dL_passes_443 : decode cL_passes 443 = .ok (.iconst 0, 1) := by decide +kernel
theorem dL_passes_444 : decode cL_passes 444 = .ok (.istore 15, 2) := by decide +kernel
theorem dL_passes_446 : decode cL_passes 446 = .ok (.iload 8, 2) := by decide +kernel
theorem dL_passes_448 : decode cL_passes 448 = .ok (.ifCond .eq 62, 3) := by decide +kernel
theorem dL_passes_451 : decode cL_passes 451 = .ok (.aload_n 0, 1) := by decide +kernel
theorem dL_passes_452 : decode cL_passes 452 = .ok (.iconst 4, 1) := by decide +kernel
theorem dL_passes_453 : decode cL_passes 453 = .ok (.iconst 1, 1) := by decide +kernel
theorem dL_passes_454 : decode cL_passes 454 = .ok (.invokestatic 171, 3) := by decide +kernel
theorem dL_passes_457 : decode cL_passes 457 = .ok (.iload 15, 2) := by decide +kernel
theorem dL_passes_459 : decode cL_passes 459 = .ok (.ifCond .eq 16, 3) := by decide +kernel
theorem dL_passes_462 : decode cL_passes 462 = .ok (.iload 11, 2) := by decide +kernel
theorem dL_passes_464 : decode cL_passes 464 = .ok (.aload_n 0, 1) := by decide +kernel
theorem dL_passes_465 : decode cL_passes 465 = .ok (.invokevirtual 226, 3) := by decide +kernel
theorem dL_passes_468 : decode cL_passes 468 = .ok (.if_icmp .le 7, 3) := by decide +kernel
theorem dL_passes_471 : decode cL_passes 471 = .ok (.iconst 1, 1) := by decide +kernel
theorem dL_passes_472 : decode cL_passes 472 = .ok (.goto 4, 3) := by decide +kernel
theorem dL_passes_475 : decode cL_passes 475 = .ok (.iconst 0, 1) := by decide +kernel
theorem dL_passes_476 : decode cL_passes 476 = .ok (.if_icmp .ne 34, 3) := by decide +kernel
theorem dL_passes_479 : decode cL_passes 479 = .ok (.aload_n 0, 1) := by decide +kernel
theorem dL_passes_480 : decode cL_passes 480 = .ok (.invokevirtual 229, 3) := by decide +kernel
theorem dL_passes_483 : decode cL_passes 483 = .ok (.iload 15, 2) := by decide +kernel
theorem dL_passes_485 : decode cL_passes 485 = .ok (.ifCond .eq 7, 3) := by decide +kernel
theorem dL_passes_488 : decode cL_passes 488 = .ok (.iconst 0, 1) := by decide +kernel
theorem dL_passes_489 : decode cL_passes 489 = .ok (.goto 5, 3) := by decide +kernel
theorem dL_passes_492 : decode cL_passes 492 = .ok (.iload 11, 2) := by decide +kernel
theorem dL_passes_494 : decode cL_passes 494 = .ok (.if_icmp .ne 16, 3) := by decide +kernel
theorem dL_passes_497 : decode cL_passes 497 = .ok (.aload_n 0, 1) := by decide +kernel
theorem dL_passes_498 : decode cL_passes 498 = .ok (.invokevirtual 237, 3) := by decide +kernel
theorem dL_passes_501 : decode cL_passes 501 = .ok (.iload 12, 2) := by decide +kernel
theorem dL_passes_503 : decode cL_passes 503 = .ok (.if_icmp .ne 7, 3) := by decide +kernel
theorem dL_passes_506 : decode cL_passes 506 = .ok (.iconst 1, 1) := by decide +kernel
theorem dL_passes_507 : decode cL_passes 507 = .ok (.goto 4, 3) := by decide +kernel
theorem dL_passes_510 : decode cL_passes 510 = .ok (.iconst 0, 1) := by decide +kernel
theorem dL_passes_511 : decode cL_passes 511 = .ok (.istore 8, 2) := by decide +kernel
theorem dL_passes_513 : decode cL_passes 513 = .ok (.iconst 0, 1) := by decide +kernel
theorem dL_passes_514 : decode cL_passes 514 = .ok (.istore 16, 2) := by decide +kernel
theorem dL_passes_516 : decode cL_passes 516 = .ok (.iload 16, 2) := by decide +kernel
theorem dL_passes_518 : decode cL_passes 518 = .ok (.aload_n 0, 1) := by decide +kernel
theorem dL_passes_519 : decode cL_passes 519 = .ok (.invokevirtual 246, 3) := by decide +kernel
theorem dL_passes_522 : decode cL_passes 522 = .ok (.if_icmp .ge 37, 3) := by decide +kernel
theorem dL_passes_525 : decode cL_passes 525 = .ok (.iload 8, 2) := by decide +kernel
theorem dL_passes_527 : decode cL_passes 527 = .ok (.ifCond .eq 32, 3) := by decide +kernel
theorem dL_passes_530 : decode cL_passes 530 = .ok (.aload_n 0, 1) := by decide +kernel
theorem dL_passes_531 : decode cL_passes 531 = .ok (.bipush 25, 2) := by decide +kernel
theorem dL_passes_533 : decode cL_passes 533 = .ok (.iload 16, 2) := by decide +kernel
theorem dL_passes_535 : decode cL_passes 535 = .ok (.invokestatic 171, 3) := by decide +kernel
theorem dL_passes_538 : decode cL_passes 538 = .ok (.aload 13, 2) := by decide +kernel
theorem dL_passes_540 : decode cL_passes 540 = .ok (.iload 16, 2) := by decide +kernel
theorem dL_passes_542 : decode cL_passes 542 = .ok (.iaload, 1) := by decide +kernel
theorem dL_passes_543 : decode cL_passes 543 = .ok (.if_icmp .ne 7, 3) := by decide +kernel
theorem dL_passes_546 : decode cL_passes 546 = .ok (.iconst 1, 1) := by decide +kernel
theorem dL_passes_547 : decode cL_passes 547 = .ok (.goto 4, 3) := by decide +kernel
theorem dL_passes_550 : decode cL_passes 550 = .ok (.iconst 0, 1) := by decide +kernel
theorem dL_passes_551 : decode cL_passes 551 = .ok (.istore 8, 2) := by decide +kernel
theorem dL_passes_553 : decode cL_passes 553 = .ok (.iinc 16 1, 3) := by decide +kernel
theorem dL_passes_556 : decode cL_passes 556 = .ok (.goto (-40), 3) := by decide +kernel
theorem dL_passes_559 : decode cL_passes 559 = .ok (.iconst 0, 1) := by decide +kernel
theorem dL_passes_560 : decode cL_passes 560 = .ok (.istore 16, 2) := by decide +kernel
theorem dL_passes_562 : decode cL_passes 562 = .ok (.iload 16, 2) := by decide +kernel
theorem dL_passes_564 : decode cL_passes 564 = .ok (.iload 10, 2) := by decide +kernel
theorem dL_passes_566 : decode cL_passes 566 = .ok (.if_icmp .ge 43, 3) := by decide +kernel
theorem dL_passes_569 : decode cL_passes 569 = .ok (.iload 8, 2) := by decide +kernel
theorem dL_passes_571 : decode cL_passes 571 = .ok (.ifCond .eq 38, 3) := by decide +kernel
theorem dL_passes_574 : decode cL_passes 574 = .ok (.aload_n 0, 1) := by decide +kernel
theorem dL_passes_575 : decode cL_passes 575 = .ok (.bipush 22, 2) := by decide +kernel
theorem dL_passes_577 : decode cL_passes 577 = .ok (.iload 16, 2) := by decide +kernel
theorem dL_passes_579 : decode cL_passes 579 = .ok (.invokestatic 171, 3) := by decide +kernel
theorem dL_passes_582 : decode cL_passes 582 = .ok (.sipush 999, 3) := by decide +kernel
theorem dL_passes_585 : decode cL_passes 585 = .ok (.aload 14, 2) := by decide +kernel
theorem dL_passes_587 : decode cL_passes 587 = .ok (.iload 16, 2) := by decide +kernel
theorem dL_passes_589 : decode cL_passes 589 = .ok (.iaload, 1) := by decide +kernel
theorem dL_passes_590 : decode cL_passes 590 = .ok (.invokestatic 272, 3) := by decide +kernel
theorem dL_passes_593 : decode cL_passes 593 = .ok (.if_icmp .ne 7, 3) := by decide +kernel
theorem dL_passes_596 : decode cL_passes 596 = .ok (.iconst 1, 1) := by decide +kernel
theorem dL_passes_597 : decode cL_passes 597 = .ok (.goto 4, 3) := by decide +kernel
theorem dL_passes_600 : decode cL_passes 600 = .ok (.iconst 0, 1) := by decide +kernel
theorem dL_passes_601 : decode cL_passes 601 = .ok (.istore 8, 2) := by decide +kernel
theorem dL_passes_603 : decode cL_passes 603 = .ok (.iinc 16 1, 3) := by decide +kernel
theorem dL_passes_606 : decode cL_passes 606 = .ok (.goto (-44), 3) := by decide +kernel
theorem dL_passes_609 : decode cL_passes 609 = .ok (.iload 8, 2) := by decide +kernel
theorem dL_passes_611 : decode cL_passes 611 = .ok (.ifCond .eq 26, 3) := by decide +kernel
theorem dL_passes_614 : decode cL_passes 614 = .ok (.aload_n 0, 1) := by decide +kernel
theorem dL_passes_615 : decode cL_passes 615 = .ok (.bipush 8, 2) := by decide +kernel
theorem dL_passes_617 : decode cL_passes 617 = .ok (.iconst 0, 1) := by decide +kernel
theorem dL_passes_618 : decode cL_passes 618 = .ok (.invokestatic 171, 3) := by decide +kernel
theorem dL_passes_621 : decode cL_passes 621 = .ok (.ifCond .lt 16, 3) := by decide +kernel
theorem dL_passes_624 : decode cL_passes 624 = .ok (.aload_n 0, 1) := by decide +kernel
theorem dL_passes_625 : decode cL_passes 625 = .ok (.invokestatic 284, 3) := by decide +kernel
theorem dL_passes_628 : decode cL_passes 628 = .ok (.lload_n 2, 1) := by decide +kernel
theorem dL_passes_629 : decode cL_passes 629 = .ok (.lcmp, 1) := by decide +kernel
theorem dL_passes_630 : decode cL_passes 630 = .ok (.ifCond .ne 7, 3) := by decide +kernel
theorem dL_passes_633 : decode cL_passes 633 = .ok (.iconst 1, 1) := by decide +kernel
theorem dL_passes_634 : decode cL_passes 634 = .ok (.goto 4, 3) := by decide +kernel
theorem dL_passes_637 : decode cL_passes 637 = .ok (.iconst 0, 1) := by decide +kernel
theorem dL_passes_638 : decode cL_passes 638 = .ok (.ireturn, 1) := by decide +kernel
theorem dL_night_0 : decode cL_night 0 = .ok (.new 174, 3) := by decide +kernel
theorem dL_night_3 : decode cL_night 3 = .ok (.dup, 1) := by decide +kernel
theorem dL_night_4 : decode cL_night 4 = .ok (.ldc 176, 2) := by decide +kernel
theorem dL_night_6 : decode cL_night 6 = .ok (.invokespecial 178, 3) := by decide +kernel
theorem dL_night_9 : decode cL_night 9 = .ok (.iload_n 0, 1) := by decide +kernel
theorem dL_night_10 : decode cL_night 10 = .ok (.sipush 255, 3) := by decide +kernel
theorem dL_night_13 : decode cL_night 13 = .ok (.iand, 1) := by decide +kernel
theorem dL_night_14 : decode cL_night 14 = .ok (.iconst 4, 1) := by decide +kernel
theorem dL_night_15 : decode cL_night 15 = .ok (.irem, 1) := by decide +kernel
theorem dL_night_16 : decode cL_night 16 = .ok (.invokevirtual 181, 3) := by decide +kernel
theorem dL_night_19 : decode cL_night 19 = .ok (.bipush 32, 2) := by decide +kernel
theorem dL_night_21 : decode cL_night 21 = .ok (.invokevirtual 184, 3) := by decide +kernel
theorem dL_night_24 : decode cL_night 24 = .ok (.iload_n 0, 1) := by decide +kernel
theorem dL_night_25 : decode cL_night 25 = .ok (.iconst 2, 1) := by decide +kernel
theorem dL_night_26 : decode cL_night 26 = .ok (.ishr, 1) := by decide +kernel
theorem dL_night_27 : decode cL_night 27 = .ok (.bipush 127, 2) := by decide +kernel
theorem dL_night_29 : decode cL_night 29 = .ok (.iand, 1) := by decide +kernel
theorem dL_night_30 : decode cL_night 30 = .ok (.invokevirtual 181, 3) := by decide +kernel
theorem dL_night_33 : decode cL_night 33 = .ok (.bipush 59, 2) := by decide +kernel
theorem dL_night_35 : decode cL_night 35 = .ok (.invokevirtual 184, 3) := by decide +kernel
theorem dL_night_38 : decode cL_night 38 = .ok (.astore_n 2, 1) := by decide +kernel
theorem dL_night_39 : decode cL_night 39 = .ok (.bipush 6, 2) := by decide +kernel
theorem dL_night_41 : decode cL_night 41 = .ok (.anewarray 163, 3) := by decide +kernel
theorem dL_night_44 : decode cL_night 44 = .ok (.dup, 1) := by decide +kernel
theorem dL_night_45 : decode cL_night 45 = .ok (.iconst 0, 1) := by decide +kernel
theorem dL_night_46 : decode cL_night 46 = .ok (.ldc 187, 2) := by decide +kernel
theorem dL_night_48 : decode cL_night 48 = .ok (.aastore, 1) := by decide +kernel
theorem dL_night_49 : decode cL_night 49 = .ok (.dup, 1) := by decide +kernel
theorem dL_night_50 : decode cL_night 50 = .ok (.iconst 1, 1) := by decide +kernel
theorem dL_night_51 : decode cL_night 51 = .ok (.ldc 189, 2) := by decide +kernel
theorem dL_night_53 : decode cL_night 53 = .ok (.aastore, 1) := by decide +kernel
theorem dL_night_54 : decode cL_night 54 = .ok (.dup, 1) := by decide +kernel
theorem dL_night_55 : decode cL_night 55 = .ok (.iconst 2, 1) := by decide +kernel
theorem dL_night_56 : decode cL_night 56 = .ok (.ldc 191, 2) := by decide +kernel
theorem dL_night_58 : decode cL_night 58 = .ok (.aastore, 1) := by decide +kernel
theorem dL_night_59 : decode cL_night 59 = .ok (.dup, 1) := by decide +kernel
theorem dL_night_60 : decode cL_night 60 = .ok (.iconst 3, 1) := by decide +kernel
theorem dL_night_61 : decode cL_night 61 = .ok (.ldc 193, 2) := by decide +kernel
theorem dL_night_63 : decode cL_night 63 = .ok (.aastore, 1) := by decide +kernel
theorem dL_night_64 : decode cL_night 64 = .ok (.dup, 1) := by decide +kernel
theorem dL_night_65 : decode cL_night 65 = .ok (.iconst 4, 1) := by decide +kernel
theorem dL_night_66 : decode cL_night 66 = .ok (.ldc 195, 2) := by decide +kernel
theorem dL_night_68 : decode cL_night 68 = .ok (.aastore, 1) := by decide +kernel
theorem dL_night_69 : decode cL_night 69 = .ok (.dup, 1) := by decide +kernel
theorem dL_night_70 : decode cL_night 70 = .ok (.iconst 5, 1) := by decide +kernel
theorem dL_night_71 : decode cL_night 71 = .ok (.ldc 197, 2) := by decide +kernel
theorem dL_night_73 : decode cL_night 73 = .ok (.aastore, 1) := by decide +kernel
theorem dL_night_74 : decode cL_night 74 = .ok (.astore_n 3, 1) := by decide +kernel
theorem dL_night_75 : decode cL_night 75 = .ok (.iconst 1, 1) := by decide +kernel
theorem dL_night_76 : decode cL_night 76 = .ok (.iload_n 0, 1) := by decide +kernel
theorem dL_night_77 : decode cL_night 77 = .ok (.iconst 4, 1) := by decide +kernel
theorem dL_night_78 : decode cL_night 78 = .ok (.ishr, 1) := by decide +kernel
theorem dL_night_79 : decode cL_night 79 = .ok (.sipush 255, 3) := by decide +kernel
theorem dL_night_82 : decode cL_night 82 = .ok (.iand, 1) := by decide +kernel
theorem dL_night_83 : decode cL_night 83 = .ok (.bipush 6, 2) := by decide +kernel
theorem dL_night_85 : decode cL_night 85 = .ok (.irem, 1) := by decide +kernel
theorem dL_night_86 : decode cL_night 86 = .ok (.iadd, 1) := by decide +kernel
theorem dL_night_87 : decode cL_night 87 = .ok (.istore 4, 2) := by decide +kernel
theorem dL_night_89 : decode cL_night 89 = .ok (.iload_n 1, 1) := by decide +kernel
theorem dL_night_90 : decode cL_night 90 = .ok (.istore 5, 2) := by decide +kernel
theorem dL_night_92 : decode cL_night 92 = .ok (.iconst 0, 1) := by decide +kernel
theorem dL_night_93 : decode cL_night 93 = .ok (.istore 6, 2) := by decide +kernel
theorem dL_night_95 : decode cL_night 95 = .ok (.iload 6, 2) := by decide +kernel
theorem dL_night_97 : decode cL_night 97 = .ok (.iload 4, 2) := by decide +kernel
theorem dL_night_99 : decode cL_night 99 = .ok (.if_icmp .ge 105, 3) := by decide +kernel
theorem dL_night_102 : decode cL_night 102 = .ok (.iload 5, 2) := by decide +kernel
theorem dL_night_104 : decode cL_night 104 = .ok (.ldc 199, 2) := by decide +kernel
theorem dL_night_106 : decode cL_night 106 = .ok (.imul, 1) := by decide +kernel
theorem dL_night_107 : decode cL_night 107 = .ok (.sipush 12345, 3) := by decide +kernel
theorem dL_night_110 : decode cL_night 110 = .ok (.iadd, 1) := by decide +kernel
theorem dL_night_111 : decode cL_night 111 = .ok (.istore 5, 2) := by decide +kernel
theorem dL_night_113 : decode cL_night 113 = .ok (.aload_n 2, 1) := by decide +kernel
theorem dL_night_114 : decode cL_night 114 = .ok (.ldc 200, 2) := by decide +kernel
theorem dL_night_116 : decode cL_night 116 = .ok (.invokevirtual 202, 3) := by decide +kernel
theorem dL_night_119 : decode cL_night 119 = .ok (.aload_n 3, 1) := by decide +kernel
theorem dL_night_120 : decode cL_night 120 = .ok (.iload 6, 2) := by decide +kernel
theorem dL_night_122 : decode cL_night 122 = .ok (.aaload, 1) := by decide +kernel
theorem dL_night_123 : decode cL_night 123 = .ok (.invokevirtual 202, 3) := by decide +kernel
theorem dL_night_126 : decode cL_night 126 = .ok (.bipush 32, 2) := by decide +kernel
theorem dL_night_128 : decode cL_night 128 = .ok (.invokevirtual 184, 3) := by decide +kernel
theorem dL_night_131 : decode cL_night 131 = .ok (.iload 5, 2) := by decide +kernel
theorem dL_night_133 : decode cL_night 133 = .ok (.bipush 8, 2) := by decide +kernel
theorem dL_night_135 : decode cL_night 135 = .ok (.ishr, 1) := by decide +kernel
theorem dL_night_136 : decode cL_night 136 = .ok (.sipush 255, 3) := by decide +kernel
theorem dL_night_139 : decode cL_night 139 = .ok (.iand, 1) := by decide +kernel
theorem dL_night_140 : decode cL_night 140 = .ok (.bipush 10, 2) := by decide +kernel
theorem dL_night_142 : decode cL_night 142 = .ok (.irem, 1) := by decide +kernel
theorem dL_night_143 : decode cL_night 143 = .ok (.invokevirtual 181, 3) := by decide +kernel
theorem dL_night_146 : decode cL_night 146 = .ok (.iload 5, 2) := by decide +kernel
theorem dL_night_148 : decode cL_night 148 = .ok (.bipush 12, 2) := by decide +kernel
theorem dL_night_150 : decode cL_night 150 = .ok (.ishr, 1) := by decide +kernel
theorem dL_night_151 : decode cL_night 151 = .ok (.iconst 1, 1) := by decide +kernel
theorem dL_night_152 : decode cL_night 152 = .ok (.iand, 1) := by decide +kernel
theorem dL_night_153 : decode cL_night 153 = .ok (.ifCond .ne 8, 3) := by decide +kernel
theorem dL_night_156 : decode cL_night 156 = .ok (.ldc 205, 2) := by decide +kernel
theorem dL_night_158 : decode cL_night 158 = .ok (.goto 36, 3) := by decide +kernel
theorem dL_night_161 : decode cL_night 161 = .ok (.new 174, 3) := by decide +kernel
theorem dL_night_164 : decode cL_night 164 = .ok (.dup, 1) := by decide +kernel
theorem dL_night_165 : decode cL_night 165 = .ok (.invokespecial 207, 3) := by decide +kernel
theorem dL_night_168 : decode cL_night 168 = .ok (.ldc 208, 2) := by decide +kernel
theorem dL_night_170 : decode cL_night 170 = .ok (.invokevirtual 202, 3) := by decide +kernel
theorem dL_night_173 : decode cL_night 173 = .ok (.iconst 1, 1) := by decide +kernel
theorem dL_night_174 : decode cL_night 174 = .ok (.iload 5, 2) := by decide +kernel
theorem dL_night_176 : decode cL_night 176 = .ok (.bipush 13, 2) := by decide +kernel
theorem dL_night_178 : decode cL_night 178 = .ok (.ishr, 1) := by decide +kernel
theorem dL_night_179 : decode cL_night 179 = .ok (.bipush 7, 2) := by decide +kernel
theorem dL_night_181 : decode cL_night 181 = .ok (.iand, 1) := by decide +kernel
theorem dL_night_182 : decode cL_night 182 = .ok (.iadd, 1) := by decide +kernel
theorem dL_night_183 : decode cL_night 183 = .ok (.invokevirtual 181, 3) := by decide +kernel
theorem dL_night_186 : decode cL_night 186 = .ok (.ldc 205, 2) := by decide +kernel
theorem dL_night_188 : decode cL_night 188 = .ok (.invokevirtual 202, 3) := by decide +kernel
theorem dL_night_191 : decode cL_night 191 = .ok (.invokevirtual 210, 3) := by decide +kernel
theorem dL_night_194 : decode cL_night 194 = .ok (.invokevirtual 202, 3) := by decide +kernel
theorem dL_night_197 : decode cL_night 197 = .ok (.pop, 1) := by decide +kernel
theorem dL_night_198 : decode cL_night 198 = .ok (.iinc 6 1, 3) := by decide +kernel
theorem dL_night_201 : decode cL_night 201 = .ok (.goto (-106), 3) := by decide +kernel
theorem dL_night_204 : decode cL_night 204 = .ok (.iconst 0, 1) := by decide +kernel
theorem dL_night_205 : decode cL_night 205 = .ok (.istore 6, 2) := by decide +kernel
theorem dL_night_207 : decode cL_night 207 = .ok (.iload 6, 2) := by decide +kernel
theorem dL_night_209 : decode cL_night 209 = .ok (.iload_n 0, 1) := by decide +kernel
theorem dL_night_210 : decode cL_night 210 = .ok (.bipush 8, 2) := by decide +kernel
theorem dL_night_212 : decode cL_night 212 = .ok (.ishr, 1) := by decide +kernel
theorem dL_night_213 : decode cL_night 213 = .ok (.bipush 7, 2) := by decide +kernel
theorem dL_night_215 : decode cL_night 215 = .ok (.iand, 1) := by decide +kernel
theorem dL_night_216 : decode cL_night 216 = .ok (.if_icmp .ge 69, 3) := by decide +kernel
theorem dL_night_219 : decode cL_night 219 = .ok (.iload 5, 2) := by decide +kernel
theorem dL_night_221 : decode cL_night 221 = .ok (.ldc 199, 2) := by decide +kernel
theorem dL_night_223 : decode cL_night 223 = .ok (.imul, 1) := by decide +kernel
theorem dL_night_224 : decode cL_night 224 = .ok (.sipush 12345, 3) := by decide +kernel
theorem dL_night_227 : decode cL_night 227 = .ok (.iadd, 1) := by decide +kernel
theorem dL_night_228 : decode cL_night 228 = .ok (.istore 5, 2) := by decide +kernel
theorem dL_night_230 : decode cL_night 230 = .ok (.aload_n 2, 1) := by decide +kernel
theorem dL_night_231 : decode cL_night 231 = .ok (.ldc 214, 2) := by decide +kernel
theorem dL_night_233 : decode cL_night 233 = .ok (.invokevirtual 202, 3) := by decide +kernel
theorem dL_night_236 : decode cL_night 236 = .ok (.aload_n 3, 1) := by decide +kernel
theorem dL_night_237 : decode cL_night 237 = .ok (.iload 5, 2) := by decide +kernel
theorem dL_night_239 : decode cL_night 239 = .ok (.bipush 8, 2) := by decide +kernel
theorem dL_night_241 : decode cL_night 241 = .ok (.ishr, 1) := by decide +kernel
theorem dL_night_242 : decode cL_night 242 = .ok (.sipush 255, 3) := by decide +kernel
theorem dL_night_245 : decode cL_night 245 = .ok (.iand, 1) := by decide +kernel
theorem dL_night_246 : decode cL_night 246 = .ok (.iload 4, 2) := by decide +kernel
theorem dL_night_248 : decode cL_night 248 = .ok (.irem, 1) := by decide +kernel
theorem dL_night_249 : decode cL_night 249 = .ok (.aaload, 1) := by decide +kernel
theorem dL_night_250 : decode cL_night 250 = .ok (.invokevirtual 202, 3) := by decide +kernel
theorem dL_night_253 : decode cL_night 253 = .ok (.bipush 32, 2) := by decide +kernel
theorem dL_night_255 : decode cL_night 255 = .ok (.invokevirtual 184, 3) := by decide +kernel
theorem dL_night_258 : decode cL_night 258 = .ok (.iload 5, 2) := by decide +kernel
theorem dL_night_260 : decode cL_night 260 = .ok (.bipush 12, 2) := by decide +kernel
theorem dL_night_262 : decode cL_night 262 = .ok (.ishr, 1) := by decide +kernel
theorem dL_night_263 : decode cL_night 263 = .ok (.sipush 255, 3) := by decide +kernel
theorem dL_night_266 : decode cL_night 266 = .ok (.iand, 1) := by decide +kernel
theorem dL_night_267 : decode cL_night 267 = .ok (.bipush 100, 2) := by decide +kernel
theorem dL_night_269 : decode cL_night 269 = .ok (.irem, 1) := by decide +kernel
theorem dL_night_270 : decode cL_night 270 = .ok (.invokevirtual 181, 3) := by decide +kernel
theorem dL_night_273 : decode cL_night 273 = .ok (.bipush 59, 2) := by decide +kernel
theorem dL_night_275 : decode cL_night 275 = .ok (.invokevirtual 184, 3) := by decide +kernel
theorem dL_night_278 : decode cL_night 278 = .ok (.pop, 1) := by decide +kernel
theorem dL_night_279 : decode cL_night 279 = .ok (.iinc 6 1, 3) := by decide +kernel
theorem dL_night_282 : decode cL_night 282 = .ok (.goto (-75), 3) := by decide +kernel
theorem dL_night_285 : decode cL_night 285 = .ok (.aload_n 2, 1) := by decide +kernel
theorem dL_night_286 : decode cL_night 286 = .ok (.invokevirtual 210, 3) := by decide +kernel
theorem dL_night_289 : decode cL_night 289 = .ok (.areturn, 1) := by decide +kernel
theorem dL_law_0 : decode cL_law 0 = .ok (.bipush 6, 2) := by decide +kernel
theorem dL_law_2 : decode cL_law 2 = .ok (.newarray .int, 2) := by decide +kernel
theorem dL_law_4 : decode cL_law 4 = .ok (.astore_n 1, 1) := by decide +kernel
theorem dL_law_5 : decode cL_law 5 = .ok (.iconst 0, 1) := by decide +kernel
theorem dL_law_6 : decode cL_law 6 = .ok (.istore_n 2, 1) := by decide +kernel
theorem dL_law_7 : decode cL_law 7 = .ok (.iload_n 2, 1) := by decide +kernel
theorem dL_law_8 : decode cL_law 8 = .ok (.bipush 6, 2) := by decide +kernel
theorem dL_law_10 : decode cL_law 10 = .ok (.if_icmp .ge 25, 3) := by decide +kernel
theorem dL_law_13 : decode cL_law 13 = .ok (.iload_n 2, 1) := by decide +kernel
theorem dL_law_14 : decode cL_law 14 = .ok (.aload_n 0, 1) := by decide +kernel
theorem dL_law_15 : decode cL_law 15 = .ok (.arraylength, 1) := by decide +kernel
theorem dL_law_16 : decode cL_law 16 = .ok (.if_icmp .ge 19, 3) := by decide +kernel
theorem dL_law_19 : decode cL_law 19 = .ok (.aload_n 1, 1) := by decide +kernel
theorem dL_law_20 : decode cL_law 20 = .ok (.iload_n 2, 1) := by decide +kernel
theorem dL_law_21 : decode cL_law 21 = .ok (.aload_n 0, 1) := by decide +kernel
theorem dL_law_22 : decode cL_law 22 = .ok (.iload_n 2, 1) := by decide +kernel
theorem dL_law_23 : decode cL_law 23 = .ok (.iaload, 1) := by decide +kernel
theorem dL_law_24 : decode cL_law 24 = .ok (.ldc_w 292, 3) := by decide +kernel
theorem dL_law_27 : decode cL_law 27 = .ok (.iand, 1) := by decide +kernel
theorem dL_law_28 : decode cL_law 28 = .ok (.iastore, 1) := by decide +kernel
theorem dL_law_29 : decode cL_law 29 = .ok (.iinc 2 1, 3) := by decide +kernel
theorem dL_law_32 : decode cL_law 32 = .ok (.goto (-25), 3) := by decide +kernel
theorem dL_law_35 : decode cL_law 35 = .ok (.new 8, 3) := by decide +kernel
theorem dL_law_38 : decode cL_law 38 = .ok (.dup, 1) := by decide +kernel
theorem dL_law_39 : decode cL_law 39 = .ok (.invokespecial 293, 3) := by decide +kernel
theorem dL_law_42 : decode cL_law 42 = .ok (.astore_n 2, 1) := by decide +kernel
theorem dL_law_43 : decode cL_law 43 = .ok (.aload_n 2, 1) := by decide +kernel
theorem dL_law_44 : decode cL_law 44 = .ok (.bipush 8, 2) := by decide +kernel
theorem dL_law_46 : decode cL_law 46 = .ok (.iconst 0, 1) := by decide +kernel
theorem dL_law_47 : decode cL_law 47 = .ok (.invokestatic 171, 3) := by decide +kernel
theorem dL_law_50 : decode cL_law 50 = .ok (.bipush (-102), 2) := by decide +kernel
theorem dL_law_52 : decode cL_law 52 = .ok (.if_icmp .ne 85, 3) := by decide +kernel
theorem dL_law_55 : decode cL_law 55 = .ok (.aload_n 2, 1) := by decide +kernel
theorem dL_law_56 : decode cL_law 56 = .ok (.invokevirtual 243, 3) := by decide +kernel
theorem dL_law_59 : decode cL_law 59 = .ok (.iconst 3, 1) := by decide +kernel
theorem dL_law_60 : decode cL_law 60 = .ok (.if_icmp .ne 77, 3) := by decide +kernel
theorem dL_law_63 : decode cL_law 63 = .ok (.aload_n 2, 1) := by decide +kernel
theorem dL_law_64 : decode cL_law 64 = .ok (.invokevirtual 246, 3) := by decide +kernel
theorem dL_law_67 : decode cL_law 67 = .ok (.iconst 3, 1) := by decide +kernel
theorem dL_law_68 : decode cL_law 68 = .ok (.if_icmp .ne 69, 3) := by decide +kernel
theorem dL_law_71 : decode cL_law 71 = .ok (.aload_n 2, 1) := by decide +kernel
theorem dL_law_72 : decode cL_law 72 = .ok (.invokevirtual 221, 3) := by decide +kernel
theorem dL_law_75 : decode cL_law 75 = .ok (.iconst 2, 1) := by decide +kernel
theorem dL_law_76 : decode cL_law 76 = .ok (.if_icmp .ne 61, 3) := by decide +kernel
theorem dL_law_79 : decode cL_law 79 = .ok (.aload_n 2, 1) := by decide +kernel
theorem dL_law_80 : decode cL_law 80 = .ok (.bipush 39, 2) := by decide +kernel
theorem dL_law_82 : decode cL_law 82 = .ok (.iconst 0, 1) := by decide +kernel
theorem dL_law_83 : decode cL_law 83 = .ok (.invokestatic 171, 3) := by decide +kernel
theorem dL_law_86 : decode cL_law 86 = .ok (.iconst 2, 1) := by decide +kernel
theorem dL_law_87 : decode cL_law 87 = .ok (.if_icmp .ne 50, 3) := by decide +kernel
theorem dL_law_90 : decode cL_law 90 = .ok (.aload_n 2, 1) := by decide +kernel
theorem dL_law_91 : decode cL_law 91 = .ok (.bipush 14, 2) := by decide +kernel
theorem dL_law_93 : decode cL_law 93 = .ok (.iconst 0, 1) := by decide +kernel
theorem dL_law_94 : decode cL_law 94 = .ok (.invokestatic 171, 3) := by decide +kernel
theorem dL_law_97 : decode cL_law 97 = .ok (.bipush (-101), 2) := by decide +kernel
theorem dL_law_99 : decode cL_law 99 = .ok (.if_icmp .ne 38, 3) := by decide +kernel
theorem dL_law_102 : decode cL_law 102 = .ok (.aload_n 2, 1) := by decide +kernel
theorem dL_law_103 : decode cL_law 103 = .ok (.bipush 43, 2) := by decide +kernel
theorem dL_law_105 : decode cL_law 105 = .ok (.iconst 0, 1) := by decide +kernel
theorem dL_law_106 : decode cL_law 106 = .ok (.invokestatic 171, 3) := by decide +kernel
theorem dL_law_109 : decode cL_law 109 = .ok (.bipush (-104), 2) := by decide +kernel
theorem dL_law_111 : decode cL_law 111 = .ok (.if_icmp .ne 26, 3) := by decide +kernel
theorem dL_law_114 : decode cL_law 114 = .ok (.aload_n 2, 1) := by decide +kernel
theorem dL_law_115 : decode cL_law 115 = .ok (.bipush 10, 2) := by decide +kernel
theorem dL_law_117 : decode cL_law 117 = .ok (.iconst 0, 1) := by decide +kernel
theorem dL_law_118 : decode cL_law 118 = .ok (.invokestatic 171, 3) := by decide +kernel
theorem dL_law_121 : decode cL_law 121 = .ok (.bipush (-101), 2) := by decide +kernel
theorem dL_law_123 : decode cL_law 123 = .ok (.if_icmp .ne 14, 3) := by decide +kernel
theorem dL_law_126 : decode cL_law 126 = .ok (.aload_n 2, 1) := by decide +kernel
theorem dL_law_127 : decode cL_law 127 = .ok (.invokestatic 288, 3) := by decide +kernel
theorem dL_law_130 : decode cL_law 130 = .ok (.ifCond .eq 7, 3) := by decide +kernel
theorem dL_law_133 : decode cL_law 133 = .ok (.iconst 1, 1) := by decide +kernel
theorem dL_law_134 : decode cL_law 134 = .ok (.goto 4, 3) := by decide +kernel
theorem dL_law_137 : decode cL_law 137 = .ok (.iconst 0, 1) := by decide +kernel
theorem dL_law_138 : decode cL_law 138 = .ok (.istore_n 3, 1) := by decide +kernel
theorem dL_law_139 : decode cL_law 139 = .ok (.iconst 0, 1) := by decide +kernel
theorem dL_law_140 : decode cL_law 140 = .ok (.istore 4, 2) := by decide +kernel
theorem dL_law_142 : decode cL_law 142 = .ok (.iload 4, 2) := by decide +kernel
theorem dL_law_144 : decode cL_law 144 = .ok (.iconst 1, 1) := by decide +kernel
theorem dL_law_145 : decode cL_law 145 = .ok (.iadd, 1) := by decide +kernel
theorem dL_law_146 : decode cL_law 146 = .ok (.bipush 6, 2) := by decide +kernel
theorem dL_law_148 : decode cL_law 148 = .ok (.if_icmp .ge 211, 3) := by decide +kernel
theorem dL_law_151 : decode cL_law 151 = .ok (.iload_n 3, 1) := by decide +kernel
theorem dL_law_152 : decode cL_law 152 = .ok (.ifCond .eq 207, 3) := by decide +kernel
theorem dL_law_155 : decode cL_law 155 = .ok (.iload 4, 2) := by decide +kernel
theorem dL_law_157 : decode cL_law 157 = .ok (.iconst 2, 1) := by decide +kernel
theorem dL_law_158 : decode cL_law 158 = .ok (.if_icmp .eq 62, 3) := by decide +kernel
theorem dL_law_161 : decode cL_law 161 = .ok (.aload_n 2, 1) := by decide +kernel
theorem dL_law_162 : decode cL_law 162 = .ok (.aload_n 1, 1) := by decide +kernel
theorem dL_law_163 : decode cL_law 163 = .ok (.iload 4, 2) := by decide +kernel
theorem dL_law_165 : decode cL_law 165 = .ok (.iaload, 1) := by decide +kernel
theorem dL_law_166 : decode cL_law 166 = .ok (.aload_n 1, 1) := by decide +kernel
theorem dL_law_167 : decode cL_law 167 = .ok (.iload 4, 2) := by decide +kernel
theorem dL_law_169 : decode cL_law 169 = .ok (.iconst 1, 1) := by decide +kernel
theorem dL_law_170 : decode cL_law 170 = .ok (.iadd, 1) := by decide +kernel
theorem dL_law_171 : decode cL_law 171 = .ok (.iaload, 1) := by decide +kernel
theorem dL_law_172 : decode cL_law 172 = .ok (.invokestatic 294, 3) := by decide +kernel
theorem dL_law_175 : decode cL_law 175 = .ok (.invokestatic 298, 3) := by decide +kernel
theorem dL_law_178 : decode cL_law 178 = .ok (.ifCond .eq 40, 3) := by decide +kernel
theorem dL_law_181 : decode cL_law 181 = .ok (.aload_n 2, 1) := by decide +kernel
theorem dL_law_182 : decode cL_law 182 = .ok (.bipush 11, 2) := by decide +kernel
theorem dL_law_184 : decode cL_law 184 = .ok (.iconst 0, 1) := by decide +kernel
theorem dL_law_185 : decode cL_law 185 = .ok (.invokestatic 171, 3) := by decide +kernel
theorem dL_law_188 : decode cL_law 188 = .ok (.aload_n 2, 1) := by decide +kernel
theorem dL_law_189 : decode cL_law 189 = .ok (.invokevirtual 243, 3) := by decide +kernel
theorem dL_law_192 : decode cL_law 192 = .ok (.if_icmp .ne 26, 3) := by decide +kernel
theorem dL_law_195 : decode cL_law 195 = .ok (.aload_n 2, 1) := by decide +kernel
theorem dL_law_196 : decode cL_law 196 = .ok (.invokevirtual 302, 3) := by decide +kernel
theorem dL_law_199 : decode cL_law 199 = .ok (.ifCond .ne 19, 3) := by decide +kernel
theorem dL_law_202 : decode cL_law 202 = .ok (.aload_n 2, 1) := by decide +kernel
theorem dL_law_203 : decode cL_law 203 = .ok (.bipush 8, 2) := by decide +kernel
theorem dL_law_205 : decode cL_law 205 = .ok (.iconst 0, 1) := by decide +kernel
theorem dL_law_206 : decode cL_law 206 = .ok (.invokestatic 171, 3) := by decide +kernel
theorem dL_law_209 : decode cL_law 209 = .ok (.bipush (-102), 2) := by decide +kernel
theorem dL_law_211 : decode cL_law 211 = .ok (.if_icmp .ne 7, 3) := by decide +kernel
theorem dL_law_214 : decode cL_law 214 = .ok (.iconst 1, 1) := by decide +kernel
theorem dL_law_215 : decode cL_law 215 = .ok (.goto 4, 3) := by decide +kernel
theorem dL_law_218 : decode cL_law 218 = .ok (.iconst 0, 1) := by decide +kernel
theorem dL_law_219 : decode cL_law 219 = .ok (.istore_n 3, 1) := by decide +kernel
theorem dL_law_220 : decode cL_law 220 = .ok (.iconst 0, 1) := by decide +kernel
theorem dL_law_221 : decode cL_law 221 = .ok (.istore 5, 2) := by decide +kernel
theorem dL_law_223 : decode cL_law 223 = .ok (.iload 5, 2) := by decide +kernel
theorem dL_law_225 : decode cL_law 225 = .ok (.bipush 10, 2) := by decide +kernel
theorem dL_law_227 : decode cL_law 227 = .ok (.if_icmp .ge 38, 3) := by decide +kernel
theorem dL_law_230 : decode cL_law 230 = .ok (.iload_n 3, 1) := by decide +kernel
theorem dL_law_231 : decode cL_law 231 = .ok (.ifCond .eq 34, 3) := by decide +kernel
theorem dL_law_234 : decode cL_law 234 = .ok (.aload_n 2, 1) := by decide +kernel
theorem dL_law_235 : decode cL_law 235 = .ok (.aload_n 1, 1) := by decide +kernel
theorem dL_law_236 : decode cL_law 236 = .ok (.iload 4, 2) := by decide +kernel
theorem dL_law_238 : decode cL_law 238 = .ok (.iaload, 1) := by decide +kernel
theorem dL_law_239 : decode cL_law 239 = .ok (.iconst 3, 1) := by decide +kernel
theorem dL_law_240 : decode cL_law 240 = .ok (.iload 5, 2) := by decide +kernel
theorem dL_law_242 : decode cL_law 242 = .ok (.imul, 1) := by decide +kernel
theorem dL_law_243 : decode cL_law 243 = .ok (.ishr, 1) := by decide +kernel
theorem dL_law_244 : decode cL_law 244 = .ok (.aload_n 1, 1) := by decide +kernel
theorem dL_law_245 : decode cL_law 245 = .ok (.iload 4, 2) := by decide +kernel
theorem dL_law_247 : decode cL_law 247 = .ok (.iconst 1, 1) := by decide +kernel
theorem dL_law_248 : decode cL_law 248 = .ok (.iadd, 1) := by decide +kernel
theorem dL_law_249 : decode cL_law 249 = .ok (.iaload, 1) := by decide +kernel
theorem dL_law_250 : decode cL_law 250 = .ok (.iconst 2, 1) := by decide +kernel
theorem dL_law_251 : decode cL_law 251 = .ok (.iload 5, 2) := by decide +kernel
theorem dL_law_253 : decode cL_law 253 = .ok (.imul, 1) := by decide +kernel
theorem dL_law_254 : decode cL_law 254 = .ok (.ishr, 1) := by decide +kernel
theorem dL_law_255 : decode cL_law 255 = .ok (.invokestatic 306, 3) := by decide +kernel
theorem dL_law_258 : decode cL_law 258 = .ok (.istore_n 3, 1) := by decide +kernel
theorem dL_law_259 : decode cL_law 259 = .ok (.iinc 5 1, 3) := by decide +kernel
theorem dL_law_262 : decode cL_law 262 = .ok (.goto (-39), 3) := by decide +kernel
theorem dL_law_265 : decode cL_law 265 = .ok (.iload_n 3, 1) := by decide +kernel
theorem dL_law_266 : decode cL_law 266 = .ok (.ifCond .eq 10, 3) := by decide +kernel
theorem dL_law_269 : decode cL_law 269 = .ok (.aload_n 2, 1) := by decide +kernel
theorem dL_law_270 : decode cL_law 270 = .ok (.invokestatic 284, 3) := by decide +kernel
theorem dL_law_273 : decode cL_law 273 = .ok (.goto 4, 3) := by decide +kernel
theorem dL_law_276 : decode cL_law 276 = .ok (.lconst 0, 1) := by decide +kernel
theorem dL_law_277 : decode cL_law 277 = .ok (.lstore 5, 2) := by decide +kernel
theorem dL_law_279 : decode cL_law 279 = .ok (.iload_n 3, 1) := by decide +kernel
theorem dL_law_280 : decode cL_law 280 = .ok (.ifCond .eq 71, 3) := by decide +kernel
theorem dL_law_283 : decode cL_law 283 = .ok (.aload_n 2, 1) := by decide +kernel
theorem dL_law_284 : decode cL_law 284 = .ok (.invokestatic 288, 3) := by decide +kernel
theorem dL_law_287 : decode cL_law 287 = .ok (.ifCond .eq 64, 3) := by decide +kernel
theorem dL_law_290 : decode cL_law 290 = .ok (.aload_n 2, 1) := by decide +kernel
theorem dL_law_291 : decode cL_law 291 = .ok (.aload_n 1, 1) := by decide +kernel
theorem dL_law_292 : decode cL_law 292 = .ok (.iload 4, 2) := by decide +kernel
theorem dL_law_294 : decode cL_law 294 = .ok (.iaload, 1) := by decide +kernel
theorem dL_law_295 : decode cL_law 295 = .ok (.aload_n 1, 1) := by decide +kernel
theorem dL_law_296 : decode cL_law 296 = .ok (.iload 4, 2) := by decide +kernel
theorem dL_law_298 : decode cL_law 298 = .ok (.iconst 1, 1) := by decide +kernel
theorem dL_law_299 : decode cL_law 299 = .ok (.iadd, 1) := by decide +kernel
theorem dL_law_300 : decode cL_law 300 = .ok (.iaload, 1) := by decide +kernel
theorem dL_law_301 : decode cL_law 301 = .ok (.invokestatic 310, 3) := by decide +kernel
theorem dL_law_304 : decode cL_law 304 = .ok (.ifCond .eq 47, 3) := by decide +kernel
theorem dL_law_307 : decode cL_law 307 = .ok (.aload_n 2, 1) := by decide +kernel
theorem dL_law_308 : decode cL_law 308 = .ok (.invokestatic 284, 3) := by decide +kernel
theorem dL_law_311 : decode cL_law 311 = .ok (.lload 5, 2) := by decide +kernel
theorem dL_law_313 : decode cL_law 313 = .ok (.lcmp, 1) := by decide +kernel
theorem dL_law_314 : decode cL_law 314 = .ok (.ifCond .ne 37, 3) := by decide +kernel
theorem dL_law_317 : decode cL_law 317 = .ok (.aload_n 2, 1) := by decide +kernel
theorem dL_law_318 : decode cL_law 318 = .ok (.invokestatic 313, 3) := by decide +kernel
theorem dL_law_321 : decode cL_law 321 = .ok (.ifCond .eq 30, 3) := by decide +kernel
theorem dL_law_324 : decode cL_law 324 = .ok (.aload_n 2, 1) := by decide +kernel
theorem dL_law_325 : decode cL_law 325 = .ok (.aload_n 1, 1) := by decide +kernel
theorem dL_law_326 : decode cL_law 326 = .ok (.iload 4, 2) := by decide +kernel
theorem dL_law_328 : decode cL_law 328 = .ok (.iconst 1, 1) := by decide +kernel
theorem dL_law_329 : decode cL_law 329 = .ok (.iadd, 1) := by decide +kernel
theorem dL_law_330 : decode cL_law 330 = .ok (.iaload, 1) := by decide +kernel
theorem dL_law_331 : decode cL_law 331 = .ok (.invokestatic 316, 3) := by decide +kernel
theorem dL_law_334 : decode cL_law 334 = .ok (.ifCond .eq 17, 3) := by decide +kernel
theorem dL_law_337 : decode cL_law 337 = .ok (.aload_n 2, 1) := by decide +kernel
theorem dL_law_338 : decode cL_law 338 = .ok (.invokestatic 284, 3) := by decide +kernel
theorem dL_law_341 : decode cL_law 341 = .ok (.lload 5, 2) := by decide +kernel
theorem dL_law_343 : decode cL_law 343 = .ok (.lcmp, 1) := by decide +kernel
theorem dL_law_344 : decode cL_law 344 = .ok (.ifCond .ne 7, 3) := by decide +kernel
theorem dL_law_347 : decode cL_law 347 = .ok (.iconst 1, 1) := by decide +kernel
theorem dL_law_348 : decode cL_law 348 = .ok (.goto 4, 3) := by decide +kernel
theorem dL_law_351 : decode cL_law 351 = .ok (.iconst 0, 1) := by decide +kernel
theorem dL_law_352 : decode cL_law 352 = .ok (.istore_n 3, 1) := by decide +kernel
theorem dL_law_353 : decode cL_law 353 = .ok (.iinc 4 2, 3) := by decide +kernel
theorem dL_law_356 : decode cL_law 356 = .ok (.goto (-214), 3) := by decide +kernel
theorem dL_law_359 : decode cL_law 359 = .ok (.iload_n 3, 1) := by decide +kernel
theorem dL_law_360 : decode cL_law 360 = .ok (.ireturn, 1) := by decide +kernel
