theorem dL_register_0 : decode cL_register 0 = .ok (.aload_n 0, 1) := by decide +kernel
theorem dL_register_1 : decode cL_register 1 = .ok (.invokevirtual 243, 3) := by decide +kernel
theorem dL_register_4 : decode cL_register 4 = .ok (.istore_n 1, 1) := by decide +kernel
theorem dL_register_5 : decode cL_register 5 = .ok (.aload_n 0, 1) := by decide +kernel
theorem dL_register_6 : decode cL_register 6 = .ok (.invokevirtual 246, 3) := by decide +kernel
theorem dL_register_9 : decode cL_register 9 = .ok (.istore_n 2, 1) := by decide +kernel
theorem dL_register_10 : decode cL_register 10 = .ok (.aload_n 0, 1) := by decide +kernel
theorem dL_register_11 : decode cL_register 11 = .ok (.invokevirtual 249, 3) := by decide +kernel
theorem dL_register_14 : decode cL_register 14 = .ok (.istore_n 3, 1) := by decide +kernel
theorem dL_register_15 : decode cL_register 15 = .ok (.aload_n 0, 1) := by decide +kernel
theorem dL_register_16 : decode cL_register 16 = .ok (.invokevirtual 218, 3) := by decide +kernel
theorem dL_register_19 : decode cL_register 19 = .ok (.istore 4, 2) := by decide +kernel
theorem dL_register_21 : decode cL_register 21 = .ok (.iconst 0, 1) := by decide +kernel
theorem dL_register_22 : decode cL_register 22 = .ok (.istore 5, 2) := by decide +kernel
theorem dL_register_24 : decode cL_register 24 = .ok (.iconst 0, 1) := by decide +kernel
theorem dL_register_25 : decode cL_register 25 = .ok (.istore 6, 2) := by decide +kernel
theorem dL_register_27 : decode cL_register 27 = .ok (.iconst 0, 1) := by decide +kernel
theorem dL_register_28 : decode cL_register 28 = .ok (.istore 7, 2) := by decide +kernel
theorem dL_register_30 : decode cL_register 30 = .ok (.bipush 10, 2) := by decide +kernel
theorem dL_register_32 : decode cL_register 32 = .ok (.newarray .int, 2) := by decide +kernel
theorem dL_register_34 : decode cL_register 34 = .ok (.astore 8, 2) := by decide +kernel
theorem dL_register_36 : decode cL_register 36 = .ok (.bipush 10, 2) := by decide +kernel
theorem dL_register_38 : decode cL_register 38 = .ok (.newarray .int, 2) := by decide +kernel
theorem dL_register_40 : decode cL_register 40 = .ok (.astore 9, 2) := by decide +kernel
theorem dL_register_42 : decode cL_register 42 = .ok (.bipush 10, 2) := by decide +kernel
theorem dL_register_44 : decode cL_register 44 = .ok (.newarray .int, 2) := by decide +kernel
theorem dL_register_46 : decode cL_register 46 = .ok (.astore 10, 2) := by decide +kernel
theorem dL_register_48 : decode cL_register 48 = .ok (.iconst 0, 1) := by decide +kernel
theorem dL_register_49 : decode cL_register 49 = .ok (.istore 11, 2) := by decide +kernel
theorem dL_register_51 : decode cL_register 51 = .ok (.iload_n 1, 1) := by decide +kernel
theorem dL_register_52 : decode cL_register 52 = .ok (.bipush 10, 2) := by decide +kernel
theorem dL_register_54 : decode cL_register 54 = .ok (.if_icmp .gt 75, 3) := by decide +kernel
theorem dL_register_57 : decode cL_register 57 = .ok (.iload_n 2, 1) := by decide +kernel
theorem dL_register_58 : decode cL_register 58 = .ok (.bipush 12, 2) := by decide +kernel
theorem dL_register_60 : decode cL_register 60 = .ok (.if_icmp .gt 69, 3) := by decide +kernel
theorem dL_register_63 : decode cL_register 63 = .ok (.iload_n 3, 1) := by decide +kernel
theorem dL_register_64 : decode cL_register 64 = .ok (.bipush 60, 2) := by decide +kernel
theorem dL_register_66 : decode cL_register 66 = .ok (.if_icmp .gt 63, 3) := by decide +kernel
theorem dL_register_69 : decode cL_register 69 = .ok (.iload 4, 2) := by decide +kernel
theorem dL_register_71 : decode cL_register 71 = .ok (.sipush 720, 3) := by decide +kernel
theorem dL_register_74 : decode cL_register 74 = .ok (.if_icmp .gt 55, 3) := by decide +kernel
theorem dL_register_77 : decode cL_register 77 = .ok (.aload_n 0, 1) := by decide +kernel
theorem dL_register_78 : decode cL_register 78 = .ok (.bipush 18, 2) := by decide +kernel
theorem dL_register_80 : decode cL_register 80 = .ok (.iload_n 1, 1) := by decide +kernel
theorem dL_register_81 : decode cL_register 81 = .ok (.invokestatic 171, 3) := by decide +kernel
theorem dL_register_84 : decode cL_register 84 = .ok (.bipush (-104), 2) := by decide +kernel
theorem dL_register_86 : decode cL_register 86 = .ok (.if_icmp .ne 43, 3) := by decide +kernel
theorem dL_register_89 : decode cL_register 89 = .ok (.aload_n 0, 1) := by decide +kernel
theorem dL_register_90 : decode cL_register 90 = .ok (.bipush 25, 2) := by decide +kernel
theorem dL_register_92 : decode cL_register 92 = .ok (.iload_n 2, 1) := by decide +kernel
theorem dL_register_93 : decode cL_register 93 = .ok (.invokestatic 171, 3) := by decide +kernel
theorem dL_register_96 : decode cL_register 96 = .ok (.bipush (-104), 2) := by decide +kernel
theorem dL_register_98 : decode cL_register 98 = .ok (.if_icmp .ne 31, 3) := by decide +kernel
theorem dL_register_101 : decode cL_register 101 = .ok (.aload_n 0, 1) := by decide +kernel
theorem dL_register_102 : decode cL_register 102 = .ok (.bipush 30, 2) := by decide +kernel
theorem dL_register_104 : decode cL_register 104 = .ok (.iload_n 3, 1) := by decide +kernel
theorem dL_register_105 : decode cL_register 105 = .ok (.invokestatic 171, 3) := by decide +kernel
theorem dL_register_108 : decode cL_register 108 = .ok (.bipush (-104), 2) := by decide +kernel
theorem dL_register_110 : decode cL_register 110 = .ok (.if_icmp .ne 19, 3) := by decide +kernel
theorem dL_register_113 : decode cL_register 113 = .ok (.aload_n 0, 1) := by decide +kernel
theorem dL_register_114 : decode cL_register 114 = .ok (.bipush 42, 2) := by decide +kernel
theorem dL_register_116 : decode cL_register 116 = .ok (.iload_n 1, 1) := by decide +kernel
theorem dL_register_117 : decode cL_register 117 = .ok (.invokestatic 171, 3) := by decide +kernel
theorem dL_register_120 : decode cL_register 120 = .ok (.bipush (-104), 2) := by decide +kernel
theorem dL_register_122 : decode cL_register 122 = .ok (.if_icmp .ne 7, 3) := by decide +kernel
theorem dL_register_125 : decode cL_register 125 = .ok (.iconst 1, 1) := by decide +kernel
theorem dL_register_126 : decode cL_register 126 = .ok (.goto 4, 3) := by decide +kernel
theorem dL_register_129 : decode cL_register 129 = .ok (.iconst 0, 1) := by decide +kernel
theorem dL_register_130 : decode cL_register 130 = .ok (.istore 12, 2) := by decide +kernel
theorem dL_register_132 : decode cL_register 132 = .ok (.iconst 0, 1) := by decide +kernel
theorem dL_register_133 : decode cL_register 133 = .ok (.istore 13, 2) := by decide +kernel
theorem dL_register_135 : decode cL_register 135 = .ok (.iload 13, 2) := by decide +kernel
theorem dL_register_137 : decode cL_register 137 = .ok (.iload_n 3, 1) := by decide +kernel
theorem dL_register_138 : decode cL_register 138 = .ok (.if_icmp .ge 120, 3) := by decide +kernel
theorem dL_register_141 : decode cL_register 141 = .ok (.iload 12, 2) := by decide +kernel
theorem dL_register_143 : decode cL_register 143 = .ok (.ifCond .eq 115, 3) := by decide +kernel
theorem dL_register_146 : decode cL_register 146 = .ok (.aload_n 0, 1) := by decide +kernel
theorem dL_register_147 : decode cL_register 147 = .ok (.bipush 30, 2) := by decide +kernel
theorem dL_register_149 : decode cL_register 149 = .ok (.iload 13, 2) := by decide +kernel
theorem dL_register_151 : decode cL_register 151 = .ok (.invokestatic 171, 3) := by decide +kernel
theorem dL_register_154 : decode cL_register 154 = .ok (.istore 14, 2) := by decide +kernel
theorem dL_register_156 : decode cL_register 156 = .ok (.aload_n 0, 1) := by decide +kernel
theorem dL_register_157 : decode cL_register 157 = .ok (.bipush 31, 2) := by decide +kernel
theorem dL_register_159 : decode cL_register 159 = .ok (.iload 13, 2) := by decide +kernel
theorem dL_register_161 : decode cL_register 161 = .ok (.invokestatic 171, 3) := by decide +kernel
theorem dL_register_164 : decode cL_register 164 = .ok (.istore 15, 2) := by decide +kernel
theorem dL_register_166 : decode cL_register 166 = .ok (.aload_n 0, 1) := by decide +kernel
theorem dL_register_167 : decode cL_register 167 = .ok (.bipush 32, 2) := by decide +kernel
theorem dL_register_169 : decode cL_register 169 = .ok (.iload 13, 2) := by decide +kernel
theorem dL_register_171 : decode cL_register 171 = .ok (.invokestatic 171, 3) := by decide +kernel
theorem dL_register_174 : decode cL_register 174 = .ok (.istore 16, 2) := by decide +kernel
theorem dL_register_176 : decode cL_register 176 = .ok (.iload 14, 2) := by decide +kernel
theorem dL_register_178 : decode cL_register 178 = .ok (.iload 11, 2) := by decide +kernel
theorem dL_register_180 : decode cL_register 180 = .ok (.if_icmp .lt 26, 3) := by decide +kernel
theorem dL_register_183 : decode cL_register 183 = .ok (.iload 14, 2) := by decide +kernel
theorem dL_register_185 : decode cL_register 185 = .ok (.iload 4, 2) := by decide +kernel
theorem dL_register_187 : decode cL_register 187 = .ok (.if_icmp .gt 19, 3) := by decide +kernel
theorem dL_register_190 : decode cL_register 190 = .ok (.iload 16, 2) := by decide +kernel
theorem dL_register_192 : decode cL_register 192 = .ok (.iconst 1, 1) := by decide +kernel
theorem dL_register_193 : decode cL_register 193 = .ok (.aload 8, 2) := by decide +kernel
theorem dL_register_195 : decode cL_register 195 = .ok (.iload 15, 2) := by decide +kernel
theorem dL_register_197 : decode cL_register 197 = .ok (.iaload, 1) := by decide +kernel
theorem dL_register_198 : decode cL_register 198 = .ok (.isub, 1) := by decide +kernel
theorem dL_register_199 : decode cL_register 199 = .ok (.if_icmp .ne 7, 3) := by decide +kernel
theorem dL_register_202 : decode cL_register 202 = .ok (.iconst 1, 1) := by decide +kernel
theorem dL_register_203 : decode cL_register 203 = .ok (.goto 4, 3) := by decide +kernel
theorem dL_register_206 : decode cL_register 206 = .ok (.iconst 0, 1) := by decide +kernel
theorem dL_register_207 : decode cL_register 207 = .ok (.istore 12, 2) := by decide +kernel
theorem dL_register_209 : decode cL_register 209 = .ok (.iload 14, 2) := by decide +kernel
theorem dL_register_211 : decode cL_register 211 = .ok (.istore 11, 2) := by decide +kernel
theorem dL_register_213 : decode cL_register 213 = .ok (.iload 16, 2) := by decide +kernel
theorem dL_register_215 : decode cL_register 215 = .ok (.iconst 1, 1) := by decide +kernel
theorem dL_register_216 : decode cL_register 216 = .ok (.if_icmp .ne 13, 3) := by decide +kernel
theorem dL_register_219 : decode cL_register 219 = .ok (.aload 9, 2) := by decide +kernel
theorem dL_register_221 : decode cL_register 221 = .ok (.iload 15, 2) := by decide +kernel
theorem dL_register_223 : decode cL_register 223 = .ok (.iload 14, 2) := by decide +kernel
theorem dL_register_225 : decode cL_register 225 = .ok (.iastore, 1) := by decide +kernel
theorem dL_register_226 : decode cL_register 226 = .ok (.goto 19, 3) := by decide +kernel
theorem dL_register_229 : decode cL_register 229 = .ok (.aload 10, 2) := by decide +kernel
theorem dL_register_231 : decode cL_register 231 = .ok (.iload 15, 2) := by decide +kernel
theorem dL_register_233 : decode cL_register 233 = .ok (.dup2, 1) := by decide +kernel
theorem dL_register_234 : decode cL_register 234 = .ok (.iaload, 1) := by decide +kernel
theorem dL_register_235 : decode cL_register 235 = .ok (.iload 14, 2) := by decide +kernel
theorem dL_register_237 : decode cL_register 237 = .ok (.aload 9, 2) := by decide +kernel
theorem dL_register_239 : decode cL_register 239 = .ok (.iload 15, 2) := by decide +kernel
theorem dL_register_241 : decode cL_register 241 = .ok (.iaload, 1) := by decide +kernel
theorem dL_register_242 : decode cL_register 242 = .ok (.isub, 1) := by decide +kernel
theorem dL_register_243 : decode cL_register 243 = .ok (.iadd, 1) := by decide +kernel
theorem dL_register_244 : decode cL_register 244 = .ok (.iastore, 1) := by decide +kernel
theorem dL_register_245 : decode cL_register 245 = .ok (.aload 8, 2) := by decide +kernel
theorem dL_register_247 : decode cL_register 247 = .ok (.iload 15, 2) := by decide +kernel
theorem dL_register_249 : decode cL_register 249 = .ok (.iload 16, 2) := by decide +kernel
theorem dL_register_251 : decode cL_register 251 = .ok (.iastore, 1) := by decide +kernel
theorem dL_register_252 : decode cL_register 252 = .ok (.iinc 13 1, 3) := by decide +kernel
theorem dL_register_255 : decode cL_register 255 = .ok (.goto (-120), 3) := by decide +kernel
theorem dL_register_258 : decode cL_register 258 = .ok (.iconst 0, 1) := by decide +kernel
theorem dL_register_259 : decode cL_register 259 = .ok (.istore 13, 2) := by decide +kernel
theorem dL_register_261 : decode cL_register 261 = .ok (.iconst 0, 1) := by decide +kernel
theorem dL_register_262 : decode cL_register 262 = .ok (.istore 14, 2) := by decide +kernel
theorem dL_register_264 : decode cL_register 264 = .ok (.iload 14, 2) := by decide +kernel
theorem dL_register_266 : decode cL_register 266 = .ok (.iload_n 1, 1) := by decide +kernel
theorem dL_register_267 : decode cL_register 267 = .ok (.if_icmp .ge 285, 3) := by decide +kernel
theorem dL_register_270 : decode cL_register 270 = .ok (.iload 12, 2) := by decide +kernel
theorem dL_register_272 : decode cL_register 272 = .ok (.ifCond .eq 280, 3) := by decide +kernel
theorem dL_register_275 : decode cL_register 275 = .ok (.aload_n 0, 1) := by decide +kernel
theorem dL_register_276 : decode cL_register 276 = .ok (.bipush 20, 2) := by decide +kernel
theorem dL_register_278 : decode cL_register 278 = .ok (.iload 14, 2) := by decide +kernel
theorem dL_register_280 : decode cL_register 280 = .ok (.invokestatic 171, 3) := by decide +kernel
theorem dL_register_283 : decode cL_register 283 = .ok (.istore 15, 2) := by decide +kernel
theorem dL_register_285 : decode cL_register 285 = .ok (.aload 10, 2) := by decide +kernel
theorem dL_register_287 : decode cL_register 287 = .ok (.iload 14, 2) := by decide +kernel
theorem dL_register_289 : decode cL_register 289 = .ok (.iaload, 1) := by decide +kernel
theorem dL_register_290 : decode cL_register 290 = .ok (.iload 15, 2) := by decide +kernel
theorem dL_register_292 : decode cL_register 292 = .ok (.iconst 1, 1) := by decide +kernel
theorem dL_register_293 : decode cL_register 293 = .ok (.if_icmp .ne 14, 3) := by decide +kernel
theorem dL_register_296 : decode cL_register 296 = .ok (.iload 4, 2) := by decide +kernel
theorem dL_register_298 : decode cL_register 298 = .ok (.aload 9, 2) := by decide +kernel
theorem dL_register_300 : decode cL_register 300 = .ok (.iload 14, 2) := by decide +kernel
theorem dL_register_302 : decode cL_register 302 = .ok (.iaload, 1) := by decide +kernel
theorem dL_register_303 : decode cL_register 303 = .ok (.isub, 1) := by decide +kernel
theorem dL_register_304 : decode cL_register 304 = .ok (.goto 4, 3) := by decide +kernel
theorem dL_register_307 : decode cL_register 307 = .ok (.iconst 0, 1) := by decide +kernel
theorem dL_register_308 : decode cL_register 308 = .ok (.iadd, 1) := by decide +kernel
theorem dL_register_309 : decode cL_register 309 = .ok (.istore 16, 2) := by decide +kernel
theorem dL_register_311 : decode cL_register 311 = .ok (.iload 5, 2) := by decide +kernel
theorem dL_register_313 : decode cL_register 313 = .ok (.iload 15, 2) := by decide +kernel
theorem dL_register_315 : decode cL_register 315 = .ok (.iadd, 1) := by decide +kernel
theorem dL_register_316 : decode cL_register 316 = .ok (.istore 5, 2) := by decide +kernel
theorem dL_register_318 : decode cL_register 318 = .ok (.iload 13, 2) := by decide +kernel
theorem dL_register_320 : decode cL_register 320 = .ok (.iload 16, 2) := by decide +kernel
theorem dL_register_322 : decode cL_register 322 = .ok (.iadd, 1) := by decide +kernel
theorem dL_register_323 : decode cL_register 323 = .ok (.istore 13, 2) := by decide +kernel
theorem dL_register_325 : decode cL_register 325 = .ok (.aload_n 0, 1) := by decide +kernel
theorem dL_register_326 : decode cL_register 326 = .ok (.bipush 29, 2) := by decide +kernel
theorem dL_register_328 : decode cL_register 328 = .ok (.iload 14, 2) := by decide +kernel
theorem dL_register_330 : decode cL_register 330 = .ok (.invokestatic 171, 3) := by decide +kernel
theorem dL_register_333 : decode cL_register 333 = .ok (.istore 17, 2) := by decide +kernel
theorem dL_register_335 : decode cL_register 335 = .ok (.aload_n 0, 1) := by decide +kernel
theorem dL_register_336 : decode cL_register 336 = .ok (.bipush 19, 2) := by decide +kernel
theorem dL_register_338 : decode cL_register 338 = .ok (.iload 14, 2) := by decide +kernel
theorem dL_register_340 : decode cL_register 340 = .ok (.invokestatic 171, 3) := by decide +kernel
theorem dL_register_343 : decode cL_register 343 = .ok (.istore 18, 2) := by decide +kernel
theorem dL_register_345 : decode cL_register 345 = .ok (.iload 15, 2) := by decide +kernel
theorem dL_register_347 : decode cL_register 347 = .ok (.aload 8, 2) := by decide +kernel
theorem dL_register_349 : decode cL_register 349 = .ok (.iload 14, 2) := by decide +kernel
theorem dL_register_351 : decode cL_register 351 = .ok (.iaload, 1) := by decide +kernel
theorem dL_register_352 : decode cL_register 352 = .ok (.if_icmp .ne 191, 3) := by decide +kernel
theorem dL_register_355 : decode cL_register 355 = .ok (.aload_n 0, 1) := by decide +kernel
theorem dL_register_356 : decode cL_register 356 = .ok (.bipush 21, 2) := by decide +kernel
theorem dL_register_358 : decode cL_register 358 = .ok (.iload 14, 2) := by decide +kernel
theorem dL_register_360 : decode cL_register 360 = .ok (.invokestatic 171, 3) := by decide +kernel
theorem dL_register_363 : decode cL_register 363 = .ok (.iload 15, 2) := by decide +kernel
theorem dL_register_365 : decode cL_register 365 = .ok (.iconst 1, 1) := by decide +kernel
theorem dL_register_366 : decode cL_register 366 = .ok (.if_icmp .ne 11, 3) := by decide +kernel
theorem dL_register_369 : decode cL_register 369 = .ok (.aload 9, 2) := by decide +kernel
theorem dL_register_371 : decode cL_register 371 = .ok (.iload 14, 2) := by decide +kernel
theorem dL_register_373 : decode cL_register 373 = .ok (.iaload, 1) := by decide +kernel
theorem dL_register_374 : decode cL_register 374 = .ok (.goto 5, 3) := by decide +kernel
theorem dL_register_377 : decode cL_register 377 = .ok (.bipush (-101), 2) := by decide +kernel
theorem dL_register_379 : decode cL_register 379 = .ok (.if_icmp .ne 164, 3) := by decide +kernel
theorem dL_register_382 : decode cL_register 382 = .ok (.aload_n 0, 1) := by decide +kernel
theorem dL_register_383 : decode cL_register 383 = .ok (.bipush 37, 2) := by decide +kernel
theorem dL_register_385 : decode cL_register 385 = .ok (.iload 14, 2) := by decide +kernel
theorem dL_register_387 : decode cL_register 387 = .ok (.invokestatic 171, 3) := by decide +kernel
theorem dL_register_390 : decode cL_register 390 = .ok (.iload 16, 2) := by decide +kernel
theorem dL_register_392 : decode cL_register 392 = .ok (.if_icmp .ne 151, 3) := by decide +kernel
theorem dL_register_395 : decode cL_register 395 = .ok (.aload_n 0, 1) := by decide +kernel
theorem dL_register_396 : decode cL_register 396 = .ok (.bipush 38, 2) := by decide +kernel
theorem dL_register_398 : decode cL_register 398 = .ok (.iload 14, 2) := by decide +kernel
theorem dL_register_400 : decode cL_register 400 = .ok (.iload 14, 2) := by decide +kernel
theorem dL_register_402 : decode cL_register 402 = .ok (.invokestatic 252, 3) := by decide +kernel
theorem dL_register_405 : decode cL_register 405 = .ok (.iload 16, 2) := by decide +kernel
theorem dL_register_407 : decode cL_register 407 = .ok (.if_icmp .ne 136, 3) := by decide +kernel
theorem dL_register_410 : decode cL_register 410 = .ok (.iload 17, 2) := by decide +kernel
theorem dL_register_412 : decode cL_register 412 = .ok (.bipush (-101), 2) := by decide +kernel
theorem dL_register_414 : decode cL_register 414 = .ok (.if_icmp .eq 22, 3) := by decide +kernel
theorem dL_register_417 : decode cL_register 417 = .ok (.iload 15, 2) := by decide +kernel
theorem dL_register_419 : decode cL_register 419 = .ok (.iconst 1, 1) := by decide +kernel
theorem dL_register_420 : decode cL_register 420 = .ok (.if_icmp .ne 123, 3) := by decide +kernel
theorem dL_register_423 : decode cL_register 423 = .ok (.aload_n 0, 1) := by decide +kernel
theorem dL_register_424 : decode cL_register 424 = .ok (.bipush 28, 2) := by decide +kernel
theorem dL_register_426 : decode cL_register 426 = .ok (.iload 17, 2) := by decide +kernel
theorem dL_register_428 : decode cL_register 428 = .ok (.invokestatic 171, 3) := by decide +kernel
theorem dL_register_431 : decode cL_register 431 = .ok (.iload 14, 2) := by decide +kernel
theorem dL_register_433 : decode cL_register 433 = .ok (.if_icmp .ne 110, 3) := by decide +kernel
theorem dL_register_436 : decode cL_register 436 = .ok (.aload_n 0, 1) := by decide +kernel
theorem dL_register_437 : decode cL_register 437 = .ok (.bipush 22, 2) := by decide +kernel
theorem dL_register_439 : decode cL_register 439 = .ok (.iload 14, 2) := by decide +kernel
theorem dL_register_441 : decode cL_register 441 = .ok (.invokestatic 171, 3) := by decide +kernel
theorem dL_register_444 : decode cL_register 444 = .ok (.ifCond .lt 99, 3) := by decide +kernel
theorem dL_register_447 : decode cL_register 447 = .ok (.aload_n 0, 1) := by decide +kernel
theorem dL_register_448 : decode cL_register 448 = .ok (.bipush 23, 2) := by decide +kernel
theorem dL_register_450 : decode cL_register 450 = .ok (.iload 14, 2) := by decide +kernel
theorem dL_register_452 : decode cL_register 452 = .ok (.invokestatic 171, 3) := by decide +kernel
theorem dL_register_455 : decode cL_register 455 = .ok (.ifCond .eq 29, 3) := by decide +kernel
theorem dL_register_458 : decode cL_register 458 = .ok (.iload 15, 2) := by decide +kernel
theorem dL_register_460 : decode cL_register 460 = .ok (.iconst 1, 1) := by decide +kernel
theorem dL_register_461 : decode cL_register 461 = .ok (.if_icmp .ne 82, 3) := by decide +kernel
theorem dL_register_464 : decode cL_register 464 = .ok (.iload 18, 2) := by decide +kernel
theorem dL_register_466 : decode cL_register 466 = .ok (.ifCond .le 77, 3) := by decide +kernel
theorem dL_register_469 : decode cL_register 469 = .ok (.iload 4, 2) := by decide +kernel
theorem dL_register_471 : decode cL_register 471 = .ok (.iconst 1, 1) := by decide +kernel
theorem dL_register_472 : decode cL_register 472 = .ok (.iadd, 1) := by decide +kernel
theorem dL_register_473 : decode cL_register 473 = .ok (.aload 9, 2) := by decide +kernel
theorem dL_register_475 : decode cL_register 475 = .ok (.iload 14, 2) := by decide +kernel
theorem dL_register_477 : decode cL_register 477 = .ok (.iaload, 1) := by decide +kernel
theorem dL_register_478 : decode cL_register 478 = .ok (.isub, 1) := by decide +kernel
theorem dL_register_479 : decode cL_register 479 = .ok (.bipush 10, 2) := by decide +kernel
theorem dL_register_481 : decode cL_register 481 = .ok (.if_icmp .le 62, 3) := by decide +kernel
theorem dL_register_484 : decode cL_register 484 = .ok (.aload_n 0, 1) := by decide +kernel
theorem dL_register_485 : decode cL_register 485 = .ok (.bipush 40, 2) := by decide +kernel
theorem dL_register_487 : decode cL_register 487 = .ok (.iload 14, 2) := by decide +kernel
theorem dL_register_489 : decode cL_register 489 = .ok (.invokestatic 171, 3) := by decide +kernel
theorem dL_register_492 : decode cL_register 492 = .ok (.iload 15, 2) := by decide +kernel
theorem dL_register_494 : decode cL_register 494 = .ok (.ifCond .ne 8, 3) := by decide +kernel
theorem dL_register_497 : decode cL_register 497 = .ok (.bipush (-102), 2) := by decide +kernel
theorem dL_register_499 : decode cL_register 499 = .ok (.goto 37, 3) := by decide +kernel
theorem dL_register_502 : decode cL_register 502 = .ok (.iconst 0, 1) := by decide +kernel
theorem dL_register_503 : decode cL_register 503 = .ok (.aload_n 0, 1) := by decide +kernel
theorem dL_register_504 : decode cL_register 504 = .ok (.bipush 18, 2) := by decide +kernel
theorem dL_register_506 : decode cL_register 506 = .ok (.iload 14, 2) := by decide +kernel
theorem dL_register_508 : decode cL_register 508 = .ok (.invokestatic 171, 3) := by decide +kernel
theorem dL_register_511 : decode cL_register 511 = .ok (.aload_n 0, 1) := by decide +kernel
theorem dL_register_512 : decode cL_register 512 = .ok (.invokevirtual 255, 3) := by decide +kernel
theorem dL_register_515 : decode cL_register 515 = .ok (.isub, 1) := by decide +kernel
theorem dL_register_516 : decode cL_register 516 = .ok (.aload_n 0, 1) := by decide +kernel
theorem dL_register_517 : decode cL_register 517 = .ok (.bipush 22, 2) := by decide +kernel
theorem dL_register_519 : decode cL_register 519 = .ok (.iload 14, 2) := by decide +kernel
theorem dL_register_521 : decode cL_register 521 = .ok (.invokestatic 171, 3) := by decide +kernel
theorem dL_register_524 : decode cL_register 524 = .ok (.ifCond .ne 7, 3) := by decide +kernel
theorem dL_register_527 : decode cL_register 527 = .ok (.iconst 0, 1) := by decide +kernel
theorem dL_register_528 : decode cL_register 528 = .ok (.goto 4, 3) := by decide +kernel
theorem dL_register_531 : decode cL_register 531 = .ok (.iconst 1, 1) := by decide +kernel
theorem dL_register_532 : decode cL_register 532 = .ok (.isub, 1) := by decide +kernel
theorem dL_register_533 : decode cL_register 533 = .ok (.invokestatic 258, 3) := by decide +kernel
theorem dL_register_536 : decode cL_register 536 = .ok (.if_icmp .ne 7, 3) := by decide +kernel
theorem dL_register_539 : decode cL_register 539 = .ok (.iconst 1, 1) := by decide +kernel
theorem dL_register_540 : decode cL_register 540 = .ok (.goto 4, 3) := by decide +kernel
theorem dL_register_543 : decode cL_register 543 = .ok (.iconst 0, 1) := by decide +kernel
theorem dL_register_544 : decode cL_register 544 = .ok (.istore 12, 2) := by decide +kernel
theorem dL_register_546 : decode cL_register 546 = .ok (.iinc 14 1, 3) := by decide +kernel
theorem dL_register_549 : decode cL_register 549 = .ok (.goto (-285), 3) := by decide +kernel
theorem dL_register_552 : decode cL_register 552 = .ok (.iconst 0, 1) := by decide +kernel
theorem dL_register_553 : decode cL_register 553 = .ok (.istore 14, 2) := by decide +kernel
theorem dL_register_555 : decode cL_register 555 = .ok (.iload 14, 2) := by decide +kernel
theorem dL_register_557 : decode cL_register 557 = .ok (.iload_n 2, 1) := by decide +kernel
theorem dL_register_558 : decode cL_register 558 = .ok (.if_icmp .ge 165, 3) := by decide +kernel
theorem dL_register_561 : decode cL_register 561 = .ok (.iload 12, 2) := by decide +kernel
theorem dL_register_563 : decode cL_register 563 = .ok (.ifCond .eq 160, 3) := by decide +kernel
theorem dL_register_566 : decode cL_register 566 = .ok (.aload_n 0, 1) := by decide +kernel
theorem dL_register_567 : decode cL_register 567 = .ok (.bipush 28, 2) := by decide +kernel
theorem dL_register_569 : decode cL_register 569 = .ok (.iload 14, 2) := by decide +kernel
theorem dL_register_571 : decode cL_register 571 = .ok (.invokestatic 171, 3) := by decide +kernel
theorem dL_register_574 : decode cL_register 574 = .ok (.istore 15, 2) := by decide +kernel
theorem dL_register_576 : decode cL_register 576 = .ok (.aload_n 0, 1) := by decide +kernel
theorem dL_register_577 : decode cL_register 577 = .ok (.bipush 25, 2) := by decide +kernel
theorem dL_register_579 : decode cL_register 579 = .ok (.iload 14, 2) := by decide +kernel
theorem dL_register_581 : decode cL_register 581 = .ok (.invokestatic 171, 3) := by decide +kernel
theorem dL_register_584 : decode cL_register 584 = .ok (.istore 16, 2) := by decide +kernel
theorem dL_register_586 : decode cL_register 586 = .ok (.iload 6, 2) := by decide +kernel
theorem dL_register_588 : decode cL_register 588 = .ok (.aload_n 0, 1) := by decide +kernel
theorem dL_register_589 : decode cL_register 589 = .ok (.bipush 26, 2) := by decide +kernel
theorem dL_register_591 : decode cL_register 591 = .ok (.iload 14, 2) := by decide +kernel
theorem dL_register_593 : decode cL_register 593 = .ok (.invokestatic 171, 3) := by decide +kernel
theorem dL_register_596 : decode cL_register 596 = .ok (.iadd, 1) := by decide +kernel
theorem dL_register_597 : decode cL_register 597 = .ok (.istore 6, 2) := by decide +kernel
theorem dL_register_599 : decode cL_register 599 = .ok (.iload 15, 2) := by decide +kernel
theorem dL_register_601 : decode cL_register 601 = .ok (.ifCond .lt 19, 3) := by decide +kernel
theorem dL_register_604 : decode cL_register 604 = .ok (.iload 15, 2) := by decide +kernel
theorem dL_register_606 : decode cL_register 606 = .ok (.aload_n 0, 1) := by decide +kernel
theorem dL_register_607 : decode cL_register 607 = .ok (.bipush 24, 2) := by decide +kernel
theorem dL_register_609 : decode cL_register 609 = .ok (.iload 14, 2) := by decide +kernel
theorem dL_register_611 : decode cL_register 611 = .ok (.invokestatic 171, 3) := by decide +kernel
theorem dL_register_614 : decode cL_register 614 = .ok (.if_icmp .eq 6, 3) := by decide +kernel
theorem dL_register_617 : decode cL_register 617 = .ok (.iinc 7 1, 3) := by decide +kernel
theorem dL_register_620 : decode cL_register 620 = .ok (.iload 16, 2) := by decide +kernel
theorem dL_register_622 : decode cL_register 622 = .ok (.ifCond .lt 92, 3) := by decide +kernel
theorem dL_register_625 : decode cL_register 625 = .ok (.iload 16, 2) := by decide +kernel
theorem dL_register_627 : decode cL_register 627 = .ok (.bipush 100, 2) := by decide +kernel
theorem dL_register_629 : decode cL_register 629 = .ok (.if_icmp .ge 85, 3) := by decide +kernel
theorem dL_register_632 : decode cL_register 632 = .ok (.aload_n 0, 1) := by decide +kernel
theorem dL_register_633 : decode cL_register 633 = .ok (.bipush 26, 2) := by decide +kernel
theorem dL_register_635 : decode cL_register 635 = .ok (.iload 14, 2) := by decide +kernel
theorem dL_register_637 : decode cL_register 637 = .ok (.invokestatic 171, 3) := by decide +kernel
theorem dL_register_640 : decode cL_register 640 = .ok (.iconst 1, 1) := by decide +kernel
theorem dL_register_641 : decode cL_register 641 = .ok (.if_icmp .ne 7, 3) := by decide +kernel
theorem dL_register_644 : decode cL_register 644 = .ok (.iconst 1, 1) := by decide +kernel
theorem dL_register_645 : decode cL_register 645 = .ok (.goto 4, 3) := by decide +kernel
theorem dL_register_648 : decode cL_register 648 = .ok (.iconst 0, 1) := by decide +kernel
theorem dL_register_649 : decode cL_register 649 = .ok (.iload 15, 2) := by decide +kernel
theorem dL_register_651 : decode cL_register 651 = .ok (.bipush (-101), 2) := by decide +kernel
theorem dL_register_653 : decode cL_register 653 = .ok (.if_icmp .ne 7, 3) := by decide +kernel
theorem dL_register_656 : decode cL_register 656 = .ok (.iconst 1, 1) := by decide +kernel
theorem dL_register_657 : decode cL_register 657 = .ok (.goto 4, 3) := by decide +kernel
theorem dL_register_660 : decode cL_register 660 = .ok (.iconst 0, 1) := by decide +kernel
theorem dL_register_661 : decode cL_register 661 = .ok (.if_icmp .ne 53, 3) := by decide +kernel
theorem dL_register_664 : decode cL_register 664 = .ok (.iload 15, 2) := by decide +kernel
theorem dL_register_666 : decode cL_register 666 = .ok (.ifCond .lt 16, 3) := by decide +kernel
theorem dL_register_669 : decode cL_register 669 = .ok (.aload_n 0, 1) := by decide +kernel
theorem dL_register_670 : decode cL_register 670 = .ok (.bipush 29, 2) := by decide +kernel
theorem dL_register_672 : decode cL_register 672 = .ok (.iload 15, 2) := by decide +kernel
theorem dL_register_674 : decode cL_register 674 = .ok (.invokestatic 171, 3) := by decide +kernel
theorem dL_register_677 : decode cL_register 677 = .ok (.iload 14, 2) := by decide +kernel
theorem dL_register_679 : decode cL_register 679 = .ok (.if_icmp .ne 35, 3) := by decide +kernel
theorem dL_register_682 : decode cL_register 682 = .ok (.aload_n 0, 1) := by decide +kernel
theorem dL_register_683 : decode cL_register 683 = .ok (.bipush 27, 2) := by decide +kernel
theorem dL_register_685 : decode cL_register 685 = .ok (.iload 14, 2) := by decide +kernel
theorem dL_register_687 : decode cL_register 687 = .ok (.invokestatic 171, 3) := by decide +kernel
theorem dL_register_690 : decode cL_register 690 = .ok (.iload 15, 2) := by decide +kernel
theorem dL_register_692 : decode cL_register 692 = .ok (.ifCond .ge 14, 3) := by decide +kernel
theorem dL_register_695 : decode cL_register 695 = .ok (.iload 16, 2) := by decide +kernel
theorem dL_register_697 : decode cL_register 697 = .ok (.bipush 50, 2) := by decide +kernel
theorem dL_register_699 : decode cL_register 699 = .ok (.if_icmp .gt 7, 3) := by decide +kernel
theorem dL_register_702 : decode cL_register 702 = .ok (.iconst 1, 1) := by decide +kernel
theorem dL_register_703 : decode cL_register 703 = .ok (.goto 4, 3) := by decide +kernel
theorem dL_register_706 : decode cL_register 706 = .ok (.iconst 0, 1) := by decide +kernel
theorem dL_register_707 : decode cL_register 707 = .ok (.if_icmp .ne 7, 3) := by decide +kernel
theorem dL_register_710 : decode cL_register 710 = .ok (.iconst 1, 1) := by decide +kernel
theorem dL_register_711 : decode cL_register 711 = .ok (.goto 4, 3) := by decide +kernel
theorem dL_register_714 : decode cL_register 714 = .ok (.iconst 0, 1) := by decide +kernel
theorem dL_register_715 : decode cL_register 715 = .ok (.istore 12, 2) := by decide +kernel
theorem dL_register_717 : decode cL_register 717 = .ok (.iinc 14 1, 3) := by decide +kernel
theorem dL_register_720 : decode cL_register 720 = .ok (.goto (-165), 3) := by decide +kernel
theorem dL_register_723 : decode cL_register 723 = .ok (.iload 12, 2) := by decide +kernel
theorem dL_register_725 : decode cL_register 725 = .ok (.ifCond .eq 98, 3) := by decide +kernel
theorem dL_register_728 : decode cL_register 728 = .ok (.iload 5, 2) := by decide +kernel
theorem dL_register_730 : decode cL_register 730 = .ok (.aload_n 0, 1) := by decide +kernel
theorem dL_register_731 : decode cL_register 731 = .ok (.invokevirtual 263, 3) := by decide +kernel
theorem dL_register_734 : decode cL_register 734 = .ok (.if_icmp .ne 89, 3) := by decide +kernel
theorem dL_register_737 : decode cL_register 737 = .ok (.iload 6, 2) := by decide +kernel
theorem dL_register_739 : decode cL_register 739 = .ok (.aload_n 0, 1) := by decide +kernel
theorem dL_register_740 : decode cL_register 740 = .ok (.invokevirtual 266, 3) := by decide +kernel
theorem dL_register_743 : decode cL_register 743 = .ok (.if_icmp .ne 80, 3) := by decide +kernel
theorem dL_register_746 : decode cL_register 746 = .ok (.iload 7, 2) := by decide +kernel
theorem dL_register_748 : decode cL_register 748 = .ok (.aload_n 0, 1) := by decide +kernel
theorem dL_register_749 : decode cL_register 749 = .ok (.invokevirtual 269, 3) := by decide +kernel
theorem dL_register_752 : decode cL_register 752 = .ok (.if_icmp .ne 71, 3) := by decide +kernel
theorem dL_register_755 : decode cL_register 755 = .ok (.aload_n 0, 1) := by decide +kernel
theorem dL_register_756 : decode cL_register 756 = .ok (.invokevirtual 255, 3) := by decide +kernel
theorem dL_register_759 : decode cL_register 759 = .ok (.bipush 9, 2) := by decide +kernel
theorem dL_register_761 : decode cL_register 761 = .ok (.iload 4, 2) := by decide +kernel
theorem dL_register_763 : decode cL_register 763 = .ok (.iload 11, 2) := by decide +kernel
theorem dL_register_765 : decode cL_register 765 = .ok (.isub, 1) := by decide +kernel
theorem dL_register_766 : decode cL_register 766 = .ok (.bipush 30, 2) := by decide +kernel
theorem dL_register_768 : decode cL_register 768 = .ok (.idiv, 1) := by decide +kernel
theorem dL_register_769 : decode cL_register 769 = .ok (.invokestatic 272, 3) := by decide +kernel
theorem dL_register_772 : decode cL_register 772 = .ok (.if_icmp .ne 51, 3) := by decide +kernel
theorem dL_register_775 : decode cL_register 775 = .ok (.aload_n 0, 1) := by decide +kernel
theorem dL_register_776 : decode cL_register 776 = .ok (.invokevirtual 275, 3) := by decide +kernel
theorem dL_register_779 : decode cL_register 779 = .ok (.iload_n 1, 1) := by decide +kernel
theorem dL_register_780 : decode cL_register 780 = .ok (.ifCond .ne 7, 3) := by decide +kernel
theorem dL_register_783 : decode cL_register 783 = .ok (.dconst 0, 1) := by decide +kernel
theorem dL_register_784 : decode cL_register 784 = .ok (.goto 9, 3) := by decide +kernel
theorem dL_register_787 : decode cL_register 787 = .ok (.iload 13, 2) := by decide +kernel
theorem dL_register_789 : decode cL_register 789 = .ok (.i2d, 1) := by decide +kernel
theorem dL_register_790 : decode cL_register 790 = .ok (.iload_n 1, 1) := by decide +kernel
theorem dL_register_791 : decode cL_register 791 = .ok (.i2d, 1) := by decide +kernel
theorem dL_register_792 : decode cL_register 792 = .ok (.ddiv, 1) := by decide +kernel
theorem dL_register_793 : decode cL_register 793 = .ok (.dcmp .l, 1) := by decide +kernel
theorem dL_register_794 : decode cL_register 794 = .ok (.ifCond .ne 29, 3) := by decide +kernel
theorem dL_register_797 : decode cL_register 797 = .ok (.aload_n 0, 1) := by decide +kernel
theorem dL_register_798 : decode cL_register 798 = .ok (.invokevirtual 279, 3) := by decide +kernel
theorem dL_register_801 : decode cL_register 801 = .ok (.iload_n 1, 1) := by decide +kernel
theorem dL_register_802 : decode cL_register 802 = .ok (.ifCond .ne 7, 3) := by decide +kernel
theorem dL_register_805 : decode cL_register 805 = .ok (.fconst 0, 1) := by decide +kernel
theorem dL_register_806 : decode cL_register 806 = .ok (.goto 9, 3) := by decide +kernel
theorem dL_register_809 : decode cL_register 809 = .ok (.iload 5, 2) := by decide +kernel
theorem dL_register_811 : decode cL_register 811 = .ok (.i2f, 1) := by decide +kernel
theorem dL_register_812 : decode cL_register 812 = .ok (.iload_n 1, 1) := by decide +kernel
theorem dL_register_813 : decode cL_register 813 = .ok (.i2f, 1) := by decide +kernel
theorem dL_register_814 : decode cL_register 814 = .ok (.fdiv, 1) := by decide +kernel
theorem dL_register_815 : decode cL_register 815 = .ok (.fcmp .l, 1) := by decide +kernel
theorem dL_register_816 : decode cL_register 816 = .ok (.ifCond .ne 7, 3) := by decide +kernel
theorem dL_register_819 : decode cL_register 819 = .ok (.iconst 1, 1) := by decide +kernel
theorem dL_register_820 : decode cL_register 820 = .ok (.goto 4, 3) := by decide +kernel
theorem dL_register_823 : decode cL_register 823 = .ok (.iconst 0, 1) := by decide +kernel
theorem dL_register_824 : decode cL_register 824 = .ok (.ireturn, 1) := by decide +kernel
