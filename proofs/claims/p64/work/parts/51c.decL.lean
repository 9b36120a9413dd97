theorem dL_alibis_0 : decode cL_alibis 0 = .ok (.aload_n 0, 1) := by decide +kernel
theorem dL_alibis_1 : decode cL_alibis 1 = .ok (.invokevirtual 243, 3) := by decide +kernel
theorem dL_alibis_4 : decode cL_alibis 4 = .ok (.istore_n 3, 1) := by decide +kernel
theorem dL_alibis_5 : decode cL_alibis 5 = .ok (.aload_n 0, 1) := by decide +kernel
theorem dL_alibis_6 : decode cL_alibis 6 = .ok (.invokevirtual 218, 3) := by decide +kernel
theorem dL_alibis_9 : decode cL_alibis 9 = .ok (.istore 4, 2) := by decide +kernel
theorem dL_alibis_11 : decode cL_alibis 11 = .ok (.aload_n 0, 1) := by decide +kernel
theorem dL_alibis_12 : decode cL_alibis 12 = .ok (.bipush 33, 2) := by decide +kernel
theorem dL_alibis_14 : decode cL_alibis 14 = .ok (.iconst 0, 1) := by decide +kernel
theorem dL_alibis_15 : decode cL_alibis 15 = .ok (.iload 4, 2) := by decide +kernel
theorem dL_alibis_17 : decode cL_alibis 17 = .ok (.invokestatic 252, 3) := by decide +kernel
theorem dL_alibis_20 : decode cL_alibis 20 = .ok (.iload_n 3, 1) := by decide +kernel
theorem dL_alibis_21 : decode cL_alibis 21 = .ok (.ifCond .ne 8, 3) := by decide +kernel
theorem dL_alibis_24 : decode cL_alibis 24 = .ok (.bipush (-104), 2) := by decide +kernel
theorem dL_alibis_26 : decode cL_alibis 26 = .ok (.goto 5, 3) := by decide +kernel
theorem dL_alibis_29 : decode cL_alibis 29 = .ok (.bipush (-103), 2) := by decide +kernel
theorem dL_alibis_31 : decode cL_alibis 31 = .ok (.if_icmp .ne 34, 3) := by decide +kernel
theorem dL_alibis_34 : decode cL_alibis 34 = .ok (.aload_n 0, 1) := by decide +kernel
theorem dL_alibis_35 : decode cL_alibis 35 = .ok (.bipush 35, 2) := by decide +kernel
theorem dL_alibis_37 : decode cL_alibis 37 = .ok (.iconst 0, 1) := by decide +kernel
theorem dL_alibis_38 : decode cL_alibis 38 = .ok (.iload 4, 2) := by decide +kernel
theorem dL_alibis_40 : decode cL_alibis 40 = .ok (.invokestatic 252, 3) := by decide +kernel
theorem dL_alibis_43 : decode cL_alibis 43 = .ok (.bipush (-103), 2) := by decide +kernel
theorem dL_alibis_45 : decode cL_alibis 45 = .ok (.if_icmp .ne 20, 3) := by decide +kernel
theorem dL_alibis_48 : decode cL_alibis 48 = .ok (.aload_n 0, 1) := by decide +kernel
theorem dL_alibis_49 : decode cL_alibis 49 = .ok (.bipush 36, 2) := by decide +kernel
theorem dL_alibis_51 : decode cL_alibis 51 = .ok (.iconst (-1), 1) := by decide +kernel
theorem dL_alibis_52 : decode cL_alibis 52 = .ok (.iconst 0, 1) := by decide +kernel
theorem dL_alibis_53 : decode cL_alibis 53 = .ok (.invokestatic 252, 3) := by decide +kernel
theorem dL_alibis_56 : decode cL_alibis 56 = .ok (.bipush (-103), 2) := by decide +kernel
theorem dL_alibis_58 : decode cL_alibis 58 = .ok (.if_icmp .ne 7, 3) := by decide +kernel
theorem dL_alibis_61 : decode cL_alibis 61 = .ok (.iconst 1, 1) := by decide +kernel
theorem dL_alibis_62 : decode cL_alibis 62 = .ok (.goto 4, 3) := by decide +kernel
theorem dL_alibis_65 : decode cL_alibis 65 = .ok (.iconst 0, 1) := by decide +kernel
theorem dL_alibis_66 : decode cL_alibis 66 = .ok (.istore 5, 2) := by decide +kernel
theorem dL_alibis_68 : decode cL_alibis 68 = .ok (.iconst 0, 1) := by decide +kernel
theorem dL_alibis_69 : decode cL_alibis 69 = .ok (.istore 6, 2) := by decide +kernel
theorem dL_alibis_71 : decode cL_alibis 71 = .ok (.iload 6, 2) := by decide +kernel
theorem dL_alibis_73 : decode cL_alibis 73 = .ok (.iconst 3, 1) := by decide +kernel
theorem dL_alibis_74 : decode cL_alibis 74 = .ok (.if_icmp .ge 415, 3) := by decide +kernel
theorem dL_alibis_77 : decode cL_alibis 77 = .ok (.iload 5, 2) := by decide +kernel
theorem dL_alibis_79 : decode cL_alibis 79 = .ok (.ifCond .eq 410, 3) := by decide +kernel
theorem dL_alibis_82 : decode cL_alibis 82 = .ok (.iload 4, 2) := by decide +kernel
theorem dL_alibis_84 : decode cL_alibis 84 = .ok (.ifCond .le 405, 3) := by decide +kernel
theorem dL_alibis_87 : decode cL_alibis 87 = .ok (.iload_n 1, 1) := by decide +kernel
theorem dL_alibis_88 : decode cL_alibis 88 = .ok (.iconst 3, 1) := by decide +kernel
theorem dL_alibis_89 : decode cL_alibis 89 = .ok (.iload 6, 2) := by decide +kernel
theorem dL_alibis_91 : decode cL_alibis 91 = .ok (.imul, 1) := by decide +kernel
theorem dL_alibis_92 : decode cL_alibis 92 = .ok (.ishr, 1) := by decide +kernel
theorem dL_alibis_93 : decode cL_alibis 93 = .ok (.ldc_w 283, 3) := by decide +kernel
theorem dL_alibis_96 : decode cL_alibis 96 = .ok (.iand, 1) := by decide +kernel
theorem dL_alibis_97 : decode cL_alibis 97 = .ok (.iload 4, 2) := by decide +kernel
theorem dL_alibis_99 : decode cL_alibis 99 = .ok (.irem, 1) := by decide +kernel
theorem dL_alibis_100 : decode cL_alibis 100 = .ok (.istore 7, 2) := by decide +kernel
theorem dL_alibis_102 : decode cL_alibis 102 = .ok (.iload 4, 2) := by decide +kernel
theorem dL_alibis_104 : decode cL_alibis 104 = .ok (.iconst 1, 1) := by decide +kernel
theorem dL_alibis_105 : decode cL_alibis 105 = .ok (.isub, 1) := by decide +kernel
theorem dL_alibis_106 : decode cL_alibis 106 = .ok (.iload 7, 2) := by decide +kernel
theorem dL_alibis_108 : decode cL_alibis 108 = .ok (.iload_n 2, 1) := by decide +kernel
theorem dL_alibis_109 : decode cL_alibis 109 = .ok (.iconst 2, 1) := by decide +kernel
theorem dL_alibis_110 : decode cL_alibis 110 = .ok (.iload 6, 2) := by decide +kernel
theorem dL_alibis_112 : decode cL_alibis 112 = .ok (.imul, 1) := by decide +kernel
theorem dL_alibis_113 : decode cL_alibis 113 = .ok (.ishr, 1) := by decide +kernel
theorem dL_alibis_114 : decode cL_alibis 114 = .ok (.bipush 63, 2) := by decide +kernel
theorem dL_alibis_116 : decode cL_alibis 116 = .ok (.iand, 1) := by decide +kernel
theorem dL_alibis_117 : decode cL_alibis 117 = .ok (.iadd, 1) := by decide +kernel
theorem dL_alibis_118 : decode cL_alibis 118 = .ok (.invokestatic 272, 3) := by decide +kernel
theorem dL_alibis_121 : decode cL_alibis 121 = .ok (.istore 8, 2) := by decide +kernel
theorem dL_alibis_123 : decode cL_alibis 123 = .ok (.iconst 0, 1) := by decide +kernel
theorem dL_alibis_124 : decode cL_alibis 124 = .ok (.istore 9, 2) := by decide +kernel
theorem dL_alibis_126 : decode cL_alibis 126 = .ok (.bipush (-101), 2) := by decide +kernel
theorem dL_alibis_128 : decode cL_alibis 128 = .ok (.istore 10, 2) := by decide +kernel
theorem dL_alibis_130 : decode cL_alibis 130 = .ok (.iconst 0, 1) := by decide +kernel
theorem dL_alibis_131 : decode cL_alibis 131 = .ok (.istore 11, 2) := by decide +kernel
theorem dL_alibis_133 : decode cL_alibis 133 = .ok (.iload 11, 2) := by decide +kernel
theorem dL_alibis_135 : decode cL_alibis 135 = .ok (.iload_n 3, 1) := by decide +kernel
theorem dL_alibis_136 : decode cL_alibis 136 = .ok (.if_icmp .ge 109, 3) := by decide +kernel
theorem dL_alibis_139 : decode cL_alibis 139 = .ok (.iload 5, 2) := by decide +kernel
theorem dL_alibis_141 : decode cL_alibis 141 = .ok (.ifCond .eq 104, 3) := by decide +kernel
theorem dL_alibis_144 : decode cL_alibis 144 = .ok (.iconst 0, 1) := by decide +kernel
theorem dL_alibis_145 : decode cL_alibis 145 = .ok (.istore 12, 2) := by decide +kernel
theorem dL_alibis_147 : decode cL_alibis 147 = .ok (.iload 7, 2) := by decide +kernel
theorem dL_alibis_149 : decode cL_alibis 149 = .ok (.istore 13, 2) := by decide +kernel
theorem dL_alibis_151 : decode cL_alibis 151 = .ok (.iload 13, 2) := by decide +kernel
theorem dL_alibis_153 : decode cL_alibis 153 = .ok (.iload 8, 2) := by decide +kernel
theorem dL_alibis_155 : decode cL_alibis 155 = .ok (.if_icmp .gt 35, 3) := by decide +kernel
theorem dL_alibis_158 : decode cL_alibis 158 = .ok (.iload 12, 2) := by decide +kernel
theorem dL_alibis_160 : decode cL_alibis 160 = .ok (.ifCond .ne 17, 3) := by decide +kernel
theorem dL_alibis_163 : decode cL_alibis 163 = .ok (.aload_n 0, 1) := by decide +kernel
theorem dL_alibis_164 : decode cL_alibis 164 = .ok (.bipush 33, 2) := by decide +kernel
theorem dL_alibis_166 : decode cL_alibis 166 = .ok (.iload 11, 2) := by decide +kernel
theorem dL_alibis_168 : decode cL_alibis 168 = .ok (.iload 13, 2) := by decide +kernel
theorem dL_alibis_170 : decode cL_alibis 170 = .ok (.invokestatic 252, 3) := by decide +kernel
theorem dL_alibis_173 : decode cL_alibis 173 = .ok (.iconst 1, 1) := by decide +kernel
theorem dL_alibis_174 : decode cL_alibis 174 = .ok (.if_icmp .ne 7, 3) := by decide +kernel
theorem dL_alibis_177 : decode cL_alibis 177 = .ok (.iconst 1, 1) := by decide +kernel
theorem dL_alibis_178 : decode cL_alibis 178 = .ok (.goto 4, 3) := by decide +kernel
theorem dL_alibis_181 : decode cL_alibis 181 = .ok (.iconst 0, 1) := by decide +kernel
theorem dL_alibis_182 : decode cL_alibis 182 = .ok (.istore 12, 2) := by decide +kernel
theorem dL_alibis_184 : decode cL_alibis 184 = .ok (.iinc 13 1, 3) := by decide +kernel
theorem dL_alibis_187 : decode cL_alibis 187 = .ok (.goto (-36), 3) := by decide +kernel
theorem dL_alibis_190 : decode cL_alibis 190 = .ok (.aload_n 0, 1) := by decide +kernel
theorem dL_alibis_191 : decode cL_alibis 191 = .ok (.bipush 34, 2) := by decide +kernel
theorem dL_alibis_193 : decode cL_alibis 193 = .ok (.iload 11, 2) := by decide +kernel
theorem dL_alibis_195 : decode cL_alibis 195 = .ok (.iload 7, 2) := by decide +kernel
theorem dL_alibis_197 : decode cL_alibis 197 = .ok (.iload 8, 2) := by decide +kernel
theorem dL_alibis_199 : decode cL_alibis 199 = .ok (.iconst 0, 1) := by decide +kernel
theorem dL_alibis_200 : decode cL_alibis 200 = .ok (.iconst 0, 1) := by decide +kernel
theorem dL_alibis_201 : decode cL_alibis 201 = .ok (.invokestatic 158, 3) := by decide +kernel
theorem dL_alibis_204 : decode cL_alibis 204 = .ok (.iload 12, 2) := by decide +kernel
theorem dL_alibis_206 : decode cL_alibis 206 = .ok (.ifCond .eq 7, 3) := by decide +kernel
theorem dL_alibis_209 : decode cL_alibis 209 = .ok (.iconst 0, 1) := by decide +kernel
theorem dL_alibis_210 : decode cL_alibis 210 = .ok (.goto 4, 3) := by decide +kernel
theorem dL_alibis_213 : decode cL_alibis 213 = .ok (.iconst 1, 1) := by decide +kernel
theorem dL_alibis_214 : decode cL_alibis 214 = .ok (.if_icmp .ne 7, 3) := by decide +kernel
theorem dL_alibis_217 : decode cL_alibis 217 = .ok (.iconst 1, 1) := by decide +kernel
theorem dL_alibis_218 : decode cL_alibis 218 = .ok (.goto 4, 3) := by decide +kernel
theorem dL_alibis_221 : decode cL_alibis 221 = .ok (.iconst 0, 1) := by decide +kernel
theorem dL_alibis_222 : decode cL_alibis 222 = .ok (.istore 5, 2) := by decide +kernel
theorem dL_alibis_224 : decode cL_alibis 224 = .ok (.iload 12, 2) := by decide +kernel
theorem dL_alibis_226 : decode cL_alibis 226 = .ok (.ifCond .ne 6, 3) := by decide +kernel
theorem dL_alibis_229 : decode cL_alibis 229 = .ok (.goto 10, 3) := by decide +kernel
theorem dL_alibis_232 : decode cL_alibis 232 = .ok (.iinc 9 1, 3) := by decide +kernel
theorem dL_alibis_235 : decode cL_alibis 235 = .ok (.iload 11, 2) := by decide +kernel
theorem dL_alibis_237 : decode cL_alibis 237 = .ok (.istore 10, 2) := by decide +kernel
theorem dL_alibis_239 : decode cL_alibis 239 = .ok (.iinc 11 1, 3) := by decide +kernel
theorem dL_alibis_242 : decode cL_alibis 242 = .ok (.goto (-109), 3) := by decide +kernel
theorem dL_alibis_245 : decode cL_alibis 245 = .ok (.iload 5, 2) := by decide +kernel
theorem dL_alibis_247 : decode cL_alibis 247 = .ok (.ifCond .eq 70, 3) := by decide +kernel
theorem dL_alibis_250 : decode cL_alibis 250 = .ok (.aload_n 0, 1) := by decide +kernel
theorem dL_alibis_251 : decode cL_alibis 251 = .ok (.bipush 35, 2) := by decide +kernel
theorem dL_alibis_253 : decode cL_alibis 253 = .ok (.iload 7, 2) := by decide +kernel
theorem dL_alibis_255 : decode cL_alibis 255 = .ok (.iload 8, 2) := by decide +kernel
theorem dL_alibis_257 : decode cL_alibis 257 = .ok (.invokestatic 252, 3) := by decide +kernel
theorem dL_alibis_260 : decode cL_alibis 260 = .ok (.iload 9, 2) := by decide +kernel
theorem dL_alibis_262 : decode cL_alibis 262 = .ok (.if_icmp .ne 55, 3) := by decide +kernel
theorem dL_alibis_265 : decode cL_alibis 265 = .ok (.aload_n 0, 1) := by decide +kernel
theorem dL_alibis_266 : decode cL_alibis 266 = .ok (.bipush 36, 2) := by decide +kernel
theorem dL_alibis_268 : decode cL_alibis 268 = .ok (.iload 7, 2) := by decide +kernel
theorem dL_alibis_270 : decode cL_alibis 270 = .ok (.iload 8, 2) := by decide +kernel
theorem dL_alibis_272 : decode cL_alibis 272 = .ok (.invokestatic 252, 3) := by decide +kernel
theorem dL_alibis_275 : decode cL_alibis 275 = .ok (.iload 9, 2) := by decide +kernel
theorem dL_alibis_277 : decode cL_alibis 277 = .ok (.iconst 1, 1) := by decide +kernel
theorem dL_alibis_278 : decode cL_alibis 278 = .ok (.if_icmp .ne 8, 3) := by decide +kernel
theorem dL_alibis_281 : decode cL_alibis 281 = .ok (.iload 10, 2) := by decide +kernel
theorem dL_alibis_283 : decode cL_alibis 283 = .ok (.goto 5, 3) := by decide +kernel
theorem dL_alibis_286 : decode cL_alibis 286 = .ok (.bipush (-101), 2) := by decide +kernel
theorem dL_alibis_288 : decode cL_alibis 288 = .ok (.if_icmp .ne 29, 3) := by decide +kernel
theorem dL_alibis_291 : decode cL_alibis 291 = .ok (.iload 7, 2) := by decide +kernel
theorem dL_alibis_293 : decode cL_alibis 293 = .ok (.iload 8, 2) := by decide +kernel
theorem dL_alibis_295 : decode cL_alibis 295 = .ok (.if_icmp .eq 18, 3) := by decide +kernel
theorem dL_alibis_298 : decode cL_alibis 298 = .ok (.aload_n 0, 1) := by decide +kernel
theorem dL_alibis_299 : decode cL_alibis 299 = .ok (.bipush 35, 2) := by decide +kernel
theorem dL_alibis_301 : decode cL_alibis 301 = .ok (.iload 8, 2) := by decide +kernel
theorem dL_alibis_303 : decode cL_alibis 303 = .ok (.iload 7, 2) := by decide +kernel
theorem dL_alibis_305 : decode cL_alibis 305 = .ok (.invokestatic 252, 3) := by decide +kernel
theorem dL_alibis_308 : decode cL_alibis 308 = .ok (.bipush (-103), 2) := by decide +kernel
theorem dL_alibis_310 : decode cL_alibis 310 = .ok (.if_icmp .ne 7, 3) := by decide +kernel
theorem dL_alibis_313 : decode cL_alibis 313 = .ok (.iconst 1, 1) := by decide +kernel
theorem dL_alibis_314 : decode cL_alibis 314 = .ok (.goto 4, 3) := by decide +kernel
theorem dL_alibis_317 : decode cL_alibis 317 = .ok (.iconst 0, 1) := by decide +kernel
theorem dL_alibis_318 : decode cL_alibis 318 = .ok (.istore 5, 2) := by decide +kernel
theorem dL_alibis_320 : decode cL_alibis 320 = .ok (.iload_n 3, 1) := by decide +kernel
theorem dL_alibis_321 : decode cL_alibis 321 = .ok (.ifCond .ne 7, 3) := by decide +kernel
theorem dL_alibis_324 : decode cL_alibis 324 = .ok (.iconst 0, 1) := by decide +kernel
theorem dL_alibis_325 : decode cL_alibis 325 = .ok (.goto 13, 3) := by decide +kernel
theorem dL_alibis_328 : decode cL_alibis 328 = .ok (.iload_n 1, 1) := by decide +kernel
theorem dL_alibis_329 : decode cL_alibis 329 = .ok (.iload 6, 2) := by decide +kernel
theorem dL_alibis_331 : decode cL_alibis 331 = .ok (.ishr, 1) := by decide +kernel
theorem dL_alibis_332 : decode cL_alibis 332 = .ok (.sipush 255, 3) := by decide +kernel
theorem dL_alibis_335 : decode cL_alibis 335 = .ok (.iand, 1) := by decide +kernel
theorem dL_alibis_336 : decode cL_alibis 336 = .ok (.iload_n 3, 1) := by decide +kernel
theorem dL_alibis_337 : decode cL_alibis 337 = .ok (.irem, 1) := by decide +kernel
theorem dL_alibis_338 : decode cL_alibis 338 = .ok (.istore 11, 2) := by decide +kernel
theorem dL_alibis_340 : decode cL_alibis 340 = .ok (.iload_n 3, 1) := by decide +kernel
theorem dL_alibis_341 : decode cL_alibis 341 = .ok (.ifCond .ne 7, 3) := by decide +kernel
theorem dL_alibis_344 : decode cL_alibis 344 = .ok (.iconst 0, 1) := by decide +kernel
theorem dL_alibis_345 : decode cL_alibis 345 = .ok (.goto 13, 3) := by decide +kernel
theorem dL_alibis_348 : decode cL_alibis 348 = .ok (.iload_n 2, 1) := by decide +kernel
theorem dL_alibis_349 : decode cL_alibis 349 = .ok (.iload 6, 2) := by decide +kernel
theorem dL_alibis_351 : decode cL_alibis 351 = .ok (.ishr, 1) := by decide +kernel
theorem dL_alibis_352 : decode cL_alibis 352 = .ok (.sipush 255, 3) := by decide +kernel
theorem dL_alibis_355 : decode cL_alibis 355 = .ok (.iand, 1) := by decide +kernel
theorem dL_alibis_356 : decode cL_alibis 356 = .ok (.iload_n 3, 1) := by decide +kernel
theorem dL_alibis_357 : decode cL_alibis 357 = .ok (.irem, 1) := by decide +kernel
theorem dL_alibis_358 : decode cL_alibis 358 = .ok (.istore 12, 2) := by decide +kernel
theorem dL_alibis_360 : decode cL_alibis 360 = .ok (.iload_n 3, 1) := by decide +kernel
theorem dL_alibis_361 : decode cL_alibis 361 = .ok (.ifCond .eq 122, 3) := by decide +kernel
theorem dL_alibis_364 : decode cL_alibis 364 = .ok (.iload 6, 2) := by decide +kernel
theorem dL_alibis_366 : decode cL_alibis 366 = .ok (.ifCond .le 6, 3) := by decide +kernel
theorem dL_alibis_369 : decode cL_alibis 369 = .ok (.goto 114, 3) := by decide +kernel
theorem dL_alibis_372 : decode cL_alibis 372 = .ok (.iconst 0, 1) := by decide +kernel
theorem dL_alibis_373 : decode cL_alibis 373 = .ok (.istore 13, 2) := by decide +kernel
theorem dL_alibis_375 : decode cL_alibis 375 = .ok (.iconst 0, 1) := by decide +kernel
theorem dL_alibis_376 : decode cL_alibis 376 = .ok (.istore 14, 2) := by decide +kernel
theorem dL_alibis_378 : decode cL_alibis 378 = .ok (.iconst 0, 1) := by decide +kernel
theorem dL_alibis_379 : decode cL_alibis 379 = .ok (.istore 15, 2) := by decide +kernel
theorem dL_alibis_381 : decode cL_alibis 381 = .ok (.iload 15, 2) := by decide +kernel
theorem dL_alibis_383 : decode cL_alibis 383 = .ok (.iload 4, 2) := by decide +kernel
theorem dL_alibis_385 : decode cL_alibis 385 = .ok (.if_icmp .ge 43, 3) := by decide +kernel
theorem dL_alibis_388 : decode cL_alibis 388 = .ok (.aload_n 0, 1) := by decide +kernel
theorem dL_alibis_389 : decode cL_alibis 389 = .ok (.bipush 33, 2) := by decide +kernel
theorem dL_alibis_391 : decode cL_alibis 391 = .ok (.iload 11, 2) := by decide +kernel
theorem dL_alibis_393 : decode cL_alibis 393 = .ok (.iload 15, 2) := by decide +kernel
theorem dL_alibis_395 : decode cL_alibis 395 = .ok (.invokestatic 252, 3) := by decide +kernel
theorem dL_alibis_398 : decode cL_alibis 398 = .ok (.ifCond .ne 6, 3) := by decide +kernel
theorem dL_alibis_401 : decode cL_alibis 401 = .ok (.goto 21, 3) := by decide +kernel
theorem dL_alibis_404 : decode cL_alibis 404 = .ok (.iinc 13 1, 3) := by decide +kernel
theorem dL_alibis_407 : decode cL_alibis 407 = .ok (.iload 14, 2) := by decide +kernel
theorem dL_alibis_409 : decode cL_alibis 409 = .ok (.aload_n 0, 1) := by decide +kernel
theorem dL_alibis_410 : decode cL_alibis 410 = .ok (.bipush 33, 2) := by decide +kernel
theorem dL_alibis_412 : decode cL_alibis 412 = .ok (.iload 12, 2) := by decide +kernel
theorem dL_alibis_414 : decode cL_alibis 414 = .ok (.iload 15, 2) := by decide +kernel
theorem dL_alibis_416 : decode cL_alibis 416 = .ok (.invokestatic 252, 3) := by decide +kernel
theorem dL_alibis_419 : decode cL_alibis 419 = .ok (.iadd, 1) := by decide +kernel
theorem dL_alibis_420 : decode cL_alibis 420 = .ok (.istore 14, 2) := by decide +kernel
theorem dL_alibis_422 : decode cL_alibis 422 = .ok (.iinc 15 1, 3) := by decide +kernel
theorem dL_alibis_425 : decode cL_alibis 425 = .ok (.goto (-44), 3) := by decide +kernel
theorem dL_alibis_428 : decode cL_alibis 428 = .ok (.iload 5, 2) := by decide +kernel
theorem dL_alibis_430 : decode cL_alibis 430 = .ok (.ifCond .eq 50, 3) := by decide +kernel
theorem dL_alibis_433 : decode cL_alibis 433 = .ok (.aload_n 0, 1) := by decide +kernel
theorem dL_alibis_434 : decode cL_alibis 434 = .ok (.bipush 37, 2) := by decide +kernel
theorem dL_alibis_436 : decode cL_alibis 436 = .ok (.iload 11, 2) := by decide +kernel
theorem dL_alibis_438 : decode cL_alibis 438 = .ok (.invokestatic 171, 3) := by decide +kernel
theorem dL_alibis_441 : decode cL_alibis 441 = .ok (.iload 13, 2) := by decide +kernel
theorem dL_alibis_443 : decode cL_alibis 443 = .ok (.if_icmp .ne 37, 3) := by decide +kernel
theorem dL_alibis_446 : decode cL_alibis 446 = .ok (.aload_n 0, 1) := by decide +kernel
theorem dL_alibis_447 : decode cL_alibis 447 = .ok (.bipush 38, 2) := by decide +kernel
theorem dL_alibis_449 : decode cL_alibis 449 = .ok (.iload 11, 2) := by decide +kernel
theorem dL_alibis_451 : decode cL_alibis 451 = .ok (.iload 12, 2) := by decide +kernel
theorem dL_alibis_453 : decode cL_alibis 453 = .ok (.invokestatic 252, 3) := by decide +kernel
theorem dL_alibis_456 : decode cL_alibis 456 = .ok (.iload 14, 2) := by decide +kernel
theorem dL_alibis_458 : decode cL_alibis 458 = .ok (.if_icmp .ne 22, 3) := by decide +kernel
theorem dL_alibis_461 : decode cL_alibis 461 = .ok (.aload_n 0, 1) := by decide +kernel
theorem dL_alibis_462 : decode cL_alibis 462 = .ok (.bipush 38, 2) := by decide +kernel
theorem dL_alibis_464 : decode cL_alibis 464 = .ok (.iload 12, 2) := by decide +kernel
theorem dL_alibis_466 : decode cL_alibis 466 = .ok (.iload 11, 2) := by decide +kernel
theorem dL_alibis_468 : decode cL_alibis 468 = .ok (.invokestatic 252, 3) := by decide +kernel
theorem dL_alibis_471 : decode cL_alibis 471 = .ok (.iload 14, 2) := by decide +kernel
theorem dL_alibis_473 : decode cL_alibis 473 = .ok (.if_icmp .ne 7, 3) := by decide +kernel
theorem dL_alibis_476 : decode cL_alibis 476 = .ok (.iconst 1, 1) := by decide +kernel
theorem dL_alibis_477 : decode cL_alibis 477 = .ok (.goto 4, 3) := by decide +kernel
theorem dL_alibis_480 : decode cL_alibis 480 = .ok (.iconst 0, 1) := by decide +kernel
theorem dL_alibis_481 : decode cL_alibis 481 = .ok (.istore 5, 2) := by decide +kernel
theorem dL_alibis_483 : decode cL_alibis 483 = .ok (.iinc 6 1, 3) := by decide +kernel
theorem dL_alibis_486 : decode cL_alibis 486 = .ok (.goto (-415), 3) := by decide +kernel
theorem dL_alibis_489 : decode cL_alibis 489 = .ok (.iload 5, 2) := by decide +kernel
theorem dL_alibis_491 : decode cL_alibis 491 = .ok (.ireturn, 1) := by decide +kernel
theorem dL_goes_0 : decode cL_goes 0 = .ok (.aload_n 0, 1) := by decide +kernel
theorem dL_goes_1 : decode cL_goes 1 = .ok (.invokestatic 284, 3) := by decide +kernel
theorem dL_goes_4 : decode cL_goes 4 = .ok (.lstore_n 1, 1) := by decide +kernel
theorem dL_goes_5 : decode cL_goes 5 = .ok (.iconst 1, 1) := by decide +kernel
theorem dL_goes_6 : decode cL_goes 6 = .ok (.istore_n 3, 1) := by decide +kernel
theorem dL_goes_7 : decode cL_goes 7 = .ok (.iconst 0, 1) := by decide +kernel
theorem dL_goes_8 : decode cL_goes 8 = .ok (.istore 4, 2) := by decide +kernel
theorem dL_goes_10 : decode cL_goes 10 = .ok (.iload 4, 2) := by decide +kernel
theorem dL_goes_12 : decode cL_goes 12 = .ok (.aload_n 0, 1) := by decide +kernel
theorem dL_goes_13 : decode cL_goes 13 = .ok (.invokevirtual 243, 3) := by decide +kernel
theorem dL_goes_16 : decode cL_goes 16 = .ok (.if_icmp .ge 599, 3) := by decide +kernel
theorem dL_goes_19 : decode cL_goes 19 = .ok (.iload_n 3, 1) := by decide +kernel
theorem dL_goes_20 : decode cL_goes 20 = .ok (.ifCond .eq 595, 3) := by decide +kernel
theorem dL_goes_23 : decode cL_goes 23 = .ok (.aload_n 0, 1) := by decide +kernel
theorem dL_goes_24 : decode cL_goes 24 = .ok (.invokevirtual 249, 3) := by decide +kernel
theorem dL_goes_27 : decode cL_goes 27 = .ok (.istore 5, 2) := by decide +kernel
theorem dL_goes_29 : decode cL_goes 29 = .ok (.aload_n 0, 1) := by decide +kernel
theorem dL_goes_30 : decode cL_goes 30 = .ok (.invokevirtual 263, 3) := by decide +kernel
theorem dL_goes_33 : decode cL_goes 33 = .ok (.istore 6, 2) := by decide +kernel
theorem dL_goes_35 : decode cL_goes 35 = .ok (.aload_n 0, 1) := by decide +kernel
theorem dL_goes_36 : decode cL_goes 36 = .ok (.invokevirtual 240, 3) := by decide +kernel
theorem dL_goes_39 : decode cL_goes 39 = .ok (.istore 7, 2) := by decide +kernel
theorem dL_goes_41 : decode cL_goes 41 = .ok (.aload_n 0, 1) := by decide +kernel
theorem dL_goes_42 : decode cL_goes 42 = .ok (.bipush 20, 2) := by decide +kernel
theorem dL_goes_44 : decode cL_goes 44 = .ok (.iload 4, 2) := by decide +kernel
theorem dL_goes_46 : decode cL_goes 46 = .ok (.invokestatic 171, 3) := by decide +kernel
theorem dL_goes_49 : decode cL_goes 49 = .ok (.iconst 1, 1) := by decide +kernel
theorem dL_goes_50 : decode cL_goes 50 = .ok (.if_icmp .ne 185, 3) := by decide +kernel
theorem dL_goes_53 : decode cL_goes 53 = .ok (.aload_n 0, 1) := by decide +kernel
theorem dL_goes_54 : decode cL_goes 54 = .ok (.bipush 40, 2) := by decide +kernel
theorem dL_goes_56 : decode cL_goes 56 = .ok (.iload 4, 2) := by decide +kernel
theorem dL_goes_58 : decode cL_goes 58 = .ok (.invokestatic 171, 3) := by decide +kernel
theorem dL_goes_61 : decode cL_goes 61 = .ok (.istore 8, 2) := by decide +kernel
theorem dL_goes_63 : decode cL_goes 63 = .ok (.aload_n 0, 1) := by decide +kernel
theorem dL_goes_64 : decode cL_goes 64 = .ok (.bipush 29, 2) := by decide +kernel
theorem dL_goes_66 : decode cL_goes 66 = .ok (.iload 4, 2) := by decide +kernel
theorem dL_goes_68 : decode cL_goes 68 = .ok (.invokestatic 171, 3) := by decide +kernel
theorem dL_goes_71 : decode cL_goes 71 = .ok (.istore 9, 2) := by decide +kernel
theorem dL_goes_73 : decode cL_goes 73 = .ok (.aload_n 0, 1) := by decide +kernel
theorem dL_goes_74 : decode cL_goes 74 = .ok (.iconst 2, 1) := by decide +kernel
theorem dL_goes_75 : decode cL_goes 75 = .ok (.iload 4, 2) := by decide +kernel
theorem dL_goes_77 : decode cL_goes 77 = .ok (.invokestatic 171, 3) := by decide +kernel
theorem dL_goes_80 : decode cL_goes 80 = .ok (.bipush (-102), 2) := by decide +kernel
theorem dL_goes_82 : decode cL_goes 82 = .ok (.if_icmp .ne 20, 3) := by decide +kernel
theorem dL_goes_85 : decode cL_goes 85 = .ok (.aload_n 0, 1) := by decide +kernel
theorem dL_goes_86 : decode cL_goes 86 = .ok (.bipush 39, 2) := by decide +kernel
theorem dL_goes_88 : decode cL_goes 88 = .ok (.iload 4, 2) := by decide +kernel
theorem dL_goes_90 : decode cL_goes 90 = .ok (.invokestatic 171, 3) := by decide +kernel
theorem dL_goes_93 : decode cL_goes 93 = .ok (.bipush (-102), 2) := by decide +kernel
theorem dL_goes_95 : decode cL_goes 95 = .ok (.if_icmp .ne 7, 3) := by decide +kernel
theorem dL_goes_98 : decode cL_goes 98 = .ok (.iconst 1, 1) := by decide +kernel
theorem dL_goes_99 : decode cL_goes 99 = .ok (.goto 4, 3) := by decide +kernel
theorem dL_goes_102 : decode cL_goes 102 = .ok (.iconst 0, 1) := by decide +kernel
theorem dL_goes_103 : decode cL_goes 103 = .ok (.istore_n 3, 1) := by decide +kernel
theorem dL_goes_104 : decode cL_goes 104 = .ok (.aload_n 0, 1) := by decide +kernel
theorem dL_goes_105 : decode cL_goes 105 = .ok (.iconst 3, 1) := by decide +kernel
theorem dL_goes_106 : decode cL_goes 106 = .ok (.iload 4, 2) := by decide +kernel
theorem dL_goes_108 : decode cL_goes 108 = .ok (.invokestatic 171, 3) := by decide +kernel
theorem dL_goes_111 : decode cL_goes 111 = .ok (.istore 10, 2) := by decide +kernel
theorem dL_goes_113 : decode cL_goes 113 = .ok (.iload 5, 2) := by decide +kernel
theorem dL_goes_115 : decode cL_goes 115 = .ok (.bipush 60, 2) := by decide +kernel
theorem dL_goes_117 : decode cL_goes 117 = .ok (.if_icmp .ne 23, 3) := by decide +kernel
theorem dL_goes_120 : decode cL_goes 120 = .ok (.iload_n 3, 1) := by decide +kernel
theorem dL_goes_121 : decode cL_goes 121 = .ok (.ifCond .eq 14, 3) := by decide +kernel
theorem dL_goes_124 : decode cL_goes 124 = .ok (.iload 10, 2) := by decide +kernel
theorem dL_goes_126 : decode cL_goes 126 = .ok (.bipush (-102), 2) := by decide +kernel
theorem dL_goes_128 : decode cL_goes 128 = .ok (.if_icmp .ne 7, 3) := by decide +kernel
theorem dL_goes_131 : decode cL_goes 131 = .ok (.iconst 1, 1) := by decide +kernel
theorem dL_goes_132 : decode cL_goes 132 = .ok (.goto 4, 3) := by decide +kernel
theorem dL_goes_135 : decode cL_goes 135 = .ok (.iconst 0, 1) := by decide +kernel
theorem dL_goes_136 : decode cL_goes 136 = .ok (.istore_n 3, 1) := by decide +kernel
theorem dL_goes_137 : decode cL_goes 137 = .ok (.goto 472, 3) := by decide +kernel
theorem dL_goes_140 : decode cL_goes 140 = .ok (.iload_n 3, 1) := by decide +kernel
theorem dL_goes_141 : decode cL_goes 141 = .ok (.ifCond .eq 89, 3) := by decide +kernel
theorem dL_goes_144 : decode cL_goes 144 = .ok (.iload 10, 2) := by decide +kernel
theorem dL_goes_146 : decode cL_goes 146 = .ok (.iload 8, 2) := by decide +kernel
theorem dL_goes_148 : decode cL_goes 148 = .ok (.if_icmp .ne 82, 3) := by decide +kernel
theorem dL_goes_151 : decode cL_goes 151 = .ok (.aload_n 0, 1) := by decide +kernel
theorem dL_goes_152 : decode cL_goes 152 = .ok (.invokevirtual 240, 3) := by decide +kernel
theorem dL_goes_155 : decode cL_goes 155 = .ok (.iload 7, 2) := by decide +kernel
theorem dL_goes_157 : decode cL_goes 157 = .ok (.iload 8, 2) := by decide +kernel
theorem dL_goes_159 : decode cL_goes 159 = .ok (.iadd, 1) := by decide +kernel
theorem dL_goes_160 : decode cL_goes 160 = .ok (.if_icmp .ne 70, 3) := by decide +kernel
theorem dL_goes_163 : decode cL_goes 163 = .ok (.aload_n 0, 1) := by decide +kernel
theorem dL_goes_164 : decode cL_goes 164 = .ok (.bipush 20, 2) := by decide +kernel
theorem dL_goes_166 : decode cL_goes 166 = .ok (.iload 4, 2) := by decide +kernel
theorem dL_goes_168 : decode cL_goes 168 = .ok (.invokestatic 171, 3) := by decide +kernel
theorem dL_goes_171 : decode cL_goes 171 = .ok (.ifCond .ne 59, 3) := by decide +kernel
theorem dL_goes_174 : decode cL_goes 174 = .ok (.aload_n 0, 1) := by decide +kernel
theorem dL_goes_175 : decode cL_goes 175 = .ok (.invokevirtual 263, 3) := by decide +kernel
theorem dL_goes_178 : decode cL_goes 178 = .ok (.iload 6, 2) := by decide +kernel
theorem dL_goes_180 : decode cL_goes 180 = .ok (.iconst 1, 1) := by decide +kernel
theorem dL_goes_181 : decode cL_goes 181 = .ok (.isub, 1) := by decide +kernel
theorem dL_goes_182 : decode cL_goes 182 = .ok (.if_icmp .ne 48, 3) := by decide +kernel
theorem dL_goes_185 : decode cL_goes 185 = .ok (.iload 9, 2) := by decide +kernel
theorem dL_goes_187 : decode cL_goes 187 = .ok (.ifCond .lt 15, 3) := by decide +kernel
theorem dL_goes_190 : decode cL_goes 190 = .ok (.aload_n 0, 1) := by decide +kernel
theorem dL_goes_191 : decode cL_goes 191 = .ok (.bipush 26, 2) := by decide +kernel
theorem dL_goes_193 : decode cL_goes 193 = .ok (.iload 9, 2) := by decide +kernel
theorem dL_goes_195 : decode cL_goes 195 = .ok (.invokestatic 171, 3) := by decide +kernel
theorem dL_goes_198 : decode cL_goes 198 = .ok (.iconst 1, 1) := by decide +kernel
theorem dL_goes_199 : decode cL_goes 199 = .ok (.if_icmp .ne 31, 3) := by decide +kernel
theorem dL_goes_202 : decode cL_goes 202 = .ok (.aload_n 0, 1) := by decide +kernel
theorem dL_goes_203 : decode cL_goes 203 = .ok (.bipush 29, 2) := by decide +kernel
theorem dL_goes_205 : decode cL_goes 205 = .ok (.iload 4, 2) := by decide +kernel
theorem dL_goes_207 : decode cL_goes 207 = .ok (.invokestatic 171, 3) := by decide +kernel
theorem dL_goes_210 : decode cL_goes 210 = .ok (.bipush (-101), 2) := by decide +kernel
theorem dL_goes_212 : decode cL_goes 212 = .ok (.if_icmp .ne 18, 3) := by decide +kernel
theorem dL_goes_215 : decode cL_goes 215 = .ok (.aload_n 0, 1) := by decide +kernel
theorem dL_goes_216 : decode cL_goes 216 = .ok (.bipush 32, 2) := by decide +kernel
theorem dL_goes_218 : decode cL_goes 218 = .ok (.iload 5, 2) := by decide +kernel
theorem dL_goes_220 : decode cL_goes 220 = .ok (.invokestatic 171, 3) := by decide +kernel
theorem dL_goes_223 : decode cL_goes 223 = .ok (.ifCond .ne 7, 3) := by decide +kernel
theorem dL_goes_226 : decode cL_goes 226 = .ok (.iconst 1, 1) := by decide +kernel
theorem dL_goes_227 : decode cL_goes 227 = .ok (.goto 4, 3) := by decide +kernel
theorem dL_goes_230 : decode cL_goes 230 = .ok (.iconst 0, 1) := by decide +kernel
theorem dL_goes_231 : decode cL_goes 231 = .ok (.istore_n 3, 1) := by decide +kernel
theorem dL_goes_232 : decode cL_goes 232 = .ok (.goto 304, 3) := by decide +kernel
theorem dL_goes_235 : decode cL_goes 235 = .ok (.aload_n 0, 1) := by decide +kernel
theorem dL_goes_236 : decode cL_goes 236 = .ok (.bipush 39, 2) := by decide +kernel
theorem dL_goes_238 : decode cL_goes 238 = .ok (.iload 4, 2) := by decide +kernel
theorem dL_goes_240 : decode cL_goes 240 = .ok (.invokestatic 171, 3) := by decide +kernel
theorem dL_goes_243 : decode cL_goes 243 = .ok (.istore 8, 2) := by decide +kernel
theorem dL_goes_245 : decode cL_goes 245 = .ok (.bipush (-101), 2) := by decide +kernel
theorem dL_goes_247 : decode cL_goes 247 = .ok (.istore 9, 2) := by decide +kernel
theorem dL_goes_249 : decode cL_goes 249 = .ok (.aload_n 0, 1) := by decide +kernel
theorem dL_goes_250 : decode cL_goes 250 = .ok (.invokevirtual 246, 3) := by decide +kernel
theorem dL_goes_253 : decode cL_goes 253 = .ok (.iconst 1, 1) := by decide +kernel
theorem dL_goes_254 : decode cL_goes 254 = .ok (.isub, 1) := by decide +kernel
theorem dL_goes_255 : decode cL_goes 255 = .ok (.istore 10, 2) := by decide +kernel
theorem dL_goes_257 : decode cL_goes 257 = .ok (.iload 10, 2) := by decide +kernel
theorem dL_goes_259 : decode cL_goes 259 = .ok (.ifCond .lt 113, 3) := by decide +kernel
theorem dL_goes_262 : decode cL_goes 262 = .ok (.aload_n 0, 1) := by decide +kernel
theorem dL_goes_263 : decode cL_goes 263 = .ok (.invokevirtual 221, 3) := by decide +kernel
theorem dL_goes_266 : decode cL_goes 266 = .ok (.ifCond .le 106, 3) := by decide +kernel
theorem dL_goes_269 : decode cL_goes 269 = .ok (.aload_n 0, 1) := by decide +kernel
theorem dL_goes_270 : decode cL_goes 270 = .ok (.bipush 27, 2) := by decide +kernel
theorem dL_goes_272 : decode cL_goes 272 = .ok (.iload 10, 2) := by decide +kernel
theorem dL_goes_274 : decode cL_goes 274 = .ok (.invokestatic 171, 3) := by decide +kernel
theorem dL_goes_277 : decode cL_goes 277 = .ok (.ifCond .ne 6, 3) := by decide +kernel
theorem dL_goes_280 : decode cL_goes 280 = .ok (.goto 86, 3) := by decide +kernel
theorem dL_goes_283 : decode cL_goes 283 = .ok (.aload_n 0, 1) := by decide +kernel
theorem dL_goes_284 : decode cL_goes 284 = .ok (.bipush 24, 2) := by decide +kernel
theorem dL_goes_286 : decode cL_goes 286 = .ok (.iload 10, 2) := by decide +kernel
theorem dL_goes_288 : decode cL_goes 288 = .ok (.invokestatic 171, 3) := by decide +kernel
theorem dL_goes_291 : decode cL_goes 291 = .ok (.iload 4, 2) := by decide +kernel
theorem dL_goes_293 : decode cL_goes 293 = .ok (.if_icmp .ne 7, 3) := by decide +kernel
theorem dL_goes_296 : decode cL_goes 296 = .ok (.iconst 1, 1) := by decide +kernel
theorem dL_goes_297 : decode cL_goes 297 = .ok (.goto 4, 3) := by decide +kernel
theorem dL_goes_300 : decode cL_goes 300 = .ok (.iconst 0, 1) := by decide +kernel
theorem dL_goes_301 : decode cL_goes 301 = .ok (.istore 11, 2) := by decide +kernel
theorem dL_goes_303 : decode cL_goes 303 = .ok (.iload 9, 2) := by decide +kernel
theorem dL_goes_305 : decode cL_goes 305 = .ok (.ifCond .lt 20, 3) := by decide +kernel
theorem dL_goes_308 : decode cL_goes 308 = .ok (.aload_n 0, 1) := by decide +kernel
theorem dL_goes_309 : decode cL_goes 309 = .ok (.bipush 24, 2) := by decide +kernel
theorem dL_goes_311 : decode cL_goes 311 = .ok (.iload 9, 2) := by decide +kernel
theorem dL_goes_313 : decode cL_goes 313 = .ok (.invokestatic 171, 3) := by decide +kernel
theorem dL_goes_316 : decode cL_goes 316 = .ok (.iload 4, 2) := by decide +kernel
theorem dL_goes_318 : decode cL_goes 318 = .ok (.if_icmp .ne 7, 3) := by decide +kernel
theorem dL_goes_321 : decode cL_goes 321 = .ok (.iconst 1, 1) := by decide +kernel
theorem dL_goes_322 : decode cL_goes 322 = .ok (.goto 4, 3) := by decide +kernel
theorem dL_goes_325 : decode cL_goes 325 = .ok (.iconst 0, 1) := by decide +kernel
theorem dL_goes_326 : decode cL_goes 326 = .ok (.istore 12, 2) := by decide +kernel
theorem dL_goes_328 : decode cL_goes 328 = .ok (.iload 9, 2) := by decide +kernel
theorem dL_goes_330 : decode cL_goes 330 = .ok (.ifCond .lt 32, 3) := by decide +kernel
theorem dL_goes_333 : decode cL_goes 333 = .ok (.iload 11, 2) := by decide +kernel
theorem dL_goes_335 : decode cL_goes 335 = .ok (.ifCond .ne 27, 3) := by decide +kernel
theorem dL_goes_338 : decode cL_goes 338 = .ok (.iload 12, 2) := by decide +kernel
theorem dL_goes_340 : decode cL_goes 340 = .ok (.ifCond .ne 26, 3) := by decide +kernel
theorem dL_goes_343 : decode cL_goes 343 = .ok (.aload_n 0, 1) := by decide +kernel
theorem dL_goes_344 : decode cL_goes 344 = .ok (.bipush 25, 2) := by decide +kernel
theorem dL_goes_346 : decode cL_goes 346 = .ok (.iload 10, 2) := by decide +kernel
theorem dL_goes_348 : decode cL_goes 348 = .ok (.invokestatic 171, 3) := by decide +kernel
theorem dL_goes_351 : decode cL_goes 351 = .ok (.aload_n 0, 1) := by decide +kernel
theorem dL_goes_352 : decode cL_goes 352 = .ok (.bipush 25, 2) := by decide +kernel
theorem dL_goes_354 : decode cL_goes 354 = .ok (.iload 9, 2) := by decide +kernel
theorem dL_goes_356 : decode cL_goes 356 = .ok (.invokestatic 171, 3) := by decide +kernel
theorem dL_goes_359 : decode cL_goes 359 = .ok (.if_icmp .gt 7, 3) := by decide +kernel
theorem dL_goes_362 : decode cL_goes 362 = .ok (.iload 10, 2) := by decide +kernel
theorem dL_goes_364 : decode cL_goes 364 = .ok (.istore 9, 2) := by decide +kernel
theorem dL_goes_366 : decode cL_goes 366 = .ok (.iinc 10 (-1), 3) := by decide +kernel
theorem dL_goes_369 : decode cL_goes 369 = .ok (.goto (-112), 3) := by decide +kernel
theorem dL_goes_372 : decode cL_goes 372 = .ok (.iload 8, 2) := by decide +kernel
theorem dL_goes_374 : decode cL_goes 374 = .ok (.iload 9, 2) := by decide +kernel
theorem dL_goes_376 : decode cL_goes 376 = .ok (.if_icmp .ne 31, 3) := by decide +kernel
theorem dL_goes_379 : decode cL_goes 379 = .ok (.aload_n 0, 1) := by decide +kernel
theorem dL_goes_380 : decode cL_goes 380 = .ok (.iconst 3, 1) := by decide +kernel
theorem dL_goes_381 : decode cL_goes 381 = .ok (.iload 4, 2) := by decide +kernel
theorem dL_goes_383 : decode cL_goes 383 = .ok (.invokestatic 171, 3) := by decide +kernel
theorem dL_goes_386 : decode cL_goes 386 = .ok (.bipush (-102), 2) := by decide +kernel
theorem dL_goes_388 : decode cL_goes 388 = .ok (.if_icmp .ne 19, 3) := by decide +kernel
theorem dL_goes_391 : decode cL_goes 391 = .ok (.aload_n 0, 1) := by decide +kernel
theorem dL_goes_392 : decode cL_goes 392 = .ok (.iconst 5, 1) := by decide +kernel
theorem dL_goes_393 : decode cL_goes 393 = .ok (.iload 4, 2) := by decide +kernel
theorem dL_goes_395 : decode cL_goes 395 = .ok (.invokestatic 171, 3) := by decide +kernel
theorem dL_goes_398 : decode cL_goes 398 = .ok (.bipush (-102), 2) := by decide +kernel
theorem dL_goes_400 : decode cL_goes 400 = .ok (.if_icmp .ne 7, 3) := by decide +kernel
theorem dL_goes_403 : decode cL_goes 403 = .ok (.iconst 1, 1) := by decide +kernel
theorem dL_goes_404 : decode cL_goes 404 = .ok (.goto 4, 3) := by decide +kernel
theorem dL_goes_407 : decode cL_goes 407 = .ok (.iconst 0, 1) := by decide +kernel
theorem dL_goes_408 : decode cL_goes 408 = .ok (.istore_n 3, 1) := by decide +kernel
theorem dL_goes_409 : decode cL_goes 409 = .ok (.aload_n 0, 1) := by decide +kernel
theorem dL_goes_410 : decode cL_goes 410 = .ok (.iconst 2, 1) := by decide +kernel
theorem dL_goes_411 : decode cL_goes 411 = .ok (.iload 4, 2) := by decide +kernel
theorem dL_goes_413 : decode cL_goes 413 = .ok (.invokestatic 171, 3) := by decide +kernel
theorem dL_goes_416 : decode cL_goes 416 = .ok (.istore 10, 2) := by decide +kernel
theorem dL_goes_418 : decode cL_goes 418 = .ok (.iload 5, 2) := by decide +kernel
theorem dL_goes_420 : decode cL_goes 420 = .ok (.bipush 60, 2) := by decide +kernel
theorem dL_goes_422 : decode cL_goes 422 = .ok (.if_icmp .ne 23, 3) := by decide +kernel
theorem dL_goes_425 : decode cL_goes 425 = .ok (.iload_n 3, 1) := by decide +kernel
theorem dL_goes_426 : decode cL_goes 426 = .ok (.ifCond .eq 14, 3) := by decide +kernel
theorem dL_goes_429 : decode cL_goes 429 = .ok (.iload 10, 2) := by decide +kernel
theorem dL_goes_431 : decode cL_goes 431 = .ok (.bipush (-102), 2) := by decide +kernel
theorem dL_goes_433 : decode cL_goes 433 = .ok (.if_icmp .ne 7, 3) := by decide +kernel
theorem dL_goes_436 : decode cL_goes 436 = .ok (.iconst 1, 1) := by decide +kernel
theorem dL_goes_437 : decode cL_goes 437 = .ok (.goto 4, 3) := by decide +kernel
theorem dL_goes_440 : decode cL_goes 440 = .ok (.iconst 0, 1) := by decide +kernel
theorem dL_goes_441 : decode cL_goes 441 = .ok (.istore_n 3, 1) := by decide +kernel
theorem dL_goes_442 : decode cL_goes 442 = .ok (.goto 167, 3) := by decide +kernel
theorem dL_goes_445 : decode cL_goes 445 = .ok (.iload_n 3, 1) := by decide +kernel
theorem dL_goes_446 : decode cL_goes 446 = .ok (.ifCond .eq 88, 3) := by decide +kernel
theorem dL_goes_449 : decode cL_goes 449 = .ok (.iload 10, 2) := by decide +kernel
theorem dL_goes_451 : decode cL_goes 451 = .ok (.iload 6, 2) := by decide +kernel
theorem dL_goes_453 : decode cL_goes 453 = .ok (.iconst 1, 1) := by decide +kernel
theorem dL_goes_454 : decode cL_goes 454 = .ok (.iadd, 1) := by decide +kernel
theorem dL_goes_455 : decode cL_goes 455 = .ok (.if_icmp .ne 79, 3) := by decide +kernel
theorem dL_goes_458 : decode cL_goes 458 = .ok (.aload_n 0, 1) := by decide +kernel
theorem dL_goes_459 : decode cL_goes 459 = .ok (.bipush 20, 2) := by decide +kernel
theorem dL_goes_461 : decode cL_goes 461 = .ok (.iload 4, 2) := by decide +kernel
theorem dL_goes_463 : decode cL_goes 463 = .ok (.invokestatic 171, 3) := by decide +kernel
theorem dL_goes_466 : decode cL_goes 466 = .ok (.iconst 1, 1) := by decide +kernel
theorem dL_goes_467 : decode cL_goes 467 = .ok (.if_icmp .ne 67, 3) := by decide +kernel
theorem dL_goes_470 : decode cL_goes 470 = .ok (.aload_n 0, 1) := by decide +kernel
theorem dL_goes_471 : decode cL_goes 471 = .ok (.bipush 21, 2) := by decide +kernel
theorem dL_goes_473 : decode cL_goes 473 = .ok (.iload 4, 2) := by decide +kernel
theorem dL_goes_475 : decode cL_goes 475 = .ok (.invokestatic 171, 3) := by decide +kernel
theorem dL_goes_478 : decode cL_goes 478 = .ok (.aload_n 0, 1) := by decide +kernel
theorem dL_goes_479 : decode cL_goes 479 = .ok (.invokevirtual 218, 3) := by decide +kernel
theorem dL_goes_482 : decode cL_goes 482 = .ok (.if_icmp .ne 52, 3) := by decide +kernel
theorem dL_goes_485 : decode cL_goes 485 = .ok (.aload_n 0, 1) := by decide +kernel
theorem dL_goes_486 : decode cL_goes 486 = .ok (.bipush 29, 2) := by decide +kernel
theorem dL_goes_488 : decode cL_goes 488 = .ok (.iload 4, 2) := by decide +kernel
theorem dL_goes_490 : decode cL_goes 490 = .ok (.invokestatic 171, 3) := by decide +kernel
theorem dL_goes_493 : decode cL_goes 493 = .ok (.iload 8, 2) := by decide +kernel
theorem dL_goes_495 : decode cL_goes 495 = .ok (.if_icmp .ne 39, 3) := by decide +kernel
theorem dL_goes_498 : decode cL_goes 498 = .ok (.aload_n 0, 1) := by decide +kernel
theorem dL_goes_499 : decode cL_goes 499 = .ok (.bipush 22, 2) := by decide +kernel
theorem dL_goes_501 : decode cL_goes 501 = .ok (.iload 4, 2) := by decide +kernel
theorem dL_goes_503 : decode cL_goes 503 = .ok (.invokestatic 171, 3) := by decide +kernel
theorem dL_goes_506 : decode cL_goes 506 = .ok (.ifCond .ne 28, 3) := by decide +kernel
theorem dL_goes_509 : decode cL_goes 509 = .ok (.aload_n 0, 1) := by decide +kernel
theorem dL_goes_510 : decode cL_goes 510 = .ok (.invokevirtual 240, 3) := by decide +kernel
theorem dL_goes_513 : decode cL_goes 513 = .ok (.iload 7, 2) := by decide +kernel
theorem dL_goes_515 : decode cL_goes 515 = .ok (.if_icmp .ne 19, 3) := by decide +kernel
theorem dL_goes_518 : decode cL_goes 518 = .ok (.aload_n 0, 1) := by decide +kernel
theorem dL_goes_519 : decode cL_goes 519 = .ok (.bipush 32, 2) := by decide +kernel
theorem dL_goes_521 : decode cL_goes 521 = .ok (.iload 5, 2) := by decide +kernel
theorem dL_goes_523 : decode cL_goes 523 = .ok (.invokestatic 171, 3) := by decide +kernel
theorem dL_goes_526 : decode cL_goes 526 = .ok (.iconst 1, 1) := by decide +kernel
theorem dL_goes_527 : decode cL_goes 527 = .ok (.if_icmp .ne 7, 3) := by decide +kernel
theorem dL_goes_530 : decode cL_goes 530 = .ok (.iconst 1, 1) := by decide +kernel
theorem dL_goes_531 : decode cL_goes 531 = .ok (.goto 4, 3) := by decide +kernel
theorem dL_goes_534 : decode cL_goes 534 = .ok (.iconst 0, 1) := by decide +kernel
theorem dL_goes_535 : decode cL_goes 535 = .ok (.istore_n 3, 1) := by decide +kernel
theorem dL_goes_536 : decode cL_goes 536 = .ok (.iload_n 3, 1) := by decide +kernel
theorem dL_goes_537 : decode cL_goes 537 = .ok (.ifCond .eq 70, 3) := by decide +kernel
theorem dL_goes_540 : decode cL_goes 540 = .ok (.aload_n 0, 1) := by decide +kernel
theorem dL_goes_541 : decode cL_goes 541 = .ok (.invokevirtual 249, 3) := by decide +kernel
theorem dL_goes_544 : decode cL_goes 544 = .ok (.iload 5, 2) := by decide +kernel
theorem dL_goes_546 : decode cL_goes 546 = .ok (.iconst 1, 1) := by decide +kernel
theorem dL_goes_547 : decode cL_goes 547 = .ok (.iadd, 1) := by decide +kernel
theorem dL_goes_548 : decode cL_goes 548 = .ok (.if_icmp .ne 59, 3) := by decide +kernel
theorem dL_goes_551 : decode cL_goes 551 = .ok (.aload_n 0, 1) := by decide +kernel
theorem dL_goes_552 : decode cL_goes 552 = .ok (.bipush 30, 2) := by decide +kernel
theorem dL_goes_554 : decode cL_goes 554 = .ok (.iload 5, 2) := by decide +kernel
theorem dL_goes_556 : decode cL_goes 556 = .ok (.invokestatic 171, 3) := by decide +kernel
theorem dL_goes_559 : decode cL_goes 559 = .ok (.aload_n 0, 1) := by decide +kernel
theorem dL_goes_560 : decode cL_goes 560 = .ok (.invokevirtual 218, 3) := by decide +kernel
theorem dL_goes_563 : decode cL_goes 563 = .ok (.if_icmp .ne 44, 3) := by decide +kernel
theorem dL_goes_566 : decode cL_goes 566 = .ok (.aload_n 0, 1) := by decide +kernel
theorem dL_goes_567 : decode cL_goes 567 = .ok (.bipush 31, 2) := by decide +kernel
theorem dL_goes_569 : decode cL_goes 569 = .ok (.iload 5, 2) := by decide +kernel
theorem dL_goes_571 : decode cL_goes 571 = .ok (.invokestatic 171, 3) := by decide +kernel
theorem dL_goes_574 : decode cL_goes 574 = .ok (.iload 4, 2) := by decide +kernel
theorem dL_goes_576 : decode cL_goes 576 = .ok (.if_icmp .ne 31, 3) := by decide +kernel
theorem dL_goes_579 : decode cL_goes 579 = .ok (.aload_n 0, 1) := by decide +kernel
theorem dL_goes_580 : decode cL_goes 580 = .ok (.invokevirtual 255, 3) := by decide +kernel
theorem dL_goes_583 : decode cL_goes 583 = .ok (.ifCond .ne 24, 3) := by decide +kernel
theorem dL_goes_586 : decode cL_goes 586 = .ok (.aload_n 0, 1) := by decide +kernel
theorem dL_goes_587 : decode cL_goes 587 = .ok (.invokestatic 288, 3) := by decide +kernel
theorem dL_goes_590 : decode cL_goes 590 = .ok (.ifCond .eq 17, 3) := by decide +kernel
theorem dL_goes_593 : decode cL_goes 593 = .ok (.aload_n 0, 1) := by decide +kernel
theorem dL_goes_594 : decode cL_goes 594 = .ok (.bipush 8, 2) := by decide +kernel
theorem dL_goes_596 : decode cL_goes 596 = .ok (.iconst 0, 1) := by decide +kernel
theorem dL_goes_597 : decode cL_goes 597 = .ok (.invokestatic 171, 3) := by decide +kernel
theorem dL_goes_600 : decode cL_goes 600 = .ok (.ifCond .lt 7, 3) := by decide +kernel
theorem dL_goes_603 : decode cL_goes 603 = .ok (.iconst 1, 1) := by decide +kernel
theorem dL_goes_604 : decode cL_goes 604 = .ok (.goto 4, 3) := by decide +kernel
theorem dL_goes_607 : decode cL_goes 607 = .ok (.iconst 0, 1) := by decide +kernel
theorem dL_goes_608 : decode cL_goes 608 = .ok (.istore_n 3, 1) := by decide +kernel
theorem dL_goes_609 : decode cL_goes 609 = .ok (.iinc 4 1, 3) := by decide +kernel
theorem dL_goes_612 : decode cL_goes 612 = .ok (.goto (-602), 3) := by decide +kernel
theorem dL_goes_615 : decode cL_goes 615 = .ok (.iload_n 3, 1) := by decide +kernel
theorem dL_goes_616 : decode cL_goes 616 = .ok (.ifCond .eq 16, 3) := by decide +kernel
theorem dL_goes_619 : decode cL_goes 619 = .ok (.aload_n 0, 1) := by decide +kernel
theorem dL_goes_620 : decode cL_goes 620 = .ok (.invokestatic 284, 3) := by decide +kernel
theorem dL_goes_623 : decode cL_goes 623 = .ok (.lload_n 1, 1) := by decide +kernel
theorem dL_goes_624 : decode cL_goes 624 = .ok (.lcmp, 1) := by decide +kernel
theorem dL_goes_625 : decode cL_goes 625 = .ok (.ifCond .ne 7, 3) := by decide +kernel
theorem dL_goes_628 : decode cL_goes 628 = .ok (.iconst 1, 1) := by decide +kernel
theorem dL_goes_629 : decode cL_goes 629 = .ok (.goto 4, 3) := by decide +kernel
theorem dL_goes_632 : decode cL_goes 632 = .ok (.iconst 0, 1) := by decide +kernel
theorem dL_goes_633 : decode cL_goes 633 = .ok (.ireturn, 1) := by decide +kernel
