theorem dL_call_0 : decode cL_call 0 = .ok (.iload_n 1, 1) := by decide +kernel
theorem dL_call_1 : decode cL_call 1 = .ok (.tableswitch 514 0 42 #[187, 194, 201, 207, 213, 219, 225, 231, 237, 242, 248, 254, 259, 272, 278, 283, 289, 296, 301, 307, 313, 327, 333, 339, 353, 359, 365, 379, 393, 399, 405, 411, 417, 431, 446, 463, 470, 477, 483, 490, 496, 502, 508], 187) := by decide +kernel
theorem dL_call_188 : decode cL_call 188 = .ok (.aload_n 0, 1) := by decide +kernel
theorem dL_call_189 : decode cL_call 189 = .ok (.iload_n 2, 1) := by decide +kernel
theorem dL_call_190 : decode cL_call 190 = .ok (.iload_n 3, 1) := by decide +kernel
theorem dL_call_191 : decode cL_call 191 = .ok (.invokevirtual 7, 3) := by decide +kernel
theorem dL_call_194 : decode cL_call 194 = .ok (.ireturn, 1) := by decide +kernel
theorem dL_call_195 : decode cL_call 195 = .ok (.aload_n 0, 1) := by decide +kernel
theorem dL_call_196 : decode cL_call 196 = .ok (.iload_n 2, 1) := by decide +kernel
theorem dL_call_197 : decode cL_call 197 = .ok (.iload_n 3, 1) := by decide +kernel
theorem dL_call_198 : decode cL_call 198 = .ok (.invokevirtual 13, 3) := by decide +kernel
theorem dL_call_201 : decode cL_call 201 = .ok (.ireturn, 1) := by decide +kernel
theorem dL_call_202 : decode cL_call 202 = .ok (.aload_n 0, 1) := by decide +kernel
theorem dL_call_203 : decode cL_call 203 = .ok (.iload_n 2, 1) := by decide +kernel
theorem dL_call_204 : decode cL_call 204 = .ok (.invokevirtual 16, 3) := by decide +kernel
theorem dL_call_207 : decode cL_call 207 = .ok (.ireturn, 1) := by decide +kernel
theorem dL_call_208 : decode cL_call 208 = .ok (.aload_n 0, 1) := by decide +kernel
theorem dL_call_209 : decode cL_call 209 = .ok (.iload_n 2, 1) := by decide +kernel
theorem dL_call_210 : decode cL_call 210 = .ok (.invokevirtual 20, 3) := by decide +kernel
theorem dL_call_213 : decode cL_call 213 = .ok (.ireturn, 1) := by decide +kernel
theorem dL_call_214 : decode cL_call 214 = .ok (.aload_n 0, 1) := by decide +kernel
theorem dL_call_215 : decode cL_call 215 = .ok (.iload_n 2, 1) := by decide +kernel
theorem dL_call_216 : decode cL_call 216 = .ok (.invokevirtual 23, 3) := by decide +kernel
theorem dL_call_219 : decode cL_call 219 = .ok (.ireturn, 1) := by decide +kernel
theorem dL_call_220 : decode cL_call 220 = .ok (.aload_n 0, 1) := by decide +kernel
theorem dL_call_221 : decode cL_call 221 = .ok (.iload_n 2, 1) := by decide +kernel
theorem dL_call_222 : decode cL_call 222 = .ok (.invokevirtual 26, 3) := by decide +kernel
theorem dL_call_225 : decode cL_call 225 = .ok (.ireturn, 1) := by decide +kernel
theorem dL_call_226 : decode cL_call 226 = .ok (.aload_n 0, 1) := by decide +kernel
theorem dL_call_227 : decode cL_call 227 = .ok (.iload_n 2, 1) := by decide +kernel
theorem dL_call_228 : decode cL_call 228 = .ok (.invokevirtual 29, 3) := by decide +kernel
theorem dL_call_231 : decode cL_call 231 = .ok (.ireturn, 1) := by decide +kernel
theorem dL_call_232 : decode cL_call 232 = .ok (.aload_n 0, 1) := by decide +kernel
theorem dL_call_233 : decode cL_call 233 = .ok (.iload_n 2, 1) := by decide +kernel
theorem dL_call_234 : decode cL_call 234 = .ok (.invokevirtual 32, 3) := by decide +kernel
theorem dL_call_237 : decode cL_call 237 = .ok (.ireturn, 1) := by decide +kernel
theorem dL_call_238 : decode cL_call 238 = .ok (.aload_n 0, 1) := by decide +kernel
theorem dL_call_239 : decode cL_call 239 = .ok (.invokevirtual 35, 3) := by decide +kernel
theorem dL_call_242 : decode cL_call 242 = .ok (.ireturn, 1) := by decide +kernel
theorem dL_call_243 : decode cL_call 243 = .ok (.aload_n 0, 1) := by decide +kernel
theorem dL_call_244 : decode cL_call 244 = .ok (.iload_n 2, 1) := by decide +kernel
theorem dL_call_245 : decode cL_call 245 = .ok (.invokevirtual 39, 3) := by decide +kernel
theorem dL_call_248 : decode cL_call 248 = .ok (.ireturn, 1) := by decide +kernel
theorem dL_call_249 : decode cL_call 249 = .ok (.aload_n 0, 1) := by decide +kernel
theorem dL_call_250 : decode cL_call 250 = .ok (.iload_n 2, 1) := by decide +kernel
theorem dL_call_251 : decode cL_call 251 = .ok (.invokevirtual 42, 3) := by decide +kernel
theorem dL_call_254 : decode cL_call 254 = .ok (.ireturn, 1) := by decide +kernel
theorem dL_call_255 : decode cL_call 255 = .ok (.aload_n 0, 1) := by decide +kernel
theorem dL_call_256 : decode cL_call 256 = .ok (.invokevirtual 45, 3) := by decide +kernel
theorem dL_call_259 : decode cL_call 259 = .ok (.ireturn, 1) := by decide +kernel
theorem dL_call_260 : decode cL_call 260 = .ok (.aload_n 0, 1) := by decide +kernel
theorem dL_call_261 : decode cL_call 261 = .ok (.iload_n 2, 1) := by decide +kernel
theorem dL_call_262 : decode cL_call 262 = .ok (.iload_n 3, 1) := by decide +kernel
theorem dL_call_263 : decode cL_call 263 = .ok (.iload 4, 2) := by decide +kernel
theorem dL_call_265 : decode cL_call 265 = .ok (.iload 5, 2) := by decide +kernel
theorem dL_call_267 : decode cL_call 267 = .ok (.iload 6, 2) := by decide +kernel
theorem dL_call_269 : decode cL_call 269 = .ok (.invokevirtual 48, 3) := by decide +kernel
theorem dL_call_272 : decode cL_call 272 = .ok (.ireturn, 1) := by decide +kernel
theorem dL_call_273 : decode cL_call 273 = .ok (.aload_n 0, 1) := by decide +kernel
theorem dL_call_274 : decode cL_call 274 = .ok (.iload_n 2, 1) := by decide +kernel
theorem dL_call_275 : decode cL_call 275 = .ok (.invokevirtual 52, 3) := by decide +kernel
theorem dL_call_278 : decode cL_call 278 = .ok (.ireturn, 1) := by decide +kernel
theorem dL_call_279 : decode cL_call 279 = .ok (.aload_n 0, 1) := by decide +kernel
theorem dL_call_280 : decode cL_call 280 = .ok (.invokevirtual 55, 3) := by decide +kernel
theorem dL_call_283 : decode cL_call 283 = .ok (.ireturn, 1) := by decide +kernel
theorem dL_call_284 : decode cL_call 284 = .ok (.aload_n 0, 1) := by decide +kernel
theorem dL_call_285 : decode cL_call 285 = .ok (.iload_n 2, 1) := by decide +kernel
theorem dL_call_286 : decode cL_call 286 = .ok (.invokevirtual 58, 3) := by decide +kernel
theorem dL_call_289 : decode cL_call 289 = .ok (.ireturn, 1) := by decide +kernel
theorem dL_call_290 : decode cL_call 290 = .ok (.aload_n 0, 1) := by decide +kernel
theorem dL_call_291 : decode cL_call 291 = .ok (.iload_n 2, 1) := by decide +kernel
theorem dL_call_292 : decode cL_call 292 = .ok (.iload_n 3, 1) := by decide +kernel
theorem dL_call_293 : decode cL_call 293 = .ok (.invokevirtual 61, 3) := by decide +kernel
theorem dL_call_296 : decode cL_call 296 = .ok (.ireturn, 1) := by decide +kernel
theorem dL_call_297 : decode cL_call 297 = .ok (.aload_n 0, 1) := by decide +kernel
theorem dL_call_298 : decode cL_call 298 = .ok (.invokevirtual 64, 3) := by decide +kernel
theorem dL_call_301 : decode cL_call 301 = .ok (.ireturn, 1) := by decide +kernel
theorem dL_call_302 : decode cL_call 302 = .ok (.aload_n 0, 1) := by decide +kernel
theorem dL_call_303 : decode cL_call 303 = .ok (.iload_n 2, 1) := by decide +kernel
theorem dL_call_304 : decode cL_call 304 = .ok (.invokevirtual 67, 3) := by decide +kernel
theorem dL_call_307 : decode cL_call 307 = .ok (.ireturn, 1) := by decide +kernel
theorem dL_call_308 : decode cL_call 308 = .ok (.aload_n 0, 1) := by decide +kernel
theorem dL_call_309 : decode cL_call 309 = .ok (.iload_n 2, 1) := by decide +kernel
theorem dL_call_310 : decode cL_call 310 = .ok (.invokevirtual 70, 3) := by decide +kernel
theorem dL_call_313 : decode cL_call 313 = .ok (.ireturn, 1) := by decide +kernel
theorem dL_call_314 : decode cL_call 314 = .ok (.aload_n 0, 1) := by decide +kernel
theorem dL_call_315 : decode cL_call 315 = .ok (.iload_n 2, 1) := by decide +kernel
theorem dL_call_316 : decode cL_call 316 = .ok (.invokevirtual 73, 3) := by decide +kernel
theorem dL_call_319 : decode cL_call 319 = .ok (.ifCond .eq 7, 3) := by decide +kernel
theorem dL_call_322 : decode cL_call 322 = .ok (.iconst 1, 1) := by decide +kernel
theorem dL_call_323 : decode cL_call 323 = .ok (.goto 4, 3) := by decide +kernel
theorem dL_call_326 : decode cL_call 326 = .ok (.iconst 0, 1) := by decide +kernel
theorem dL_call_327 : decode cL_call 327 = .ok (.ireturn, 1) := by decide +kernel
theorem dL_call_328 : decode cL_call 328 = .ok (.aload_n 0, 1) := by decide +kernel
theorem dL_call_329 : decode cL_call 329 = .ok (.iload_n 2, 1) := by decide +kernel
theorem dL_call_330 : decode cL_call 330 = .ok (.invokevirtual 77, 3) := by decide +kernel
theorem dL_call_333 : decode cL_call 333 = .ok (.ireturn, 1) := by decide +kernel
theorem dL_call_334 : decode cL_call 334 = .ok (.aload_n 0, 1) := by decide +kernel
theorem dL_call_335 : decode cL_call 335 = .ok (.iload_n 2, 1) := by decide +kernel
theorem dL_call_336 : decode cL_call 336 = .ok (.invokevirtual 80, 3) := by decide +kernel
theorem dL_call_339 : decode cL_call 339 = .ok (.ireturn, 1) := by decide +kernel
theorem dL_call_340 : decode cL_call 340 = .ok (.aload_n 0, 1) := by decide +kernel
theorem dL_call_341 : decode cL_call 341 = .ok (.iload_n 2, 1) := by decide +kernel
theorem dL_call_342 : decode cL_call 342 = .ok (.invokevirtual 83, 3) := by decide +kernel
theorem dL_call_345 : decode cL_call 345 = .ok (.ifCond .eq 7, 3) := by decide +kernel
theorem dL_call_348 : decode cL_call 348 = .ok (.iconst 1, 1) := by decide +kernel
theorem dL_call_349 : decode cL_call 349 = .ok (.goto 4, 3) := by decide +kernel
theorem dL_call_352 : decode cL_call 352 = .ok (.iconst 0, 1) := by decide +kernel
theorem dL_call_353 : decode cL_call 353 = .ok (.ireturn, 1) := by decide +kernel
theorem dL_call_354 : decode cL_call 354 = .ok (.aload_n 0, 1) := by decide +kernel
theorem dL_call_355 : decode cL_call 355 = .ok (.iload_n 2, 1) := by decide +kernel
theorem dL_call_356 : decode cL_call 356 = .ok (.invokevirtual 86, 3) := by decide +kernel
theorem dL_call_359 : decode cL_call 359 = .ok (.ireturn, 1) := by decide +kernel
theorem dL_call_360 : decode cL_call 360 = .ok (.aload_n 0, 1) := by decide +kernel
theorem dL_call_361 : decode cL_call 361 = .ok (.iload_n 2, 1) := by decide +kernel
theorem dL_call_362 : decode cL_call 362 = .ok (.invokevirtual 89, 3) := by decide +kernel
theorem dL_call_365 : decode cL_call 365 = .ok (.ireturn, 1) := by decide +kernel
theorem dL_call_366 : decode cL_call 366 = .ok (.aload_n 0, 1) := by decide +kernel
theorem dL_call_367 : decode cL_call 367 = .ok (.iload_n 2, 1) := by decide +kernel
theorem dL_call_368 : decode cL_call 368 = .ok (.invokevirtual 92, 3) := by decide +kernel
theorem dL_call_371 : decode cL_call 371 = .ok (.ifCond .eq 7, 3) := by decide +kernel
theorem dL_call_374 : decode cL_call 374 = .ok (.iconst 1, 1) := by decide +kernel
theorem dL_call_375 : decode cL_call 375 = .ok (.goto 4, 3) := by decide +kernel
theorem dL_call_378 : decode cL_call 378 = .ok (.iconst 0, 1) := by decide +kernel
theorem dL_call_379 : decode cL_call 379 = .ok (.ireturn, 1) := by decide +kernel
theorem dL_call_380 : decode cL_call 380 = .ok (.aload_n 0, 1) := by decide +kernel
theorem dL_call_381 : decode cL_call 381 = .ok (.iload_n 2, 1) := by decide +kernel
theorem dL_call_382 : decode cL_call 382 = .ok (.invokevirtual 95, 3) := by decide +kernel
theorem dL_call_385 : decode cL_call 385 = .ok (.ifCond .eq 7, 3) := by decide +kernel
theorem dL_call_388 : decode cL_call 388 = .ok (.iconst 1, 1) := by decide +kernel
theorem dL_call_389 : decode cL_call 389 = .ok (.goto 4, 3) := by decide +kernel
theorem dL_call_392 : decode cL_call 392 = .ok (.iconst 0, 1) := by decide +kernel
theorem dL_call_393 : decode cL_call 393 = .ok (.ireturn, 1) := by decide +kernel
theorem dL_call_394 : decode cL_call 394 = .ok (.aload_n 0, 1) := by decide +kernel
theorem dL_call_395 : decode cL_call 395 = .ok (.iload_n 2, 1) := by decide +kernel
theorem dL_call_396 : decode cL_call 396 = .ok (.invokevirtual 98, 3) := by decide +kernel
theorem dL_call_399 : decode cL_call 399 = .ok (.ireturn, 1) := by decide +kernel
theorem dL_call_400 : decode cL_call 400 = .ok (.aload_n 0, 1) := by decide +kernel
theorem dL_call_401 : decode cL_call 401 = .ok (.iload_n 2, 1) := by decide +kernel
theorem dL_call_402 : decode cL_call 402 = .ok (.invokevirtual 101, 3) := by decide +kernel
theorem dL_call_405 : decode cL_call 405 = .ok (.ireturn, 1) := by decide +kernel
theorem dL_call_406 : decode cL_call 406 = .ok (.aload_n 0, 1) := by decide +kernel
theorem dL_call_407 : decode cL_call 407 = .ok (.iload_n 2, 1) := by decide +kernel
theorem dL_call_408 : decode cL_call 408 = .ok (.invokevirtual 104, 3) := by decide +kernel
theorem dL_call_411 : decode cL_call 411 = .ok (.ireturn, 1) := by decide +kernel
theorem dL_call_412 : decode cL_call 412 = .ok (.aload_n 0, 1) := by decide +kernel
theorem dL_call_413 : decode cL_call 413 = .ok (.iload_n 2, 1) := by decide +kernel
theorem dL_call_414 : decode cL_call 414 = .ok (.invokevirtual 107, 3) := by decide +kernel
theorem dL_call_417 : decode cL_call 417 = .ok (.ireturn, 1) := by decide +kernel
theorem dL_call_418 : decode cL_call 418 = .ok (.aload_n 0, 1) := by decide +kernel
theorem dL_call_419 : decode cL_call 419 = .ok (.iload_n 2, 1) := by decide +kernel
theorem dL_call_420 : decode cL_call 420 = .ok (.invokevirtual 110, 3) := by decide +kernel
theorem dL_call_423 : decode cL_call 423 = .ok (.ifCond .eq 7, 3) := by decide +kernel
theorem dL_call_426 : decode cL_call 426 = .ok (.iconst 1, 1) := by decide +kernel
theorem dL_call_427 : decode cL_call 427 = .ok (.goto 4, 3) := by decide +kernel
theorem dL_call_430 : decode cL_call 430 = .ok (.iconst 0, 1) := by decide +kernel
theorem dL_call_431 : decode cL_call 431 = .ok (.ireturn, 1) := by decide +kernel
theorem dL_call_432 : decode cL_call 432 = .ok (.aload_n 0, 1) := by decide +kernel
theorem dL_call_433 : decode cL_call 433 = .ok (.iload_n 2, 1) := by decide +kernel
theorem dL_call_434 : decode cL_call 434 = .ok (.iload_n 3, 1) := by decide +kernel
theorem dL_call_435 : decode cL_call 435 = .ok (.invokevirtual 113, 3) := by decide +kernel
theorem dL_call_438 : decode cL_call 438 = .ok (.ifCond .eq 7, 3) := by decide +kernel
theorem dL_call_441 : decode cL_call 441 = .ok (.iconst 1, 1) := by decide +kernel
theorem dL_call_442 : decode cL_call 442 = .ok (.goto 4, 3) := by decide +kernel
theorem dL_call_445 : decode cL_call 445 = .ok (.iconst 0, 1) := by decide +kernel
theorem dL_call_446 : decode cL_call 446 = .ok (.ireturn, 1) := by decide +kernel
theorem dL_call_447 : decode cL_call 447 = .ok (.aload_n 0, 1) := by decide +kernel
theorem dL_call_448 : decode cL_call 448 = .ok (.iload_n 2, 1) := by decide +kernel
theorem dL_call_449 : decode cL_call 449 = .ok (.iload_n 3, 1) := by decide +kernel
theorem dL_call_450 : decode cL_call 450 = .ok (.iload 4, 2) := by decide +kernel
theorem dL_call_452 : decode cL_call 452 = .ok (.invokevirtual 117, 3) := by decide +kernel
theorem dL_call_455 : decode cL_call 455 = .ok (.ifCond .eq 7, 3) := by decide +kernel
theorem dL_call_458 : decode cL_call 458 = .ok (.iconst 1, 1) := by decide +kernel
theorem dL_call_459 : decode cL_call 459 = .ok (.goto 4, 3) := by decide +kernel
theorem dL_call_462 : decode cL_call 462 = .ok (.iconst 0, 1) := by decide +kernel
theorem dL_call_463 : decode cL_call 463 = .ok (.ireturn, 1) := by decide +kernel
theorem dL_call_464 : decode cL_call 464 = .ok (.aload_n 0, 1) := by decide +kernel
theorem dL_call_465 : decode cL_call 465 = .ok (.iload_n 2, 1) := by decide +kernel
theorem dL_call_466 : decode cL_call 466 = .ok (.iload_n 3, 1) := by decide +kernel
theorem dL_call_467 : decode cL_call 467 = .ok (.invokevirtual 121, 3) := by decide +kernel
theorem dL_call_470 : decode cL_call 470 = .ok (.ireturn, 1) := by decide +kernel
theorem dL_call_471 : decode cL_call 471 = .ok (.aload_n 0, 1) := by decide +kernel
theorem dL_call_472 : decode cL_call 472 = .ok (.iload_n 2, 1) := by decide +kernel
theorem dL_call_473 : decode cL_call 473 = .ok (.iload_n 3, 1) := by decide +kernel
theorem dL_call_474 : decode cL_call 474 = .ok (.invokevirtual 124, 3) := by decide +kernel
theorem dL_call_477 : decode cL_call 477 = .ok (.ireturn, 1) := by decide +kernel
theorem dL_call_478 : decode cL_call 478 = .ok (.aload_n 0, 1) := by decide +kernel
theorem dL_call_479 : decode cL_call 479 = .ok (.iload_n 2, 1) := by decide +kernel
theorem dL_call_480 : decode cL_call 480 = .ok (.invokevirtual 127, 3) := by decide +kernel
theorem dL_call_483 : decode cL_call 483 = .ok (.ireturn, 1) := by decide +kernel
theorem dL_call_484 : decode cL_call 484 = .ok (.aload_n 0, 1) := by decide +kernel
theorem dL_call_485 : decode cL_call 485 = .ok (.iload_n 2, 1) := by decide +kernel
theorem dL_call_486 : decode cL_call 486 = .ok (.iload_n 3, 1) := by decide +kernel
theorem dL_call_487 : decode cL_call 487 = .ok (.invokevirtual 130, 3) := by decide +kernel
theorem dL_call_490 : decode cL_call 490 = .ok (.ireturn, 1) := by decide +kernel
theorem dL_call_491 : decode cL_call 491 = .ok (.aload_n 0, 1) := by decide +kernel
theorem dL_call_492 : decode cL_call 492 = .ok (.iload_n 2, 1) := by decide +kernel
theorem dL_call_493 : decode cL_call 493 = .ok (.invokevirtual 133, 3) := by decide +kernel
theorem dL_call_496 : decode cL_call 496 = .ok (.ireturn, 1) := by decide +kernel
theorem dL_call_497 : decode cL_call 497 = .ok (.aload_n 0, 1) := by decide +kernel
theorem dL_call_498 : decode cL_call 498 = .ok (.iload_n 2, 1) := by decide +kernel
theorem dL_call_499 : decode cL_call 499 = .ok (.invokevirtual 136, 3) := by decide +kernel
theorem dL_call_502 : decode cL_call 502 = .ok (.ireturn, 1) := by decide +kernel
theorem dL_call_503 : decode cL_call 503 = .ok (.aload_n 0, 1) := by decide +kernel
theorem dL_call_504 : decode cL_call 504 = .ok (.iload_n 2, 1) := by decide +kernel
theorem dL_call_505 : decode cL_call 505 = .ok (.invokevirtual 139, 3) := by decide +kernel
theorem dL_call_508 : decode cL_call 508 = .ok (.ireturn, 1) := by decide +kernel
theorem dL_call_509 : decode cL_call 509 = .ok (.aload_n 0, 1) := by decide +kernel
theorem dL_call_510 : decode cL_call 510 = .ok (.iload_n 2, 1) := by decide +kernel
theorem dL_call_511 : decode cL_call 511 = .ok (.invokevirtual 142, 3) := by decide +kernel
theorem dL_call_514 : decode cL_call 514 = .ok (.ireturn, 1) := by decide +kernel
theorem dL_call_515 : decode cL_call 515 = .ok (.aload_n 0, 1) := by decide +kernel
theorem dL_call_516 : decode cL_call 516 = .ok (.iload_n 2, 1) := by decide +kernel
theorem dL_call_517 : decode cL_call 517 = .ok (.invokevirtual 145, 3) := by decide +kernel
theorem dL_call_520 : decode cL_call 520 = .ok (.ireturn, 1) := by decide +kernel
theorem dL_call_521 : decode cL_call 521 = .ok (.astore 7, 2) := by decide +kernel
theorem dL_call_523 : decode cL_call 523 = .ok (.bipush (-101), 2) := by decide +kernel
theorem dL_call_525 : decode cL_call 525 = .ok (.ireturn, 1) := by decide +kernel
theorem dL_call_526 : decode cL_call 526 = .ok (.astore 7, 2) := by decide +kernel
theorem dL_call_528 : decode cL_call 528 = .ok (.bipush (-102), 2) := by decide +kernel
theorem dL_call_530 : decode cL_call 530 = .ok (.ireturn, 1) := by decide +kernel
theorem dL_call_531 : decode cL_call 531 = .ok (.astore 7, 2) := by decide +kernel
theorem dL_call_533 : decode cL_call 533 = .ok (.bipush (-103), 2) := by decide +kernel
theorem dL_call_535 : decode cL_call 535 = .ok (.ireturn, 1) := by decide +kernel
theorem dL_call_536 : decode cL_call 536 = .ok (.astore 7, 2) := by decide +kernel
theorem dL_call_538 : decode cL_call 538 = .ok (.bipush (-104), 2) := by decide +kernel
theorem dL_call_540 : decode cL_call 540 = .ok (.ireturn, 1) := by decide +kernel
theorem dL_call__0 : decode cL_call_ 0 = .ok (.aload_n 0, 1) := by decide +kernel
theorem dL_call__1 : decode cL_call_ 1 = .ok (.iload_n 1, 1) := by decide +kernel
theorem dL_call__2 : decode cL_call_ 2 = .ok (.iload_n 2, 1) := by decide +kernel
theorem dL_call__3 : decode cL_call_ 3 = .ok (.iload_n 3, 1) := by decide +kernel
theorem dL_call__4 : decode cL_call_ 4 = .ok (.iconst 0, 1) := by decide +kernel
theorem dL_call__5 : decode cL_call_ 5 = .ok (.iconst 0, 1) := by decide +kernel
theorem dL_call__6 : decode cL_call_ 6 = .ok (.iconst 0, 1) := by decide +kernel
theorem dL_call__7 : decode cL_call_ 7 = .ok (.invokestatic 158, 3) := by decide +kernel
theorem dL_call__10 : decode cL_call_ 10 = .ok (.ireturn, 1) := by decide +kernel
theorem dL_call___0 : decode cL_call__ 0 = .ok (.aload_n 0, 1) := by decide +kernel
theorem dL_call___1 : decode cL_call__ 1 = .ok (.iload_n 1, 1) := by decide +kernel
theorem dL_call___2 : decode cL_call__ 2 = .ok (.iload_n 2, 1) := by decide +kernel
theorem dL_call___3 : decode cL_call__ 3 = .ok (.iconst 0, 1) := by decide +kernel
theorem dL_call___4 : decode cL_call__ 4 = .ok (.iconst 0, 1) := by decide +kernel
theorem dL_call___5 : decode cL_call__ 5 = .ok (.iconst 0, 1) := by decide +kernel
theorem dL_call___6 : decode cL_call__ 6 = .ok (.iconst 0, 1) := by decide +kernel
theorem dL_call___7 : decode cL_call__ 7 = .ok (.invokestatic 158, 3) := by decide +kernel
theorem dL_call___10 : decode cL_call__ 10 = .ok (.ireturn, 1) := by decide +kernel
theorem dL_feeds_0 : decode cL_feeds 0 = .ok (.iconst 0, 1) := by decide +kernel
theorem dL_feeds_1 : decode cL_feeds 1 = .ok (.istore_n 2, 1) := by decide +kernel
theorem dL_feeds_2 : decode cL_feeds 2 = .ok (.iload_n 2, 1) := by decide +kernel
theorem dL_feeds_3 : decode cL_feeds 3 = .ok (.aload_n 1, 1) := by decide +kernel
theorem dL_feeds_4 : decode cL_feeds 4 = .ok (.invokevirtual 162, 3) := by decide +kernel
theorem dL_feeds_7 : decode cL_feeds 7 = .ok (.if_icmp .ge 103, 3) := by decide +kernel
theorem dL_feeds_10 : decode cL_feeds 10 = .ok (.iconst 5, 1) := by decide +kernel
theorem dL_feeds_11 : decode cL_feeds 11 = .ok (.newarray .int, 2) := by decide +kernel
theorem dL_feeds_13 : decode cL_feeds 13 = .ok (.astore_n 3, 1) := by decide +kernel
theorem dL_feeds_14 : decode cL_feeds 14 = .ok (.iconst 0, 1) := by decide +kernel
theorem dL_feeds_15 : decode cL_feeds 15 = .ok (.istore 4, 2) := by decide +kernel
theorem dL_feeds_17 : decode cL_feeds 17 = .ok (.iload 4, 2) := by decide +kernel
theorem dL_feeds_19 : decode cL_feeds 19 = .ok (.bipush 20, 2) := by decide +kernel
theorem dL_feeds_21 : decode cL_feeds 21 = .ok (.if_icmp .ge 53, 3) := by decide +kernel
theorem dL_feeds_24 : decode cL_feeds 24 = .ok (.aload_n 3, 1) := by decide +kernel
theorem dL_feeds_25 : decode cL_feeds 25 = .ok (.iload 4, 2) := by decide +kernel
theorem dL_feeds_27 : decode cL_feeds 27 = .ok (.iconst 4, 1) := by decide +kernel
theorem dL_feeds_28 : decode cL_feeds 28 = .ok (.idiv, 1) := by decide +kernel
theorem dL_feeds_29 : decode cL_feeds 29 = .ok (.dup2, 1) := by decide +kernel
theorem dL_feeds_30 : decode cL_feeds 30 = .ok (.iaload, 1) := by decide +kernel
theorem dL_feeds_31 : decode cL_feeds 31 = .ok (.iload_n 2, 1) := by decide +kernel
theorem dL_feeds_32 : decode cL_feeds 32 = .ok (.iload 4, 2) := by decide +kernel
theorem dL_feeds_34 : decode cL_feeds 34 = .ok (.iadd, 1) := by decide +kernel
theorem dL_feeds_35 : decode cL_feeds 35 = .ok (.aload_n 1, 1) := by decide +kernel
theorem dL_feeds_36 : decode cL_feeds 36 = .ok (.invokevirtual 162, 3) := by decide +kernel
theorem dL_feeds_39 : decode cL_feeds 39 = .ok (.if_icmp .ge 14, 3) := by decide +kernel
theorem dL_feeds_42 : decode cL_feeds 42 = .ok (.aload_n 1, 1) := by decide +kernel
theorem dL_feeds_43 : decode cL_feeds 43 = .ok (.iload_n 2, 1) := by decide +kernel
theorem dL_feeds_44 : decode cL_feeds 44 = .ok (.iload 4, 2) := by decide +kernel
theorem dL_feeds_46 : decode cL_feeds 46 = .ok (.iadd, 1) := by decide +kernel
theorem dL_feeds_47 : decode cL_feeds 47 = .ok (.invokevirtual 167, 3) := by decide +kernel
theorem dL_feeds_50 : decode cL_feeds 50 = .ok (.goto 5, 3) := by decide +kernel
theorem dL_feeds_53 : decode cL_feeds 53 = .ok (.bipush 32, 2) := by decide +kernel
theorem dL_feeds_55 : decode cL_feeds 55 = .ok (.bipush 24, 2) := by decide +kernel
theorem dL_feeds_57 : decode cL_feeds 57 = .ok (.bipush 8, 2) := by decide +kernel
theorem dL_feeds_59 : decode cL_feeds 59 = .ok (.iload 4, 2) := by decide +kernel
theorem dL_feeds_61 : decode cL_feeds 61 = .ok (.iconst 4, 1) := by decide +kernel
theorem dL_feeds_62 : decode cL_feeds 62 = .ok (.irem, 1) := by decide +kernel
theorem dL_feeds_63 : decode cL_feeds 63 = .ok (.imul, 1) := by decide +kernel
theorem dL_feeds_64 : decode cL_feeds 64 = .ok (.isub, 1) := by decide +kernel
theorem dL_feeds_65 : decode cL_feeds 65 = .ok (.ishl, 1) := by decide +kernel
theorem dL_feeds_66 : decode cL_feeds 66 = .ok (.ior, 1) := by decide +kernel
theorem dL_feeds_67 : decode cL_feeds 67 = .ok (.iastore, 1) := by decide +kernel
theorem dL_feeds_68 : decode cL_feeds 68 = .ok (.iinc 4 1, 3) := by decide +kernel
theorem dL_feeds_71 : decode cL_feeds 71 = .ok (.goto (-54), 3) := by decide +kernel
theorem dL_feeds_74 : decode cL_feeds 74 = .ok (.aload_n 0, 1) := by decide +kernel
theorem dL_feeds_75 : decode cL_feeds 75 = .ok (.bipush 12, 2) := by decide +kernel
theorem dL_feeds_77 : decode cL_feeds 77 = .ok (.aload_n 3, 1) := by decide +kernel
theorem dL_feeds_78 : decode cL_feeds 78 = .ok (.iconst 0, 1) := by decide +kernel
theorem dL_feeds_79 : decode cL_feeds 79 = .ok (.iaload, 1) := by decide +kernel
theorem dL_feeds_80 : decode cL_feeds 80 = .ok (.aload_n 3, 1) := by decide +kernel
theorem dL_feeds_81 : decode cL_feeds 81 = .ok (.iconst 1, 1) := by decide +kernel
theorem dL_feeds_82 : decode cL_feeds 82 = .ok (.iaload, 1) := by decide +kernel
theorem dL_feeds_83 : decode cL_feeds 83 = .ok (.aload_n 3, 1) := by decide +kernel
theorem dL_feeds_84 : decode cL_feeds 84 = .ok (.iconst 2, 1) := by decide +kernel
theorem dL_feeds_85 : decode cL_feeds 85 = .ok (.iaload, 1) := by decide +kernel
theorem dL_feeds_86 : decode cL_feeds 86 = .ok (.aload_n 3, 1) := by decide +kernel
theorem dL_feeds_87 : decode cL_feeds 87 = .ok (.iconst 3, 1) := by decide +kernel
theorem dL_feeds_88 : decode cL_feeds 88 = .ok (.iaload, 1) := by decide +kernel
theorem dL_feeds_89 : decode cL_feeds 89 = .ok (.aload_n 3, 1) := by decide +kernel
theorem dL_feeds_90 : decode cL_feeds 90 = .ok (.iconst 4, 1) := by decide +kernel
theorem dL_feeds_91 : decode cL_feeds 91 = .ok (.iaload, 1) := by decide +kernel
theorem dL_feeds_92 : decode cL_feeds 92 = .ok (.invokestatic 158, 3) := by decide +kernel
theorem dL_feeds_95 : decode cL_feeds 95 = .ok (.iload_n 2, 1) := by decide +kernel
theorem dL_feeds_96 : decode cL_feeds 96 = .ok (.bipush 20, 2) := by decide +kernel
theorem dL_feeds_98 : decode cL_feeds 98 = .ok (.iadd, 1) := by decide +kernel
theorem dL_feeds_99 : decode cL_feeds 99 = .ok (.if_icmp .eq 5, 3) := by decide +kernel
theorem dL_feeds_102 : decode cL_feeds 102 = .ok (.iconst 0, 1) := by decide +kernel
theorem dL_feeds_103 : decode cL_feeds 103 = .ok (.ireturn, 1) := by decide +kernel
theorem dL_feeds_104 : decode cL_feeds 104 = .ok (.iinc 2 20, 3) := by decide +kernel
theorem dL_feeds_107 : decode cL_feeds 107 = .ok (.goto (-105), 3) := by decide +kernel
theorem dL_feeds_110 : decode cL_feeds 110 = .ok (.aload_n 0, 1) := by decide +kernel
theorem dL_feeds_111 : decode cL_feeds 111 = .ok (.bipush 13, 2) := by decide +kernel
theorem dL_feeds_113 : decode cL_feeds 113 = .ok (.aload_n 1, 1) := by decide +kernel
theorem dL_feeds_114 : decode cL_feeds 114 = .ok (.invokevirtual 162, 3) := by decide +kernel
theorem dL_feeds_117 : decode cL_feeds 117 = .ok (.invokestatic 171, 3) := by decide +kernel
theorem dL_feeds_120 : decode cL_feeds 120 = .ok (.aload_n 1, 1) := by decide +kernel
theorem dL_feeds_121 : decode cL_feeds 121 = .ok (.invokevirtual 162, 3) := by decide +kernel
theorem dL_feeds_124 : decode cL_feeds 124 = .ok (.if_icmp .ne 7, 3) := by decide +kernel
theorem dL_feeds_127 : decode cL_feeds 127 = .ok (.iconst 1, 1) := by decide +kernel
theorem dL_feeds_128 : decode cL_feeds 128 = .ok (.goto 4, 3) := by decide +kernel
theorem dL_feeds_131 : decode cL_feeds 131 = .ok (.iconst 0, 1) := by decide +kernel
theorem dL_feeds_132 : decode cL_feeds 132 = .ok (.ireturn, 1) := by decide +kernel
theorem dL_state_0 : decode cL_state 0 = .ok (.ldc2_w 216, 3) := by decide +kernel
theorem dL_state_3 : decode cL_state 3 = .ok (.aload_n 0, 1) := by decide +kernel
theorem dL_state_4 : decode cL_state 4 = .ok (.invokevirtual 218, 3) := by decide +kernel
theorem dL_state_7 : decode cL_state 7 = .ok (.i2l, 1) := by decide +kernel
theorem dL_state_8 : decode cL_state 8 = .ok (.lmul, 1) := by decide +kernel
theorem dL_state_9 : decode cL_state 9 = .ok (.aload_n 0, 1) := by decide +kernel
theorem dL_state_10 : decode cL_state 10 = .ok (.invokevirtual 221, 3) := by decide +kernel
theorem dL_state_13 : decode cL_state 13 = .ok (.i2l, 1) := by decide +kernel
theorem dL_state_14 : decode cL_state 14 = .ok (.ladd, 1) := by decide +kernel
theorem dL_state_15 : decode cL_state 15 = .ok (.lstore_n 1, 1) := by decide +kernel
theorem dL_state_16 : decode cL_state 16 = .ok (.lload_n 1, 1) := by decide +kernel
theorem dL_state_17 : decode cL_state 17 = .ok (.ldc2_w 224, 3) := by decide +kernel
theorem dL_state_20 : decode cL_state 20 = .ok (.lmul, 1) := by decide +kernel
theorem dL_state_21 : decode cL_state 21 = .ok (.aload_n 0, 1) := by decide +kernel
theorem dL_state_22 : decode cL_state 22 = .ok (.invokevirtual 226, 3) := by decide +kernel
theorem dL_state_25 : decode cL_state 25 = .ok (.i2l, 1) := by decide +kernel
theorem dL_state_26 : decode cL_state 26 = .ok (.ladd, 1) := by decide +kernel
theorem dL_state_27 : decode cL_state 27 = .ok (.lstore_n 1, 1) := by decide +kernel
theorem dL_state_28 : decode cL_state 28 = .ok (.lload_n 1, 1) := by decide +kernel
theorem dL_state_29 : decode cL_state 29 = .ok (.ldc2_w 224, 3) := by decide +kernel
theorem dL_state_32 : decode cL_state 32 = .ok (.lmul, 1) := by decide +kernel
theorem dL_state_33 : decode cL_state 33 = .ok (.aload_n 0, 1) := by decide +kernel
theorem dL_state_34 : decode cL_state 34 = .ok (.invokevirtual 229, 3) := by decide +kernel
theorem dL_state_37 : decode cL_state 37 = .ok (.i2l, 1) := by decide +kernel
theorem dL_state_38 : decode cL_state 38 = .ok (.ladd, 1) := by decide +kernel
theorem dL_state_39 : decode cL_state 39 = .ok (.lstore_n 1, 1) := by decide +kernel
theorem dL_state_40 : decode cL_state 40 = .ok (.lload_n 1, 1) := by decide +kernel
theorem dL_state_41 : decode cL_state 41 = .ok (.ldc2_w 232, 3) := by decide +kernel
theorem dL_state_44 : decode cL_state 44 = .ok (.lmul, 1) := by decide +kernel
theorem dL_state_45 : decode cL_state 45 = .ok (.aload_n 0, 1) := by decide +kernel
theorem dL_state_46 : decode cL_state 46 = .ok (.invokevirtual 234, 3) := by decide +kernel
theorem dL_state_49 : decode cL_state 49 = .ok (.i2l, 1) := by decide +kernel
theorem dL_state_50 : decode cL_state 50 = .ok (.ladd, 1) := by decide +kernel
theorem dL_state_51 : decode cL_state 51 = .ok (.lstore_n 1, 1) := by decide +kernel
theorem dL_state_52 : decode cL_state 52 = .ok (.lload_n 1, 1) := by decide +kernel
theorem dL_state_53 : decode cL_state 53 = .ok (.ldc2_w 224, 3) := by decide +kernel
theorem dL_state_56 : decode cL_state 56 = .ok (.lmul, 1) := by decide +kernel
theorem dL_state_57 : decode cL_state 57 = .ok (.aload_n 0, 1) := by decide +kernel
theorem dL_state_58 : decode cL_state 58 = .ok (.invokevirtual 237, 3) := by decide +kernel
theorem dL_state_61 : decode cL_state 61 = .ok (.i2l, 1) := by decide +kernel
theorem dL_state_62 : decode cL_state 62 = .ok (.ladd, 1) := by decide +kernel
theorem dL_state_63 : decode cL_state 63 = .ok (.lstore_n 1, 1) := by decide +kernel
theorem dL_state_64 : decode cL_state 64 = .ok (.lload_n 1, 1) := by decide +kernel
theorem dL_state_65 : decode cL_state 65 = .ok (.ldc2_w 232, 3) := by decide +kernel
theorem dL_state_68 : decode cL_state 68 = .ok (.lmul, 1) := by decide +kernel
theorem dL_state_69 : decode cL_state 69 = .ok (.aload_n 0, 1) := by decide +kernel
theorem dL_state_70 : decode cL_state 70 = .ok (.invokevirtual 240, 3) := by decide +kernel
theorem dL_state_73 : decode cL_state 73 = .ok (.i2l, 1) := by decide +kernel
theorem dL_state_74 : decode cL_state 74 = .ok (.ladd, 1) := by decide +kernel
theorem dL_state_75 : decode cL_state 75 = .ok (.lstore_n 1, 1) := by decide +kernel
theorem dL_state_76 : decode cL_state 76 = .ok (.iconst 0, 1) := by decide +kernel
theorem dL_state_77 : decode cL_state 77 = .ok (.istore_n 3, 1) := by decide +kernel
theorem dL_state_78 : decode cL_state 78 = .ok (.iload_n 3, 1) := by decide +kernel
theorem dL_state_79 : decode cL_state 79 = .ok (.aload_n 0, 1) := by decide +kernel
theorem dL_state_80 : decode cL_state 80 = .ok (.invokevirtual 243, 3) := by decide +kernel
theorem dL_state_83 : decode cL_state 83 = .ok (.if_icmp .ge 41, 3) := by decide +kernel
theorem dL_state_86 : decode cL_state 86 = .ok (.bipush 18, 2) := by decide +kernel
theorem dL_state_88 : decode cL_state 88 = .ok (.istore 4, 2) := by decide +kernel
theorem dL_state_90 : decode cL_state 90 = .ok (.iload 4, 2) := by decide +kernel
theorem dL_state_92 : decode cL_state 92 = .ok (.bipush 24, 2) := by decide +kernel
theorem dL_state_94 : decode cL_state 94 = .ok (.if_icmp .ge 24, 3) := by decide +kernel
theorem dL_state_97 : decode cL_state 97 = .ok (.lload_n 1, 1) := by decide +kernel
theorem dL_state_98 : decode cL_state 98 = .ok (.ldc2_w 224, 3) := by decide +kernel
theorem dL_state_101 : decode cL_state 101 = .ok (.lmul, 1) := by decide +kernel
theorem dL_state_102 : decode cL_state 102 = .ok (.aload_n 0, 1) := by decide +kernel
theorem dL_state_103 : decode cL_state 103 = .ok (.iload 4, 2) := by decide +kernel
theorem dL_state_105 : decode cL_state 105 = .ok (.iload_n 3, 1) := by decide +kernel
theorem dL_state_106 : decode cL_state 106 = .ok (.invokestatic 171, 3) := by decide +kernel
theorem dL_state_109 : decode cL_state 109 = .ok (.i2l, 1) := by decide +kernel
theorem dL_state_110 : decode cL_state 110 = .ok (.ladd, 1) := by decide +kernel
theorem dL_state_111 : decode cL_state 111 = .ok (.lstore_n 1, 1) := by decide +kernel
theorem dL_state_112 : decode cL_state 112 = .ok (.iinc 4 1, 3) := by decide +kernel
theorem dL_state_115 : decode cL_state 115 = .ok (.goto (-25), 3) := by decide +kernel
theorem dL_state_118 : decode cL_state 118 = .ok (.iinc 3 1, 3) := by decide +kernel
theorem dL_state_121 : decode cL_state 121 = .ok (.goto (-43), 3) := by decide +kernel
theorem dL_state_124 : decode cL_state 124 = .ok (.iconst 0, 1) := by decide +kernel
theorem dL_state_125 : decode cL_state 125 = .ok (.istore_n 3, 1) := by decide +kernel
theorem dL_state_126 : decode cL_state 126 = .ok (.iload_n 3, 1) := by decide +kernel
theorem dL_state_127 : decode cL_state 127 = .ok (.aload_n 0, 1) := by decide +kernel
theorem dL_state_128 : decode cL_state 128 = .ok (.invokevirtual 246, 3) := by decide +kernel
theorem dL_state_131 : decode cL_state 131 = .ok (.if_icmp .ge 41, 3) := by decide +kernel
theorem dL_state_134 : decode cL_state 134 = .ok (.bipush 24, 2) := by decide +kernel
theorem dL_state_136 : decode cL_state 136 = .ok (.istore 4, 2) := by decide +kernel
theorem dL_state_138 : decode cL_state 138 = .ok (.iload 4, 2) := by decide +kernel
theorem dL_state_140 : decode cL_state 140 = .ok (.bipush 29, 2) := by decide +kernel
theorem dL_state_142 : decode cL_state 142 = .ok (.if_icmp .ge 24, 3) := by decide +kernel
theorem dL_state_145 : decode cL_state 145 = .ok (.lload_n 1, 1) := by decide +kernel
theorem dL_state_146 : decode cL_state 146 = .ok (.ldc2_w 232, 3) := by decide +kernel
theorem dL_state_149 : decode cL_state 149 = .ok (.lmul, 1) := by decide +kernel
theorem dL_state_150 : decode cL_state 150 = .ok (.aload_n 0, 1) := by decide +kernel
theorem dL_state_151 : decode cL_state 151 = .ok (.iload 4, 2) := by decide +kernel
theorem dL_state_153 : decode cL_state 153 = .ok (.iload_n 3, 1) := by decide +kernel
theorem dL_state_154 : decode cL_state 154 = .ok (.invokestatic 171, 3) := by decide +kernel
theorem dL_state_157 : decode cL_state 157 = .ok (.i2l, 1) := by decide +kernel
theorem dL_state_158 : decode cL_state 158 = .ok (.ladd, 1) := by decide +kernel
theorem dL_state_159 : decode cL_state 159 = .ok (.lstore_n 1, 1) := by decide +kernel
theorem dL_state_160 : decode cL_state 160 = .ok (.iinc 4 1, 3) := by decide +kernel
theorem dL_state_163 : decode cL_state 163 = .ok (.goto (-25), 3) := by decide +kernel
theorem dL_state_166 : decode cL_state 166 = .ok (.iinc 3 1, 3) := by decide +kernel
theorem dL_state_169 : decode cL_state 169 = .ok (.goto (-43), 3) := by decide +kernel
theorem dL_state_172 : decode cL_state 172 = .ok (.iconst 0, 1) := by decide +kernel
theorem dL_state_173 : decode cL_state 173 = .ok (.istore_n 3, 1) := by decide +kernel
theorem dL_state_174 : decode cL_state 174 = .ok (.iload_n 3, 1) := by decide +kernel
theorem dL_state_175 : decode cL_state 175 = .ok (.aload_n 0, 1) := by decide +kernel
theorem dL_state_176 : decode cL_state 176 = .ok (.invokevirtual 249, 3) := by decide +kernel
theorem dL_state_179 : decode cL_state 179 = .ok (.if_icmp .ge 41, 3) := by decide +kernel
theorem dL_state_182 : decode cL_state 182 = .ok (.bipush 30, 2) := by decide +kernel
theorem dL_state_184 : decode cL_state 184 = .ok (.istore 4, 2) := by decide +kernel
theorem dL_state_186 : decode cL_state 186 = .ok (.iload 4, 2) := by decide +kernel
theorem dL_state_188 : decode cL_state 188 = .ok (.bipush 33, 2) := by decide +kernel
theorem dL_state_190 : decode cL_state 190 = .ok (.if_icmp .ge 24, 3) := by decide +kernel
theorem dL_state_193 : decode cL_state 193 = .ok (.lload_n 1, 1) := by decide +kernel
theorem dL_state_194 : decode cL_state 194 = .ok (.ldc2_w 224, 3) := by decide +kernel
theorem dL_state_197 : decode cL_state 197 = .ok (.lmul, 1) := by decide +kernel
theorem dL_state_198 : decode cL_state 198 = .ok (.aload_n 0, 1) := by decide +kernel
theorem dL_state_199 : decode cL_state 199 = .ok (.iload 4, 2) := by decide +kernel
theorem dL_state_201 : decode cL_state 201 = .ok (.iload_n 3, 1) := by decide +kernel
theorem dL_state_202 : decode cL_state 202 = .ok (.invokestatic 171, 3) := by decide +kernel
theorem dL_state_205 : decode cL_state 205 = .ok (.i2l, 1) := by decide +kernel
theorem dL_state_206 : decode cL_state 206 = .ok (.ladd, 1) := by decide +kernel
theorem dL_state_207 : decode cL_state 207 = .ok (.lstore_n 1, 1) := by decide +kernel
theorem dL_state_208 : decode cL_state 208 = .ok (.iinc 4 1, 3) := by decide +kernel
theorem dL_state_211 : decode cL_state 211 = .ok (.goto (-25), 3) := by decide +kernel
theorem dL_state_214 : decode cL_state 214 = .ok (.iinc 3 1, 3) := by decide +kernel
theorem dL_state_217 : decode cL_state 217 = .ok (.goto (-43), 3) := by decide +kernel
theorem dL_state_220 : decode cL_state 220 = .ok (.lload_n 1, 1) := by decide +kernel
theorem dL_state_221 : decode cL_state 221 = .ok (.lreturn, 1) := by decide +kernel
theorem dL_does_0 : decode cL_does 0 = .ok (.aload_n 0, 1) := by decide +kernel
theorem dL_does_1 : decode cL_does 1 = .ok (.invokestatic 284, 3) := by decide +kernel
theorem dL_does_4 : decode cL_does 4 = .ok (.lstore_n 3, 1) := by decide +kernel
theorem dL_does_5 : decode cL_does 5 = .ok (.iconst 1, 1) := by decide +kernel
theorem dL_does_6 : decode cL_does 6 = .ok (.aload_n 0, 1) := by decide +kernel
theorem dL_does_7 : decode cL_does 7 = .ok (.invokevirtual 243, 3) := by decide +kernel
theorem dL_does_10 : decode cL_does 10 = .ok (.invokestatic 258, 3) := by decide +kernel
theorem dL_does_13 : decode cL_does 13 = .ok (.istore 5, 2) := by decide +kernel
theorem dL_does_15 : decode cL_does 15 = .ok (.iload_n 1, 1) := by decide +kernel
theorem dL_does_16 : decode cL_does 16 = .ok (.bipush 15, 2) := by decide +kernel
theorem dL_does_18 : decode cL_does 18 = .ok (.iand, 1) := by decide +kernel
theorem dL_does_19 : decode cL_does 19 = .ok (.tableswitch 229 0 14 #[73, 73, 73, 91, 91, 109, 109, 109, 109, 125, 143, 143, 162, 178, 202], 73) := by decide +kernel
theorem dL_does_92 : decode cL_does 92 = .ok (.aload_n 0, 1) := by decide +kernel
theorem dL_does_93 : decode cL_does 93 = .ok (.iconst 2, 1) := by decide +kernel
theorem dL_does_94 : decode cL_does 94 = .ok (.iload_n 2, 1) := by decide +kernel
theorem dL_does_95 : decode cL_does 95 = .ok (.sipush 255, 3) := by decide +kernel
theorem dL_does_98 : decode cL_does 98 = .ok (.iand, 1) := by decide +kernel
theorem dL_does_99 : decode cL_does 99 = .ok (.iload 5, 2) := by decide +kernel
theorem dL_does_101 : decode cL_does 101 = .ok (.irem, 1) := by decide +kernel
theorem dL_does_102 : decode cL_does 102 = .ok (.invokestatic 171, 3) := by decide +kernel
theorem dL_does_105 : decode cL_does 105 = .ok (.istore 6, 2) := by decide +kernel
theorem dL_does_107 : decode cL_does 107 = .ok (.goto 159, 3) := by decide +kernel
theorem dL_does_110 : decode cL_does 110 = .ok (.aload_n 0, 1) := by decide +kernel
theorem dL_does_111 : decode cL_does 111 = .ok (.iconst 3, 1) := by decide +kernel
theorem dL_does_112 : decode cL_does 112 = .ok (.iload_n 2, 1) := by decide +kernel
theorem dL_does_113 : decode cL_does 113 = .ok (.sipush 255, 3) := by decide +kernel
theorem dL_does_116 : decode cL_does 116 = .ok (.iand, 1) := by decide +kernel
theorem dL_does_117 : decode cL_does 117 = .ok (.iload 5, 2) := by decide +kernel
theorem dL_does_119 : decode cL_does 119 = .ok (.irem, 1) := by decide +kernel
theorem dL_does_120 : decode cL_does 120 = .ok (.invokestatic 171, 3) := by decide +kernel
theorem dL_does_123 : decode cL_does 123 = .ok (.istore 6, 2) := by decide +kernel
theorem dL_does_125 : decode cL_does 125 = .ok (.goto 141, 3) := by decide +kernel
theorem dL_does_128 : decode cL_does 128 = .ok (.aload_n 0, 1) := by decide +kernel
theorem dL_does_129 : decode cL_does 129 = .ok (.iconst 4, 1) := by decide +kernel
theorem dL_does_130 : decode cL_does 130 = .ok (.iconst 1, 1) := by decide +kernel
theorem dL_does_131 : decode cL_does 131 = .ok (.iload_n 2, 1) := by decide +kernel
theorem dL_does_132 : decode cL_does 132 = .ok (.bipush 31, 2) := by decide +kernel
theorem dL_does_134 : decode cL_does 134 = .ok (.iand, 1) := by decide +kernel
theorem dL_does_135 : decode cL_does 135 = .ok (.iadd, 1) := by decide +kernel
theorem dL_does_136 : decode cL_does 136 = .ok (.invokestatic 171, 3) := by decide +kernel
theorem dL_does_139 : decode cL_does 139 = .ok (.istore 6, 2) := by decide +kernel
theorem dL_does_141 : decode cL_does 141 = .ok (.goto 125, 3) := by decide +kernel
theorem dL_does_144 : decode cL_does 144 = .ok (.aload_n 0, 1) := by decide +kernel
theorem dL_does_145 : decode cL_does 145 = .ok (.iconst 5, 1) := by decide +kernel
theorem dL_does_146 : decode cL_does 146 = .ok (.iload_n 2, 1) := by decide +kernel
theorem dL_does_147 : decode cL_does 147 = .ok (.sipush 255, 3) := by decide +kernel
theorem dL_does_150 : decode cL_does 150 = .ok (.iand, 1) := by decide +kernel
theorem dL_does_151 : decode cL_does 151 = .ok (.iload 5, 2) := by decide +kernel
theorem dL_does_153 : decode cL_does 153 = .ok (.irem, 1) := by decide +kernel
theorem dL_does_154 : decode cL_does 154 = .ok (.invokestatic 171, 3) := by decide +kernel
theorem dL_does_157 : decode cL_does 157 = .ok (.istore 6, 2) := by decide +kernel
theorem dL_does_159 : decode cL_does 159 = .ok (.goto 107, 3) := by decide +kernel
theorem dL_does_162 : decode cL_does 162 = .ok (.aload_n 0, 1) := by decide +kernel
theorem dL_does_163 : decode cL_does 163 = .ok (.bipush 6, 2) := by decide +kernel
theorem dL_does_165 : decode cL_does 165 = .ok (.iload_n 2, 1) := by decide +kernel
theorem dL_does_166 : decode cL_does 166 = .ok (.sipush 255, 3) := by decide +kernel
theorem dL_does_169 : decode cL_does 169 = .ok (.iand, 1) := by decide +kernel
theorem dL_does_170 : decode cL_does 170 = .ok (.bipush 11, 2) := by decide +kernel
theorem dL_does_172 : decode cL_does 172 = .ok (.irem, 1) := by decide +kernel
theorem dL_does_173 : decode cL_does 173 = .ok (.invokestatic 171, 3) := by decide +kernel
theorem dL_does_176 : decode cL_does 176 = .ok (.istore 6, 2) := by decide +kernel
theorem dL_does_178 : decode cL_does 178 = .ok (.goto 88, 3) := by decide +kernel
theorem dL_does_181 : decode cL_does 181 = .ok (.aload_n 0, 1) := by decide +kernel
theorem dL_does_182 : decode cL_does 182 = .ok (.bipush 7, 2) := by decide +kernel
theorem dL_does_184 : decode cL_does 184 = .ok (.iload_n 2, 1) := by decide +kernel
theorem dL_does_185 : decode cL_does 185 = .ok (.sipush 1023, 3) := by decide +kernel
theorem dL_does_188 : decode cL_does 188 = .ok (.iand, 1) := by decide +kernel
theorem dL_does_189 : decode cL_does 189 = .ok (.invokestatic 171, 3) := by decide +kernel
theorem dL_does_192 : decode cL_does 192 = .ok (.istore 6, 2) := by decide +kernel
theorem dL_does_194 : decode cL_does 194 = .ok (.goto 72, 3) := by decide +kernel
theorem dL_does_197 : decode cL_does 197 = .ok (.aload_n 0, 1) := by decide +kernel
theorem dL_does_198 : decode cL_does 198 = .ok (.iconst 1, 1) := by decide +kernel
theorem dL_does_199 : decode cL_does 199 = .ok (.iload_n 2, 1) := by decide +kernel
theorem dL_does_200 : decode cL_does 200 = .ok (.sipush 255, 3) := by decide +kernel
theorem dL_does_203 : decode cL_does 203 = .ok (.iand, 1) := by decide +kernel
theorem dL_does_204 : decode cL_does 204 = .ok (.iload 5, 2) := by decide +kernel
theorem dL_does_206 : decode cL_does 206 = .ok (.irem, 1) := by decide +kernel
theorem dL_does_207 : decode cL_does 207 = .ok (.iload_n 2, 1) := by decide +kernel
theorem dL_does_208 : decode cL_does 208 = .ok (.iconst 3, 1) := by decide +kernel
theorem dL_does_209 : decode cL_does 209 = .ok (.ishr, 1) := by decide +kernel
theorem dL_does_210 : decode cL_does 210 = .ok (.bipush 127, 2) := by decide +kernel
theorem dL_does_212 : decode cL_does 212 = .ok (.iand, 1) := by decide +kernel
theorem dL_does_213 : decode cL_does 213 = .ok (.invokestatic 252, 3) := by decide +kernel
theorem dL_does_216 : decode cL_does 216 = .ok (.istore 6, 2) := by decide +kernel
theorem dL_does_218 : decode cL_does 218 = .ok (.goto 48, 3) := by decide +kernel
theorem dL_does_221 : decode cL_does 221 = .ok (.aload_n 0, 1) := by decide +kernel
theorem dL_does_222 : decode cL_does 222 = .ok (.iload_n 2, 1) := by decide +kernel
theorem dL_does_223 : decode cL_does 223 = .ok (.iconst 1, 1) := by decide +kernel
theorem dL_does_224 : decode cL_does 224 = .ok (.iand, 1) := by decide +kernel
theorem dL_does_225 : decode cL_does 225 = .ok (.ifCond .ne 8, 3) := by decide +kernel
theorem dL_does_228 : decode cL_does 228 = .ok (.bipush 9, 2) := by decide +kernel
theorem dL_does_230 : decode cL_does 230 = .ok (.goto 5, 3) := by decide +kernel
theorem dL_does_233 : decode cL_does 233 = .ok (.bipush 10, 2) := by decide +kernel
theorem dL_does_235 : decode cL_does 235 = .ok (.iload_n 2, 1) := by decide +kernel
theorem dL_does_236 : decode cL_does 236 = .ok (.iconst 1, 1) := by decide +kernel
theorem dL_does_237 : decode cL_does 237 = .ok (.ishr, 1) := by decide +kernel
theorem dL_does_238 : decode cL_does 238 = .ok (.iconst 1, 1) := by decide +kernel
theorem dL_does_239 : decode cL_does 239 = .ok (.iand, 1) := by decide +kernel
theorem dL_does_240 : decode cL_does 240 = .ok (.invokestatic 171, 3) := by decide +kernel
theorem dL_does_243 : decode cL_does 243 = .ok (.istore 6, 2) := by decide +kernel
theorem dL_does_245 : decode cL_does 245 = .ok (.goto 21, 3) := by decide +kernel
theorem dL_does_248 : decode cL_does 248 = .ok (.aload_n 0, 1) := by decide +kernel
theorem dL_does_249 : decode cL_does 249 = .ok (.bipush 8, 2) := by decide +kernel
theorem dL_does_251 : decode cL_does 251 = .ok (.iconst 0, 1) := by decide +kernel
theorem dL_does_252 : decode cL_does 252 = .ok (.invokestatic 171, 3) := by decide +kernel
theorem dL_does_255 : decode cL_does 255 = .ok (.bipush (-104), 2) := by decide +kernel
theorem dL_does_257 : decode cL_does 257 = .ok (.if_icmp .eq 7, 3) := by decide +kernel
theorem dL_does_260 : decode cL_does 260 = .ok (.iconst 1, 1) := by decide +kernel
theorem dL_does_261 : decode cL_does 261 = .ok (.goto 4, 3) := by decide +kernel
theorem dL_does_264 : decode cL_does 264 = .ok (.iconst 0, 1) := by decide +kernel
theorem dL_does_265 : decode cL_does 265 = .ok (.ireturn, 1) := by decide +kernel
theorem dL_does_266 : decode cL_does 266 = .ok (.iload 6, 2) := by decide +kernel
theorem dL_does_268 : decode cL_does 268 = .ok (.ifCond .ge 12, 3) := by decide +kernel
theorem dL_does_271 : decode cL_does 271 = .ok (.aload_n 0, 1) := by decide +kernel
theorem dL_does_272 : decode cL_does 272 = .ok (.invokestatic 284, 3) := by decide +kernel
theorem dL_does_275 : decode cL_does 275 = .ok (.lload_n 3, 1) := by decide +kernel
theorem dL_does_276 : decode cL_does 276 = .ok (.lcmp, 1) := by decide +kernel
theorem dL_does_277 : decode cL_does 277 = .ok (.ifCond .ne 7, 3) := by decide +kernel
theorem dL_does_280 : decode cL_does 280 = .ok (.iconst 1, 1) := by decide +kernel
theorem dL_does_281 : decode cL_does 281 = .ok (.goto 4, 3) := by decide +kernel
theorem dL_does_284 : decode cL_does 284 = .ok (.iconst 0, 1) := by decide +kernel
theorem dL_does_285 : decode cL_does 285 = .ok (.ireturn, 1) := by decide +kernel
