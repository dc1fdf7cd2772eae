/-! decode rows (printed) -/
set_option maxRecDepth 100000 in
theorem dL_law_217 : decode cL_law 217 = .ok (.iload 10, 2) := by decide +kernel
set_option maxRecDepth 100000 in
theorem dL_law_219 : decode cL_law 219 = .ok (.iconst 5, 1) := by decide +kernel
set_option maxRecDepth 100000 in
theorem dL_law_220 : decode cL_law 220 = .ok (.irem, 1) := by decide +kernel
set_option maxRecDepth 100000 in
theorem dL_law_221 : decode cL_law 221 = .ok (.iastore, 1) := by decide +kernel
set_option maxRecDepth 100000 in
theorem dL_law_222 : decode cL_law 222 = .ok (.aload 7, 2) := by decide +kernel
set_option maxRecDepth 100000 in
theorem dL_law_224 : decode cL_law 224 = .ok (.iload 9, 2) := by decide +kernel
set_option maxRecDepth 100000 in
theorem dL_law_226 : decode cL_law 226 = .ok (.aload 6, 2) := by decide +kernel
set_option maxRecDepth 100000 in
theorem dL_law_228 : decode cL_law 228 = .ok (.iload 9, 2) := by decide +kernel
set_option maxRecDepth 100000 in
theorem dL_law_230 : decode cL_law 230 = .ok (.iaload, 1) := by decide +kernel
set_option maxRecDepth 100000 in
theorem dL_law_231 : decode cL_law 231 = .ok (.ifCond .ne 7, 3) := by decide +kernel
set_option maxRecDepth 100000 in
theorem dL_law_234 : decode cL_law 234 = .ok (.iconst 0, 1) := by decide +kernel
set_option maxRecDepth 100000 in
theorem dL_law_235 : decode cL_law 235 = .ok (.goto 73, 3) := by decide +kernel
set_option maxRecDepth 100000 in
theorem dL_law_238 : decode cL_law 238 = .ok (.aload 6, 2) := by decide +kernel
set_option maxRecDepth 100000 in
theorem dL_law_240 : decode cL_law 240 = .ok (.iload 9, 2) := by decide +kernel
set_option maxRecDepth 100000 in
theorem dL_law_242 : decode cL_law 242 = .ok (.iaload, 1) := by decide +kernel
set_option maxRecDepth 100000 in
theorem dL_law_243 : decode cL_law 243 = .ok (.iconst 1, 1) := by decide +kernel
set_option maxRecDepth 100000 in
theorem dL_law_244 : decode cL_law 244 = .ok (.if_icmp .ne 14, 3) := by decide +kernel
set_option maxRecDepth 100000 in
theorem dL_law_247 : decode cL_law 247 = .ok (.iload 10, 2) := by decide +kernel
set_option maxRecDepth 100000 in
theorem dL_law_249 : decode cL_law 249 = .ok (.bipush 8, 2) := by decide +kernel
set_option maxRecDepth 100000 in
theorem dL_law_251 : decode cL_law 251 = .ok (.idiv, 1) := by decide +kernel
set_option maxRecDepth 100000 in
theorem dL_law_252 : decode cL_law 252 = .ok (.bipush 10, 2) := by decide +kernel
set_option maxRecDepth 100000 in
theorem dL_law_254 : decode cL_law 254 = .ok (.irem, 1) := by decide +kernel
set_option maxRecDepth 100000 in
theorem dL_law_255 : decode cL_law 255 = .ok (.goto 53, 3) := by decide +kernel
set_option maxRecDepth 100000 in
theorem dL_law_258 : decode cL_law 258 = .ok (.aload 6, 2) := by decide +kernel
set_option maxRecDepth 100000 in
theorem dL_law_260 : decode cL_law 260 = .ok (.iload 9, 2) := by decide +kernel
set_option maxRecDepth 100000 in
theorem dL_law_262 : decode cL_law 262 = .ok (.iaload, 1) := by decide +kernel
set_option maxRecDepth 100000 in
theorem dL_law_263 : decode cL_law 263 = .ok (.iconst 2, 1) := by decide +kernel
set_option maxRecDepth 100000 in
theorem dL_law_264 : decode cL_law 264 = .ok (.if_icmp .ne 13, 3) := by decide +kernel
set_option maxRecDepth 100000 in
theorem dL_law_267 : decode cL_law 267 = .ok (.iload 10, 2) := by decide +kernel
set_option maxRecDepth 100000 in
theorem dL_law_269 : decode cL_law 269 = .ok (.bipush 8, 2) := by decide +kernel
set_option maxRecDepth 100000 in
theorem dL_law_271 : decode cL_law 271 = .ok (.idiv, 1) := by decide +kernel
set_option maxRecDepth 100000 in
theorem dL_law_272 : decode cL_law 272 = .ok (.iconst 4, 1) := by decide +kernel
set_option maxRecDepth 100000 in
theorem dL_law_273 : decode cL_law 273 = .ok (.irem, 1) := by decide +kernel
set_option maxRecDepth 100000 in
theorem dL_law_274 : decode cL_law 274 = .ok (.goto 34, 3) := by decide +kernel
set_option maxRecDepth 100000 in
theorem dL_law_277 : decode cL_law 277 = .ok (.aload 6, 2) := by decide +kernel
set_option maxRecDepth 100000 in
theorem dL_law_279 : decode cL_law 279 = .ok (.iload 9, 2) := by decide +kernel
set_option maxRecDepth 100000 in
theorem dL_law_281 : decode cL_law 281 = .ok (.iaload, 1) := by decide +kernel
set_option maxRecDepth 100000 in
theorem dL_law_282 : decode cL_law 282 = .ok (.iconst 3, 1) := by decide +kernel
set_option maxRecDepth 100000 in
theorem dL_law_283 : decode cL_law 283 = .ok (.if_icmp .ne 16, 3) := by decide +kernel
set_option maxRecDepth 100000 in
theorem dL_law_286 : decode cL_law 286 = .ok (.iconst 1, 1) := by decide +kernel
set_option maxRecDepth 100000 in
theorem dL_law_287 : decode cL_law 287 = .ok (.iload 10, 2) := by decide +kernel
set_option maxRecDepth 100000 in
theorem dL_law_289 : decode cL_law 289 = .ok (.bipush 8, 2) := by decide +kernel
set_option maxRecDepth 100000 in
theorem dL_law_291 : decode cL_law 291 = .ok (.idiv, 1) := by decide +kernel
set_option maxRecDepth 100000 in
theorem dL_law_292 : decode cL_law 292 = .ok (.bipush 9, 2) := by decide +kernel
set_option maxRecDepth 100000 in
theorem dL_law_294 : decode cL_law 294 = .ok (.irem, 1) := by decide +kernel
set_option maxRecDepth 100000 in
theorem dL_law_295 : decode cL_law 295 = .ok (.iadd, 1) := by decide +kernel
set_option maxRecDepth 100000 in
theorem dL_law_296 : decode cL_law 296 = .ok (.goto 12, 3) := by decide +kernel
set_option maxRecDepth 100000 in
theorem dL_law_299 : decode cL_law 299 = .ok (.iconst 2, 1) := by decide +kernel
set_option maxRecDepth 100000 in
theorem dL_law_300 : decode cL_law 300 = .ok (.iload 10, 2) := by decide +kernel
set_option maxRecDepth 100000 in
theorem dL_law_302 : decode cL_law 302 = .ok (.bipush 8, 2) := by decide +kernel
set_option maxRecDepth 100000 in
theorem dL_law_304 : decode cL_law 304 = .ok (.idiv, 1) := by decide +kernel
set_option maxRecDepth 100000 in
theorem dL_law_305 : decode cL_law 305 = .ok (.iconst 4, 1) := by decide +kernel
set_option maxRecDepth 100000 in
theorem dL_law_306 : decode cL_law 306 = .ok (.irem, 1) := by decide +kernel
set_option maxRecDepth 100000 in
theorem dL_law_307 : decode cL_law 307 = .ok (.iadd, 1) := by decide +kernel
set_option maxRecDepth 100000 in
theorem dL_law_308 : decode cL_law 308 = .ok (.iastore, 1) := by decide +kernel
set_option maxRecDepth 100000 in
theorem dL_law_309 : decode cL_law 309 = .ok (.aload 8, 2) := by decide +kernel
set_option maxRecDepth 100000 in
theorem dL_law_311 : decode cL_law 311 = .ok (.iload 9, 2) := by decide +kernel
set_option maxRecDepth 100000 in
theorem dL_law_313 : decode cL_law 313 = .ok (.iload 9, 2) := by decide +kernel
set_option maxRecDepth 100000 in
theorem dL_law_315 : decode cL_law 315 = .ok (.ifCond .eq 14, 3) := by decide +kernel
set_option maxRecDepth 100000 in
theorem dL_law_318 : decode cL_law 318 = .ok (.iload 10, 2) := by decide +kernel
set_option maxRecDepth 100000 in
theorem dL_law_320 : decode cL_law 320 = .ok (.sipush 256, 3) := by decide +kernel
set_option maxRecDepth 100000 in
theorem dL_law_323 : decode cL_law 323 = .ok (.idiv, 1) := by decide +kernel
set_option maxRecDepth 100000 in
theorem dL_law_324 : decode cL_law 324 = .ok (.iconst 4, 1) := by decide +kernel
set_option maxRecDepth 100000 in
theorem dL_law_325 : decode cL_law 325 = .ok (.irem, 1) := by decide +kernel
set_option maxRecDepth 100000 in
theorem dL_law_326 : decode cL_law 326 = .ok (.ifCond .ne 7, 3) := by decide +kernel
set_option maxRecDepth 100000 in
theorem dL_law_329 : decode cL_law 329 = .ok (.iconst (-1), 1) := by decide +kernel
set_option maxRecDepth 100000 in
theorem dL_law_330 : decode cL_law 330 = .ok (.goto 12, 3) := by decide +kernel
set_option maxRecDepth 100000 in
theorem dL_law_333 : decode cL_law 333 = .ok (.iload 10, 2) := by decide +kernel
set_option maxRecDepth 100000 in
theorem dL_law_335 : decode cL_law 335 = .ok (.sipush 1024, 3) := by decide +kernel
set_option maxRecDepth 100000 in
theorem dL_law_338 : decode cL_law 338 = .ok (.idiv, 1) := by decide +kernel
set_option maxRecDepth 100000 in
theorem dL_law_339 : decode cL_law 339 = .ok (.iload 9, 2) := by decide +kernel
set_option maxRecDepth 100000 in
theorem dL_law_341 : decode cL_law 341 = .ok (.irem, 1) := by decide +kernel
set_option maxRecDepth 100000 in
theorem dL_law_342 : decode cL_law 342 = .ok (.iastore, 1) := by decide +kernel
set_option maxRecDepth 100000 in
theorem dL_law_343 : decode cL_law 343 = .ok (.aload_n 1, 1) := by decide +kernel
set_option maxRecDepth 100000 in
theorem dL_law_344 : decode cL_law 344 = .ok (.aload 6, 2) := by decide +kernel
set_option maxRecDepth 100000 in
theorem dL_law_346 : decode cL_law 346 = .ok (.iload 9, 2) := by decide +kernel
set_option maxRecDepth 100000 in
theorem dL_law_348 : decode cL_law 348 = .ok (.iaload, 1) := by decide +kernel
set_option maxRecDepth 100000 in
theorem dL_law_349 : decode cL_law 349 = .ok (.aload 7, 2) := by decide +kernel
set_option maxRecDepth 100000 in
theorem dL_law_351 : decode cL_law 351 = .ok (.iload 9, 2) := by decide +kernel
set_option maxRecDepth 100000 in
theorem dL_law_353 : decode cL_law 353 = .ok (.iaload, 1) := by decide +kernel
set_option maxRecDepth 100000 in
theorem dL_law_354 : decode cL_law 354 = .ok (.aload 8, 2) := by decide +kernel
set_option maxRecDepth 100000 in
theorem dL_law_356 : decode cL_law 356 = .ok (.iload 9, 2) := by decide +kernel
set_option maxRecDepth 100000 in
theorem dL_law_358 : decode cL_law 358 = .ok (.iaload, 1) := by decide +kernel
set_option maxRecDepth 100000 in
theorem dL_law_359 : decode cL_law 359 = .ok (.invokevirtual 48, 3) := by decide +kernel
set_option maxRecDepth 100000 in
theorem dL_law_362 : decode cL_law 362 = .ok (.iload 9, 2) := by decide +kernel
set_option maxRecDepth 100000 in
theorem dL_law_364 : decode cL_law 364 = .ok (.if_icmp .eq 5, 3) := by decide +kernel
set_option maxRecDepth 100000 in
theorem dL_law_367 : decode cL_law 367 = .ok (.iconst 0, 1) := by decide +kernel
set_option maxRecDepth 100000 in
theorem dL_law_368 : decode cL_law 368 = .ok (.ireturn, 1) := by decide +kernel
set_option maxRecDepth 100000 in
theorem dL_law_369 : decode cL_law 369 = .ok (.iconst 0, 1) := by decide +kernel
set_option maxRecDepth 100000 in
theorem dL_law_370 : decode cL_law 370 = .ok (.istore 11, 2) := by decide +kernel
set_option maxRecDepth 100000 in
theorem dL_law_372 : decode cL_law 372 = .ok (.iload 11, 2) := by decide +kernel
set_option maxRecDepth 100000 in
theorem dL_law_374 : decode cL_law 374 = .ok (.iconst 5, 1) := by decide +kernel
set_option maxRecDepth 100000 in
theorem dL_law_375 : decode cL_law 375 = .ok (.if_icmp .ge 58, 3) := by decide +kernel
set_option maxRecDepth 100000 in
theorem dL_law_378 : decode cL_law 378 = .ok (.aload_n 1, 1) := by decide +kernel
set_option maxRecDepth 100000 in
theorem dL_law_379 : decode cL_law 379 = .ok (.iload 9, 2) := by decide +kernel
set_option maxRecDepth 100000 in
theorem dL_law_381 : decode cL_law 381 = .ok (.iload 11, 2) := by decide +kernel
set_option maxRecDepth 100000 in
theorem dL_law_383 : decode cL_law 383 = .ok (.invokevirtual 51, 3) := by decide +kernel
set_option maxRecDepth 100000 in
theorem dL_law_386 : decode cL_law 386 = .ok (.iload 11, 2) := by decide +kernel
set_option maxRecDepth 100000 in
theorem dL_law_388 : decode cL_law 388 = .ok (.ifCond .eq 28, 3) := by decide +kernel
set_option maxRecDepth 100000 in
theorem dL_law_391 : decode cL_law 391 = .ok (.iload 11, 2) := by decide +kernel
set_option maxRecDepth 100000 in
theorem dL_law_393 : decode cL_law 393 = .ok (.aload 6, 2) := by decide +kernel
set_option maxRecDepth 100000 in
theorem dL_law_395 : decode cL_law 395 = .ok (.iload 9, 2) := by decide +kernel
set_option maxRecDepth 100000 in
theorem dL_law_397 : decode cL_law 397 = .ok (.iaload, 1) := by decide +kernel
set_option maxRecDepth 100000 in
theorem dL_law_398 : decode cL_law 398 = .ok (.if_icmp .eq 18, 3) := by decide +kernel
set_option maxRecDepth 100000 in
theorem dL_law_401 : decode cL_law 401 = .ok (.iload 11, 2) := by decide +kernel
set_option maxRecDepth 100000 in
theorem dL_law_403 : decode cL_law 403 = .ok (.iconst 3, 1) := by decide +kernel
set_option maxRecDepth 100000 in
theorem dL_law_404 : decode cL_law 404 = .ok (.if_icmp .ne 17, 3) := by decide +kernel
set_option maxRecDepth 100000 in
theorem dL_law_407 : decode cL_law 407 = .ok (.aload 6, 2) := by decide +kernel
set_option maxRecDepth 100000 in
theorem dL_law_409 : decode cL_law 409 = .ok (.iload 9, 2) := by decide +kernel
set_option maxRecDepth 100000 in
theorem dL_law_411 : decode cL_law 411 = .ok (.iaload, 1) := by decide +kernel
set_option maxRecDepth 100000 in
theorem dL_law_412 : decode cL_law 412 = .ok (.iconst 4, 1) := by decide +kernel
set_option maxRecDepth 100000 in
theorem dL_law_413 : decode cL_law 413 = .ok (.if_icmp .ne 8, 3) := by decide +kernel
set_option maxRecDepth 100000 in
theorem dL_law_416 : decode cL_law 416 = .ok (.iload 9, 2) := by decide +kernel
set_option maxRecDepth 100000 in
theorem dL_law_418 : decode cL_law 418 = .ok (.goto 4, 3) := by decide +kernel
set_option maxRecDepth 100000 in
theorem dL_law_421 : decode cL_law 421 = .ok (.iconst (-1), 1) := by decide +kernel
set_option maxRecDepth 100000 in
theorem dL_law_422 : decode cL_law 422 = .ok (.if_icmp .eq 5, 3) := by decide +kernel
set_option maxRecDepth 100000 in
theorem dL_law_425 : decode cL_law 425 = .ok (.iconst 0, 1) := by decide +kernel
set_option maxRecDepth 100000 in
theorem dL_law_426 : decode cL_law 426 = .ok (.ireturn, 1) := by decide +kernel
set_option maxRecDepth 100000 in
theorem dL_law_427 : decode cL_law 427 = .ok (.iinc 11 1, 3) := by decide +kernel
set_option maxRecDepth 100000 in
theorem dL_law_430 : decode cL_law 430 = .ok (.goto (-58), 3) := by decide +kernel
set_option maxRecDepth 100000 in
theorem dL_law_433 : decode cL_law 433 = .ok (.iinc 9 1, 3) := by decide +kernel
set_option maxRecDepth 100000 in
theorem dL_law_436 : decode cL_law 436 = .ok (.goto (-241), 3) := by decide +kernel
set_option maxRecDepth 100000 in
theorem dL_law_439 : decode cL_law 439 = .ok (.aload_n 1, 1) := by decide +kernel
set_option maxRecDepth 100000 in
theorem dL_law_440 : decode cL_law 440 = .ok (.iload 5, 2) := by decide +kernel
set_option maxRecDepth 100000 in
theorem dL_law_442 : decode cL_law 442 = .ok (.iconst 1, 1) := by decide +kernel
set_option maxRecDepth 100000 in
theorem dL_law_443 : decode cL_law 443 = .ok (.isub, 1) := by decide +kernel
set_option maxRecDepth 100000 in
theorem dL_law_444 : decode cL_law 444 = .ok (.invokevirtual 55, 3) := by decide +kernel
set_option maxRecDepth 100000 in
theorem dL_law_447 : decode cL_law 447 = .ok (.iconst (-1), 1) := by decide +kernel
set_option maxRecDepth 100000 in
theorem dL_law_448 : decode cL_law 448 = .ok (.if_icmp .ne 18, 3) := by decide +kernel
set_option maxRecDepth 100000 in
theorem dL_law_451 : decode cL_law 451 = .ok (.aload_n 1, 1) := by decide +kernel
set_option maxRecDepth 100000 in
theorem dL_law_452 : decode cL_law 452 = .ok (.iload 5, 2) := by decide +kernel
set_option maxRecDepth 100000 in
theorem dL_law_454 : decode cL_law 454 = .ok (.iconst 1, 1) := by decide +kernel
set_option maxRecDepth 100000 in
theorem dL_law_455 : decode cL_law 455 = .ok (.isub, 1) := by decide +kernel
set_option maxRecDepth 100000 in
theorem dL_law_456 : decode cL_law 456 = .ok (.invokevirtual 55, 3) := by decide +kernel
set_option maxRecDepth 100000 in
theorem dL_law_459 : decode cL_law 459 = .ok (.iload 5, 2) := by decide +kernel
set_option maxRecDepth 100000 in
theorem dL_law_461 : decode cL_law 461 = .ok (.iconst 1, 1) := by decide +kernel
set_option maxRecDepth 100000 in
theorem dL_law_462 : decode cL_law 462 = .ok (.isub, 1) := by decide +kernel
set_option maxRecDepth 100000 in
theorem dL_law_463 : decode cL_law 463 = .ok (.if_icmp .eq 5, 3) := by decide +kernel
set_option maxRecDepth 100000 in
theorem dL_law_466 : decode cL_law 466 = .ok (.iconst 0, 1) := by decide +kernel
set_option maxRecDepth 100000 in
theorem dL_law_467 : decode cL_law 467 = .ok (.ireturn, 1) := by decide +kernel
set_option maxRecDepth 100000 in
theorem dL_law_468 : decode cL_law 468 = .ok (.iconst 1, 1) := by decide +kernel
set_option maxRecDepth 100000 in
theorem dL_law_469 : decode cL_law 469 = .ok (.aload_n 0, 1) := by decide +kernel
set_option maxRecDepth 100000 in
theorem dL_law_470 : decode cL_law 470 = .ok (.bipush 14, 2) := by decide +kernel
set_option maxRecDepth 100000 in
theorem dL_law_472 : decode cL_law 472 = .ok (.invokestatic 37, 3) := by decide +kernel
set_option maxRecDepth 100000 in
theorem dL_law_475 : decode cL_law 475 = .ok (.iconst 4, 1) := by decide +kernel
set_option maxRecDepth 100000 in
theorem dL_law_476 : decode cL_law 476 = .ok (.irem, 1) := by decide +kernel
set_option maxRecDepth 100000 in
theorem dL_law_477 : decode cL_law 477 = .ok (.iadd, 1) := by decide +kernel
set_option maxRecDepth 100000 in
theorem dL_law_478 : decode cL_law 478 = .ok (.istore 9, 2) := by decide +kernel
set_option maxRecDepth 100000 in
theorem dL_law_480 : decode cL_law 480 = .ok (.bipush 22, 2) := by decide +kernel
set_option maxRecDepth 100000 in
theorem dL_law_482 : decode cL_law 482 = .ok (.newarray .int, 2) := by decide +kernel
set_option maxRecDepth 100000 in
theorem dL_law_484 : decode cL_law 484 = .ok (.astore 10, 2) := by decide +kernel
set_option maxRecDepth 100000 in
theorem dL_law_486 : decode cL_law 486 = .ok (.iconst (-1), 1) := by decide +kernel
set_option maxRecDepth 100000 in
theorem dL_law_487 : decode cL_law 487 = .ok (.istore 11, 2) := by decide +kernel
set_option maxRecDepth 100000 in
theorem dL_law_489 : decode cL_law 489 = .ok (.iload 11, 2) := by decide +kernel
set_option maxRecDepth 100000 in
theorem dL_law_491 : decode cL_law 491 = .ok (.iload 9, 2) := by decide +kernel
set_option maxRecDepth 100000 in
theorem dL_law_493 : decode cL_law 493 = .ok (.if_icmp .ge 1016, 3) := by decide +kernel
set_option maxRecDepth 100000 in
theorem dL_law_496 : decode cL_law 496 = .ok (.iload 11, 2) := by decide +kernel
set_option maxRecDepth 100000 in
theorem dL_law_498 : decode cL_law 498 = .ok (.ifCond .ge 7, 3) := by decide +kernel
set_option maxRecDepth 100000 in
theorem dL_law_501 : decode cL_law 501 = .ok (.iconst 0, 1) := by decide +kernel
set_option maxRecDepth 100000 in
theorem dL_law_502 : decode cL_law 502 = .ok (.goto 12, 3) := by decide +kernel
set_option maxRecDepth 100000 in
theorem dL_law_505 : decode cL_law 505 = .ok (.aload_n 0, 1) := by decide +kernel
set_option maxRecDepth 100000 in
theorem dL_law_506 : decode cL_law 506 = .ok (.bipush 15, 2) := by decide +kernel
set_option maxRecDepth 100000 in
theorem dL_law_508 : decode cL_law 508 = .ok (.iload 11, 2) := by decide +kernel
set_option maxRecDepth 100000 in
theorem dL_law_510 : decode cL_law 510 = .ok (.iadd, 1) := by decide +kernel
set_option maxRecDepth 100000 in
theorem dL_law_511 : decode cL_law 511 = .ok (.invokestatic 37, 3) := by decide +kernel
set_option maxRecDepth 100000 in
theorem dL_law_514 : decode cL_law 514 = .ok (.istore 12, 2) := by decide +kernel
set_option maxRecDepth 100000 in
theorem dL_law_516 : decode cL_law 516 = .ok (.iload 11, 2) := by decide +kernel
set_option maxRecDepth 100000 in
theorem dL_law_518 : decode cL_law 518 = .ok (.ifCond .ge 7, 3) := by decide +kernel
set_option maxRecDepth 100000 in
theorem dL_law_521 : decode cL_law 521 = .ok (.iconst 0, 1) := by decide +kernel
set_option maxRecDepth 100000 in
theorem dL_law_522 : decode cL_law 522 = .ok (.goto 7, 3) := by decide +kernel
set_option maxRecDepth 100000 in
theorem dL_law_525 : decode cL_law 525 = .ok (.iload 12, 2) := by decide +kernel
set_option maxRecDepth 100000 in
theorem dL_law_527 : decode cL_law 527 = .ok (.iconst 5, 1) := by decide +kernel
set_option maxRecDepth 100000 in
theorem dL_law_528 : decode cL_law 528 = .ok (.irem, 1) := by decide +kernel
set_option maxRecDepth 100000 in
theorem dL_law_529 : decode cL_law 529 = .ok (.istore 13, 2) := by decide +kernel
set_option maxRecDepth 100000 in
theorem dL_law_531 : decode cL_law 531 = .ok (.iload 12, 2) := by decide +kernel
set_option maxRecDepth 100000 in
theorem dL_law_533 : decode cL_law 533 = .ok (.bipush 8, 2) := by decide +kernel
set_option maxRecDepth 100000 in
theorem dL_law_535 : decode cL_law 535 = .ok (.idiv, 1) := by decide +kernel
set_option maxRecDepth 100000 in
theorem dL_law_536 : decode cL_law 536 = .ok (.iconst 3, 1) := by decide +kernel
set_option maxRecDepth 100000 in
theorem dL_law_537 : decode cL_law 537 = .ok (.irem, 1) := by decide +kernel
set_option maxRecDepth 100000 in
theorem dL_law_538 : decode cL_law 538 = .ok (.istore 14, 2) := by decide +kernel
set_option maxRecDepth 100000 in
theorem dL_law_540 : decode cL_law 540 = .ok (.iconst 1, 1) := by decide +kernel
set_option maxRecDepth 100000 in
theorem dL_law_541 : decode cL_law 541 = .ok (.iload 12, 2) := by decide +kernel
set_option maxRecDepth 100000 in
theorem dL_law_543 : decode cL_law 543 = .ok (.bipush 32, 2) := by decide +kernel
set_option maxRecDepth 100000 in
theorem dL_law_545 : decode cL_law 545 = .ok (.idiv, 1) := by decide +kernel
set_option maxRecDepth 100000 in
theorem dL_law_546 : decode cL_law 546 = .ok (.bipush 20, 2) := by decide +kernel
set_option maxRecDepth 100000 in
theorem dL_law_548 : decode cL_law 548 = .ok (.irem, 1) := by decide +kernel
set_option maxRecDepth 100000 in
theorem dL_law_549 : decode cL_law 549 = .ok (.iadd, 1) := by decide +kernel
set_option maxRecDepth 100000 in
theorem dL_law_550 : decode cL_law 550 = .ok (.istore 15, 2) := by decide +kernel
set_option maxRecDepth 100000 in
theorem dL_law_552 : decode cL_law 552 = .ok (.iload 12, 2) := by decide +kernel
set_option maxRecDepth 100000 in
theorem dL_law_554 : decode cL_law 554 = .ok (.sipush 1024, 3) := by decide +kernel
set_option maxRecDepth 100000 in
theorem dL_law_557 : decode cL_law 557 = .ok (.idiv, 1) := by decide +kernel
set_option maxRecDepth 100000 in
theorem dL_law_558 : decode cL_law 558 = .ok (.bipush 96, 2) := by decide +kernel
set_option maxRecDepth 100000 in
theorem dL_law_560 : decode cL_law 560 = .ok (.irem, 1) := by decide +kernel
set_option maxRecDepth 100000 in
theorem dL_law_561 : decode cL_law 561 = .ok (.istore 16, 2) := by decide +kernel
set_option maxRecDepth 100000 in
theorem dL_law_563 : decode cL_law 563 = .ok (.iload 11, 2) := by decide +kernel
set_option maxRecDepth 100000 in
theorem dL_law_565 : decode cL_law 565 = .ok (.ifCond .lt 22, 3) := by decide +kernel
set_option maxRecDepth 100000 in
theorem dL_law_568 : decode cL_law 568 = .ok (.aload_n 1, 1) := by decide +kernel
set_option maxRecDepth 100000 in
theorem dL_law_569 : decode cL_law 569 = .ok (.iload 13, 2) := by decide +kernel
set_option maxRecDepth 100000 in
theorem dL_law_571 : decode cL_law 571 = .ok (.iload 14, 2) := by decide +kernel
set_option maxRecDepth 100000 in
theorem dL_law_573 : decode cL_law 573 = .ok (.iload 15, 2) := by decide +kernel
set_option maxRecDepth 100000 in
theorem dL_law_575 : decode cL_law 575 = .ok (.iload 16, 2) := by decide +kernel
set_option maxRecDepth 100000 in
theorem dL_law_577 : decode cL_law 577 = .ok (.invokevirtual 58, 3) := by decide +kernel
set_option maxRecDepth 100000 in
theorem dL_law_580 : decode cL_law 580 = .ok (.iload 11, 2) := by decide +kernel
set_option maxRecDepth 100000 in
theorem dL_law_582 : decode cL_law 582 = .ok (.if_icmp .eq 5, 3) := by decide +kernel
set_option maxRecDepth 100000 in
theorem dL_law_585 : decode cL_law 585 = .ok (.iconst 0, 1) := by decide +kernel
set_option maxRecDepth 100000 in
theorem dL_law_586 : decode cL_law 586 = .ok (.ireturn, 1) := by decide +kernel
set_option maxRecDepth 100000 in
theorem dL_law_587 : decode cL_law 587 = .ok (.iconst 0, 1) := by decide +kernel
set_option maxRecDepth 100000 in
theorem dL_law_588 : decode cL_law 588 = .ok (.istore 17, 2) := by decide +kernel
set_option maxRecDepth 100000 in
theorem dL_law_590 : decode cL_law 590 = .ok (.iload 17, 2) := by decide +kernel
set_option maxRecDepth 100000 in
theorem dL_law_592 : decode cL_law 592 = .ok (.iconst 5, 1) := by decide +kernel
set_option maxRecDepth 100000 in
theorem dL_law_593 : decode cL_law 593 = .ok (.if_icmp .ge 57, 3) := by decide +kernel
set_option maxRecDepth 100000 in
theorem dL_law_596 : decode cL_law 596 = .ok (.iload 11, 2) := by decide +kernel
set_option maxRecDepth 100000 in
theorem dL_law_598 : decode cL_law 598 = .ok (.ifCond .lt 52, 3) := by decide +kernel
set_option maxRecDepth 100000 in
theorem dL_law_601 : decode cL_law 601 = .ok (.aload_n 1, 1) := by decide +kernel
set_option maxRecDepth 100000 in
theorem dL_law_602 : decode cL_law 602 = .ok (.iload 11, 2) := by decide +kernel
set_option maxRecDepth 100000 in
theorem dL_law_604 : decode cL_law 604 = .ok (.iload 17, 2) := by decide +kernel
set_option maxRecDepth 100000 in
theorem dL_law_606 : decode cL_law 606 = .ok (.invokevirtual 62, 3) := by decide +kernel
set_option maxRecDepth 100000 in
theorem dL_law_609 : decode cL_law 609 = .ok (.iload 17, 2) := by decide +kernel
set_option maxRecDepth 100000 in
theorem dL_law_611 : decode cL_law 611 = .ok (.ifCond .eq 22, 3) := by decide +kernel
set_option maxRecDepth 100000 in
theorem dL_law_614 : decode cL_law 614 = .ok (.iload 17, 2) := by decide +kernel
set_option maxRecDepth 100000 in
theorem dL_law_616 : decode cL_law 616 = .ok (.iload 13, 2) := by decide +kernel
set_option maxRecDepth 100000 in
theorem dL_law_618 : decode cL_law 618 = .ok (.if_icmp .eq 15, 3) := by decide +kernel
set_option maxRecDepth 100000 in
theorem dL_law_621 : decode cL_law 621 = .ok (.iload 17, 2) := by decide +kernel
set_option maxRecDepth 100000 in
theorem dL_law_623 : decode cL_law 623 = .ok (.iconst 1, 1) := by decide +kernel
set_option maxRecDepth 100000 in
theorem dL_law_624 : decode cL_law 624 = .ok (.if_icmp .ne 14, 3) := by decide +kernel
set_option maxRecDepth 100000 in
theorem dL_law_627 : decode cL_law 627 = .ok (.iload 13, 2) := by decide +kernel
set_option maxRecDepth 100000 in
theorem dL_law_629 : decode cL_law 629 = .ok (.iconst 2, 1) := by decide +kernel
set_option maxRecDepth 100000 in
theorem dL_law_630 : decode cL_law 630 = .ok (.if_icmp .ne 8, 3) := by decide +kernel
set_option maxRecDepth 100000 in
theorem dL_law_633 : decode cL_law 633 = .ok (.iload 11, 2) := by decide +kernel
set_option maxRecDepth 100000 in
theorem dL_law_635 : decode cL_law 635 = .ok (.goto 4, 3) := by decide +kernel
set_option maxRecDepth 100000 in
theorem dL_law_638 : decode cL_law 638 = .ok (.iconst (-1), 1) := by decide +kernel
set_option maxRecDepth 100000 in
theorem dL_law_639 : decode cL_law 639 = .ok (.if_icmp .eq 5, 3) := by decide +kernel
set_option maxRecDepth 100000 in
theorem dL_law_642 : decode cL_law 642 = .ok (.iconst 0, 1) := by decide +kernel
set_option maxRecDepth 100000 in
theorem dL_law_643 : decode cL_law 643 = .ok (.ireturn, 1) := by decide +kernel
set_option maxRecDepth 100000 in
theorem dL_law_644 : decode cL_law 644 = .ok (.iinc 17 1, 3) := by decide +kernel
set_option maxRecDepth 100000 in
theorem dL_law_647 : decode cL_law 647 = .ok (.goto (-57), 3) := by decide +kernel
set_option maxRecDepth 100000 in
theorem dL_law_650 : decode cL_law 650 = .ok (.aload_n 0, 1) := by decide +kernel
set_option maxRecDepth 100000 in
theorem dL_law_651 : decode cL_law 651 = .ok (.bipush 20, 2) := by decide +kernel
set_option maxRecDepth 100000 in
theorem dL_law_653 : decode cL_law 653 = .ok (.iload 11, 2) := by decide +kernel
set_option maxRecDepth 100000 in
theorem dL_law_655 : decode cL_law 655 = .ok (.iadd, 1) := by decide +kernel
set_option maxRecDepth 100000 in
theorem dL_law_656 : decode cL_law 656 = .ok (.invokestatic 37, 3) := by decide +kernel
set_option maxRecDepth 100000 in
theorem dL_law_659 : decode cL_law 659 = .ok (.iconst 4, 1) := by decide +kernel
set_option maxRecDepth 100000 in
theorem dL_law_660 : decode cL_law 660 = .ok (.irem, 1) := by decide +kernel
set_option maxRecDepth 100000 in
theorem dL_law_661 : decode cL_law 661 = .ok (.istore 17, 2) := by decide +kernel
set_option maxRecDepth 100000 in
theorem dL_law_663 : decode cL_law 663 = .ok (.iconst 0, 1) := by decide +kernel
set_option maxRecDepth 100000 in
theorem dL_law_664 : decode cL_law 664 = .ok (.istore 18, 2) := by decide +kernel
set_option maxRecDepth 100000 in
theorem dL_law_666 : decode cL_law 666 = .ok (.iload 18, 2) := by decide +kernel
set_option maxRecDepth 100000 in
theorem dL_law_668 : decode cL_law 668 = .ok (.iconst 4, 1) := by decide +kernel
set_option maxRecDepth 100000 in
theorem dL_law_669 : decode cL_law 669 = .ok (.if_icmp .ge 85, 3) := by decide +kernel
set_option maxRecDepth 100000 in
theorem dL_law_672 : decode cL_law 672 = .ok (.aload_n 0, 1) := by decide +kernel
set_option maxRecDepth 100000 in
theorem dL_law_673 : decode cL_law 673 = .ok (.bipush 25, 2) := by decide +kernel
set_option maxRecDepth 100000 in
theorem dL_law_675 : decode cL_law 675 = .ok (.iload 18, 2) := by decide +kernel
set_option maxRecDepth 100000 in
theorem dL_law_677 : decode cL_law 677 = .ok (.iadd, 1) := by decide +kernel
set_option maxRecDepth 100000 in
theorem dL_law_678 : decode cL_law 678 = .ok (.invokestatic 37, 3) := by decide +kernel
set_option maxRecDepth 100000 in
theorem dL_law_681 : decode cL_law 681 = .ok (.bipush 96, 2) := by decide +kernel
set_option maxRecDepth 100000 in
theorem dL_law_683 : decode cL_law 683 = .ok (.irem, 1) := by decide +kernel
set_option maxRecDepth 100000 in
theorem dL_law_684 : decode cL_law 684 = .ok (.istore 19, 2) := by decide +kernel
set_option maxRecDepth 100000 in
theorem dL_law_686 : decode cL_law 686 = .ok (.aload_n 2, 1) := by decide +kernel
set_option maxRecDepth 100000 in
theorem dL_law_687 : decode cL_law 687 = .ok (.aload_n 3, 1) := by decide +kernel
set_option maxRecDepth 100000 in
theorem dL_law_688 : decode cL_law 688 = .ok (.iload 17, 2) := by decide +kernel
set_option maxRecDepth 100000 in
theorem dL_law_690 : decode cL_law 690 = .ok (.iaload, 1) := by decide +kernel
set_option maxRecDepth 100000 in
theorem dL_law_691 : decode cL_law 691 = .ok (.iload 13, 2) := by decide +kernel
set_option maxRecDepth 100000 in
theorem dL_law_693 : decode cL_law 693 = .ok (.iload 14, 2) := by decide +kernel
set_option maxRecDepth 100000 in
theorem dL_law_695 : decode cL_law 695 = .ok (.iload 15, 2) := by decide +kernel
set_option maxRecDepth 100000 in
theorem dL_law_697 : decode cL_law 697 = .ok (.iload 16, 2) := by decide +kernel
set_option maxRecDepth 100000 in
theorem dL_law_699 : decode cL_law 699 = .ok (.iload 19, 2) := by decide +kernel
set_option maxRecDepth 100000 in
theorem dL_law_701 : decode cL_law 701 = .ok (.aload 10, 2) := by decide +kernel
set_option maxRecDepth 100000 in
theorem dL_law_703 : decode cL_law 703 = .ok (.invokestatic 65, 3) := by decide +kernel
set_option maxRecDepth 100000 in
theorem dL_law_706 : decode cL_law 706 = .ok (.iconst 0, 1) := by decide +kernel
set_option maxRecDepth 100000 in
theorem dL_law_707 : decode cL_law 707 = .ok (.istore 20, 2) := by decide +kernel
set_option maxRecDepth 100000 in
theorem dL_law_709 : decode cL_law 709 = .ok (.iload 20, 2) := by decide +kernel
set_option maxRecDepth 100000 in
theorem dL_law_711 : decode cL_law 711 = .ok (.bipush 8, 2) := by decide +kernel
set_option maxRecDepth 100000 in
theorem dL_law_713 : decode cL_law 713 = .ok (.if_icmp .ge 35, 3) := by decide +kernel
set_option maxRecDepth 100000 in
theorem dL_law_716 : decode cL_law 716 = .ok (.aload_n 1, 1) := by decide +kernel
set_option maxRecDepth 100000 in
theorem dL_law_717 : decode cL_law 717 = .ok (.iconst 0, 1) := by decide +kernel
