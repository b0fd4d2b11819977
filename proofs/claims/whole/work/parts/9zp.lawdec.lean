/-! Decode rows of the law. Printed by wip/whole/h_lawdec.py. -/
theorem d_L_law_0 : decode (mCd M_L_law) 0 = .ok (.new 8, 3) := by decide +kernel
theorem d_L_law_3 : decode (mCd M_L_law) 3 = .ok (.dup, 1) := by decide +kernel
theorem d_L_law_4 : decode (mCd M_L_law) 4 = .ok (.invokespecial 22, 3) := by decide +kernel
theorem d_L_law_7 : decode (mCd M_L_law) 7 = .ok (.astore_n 1, 1) := by decide +kernel
theorem d_L_law_8 : decode (mCd M_L_law) 8 = .ok (.new 23, 3) := by decide +kernel
theorem d_L_law_11 : decode (mCd M_L_law) 11 = .ok (.dup, 1) := by decide +kernel
theorem d_L_law_12 : decode (mCd M_L_law) 12 = .ok (.invokespecial 25, 3) := by decide +kernel
theorem d_L_law_15 : decode (mCd M_L_law) 15 = .ok (.astore_n 2, 1) := by decide +kernel
theorem d_L_law_16 : decode (mCd M_L_law) 16 = .ok (.iconst 1, 1) := by decide +kernel
theorem d_L_law_17 : decode (mCd M_L_law) 17 = .ok (.newarray .long, 2) := by decide +kernel
theorem d_L_law_19 : decode (mCd M_L_law) 19 = .ok (.astore_n 3, 1) := by decide +kernel
theorem d_L_law_20 : decode (mCd M_L_law) 20 = .ok (.iconst 0, 1) := by decide +kernel
theorem d_L_law_21 : decode (mCd M_L_law) 21 = .ok (.istore 4, 2) := by decide +kernel
theorem d_L_law_23 : decode (mCd M_L_law) 23 = .ok (.iload 4, 2) := by decide +kernel
theorem d_L_law_25 : decode (mCd M_L_law) 25 = .ok (.aload_n 0, 1) := by decide +kernel
theorem d_L_law_26 : decode (mCd M_L_law) 26 = .ok (.arraylength, 1) := by decide +kernel
theorem d_L_law_27 : decode (mCd M_L_law) 27 = .ok (.iconst 5, 1) := by decide +kernel
theorem d_L_law_28 : decode (mCd M_L_law) 28 = .ok (.isub, 1) := by decide +kernel
theorem d_L_law_29 : decode (mCd M_L_law) 29 = .ok (.if_icmp .gt 1449, 3) := by decide +kernel
theorem d_L_law_32 : decode (mCd M_L_law) 32 = .ok (.aload_n 0, 1) := by decide +kernel
theorem d_L_law_33 : decode (mCd M_L_law) 33 = .ok (.iload 4, 2) := by decide +kernel
theorem d_L_law_35 : decode (mCd M_L_law) 35 = .ok (.iaload, 1) := by decide +kernel
theorem d_L_law_36 : decode (mCd M_L_law) 36 = .ok (.bipush 63, 2) := by decide +kernel
theorem d_L_law_38 : decode (mCd M_L_law) 38 = .ok (.iand, 1) := by decide +kernel
theorem d_L_law_39 : decode (mCd M_L_law) 39 = .ok (.tableswitch 1433 0 46 #[201, 226, 251, 264, 277, 290, 303, 316, 384, 452, 513, 538, 587, 612, 637, 662, 675, 688, 701, 726, 751, 764, 790, 839, 876, 901, 914, 927, 952, 965, 978, 991, 1016, 1065, 1078, 1091, 1104, 1141, 1154, 1191, 1228, 1241, 1266, 1303, 1328, 1353, 1378], 201) := by decide +kernel
theorem d_L_law_240 : decode (mCd M_L_law) 240 = .ok (.aload_n 1, 1) := by decide +kernel
theorem d_L_law_241 : decode (mCd M_L_law) 241 = .ok (.aload_n 0, 1) := by decide +kernel
theorem d_L_law_242 : decode (mCd M_L_law) 242 = .ok (.iload 4, 2) := by decide +kernel
theorem d_L_law_244 : decode (mCd M_L_law) 244 = .ok (.iconst 1, 1) := by decide +kernel
theorem d_L_law_245 : decode (mCd M_L_law) 245 = .ok (.iadd, 1) := by decide +kernel
theorem d_L_law_246 : decode (mCd M_L_law) 246 = .ok (.iaload, 1) := by decide +kernel
theorem d_L_law_247 : decode (mCd M_L_law) 247 = .ok (.invokevirtual 26, 3) := by decide +kernel
theorem d_L_law_250 : decode (mCd M_L_law) 250 = .ok (.aload_n 2, 1) := by decide +kernel
theorem d_L_law_251 : decode (mCd M_L_law) 251 = .ok (.aload_n 0, 1) := by decide +kernel
theorem d_L_law_252 : decode (mCd M_L_law) 252 = .ok (.iload 4, 2) := by decide +kernel
theorem d_L_law_254 : decode (mCd M_L_law) 254 = .ok (.iconst 1, 1) := by decide +kernel
theorem d_L_law_255 : decode (mCd M_L_law) 255 = .ok (.iadd, 1) := by decide +kernel
theorem d_L_law_256 : decode (mCd M_L_law) 256 = .ok (.iaload, 1) := by decide +kernel
theorem d_L_law_257 : decode (mCd M_L_law) 257 = .ok (.invokevirtual 30, 3) := by decide +kernel
theorem d_L_law_260 : decode (mCd M_L_law) 260 = .ok (.if_icmp .eq 1212, 3) := by decide +kernel
theorem d_L_law_263 : decode (mCd M_L_law) 263 = .ok (.iconst 0, 1) := by decide +kernel
theorem d_L_law_264 : decode (mCd M_L_law) 264 = .ok (.ireturn, 1) := by decide +kernel
theorem d_L_law_265 : decode (mCd M_L_law) 265 = .ok (.aload_n 1, 1) := by decide +kernel
theorem d_L_law_266 : decode (mCd M_L_law) 266 = .ok (.aload_n 0, 1) := by decide +kernel
theorem d_L_law_267 : decode (mCd M_L_law) 267 = .ok (.iload 4, 2) := by decide +kernel
theorem d_L_law_269 : decode (mCd M_L_law) 269 = .ok (.iconst 1, 1) := by decide +kernel
theorem d_L_law_270 : decode (mCd M_L_law) 270 = .ok (.iadd, 1) := by decide +kernel
theorem d_L_law_271 : decode (mCd M_L_law) 271 = .ok (.iaload, 1) := by decide +kernel
theorem d_L_law_272 : decode (mCd M_L_law) 272 = .ok (.invokevirtual 31, 3) := by decide +kernel
theorem d_L_law_275 : decode (mCd M_L_law) 275 = .ok (.aload_n 2, 1) := by decide +kernel
theorem d_L_law_276 : decode (mCd M_L_law) 276 = .ok (.aload_n 0, 1) := by decide +kernel
theorem d_L_law_277 : decode (mCd M_L_law) 277 = .ok (.iload 4, 2) := by decide +kernel
theorem d_L_law_279 : decode (mCd M_L_law) 279 = .ok (.iconst 1, 1) := by decide +kernel
theorem d_L_law_280 : decode (mCd M_L_law) 280 = .ok (.iadd, 1) := by decide +kernel
theorem d_L_law_281 : decode (mCd M_L_law) 281 = .ok (.iaload, 1) := by decide +kernel
theorem d_L_law_282 : decode (mCd M_L_law) 282 = .ok (.invokevirtual 35, 3) := by decide +kernel
theorem d_L_law_285 : decode (mCd M_L_law) 285 = .ok (.if_icmp .eq 1187, 3) := by decide +kernel
theorem d_L_law_288 : decode (mCd M_L_law) 288 = .ok (.iconst 0, 1) := by decide +kernel
theorem d_L_law_289 : decode (mCd M_L_law) 289 = .ok (.ireturn, 1) := by decide +kernel
theorem d_L_law_290 : decode (mCd M_L_law) 290 = .ok (.aload_n 1, 1) := by decide +kernel
theorem d_L_law_291 : decode (mCd M_L_law) 291 = .ok (.invokevirtual 36, 3) := by decide +kernel
theorem d_L_law_294 : decode (mCd M_L_law) 294 = .ok (.aload_n 2, 1) := by decide +kernel
theorem d_L_law_295 : decode (mCd M_L_law) 295 = .ok (.invokevirtual 40, 3) := by decide +kernel
theorem d_L_law_298 : decode (mCd M_L_law) 298 = .ok (.if_icmp .eq 1174, 3) := by decide +kernel
theorem d_L_law_301 : decode (mCd M_L_law) 301 = .ok (.iconst 0, 1) := by decide +kernel
theorem d_L_law_302 : decode (mCd M_L_law) 302 = .ok (.ireturn, 1) := by decide +kernel
theorem d_L_law_303 : decode (mCd M_L_law) 303 = .ok (.aload_n 1, 1) := by decide +kernel
theorem d_L_law_304 : decode (mCd M_L_law) 304 = .ok (.invokevirtual 41, 3) := by decide +kernel
theorem d_L_law_307 : decode (mCd M_L_law) 307 = .ok (.aload_n 2, 1) := by decide +kernel
theorem d_L_law_308 : decode (mCd M_L_law) 308 = .ok (.invokevirtual 44, 3) := by decide +kernel
theorem d_L_law_311 : decode (mCd M_L_law) 311 = .ok (.if_icmp .eq 1161, 3) := by decide +kernel
theorem d_L_law_314 : decode (mCd M_L_law) 314 = .ok (.iconst 0, 1) := by decide +kernel
theorem d_L_law_315 : decode (mCd M_L_law) 315 = .ok (.ireturn, 1) := by decide +kernel
theorem d_L_law_316 : decode (mCd M_L_law) 316 = .ok (.aload_n 1, 1) := by decide +kernel
theorem d_L_law_317 : decode (mCd M_L_law) 317 = .ok (.invokevirtual 45, 3) := by decide +kernel
theorem d_L_law_320 : decode (mCd M_L_law) 320 = .ok (.aload_n 2, 1) := by decide +kernel
theorem d_L_law_321 : decode (mCd M_L_law) 321 = .ok (.invokevirtual 48, 3) := by decide +kernel
theorem d_L_law_324 : decode (mCd M_L_law) 324 = .ok (.if_icmp .eq 1148, 3) := by decide +kernel
theorem d_L_law_327 : decode (mCd M_L_law) 327 = .ok (.iconst 0, 1) := by decide +kernel
theorem d_L_law_328 : decode (mCd M_L_law) 328 = .ok (.ireturn, 1) := by decide +kernel
theorem d_L_law_329 : decode (mCd M_L_law) 329 = .ok (.aload_n 1, 1) := by decide +kernel
theorem d_L_law_330 : decode (mCd M_L_law) 330 = .ok (.invokevirtual 49, 3) := by decide +kernel
theorem d_L_law_333 : decode (mCd M_L_law) 333 = .ok (.aload_n 2, 1) := by decide +kernel
theorem d_L_law_334 : decode (mCd M_L_law) 334 = .ok (.invokevirtual 52, 3) := by decide +kernel
theorem d_L_law_337 : decode (mCd M_L_law) 337 = .ok (.if_icmp .eq 1135, 3) := by decide +kernel
theorem d_L_law_340 : decode (mCd M_L_law) 340 = .ok (.iconst 0, 1) := by decide +kernel
theorem d_L_law_341 : decode (mCd M_L_law) 341 = .ok (.ireturn, 1) := by decide +kernel
theorem d_L_law_342 : decode (mCd M_L_law) 342 = .ok (.aload_n 1, 1) := by decide +kernel
theorem d_L_law_343 : decode (mCd M_L_law) 343 = .ok (.invokevirtual 53, 3) := by decide +kernel
theorem d_L_law_346 : decode (mCd M_L_law) 346 = .ok (.aload_n 2, 1) := by decide +kernel
theorem d_L_law_347 : decode (mCd M_L_law) 347 = .ok (.invokevirtual 56, 3) := by decide +kernel
theorem d_L_law_350 : decode (mCd M_L_law) 350 = .ok (.if_icmp .eq 1122, 3) := by decide +kernel
theorem d_L_law_353 : decode (mCd M_L_law) 353 = .ok (.iconst 0, 1) := by decide +kernel
theorem d_L_law_354 : decode (mCd M_L_law) 354 = .ok (.ireturn, 1) := by decide +kernel
theorem d_L_law_355 : decode (mCd M_L_law) 355 = .ok (.aload_n 1, 1) := by decide +kernel
theorem d_L_law_356 : decode (mCd M_L_law) 356 = .ok (.aload_n 0, 1) := by decide +kernel
theorem d_L_law_357 : decode (mCd M_L_law) 357 = .ok (.iload 4, 2) := by decide +kernel
theorem d_L_law_359 : decode (mCd M_L_law) 359 = .ok (.iconst 1, 1) := by decide +kernel
theorem d_L_law_360 : decode (mCd M_L_law) 360 = .ok (.iadd, 1) := by decide +kernel
theorem d_L_law_361 : decode (mCd M_L_law) 361 = .ok (.iaload, 1) := by decide +kernel
theorem d_L_law_362 : decode (mCd M_L_law) 362 = .ok (.aload_n 0, 1) := by decide +kernel
theorem d_L_law_363 : decode (mCd M_L_law) 363 = .ok (.iload 4, 2) := by decide +kernel
theorem d_L_law_365 : decode (mCd M_L_law) 365 = .ok (.iconst 2, 1) := by decide +kernel
theorem d_L_law_366 : decode (mCd M_L_law) 366 = .ok (.iadd, 1) := by decide +kernel
theorem d_L_law_367 : decode (mCd M_L_law) 367 = .ok (.iaload, 1) := by decide +kernel
theorem d_L_law_368 : decode (mCd M_L_law) 368 = .ok (.aload_n 3, 1) := by decide +kernel
theorem d_L_law_369 : decode (mCd M_L_law) 369 = .ok (.invokestatic 57, 3) := by decide +kernel
theorem d_L_law_372 : decode (mCd M_L_law) 372 = .ok (.istore 5, 2) := by decide +kernel
theorem d_L_law_374 : decode (mCd M_L_law) 374 = .ok (.aload_n 2, 1) := by decide +kernel
theorem d_L_law_375 : decode (mCd M_L_law) 375 = .ok (.aload_n 0, 1) := by decide +kernel
theorem d_L_law_376 : decode (mCd M_L_law) 376 = .ok (.iload 4, 2) := by decide +kernel
theorem d_L_law_378 : decode (mCd M_L_law) 378 = .ok (.iconst 1, 1) := by decide +kernel
theorem d_L_law_379 : decode (mCd M_L_law) 379 = .ok (.iadd, 1) := by decide +kernel
theorem d_L_law_380 : decode (mCd M_L_law) 380 = .ok (.iaload, 1) := by decide +kernel
theorem d_L_law_381 : decode (mCd M_L_law) 381 = .ok (.aload_n 0, 1) := by decide +kernel
theorem d_L_law_382 : decode (mCd M_L_law) 382 = .ok (.iload 4, 2) := by decide +kernel
theorem d_L_law_384 : decode (mCd M_L_law) 384 = .ok (.iconst 2, 1) := by decide +kernel
theorem d_L_law_385 : decode (mCd M_L_law) 385 = .ok (.iadd, 1) := by decide +kernel
theorem d_L_law_386 : decode (mCd M_L_law) 386 = .ok (.iaload, 1) := by decide +kernel
theorem d_L_law_387 : decode (mCd M_L_law) 387 = .ok (.invokevirtual 62, 3) := by decide +kernel
theorem d_L_law_390 : decode (mCd M_L_law) 390 = .ok (.istore 6, 2) := by decide +kernel
theorem d_L_law_392 : decode (mCd M_L_law) 392 = .ok (.aload_n 2, 1) := by decide +kernel
theorem d_L_law_393 : decode (mCd M_L_law) 393 = .ok (.invokevirtual 63, 3) := by decide +kernel
theorem d_L_law_396 : decode (mCd M_L_law) 396 = .ok (.iload 5, 2) := by decide +kernel
theorem d_L_law_398 : decode (mCd M_L_law) 398 = .ok (.if_icmp .eq 5, 3) := by decide +kernel
theorem d_L_law_401 : decode (mCd M_L_law) 401 = .ok (.iconst 0, 1) := by decide +kernel
theorem d_L_law_402 : decode (mCd M_L_law) 402 = .ok (.ireturn, 1) := by decide +kernel
theorem d_L_law_403 : decode (mCd M_L_law) 403 = .ok (.iload 5, 2) := by decide +kernel
theorem d_L_law_405 : decode (mCd M_L_law) 405 = .ok (.ifCond .ne 15, 3) := by decide +kernel
theorem d_L_law_408 : decode (mCd M_L_law) 408 = .ok (.aload_n 3, 1) := by decide +kernel
theorem d_L_law_409 : decode (mCd M_L_law) 409 = .ok (.iconst 0, 1) := by decide +kernel
theorem d_L_law_410 : decode (mCd M_L_law) 410 = .ok (.laload, 1) := by decide +kernel
theorem d_L_law_411 : decode (mCd M_L_law) 411 = .ok (.iload 6, 2) := by decide +kernel
theorem d_L_law_413 : decode (mCd M_L_law) 413 = .ok (.i2l, 1) := by decide +kernel
theorem d_L_law_414 : decode (mCd M_L_law) 414 = .ok (.lcmp, 1) := by decide +kernel
theorem d_L_law_415 : decode (mCd M_L_law) 415 = .ok (.ifCond .eq 5, 3) := by decide +kernel
theorem d_L_law_418 : decode (mCd M_L_law) 418 = .ok (.iconst 0, 1) := by decide +kernel
theorem d_L_law_419 : decode (mCd M_L_law) 419 = .ok (.ireturn, 1) := by decide +kernel
theorem d_L_law_420 : decode (mCd M_L_law) 420 = .ok (.goto 1052, 3) := by decide +kernel
theorem d_L_law_423 : decode (mCd M_L_law) 423 = .ok (.aload_n 1, 1) := by decide +kernel
theorem d_L_law_424 : decode (mCd M_L_law) 424 = .ok (.aload_n 0, 1) := by decide +kernel
theorem d_L_law_425 : decode (mCd M_L_law) 425 = .ok (.iload 4, 2) := by decide +kernel
theorem d_L_law_427 : decode (mCd M_L_law) 427 = .ok (.iconst 1, 1) := by decide +kernel
theorem d_L_law_428 : decode (mCd M_L_law) 428 = .ok (.iadd, 1) := by decide +kernel
theorem d_L_law_429 : decode (mCd M_L_law) 429 = .ok (.iaload, 1) := by decide +kernel
theorem d_L_law_430 : decode (mCd M_L_law) 430 = .ok (.aload_n 0, 1) := by decide +kernel
theorem d_L_law_431 : decode (mCd M_L_law) 431 = .ok (.iload 4, 2) := by decide +kernel
theorem d_L_law_433 : decode (mCd M_L_law) 433 = .ok (.iconst 2, 1) := by decide +kernel
theorem d_L_law_434 : decode (mCd M_L_law) 434 = .ok (.iadd, 1) := by decide +kernel
theorem d_L_law_435 : decode (mCd M_L_law) 435 = .ok (.iaload, 1) := by decide +kernel
theorem d_L_law_436 : decode (mCd M_L_law) 436 = .ok (.aload_n 3, 1) := by decide +kernel
theorem d_L_law_437 : decode (mCd M_L_law) 437 = .ok (.invokestatic 66, 3) := by decide +kernel
theorem d_L_law_440 : decode (mCd M_L_law) 440 = .ok (.istore 5, 2) := by decide +kernel
theorem d_L_law_442 : decode (mCd M_L_law) 442 = .ok (.aload_n 2, 1) := by decide +kernel
theorem d_L_law_443 : decode (mCd M_L_law) 443 = .ok (.aload_n 0, 1) := by decide +kernel
theorem d_L_law_444 : decode (mCd M_L_law) 444 = .ok (.iload 4, 2) := by decide +kernel
theorem d_L_law_446 : decode (mCd M_L_law) 446 = .ok (.iconst 1, 1) := by decide +kernel
theorem d_L_law_447 : decode (mCd M_L_law) 447 = .ok (.iadd, 1) := by decide +kernel
theorem d_L_law_448 : decode (mCd M_L_law) 448 = .ok (.iaload, 1) := by decide +kernel
theorem d_L_law_449 : decode (mCd M_L_law) 449 = .ok (.aload_n 0, 1) := by decide +kernel
theorem d_L_law_450 : decode (mCd M_L_law) 450 = .ok (.iload 4, 2) := by decide +kernel
theorem d_L_law_452 : decode (mCd M_L_law) 452 = .ok (.iconst 2, 1) := by decide +kernel
theorem d_L_law_453 : decode (mCd M_L_law) 453 = .ok (.iadd, 1) := by decide +kernel
theorem d_L_law_454 : decode (mCd M_L_law) 454 = .ok (.iaload, 1) := by decide +kernel
theorem d_L_law_455 : decode (mCd M_L_law) 455 = .ok (.invokevirtual 68, 3) := by decide +kernel
theorem d_L_law_458 : decode (mCd M_L_law) 458 = .ok (.istore 6, 2) := by decide +kernel
theorem d_L_law_460 : decode (mCd M_L_law) 460 = .ok (.aload_n 2, 1) := by decide +kernel
theorem d_L_law_461 : decode (mCd M_L_law) 461 = .ok (.invokevirtual 63, 3) := by decide +kernel
theorem d_L_law_464 : decode (mCd M_L_law) 464 = .ok (.iload 5, 2) := by decide +kernel
theorem d_L_law_466 : decode (mCd M_L_law) 466 = .ok (.if_icmp .eq 5, 3) := by decide +kernel
theorem d_L_law_469 : decode (mCd M_L_law) 469 = .ok (.iconst 0, 1) := by decide +kernel
theorem d_L_law_470 : decode (mCd M_L_law) 470 = .ok (.ireturn, 1) := by decide +kernel
theorem d_L_law_471 : decode (mCd M_L_law) 471 = .ok (.iload 5, 2) := by decide +kernel
theorem d_L_law_473 : decode (mCd M_L_law) 473 = .ok (.ifCond .ne 15, 3) := by decide +kernel
theorem d_L_law_476 : decode (mCd M_L_law) 476 = .ok (.aload_n 3, 1) := by decide +kernel
theorem d_L_law_477 : decode (mCd M_L_law) 477 = .ok (.iconst 0, 1) := by decide +kernel
theorem d_L_law_478 : decode (mCd M_L_law) 478 = .ok (.laload, 1) := by decide +kernel
theorem d_L_law_479 : decode (mCd M_L_law) 479 = .ok (.iload 6, 2) := by decide +kernel
theorem d_L_law_481 : decode (mCd M_L_law) 481 = .ok (.i2l, 1) := by decide +kernel
theorem d_L_law_482 : decode (mCd M_L_law) 482 = .ok (.lcmp, 1) := by decide +kernel
theorem d_L_law_483 : decode (mCd M_L_law) 483 = .ok (.ifCond .eq 5, 3) := by decide +kernel
theorem d_L_law_486 : decode (mCd M_L_law) 486 = .ok (.iconst 0, 1) := by decide +kernel
theorem d_L_law_487 : decode (mCd M_L_law) 487 = .ok (.ireturn, 1) := by decide +kernel
theorem d_L_law_488 : decode (mCd M_L_law) 488 = .ok (.goto 984, 3) := by decide +kernel
theorem d_L_law_491 : decode (mCd M_L_law) 491 = .ok (.aload_n 1, 1) := by decide +kernel
theorem d_L_law_492 : decode (mCd M_L_law) 492 = .ok (.aload_n 0, 1) := by decide +kernel
theorem d_L_law_493 : decode (mCd M_L_law) 493 = .ok (.iload 4, 2) := by decide +kernel
theorem d_L_law_495 : decode (mCd M_L_law) 495 = .ok (.iconst 1, 1) := by decide +kernel
theorem d_L_law_496 : decode (mCd M_L_law) 496 = .ok (.iadd, 1) := by decide +kernel
theorem d_L_law_497 : decode (mCd M_L_law) 497 = .ok (.iaload, 1) := by decide +kernel
theorem d_L_law_498 : decode (mCd M_L_law) 498 = .ok (.aload_n 0, 1) := by decide +kernel
theorem d_L_law_499 : decode (mCd M_L_law) 499 = .ok (.iload 4, 2) := by decide +kernel
theorem d_L_law_501 : decode (mCd M_L_law) 501 = .ok (.iconst 2, 1) := by decide +kernel
theorem d_L_law_502 : decode (mCd M_L_law) 502 = .ok (.iadd, 1) := by decide +kernel
theorem d_L_law_503 : decode (mCd M_L_law) 503 = .ok (.iaload, 1) := by decide +kernel
theorem d_L_law_504 : decode (mCd M_L_law) 504 = .ok (.aload_n 0, 1) := by decide +kernel
theorem d_L_law_505 : decode (mCd M_L_law) 505 = .ok (.iload 4, 2) := by decide +kernel
theorem d_L_law_507 : decode (mCd M_L_law) 507 = .ok (.iconst 3, 1) := by decide +kernel
theorem d_L_law_508 : decode (mCd M_L_law) 508 = .ok (.iadd, 1) := by decide +kernel
theorem d_L_law_509 : decode (mCd M_L_law) 509 = .ok (.iaload, 1) := by decide +kernel
theorem d_L_law_510 : decode (mCd M_L_law) 510 = .ok (.aload_n 0, 1) := by decide +kernel
theorem d_L_law_511 : decode (mCd M_L_law) 511 = .ok (.iload 4, 2) := by decide +kernel
theorem d_L_law_513 : decode (mCd M_L_law) 513 = .ok (.iconst 4, 1) := by decide +kernel
theorem d_L_law_514 : decode (mCd M_L_law) 514 = .ok (.iadd, 1) := by decide +kernel
theorem d_L_law_515 : decode (mCd M_L_law) 515 = .ok (.iaload, 1) := by decide +kernel
theorem d_L_law_516 : decode (mCd M_L_law) 516 = .ok (.invokevirtual 69, 3) := by decide +kernel
theorem d_L_law_519 : decode (mCd M_L_law) 519 = .ok (.aload_n 2, 1) := by decide +kernel
theorem d_L_law_520 : decode (mCd M_L_law) 520 = .ok (.aload_n 0, 1) := by decide +kernel
theorem d_L_law_521 : decode (mCd M_L_law) 521 = .ok (.iload 4, 2) := by decide +kernel
theorem d_L_law_523 : decode (mCd M_L_law) 523 = .ok (.iconst 1, 1) := by decide +kernel
theorem d_L_law_524 : decode (mCd M_L_law) 524 = .ok (.iadd, 1) := by decide +kernel
theorem d_L_law_525 : decode (mCd M_L_law) 525 = .ok (.iaload, 1) := by decide +kernel
theorem d_L_law_526 : decode (mCd M_L_law) 526 = .ok (.aload_n 0, 1) := by decide +kernel
theorem d_L_law_527 : decode (mCd M_L_law) 527 = .ok (.iload 4, 2) := by decide +kernel
theorem d_L_law_529 : decode (mCd M_L_law) 529 = .ok (.iconst 2, 1) := by decide +kernel
theorem d_L_law_530 : decode (mCd M_L_law) 530 = .ok (.iadd, 1) := by decide +kernel
theorem d_L_law_531 : decode (mCd M_L_law) 531 = .ok (.iaload, 1) := by decide +kernel
theorem d_L_law_532 : decode (mCd M_L_law) 532 = .ok (.aload_n 0, 1) := by decide +kernel
theorem d_L_law_533 : decode (mCd M_L_law) 533 = .ok (.iload 4, 2) := by decide +kernel
theorem d_L_law_535 : decode (mCd M_L_law) 535 = .ok (.iconst 3, 1) := by decide +kernel
theorem d_L_law_536 : decode (mCd M_L_law) 536 = .ok (.iadd, 1) := by decide +kernel
theorem d_L_law_537 : decode (mCd M_L_law) 537 = .ok (.iaload, 1) := by decide +kernel
theorem d_L_law_538 : decode (mCd M_L_law) 538 = .ok (.aload_n 0, 1) := by decide +kernel
theorem d_L_law_539 : decode (mCd M_L_law) 539 = .ok (.iload 4, 2) := by decide +kernel
theorem d_L_law_541 : decode (mCd M_L_law) 541 = .ok (.iconst 4, 1) := by decide +kernel
theorem d_L_law_542 : decode (mCd M_L_law) 542 = .ok (.iadd, 1) := by decide +kernel
theorem d_L_law_543 : decode (mCd M_L_law) 543 = .ok (.iaload, 1) := by decide +kernel
theorem d_L_law_544 : decode (mCd M_L_law) 544 = .ok (.invokevirtual 73, 3) := by decide +kernel
theorem d_L_law_547 : decode (mCd M_L_law) 547 = .ok (.if_icmp .eq 925, 3) := by decide +kernel
theorem d_L_law_550 : decode (mCd M_L_law) 550 = .ok (.iconst 0, 1) := by decide +kernel
theorem d_L_law_551 : decode (mCd M_L_law) 551 = .ok (.ireturn, 1) := by decide +kernel
theorem d_L_law_552 : decode (mCd M_L_law) 552 = .ok (.aload_n 1, 1) := by decide +kernel
theorem d_L_law_553 : decode (mCd M_L_law) 553 = .ok (.aload_n 0, 1) := by decide +kernel
theorem d_L_law_554 : decode (mCd M_L_law) 554 = .ok (.iload 4, 2) := by decide +kernel
theorem d_L_law_556 : decode (mCd M_L_law) 556 = .ok (.iconst 1, 1) := by decide +kernel
theorem d_L_law_557 : decode (mCd M_L_law) 557 = .ok (.iadd, 1) := by decide +kernel
theorem d_L_law_558 : decode (mCd M_L_law) 558 = .ok (.iaload, 1) := by decide +kernel
theorem d_L_law_559 : decode (mCd M_L_law) 559 = .ok (.invokevirtual 74, 3) := by decide +kernel
theorem d_L_law_562 : decode (mCd M_L_law) 562 = .ok (.aload_n 2, 1) := by decide +kernel
theorem d_L_law_563 : decode (mCd M_L_law) 563 = .ok (.aload_n 0, 1) := by decide +kernel
theorem d_L_law_564 : decode (mCd M_L_law) 564 = .ok (.iload 4, 2) := by decide +kernel
theorem d_L_law_566 : decode (mCd M_L_law) 566 = .ok (.iconst 1, 1) := by decide +kernel
theorem d_L_law_567 : decode (mCd M_L_law) 567 = .ok (.iadd, 1) := by decide +kernel
theorem d_L_law_568 : decode (mCd M_L_law) 568 = .ok (.iaload, 1) := by decide +kernel
theorem d_L_law_569 : decode (mCd M_L_law) 569 = .ok (.invokevirtual 77, 3) := by decide +kernel
theorem d_L_law_572 : decode (mCd M_L_law) 572 = .ok (.if_icmp .eq 900, 3) := by decide +kernel
theorem d_L_law_575 : decode (mCd M_L_law) 575 = .ok (.iconst 0, 1) := by decide +kernel
theorem d_L_law_576 : decode (mCd M_L_law) 576 = .ok (.ireturn, 1) := by decide +kernel
theorem d_L_law_577 : decode (mCd M_L_law) 577 = .ok (.aload_n 1, 1) := by decide +kernel
theorem d_L_law_578 : decode (mCd M_L_law) 578 = .ok (.aload_n 0, 1) := by decide +kernel
theorem d_L_law_579 : decode (mCd M_L_law) 579 = .ok (.iload 4, 2) := by decide +kernel
theorem d_L_law_581 : decode (mCd M_L_law) 581 = .ok (.iconst 1, 1) := by decide +kernel
theorem d_L_law_582 : decode (mCd M_L_law) 582 = .ok (.iadd, 1) := by decide +kernel
theorem d_L_law_583 : decode (mCd M_L_law) 583 = .ok (.iaload, 1) := by decide +kernel
theorem d_L_law_584 : decode (mCd M_L_law) 584 = .ok (.aload_n 0, 1) := by decide +kernel
theorem d_L_law_585 : decode (mCd M_L_law) 585 = .ok (.iload 4, 2) := by decide +kernel
theorem d_L_law_587 : decode (mCd M_L_law) 587 = .ok (.iconst 2, 1) := by decide +kernel
theorem d_L_law_588 : decode (mCd M_L_law) 588 = .ok (.iadd, 1) := by decide +kernel
theorem d_L_law_589 : decode (mCd M_L_law) 589 = .ok (.iaload, 1) := by decide +kernel
theorem d_L_law_590 : decode (mCd M_L_law) 590 = .ok (.aload_n 0, 1) := by decide +kernel
theorem d_L_law_591 : decode (mCd M_L_law) 591 = .ok (.iload 4, 2) := by decide +kernel
theorem d_L_law_593 : decode (mCd M_L_law) 593 = .ok (.iconst 3, 1) := by decide +kernel
theorem d_L_law_594 : decode (mCd M_L_law) 594 = .ok (.iadd, 1) := by decide +kernel
theorem d_L_law_595 : decode (mCd M_L_law) 595 = .ok (.iaload, 1) := by decide +kernel
theorem d_L_law_596 : decode (mCd M_L_law) 596 = .ok (.invokevirtual 78, 3) := by decide +kernel
theorem d_L_law_599 : decode (mCd M_L_law) 599 = .ok (.aload_n 2, 1) := by decide +kernel
theorem d_L_law_600 : decode (mCd M_L_law) 600 = .ok (.aload_n 0, 1) := by decide +kernel
theorem d_L_law_601 : decode (mCd M_L_law) 601 = .ok (.iload 4, 2) := by decide +kernel
theorem d_L_law_603 : decode (mCd M_L_law) 603 = .ok (.iconst 1, 1) := by decide +kernel
theorem d_L_law_604 : decode (mCd M_L_law) 604 = .ok (.iadd, 1) := by decide +kernel
theorem d_L_law_605 : decode (mCd M_L_law) 605 = .ok (.iaload, 1) := by decide +kernel
theorem d_L_law_606 : decode (mCd M_L_law) 606 = .ok (.aload_n 0, 1) := by decide +kernel
theorem d_L_law_607 : decode (mCd M_L_law) 607 = .ok (.iload 4, 2) := by decide +kernel
theorem d_L_law_609 : decode (mCd M_L_law) 609 = .ok (.iconst 2, 1) := by decide +kernel
theorem d_L_law_610 : decode (mCd M_L_law) 610 = .ok (.iadd, 1) := by decide +kernel
theorem d_L_law_611 : decode (mCd M_L_law) 611 = .ok (.iaload, 1) := by decide +kernel
theorem d_L_law_612 : decode (mCd M_L_law) 612 = .ok (.aload_n 0, 1) := by decide +kernel
theorem d_L_law_613 : decode (mCd M_L_law) 613 = .ok (.iload 4, 2) := by decide +kernel
theorem d_L_law_615 : decode (mCd M_L_law) 615 = .ok (.iconst 3, 1) := by decide +kernel
theorem d_L_law_616 : decode (mCd M_L_law) 616 = .ok (.iadd, 1) := by decide +kernel
theorem d_L_law_617 : decode (mCd M_L_law) 617 = .ok (.iaload, 1) := by decide +kernel
theorem d_L_law_618 : decode (mCd M_L_law) 618 = .ok (.invokevirtual 82, 3) := by decide +kernel
theorem d_L_law_621 : decode (mCd M_L_law) 621 = .ok (.if_icmp .eq 851, 3) := by decide +kernel
theorem d_L_law_624 : decode (mCd M_L_law) 624 = .ok (.iconst 0, 1) := by decide +kernel
theorem d_L_law_625 : decode (mCd M_L_law) 625 = .ok (.ireturn, 1) := by decide +kernel
theorem d_L_law_626 : decode (mCd M_L_law) 626 = .ok (.aload_n 1, 1) := by decide +kernel
theorem d_L_law_627 : decode (mCd M_L_law) 627 = .ok (.aload_n 0, 1) := by decide +kernel
theorem d_L_law_628 : decode (mCd M_L_law) 628 = .ok (.iload 4, 2) := by decide +kernel
theorem d_L_law_630 : decode (mCd M_L_law) 630 = .ok (.iconst 1, 1) := by decide +kernel
theorem d_L_law_631 : decode (mCd M_L_law) 631 = .ok (.iadd, 1) := by decide +kernel
theorem d_L_law_632 : decode (mCd M_L_law) 632 = .ok (.iaload, 1) := by decide +kernel
theorem d_L_law_633 : decode (mCd M_L_law) 633 = .ok (.invokevirtual 83, 3) := by decide +kernel
theorem d_L_law_636 : decode (mCd M_L_law) 636 = .ok (.aload_n 2, 1) := by decide +kernel
theorem d_L_law_637 : decode (mCd M_L_law) 637 = .ok (.aload_n 0, 1) := by decide +kernel
theorem d_L_law_638 : decode (mCd M_L_law) 638 = .ok (.iload 4, 2) := by decide +kernel
theorem d_L_law_640 : decode (mCd M_L_law) 640 = .ok (.iconst 1, 1) := by decide +kernel
theorem d_L_law_641 : decode (mCd M_L_law) 641 = .ok (.iadd, 1) := by decide +kernel
theorem d_L_law_642 : decode (mCd M_L_law) 642 = .ok (.iaload, 1) := by decide +kernel
theorem d_L_law_643 : decode (mCd M_L_law) 643 = .ok (.invokevirtual 86, 3) := by decide +kernel
theorem d_L_law_646 : decode (mCd M_L_law) 646 = .ok (.if_icmp .eq 826, 3) := by decide +kernel
theorem d_L_law_649 : decode (mCd M_L_law) 649 = .ok (.iconst 0, 1) := by decide +kernel
theorem d_L_law_650 : decode (mCd M_L_law) 650 = .ok (.ireturn, 1) := by decide +kernel
theorem d_L_law_651 : decode (mCd M_L_law) 651 = .ok (.aload_n 1, 1) := by decide +kernel
theorem d_L_law_652 : decode (mCd M_L_law) 652 = .ok (.aload_n 0, 1) := by decide +kernel
theorem d_L_law_653 : decode (mCd M_L_law) 653 = .ok (.iload 4, 2) := by decide +kernel
theorem d_L_law_655 : decode (mCd M_L_law) 655 = .ok (.iconst 1, 1) := by decide +kernel
theorem d_L_law_656 : decode (mCd M_L_law) 656 = .ok (.iadd, 1) := by decide +kernel
theorem d_L_law_657 : decode (mCd M_L_law) 657 = .ok (.iaload, 1) := by decide +kernel
theorem d_L_law_658 : decode (mCd M_L_law) 658 = .ok (.invokevirtual 87, 3) := by decide +kernel
theorem d_L_law_661 : decode (mCd M_L_law) 661 = .ok (.aload_n 2, 1) := by decide +kernel
theorem d_L_law_662 : decode (mCd M_L_law) 662 = .ok (.aload_n 0, 1) := by decide +kernel
theorem d_L_law_663 : decode (mCd M_L_law) 663 = .ok (.iload 4, 2) := by decide +kernel
theorem d_L_law_665 : decode (mCd M_L_law) 665 = .ok (.iconst 1, 1) := by decide +kernel
theorem d_L_law_666 : decode (mCd M_L_law) 666 = .ok (.iadd, 1) := by decide +kernel
theorem d_L_law_667 : decode (mCd M_L_law) 667 = .ok (.iaload, 1) := by decide +kernel
theorem d_L_law_668 : decode (mCd M_L_law) 668 = .ok (.invokevirtual 90, 3) := by decide +kernel
theorem d_L_law_671 : decode (mCd M_L_law) 671 = .ok (.if_icmp .eq 801, 3) := by decide +kernel
theorem d_L_law_674 : decode (mCd M_L_law) 674 = .ok (.iconst 0, 1) := by decide +kernel
theorem d_L_law_675 : decode (mCd M_L_law) 675 = .ok (.ireturn, 1) := by decide +kernel
theorem d_L_law_676 : decode (mCd M_L_law) 676 = .ok (.aload_n 1, 1) := by decide +kernel
theorem d_L_law_677 : decode (mCd M_L_law) 677 = .ok (.aload_n 0, 1) := by decide +kernel
theorem d_L_law_678 : decode (mCd M_L_law) 678 = .ok (.iload 4, 2) := by decide +kernel
theorem d_L_law_680 : decode (mCd M_L_law) 680 = .ok (.iconst 1, 1) := by decide +kernel
theorem d_L_law_681 : decode (mCd M_L_law) 681 = .ok (.iadd, 1) := by decide +kernel
theorem d_L_law_682 : decode (mCd M_L_law) 682 = .ok (.iaload, 1) := by decide +kernel
theorem d_L_law_683 : decode (mCd M_L_law) 683 = .ok (.invokevirtual 91, 3) := by decide +kernel
theorem d_L_law_686 : decode (mCd M_L_law) 686 = .ok (.aload_n 2, 1) := by decide +kernel
theorem d_L_law_687 : decode (mCd M_L_law) 687 = .ok (.aload_n 0, 1) := by decide +kernel
theorem d_L_law_688 : decode (mCd M_L_law) 688 = .ok (.iload 4, 2) := by decide +kernel
theorem d_L_law_690 : decode (mCd M_L_law) 690 = .ok (.iconst 1, 1) := by decide +kernel
theorem d_L_law_691 : decode (mCd M_L_law) 691 = .ok (.iadd, 1) := by decide +kernel
theorem d_L_law_692 : decode (mCd M_L_law) 692 = .ok (.iaload, 1) := by decide +kernel
theorem d_L_law_693 : decode (mCd M_L_law) 693 = .ok (.invokevirtual 94, 3) := by decide +kernel
theorem d_L_law_696 : decode (mCd M_L_law) 696 = .ok (.if_icmp .eq 776, 3) := by decide +kernel
theorem d_L_law_699 : decode (mCd M_L_law) 699 = .ok (.iconst 0, 1) := by decide +kernel
theorem d_L_law_700 : decode (mCd M_L_law) 700 = .ok (.ireturn, 1) := by decide +kernel
theorem d_L_law_701 : decode (mCd M_L_law) 701 = .ok (.aload_n 1, 1) := by decide +kernel
theorem d_L_law_702 : decode (mCd M_L_law) 702 = .ok (.invokevirtual 95, 3) := by decide +kernel
theorem d_L_law_705 : decode (mCd M_L_law) 705 = .ok (.aload_n 2, 1) := by decide +kernel
theorem d_L_law_706 : decode (mCd M_L_law) 706 = .ok (.invokevirtual 98, 3) := by decide +kernel
theorem d_L_law_709 : decode (mCd M_L_law) 709 = .ok (.if_icmp .eq 763, 3) := by decide +kernel
theorem d_L_law_712 : decode (mCd M_L_law) 712 = .ok (.iconst 0, 1) := by decide +kernel
theorem d_L_law_713 : decode (mCd M_L_law) 713 = .ok (.ireturn, 1) := by decide +kernel
theorem d_L_law_714 : decode (mCd M_L_law) 714 = .ok (.aload_n 1, 1) := by decide +kernel
theorem d_L_law_715 : decode (mCd M_L_law) 715 = .ok (.invokevirtual 99, 3) := by decide +kernel
theorem d_L_law_718 : decode (mCd M_L_law) 718 = .ok (.aload_n 2, 1) := by decide +kernel
theorem d_L_law_719 : decode (mCd M_L_law) 719 = .ok (.invokevirtual 102, 3) := by decide +kernel
theorem d_L_law_722 : decode (mCd M_L_law) 722 = .ok (.if_icmp .eq 750, 3) := by decide +kernel
theorem d_L_law_725 : decode (mCd M_L_law) 725 = .ok (.iconst 0, 1) := by decide +kernel
theorem d_L_law_726 : decode (mCd M_L_law) 726 = .ok (.ireturn, 1) := by decide +kernel
theorem d_L_law_727 : decode (mCd M_L_law) 727 = .ok (.aload_n 1, 1) := by decide +kernel
theorem d_L_law_728 : decode (mCd M_L_law) 728 = .ok (.invokevirtual 103, 3) := by decide +kernel
theorem d_L_law_731 : decode (mCd M_L_law) 731 = .ok (.aload_n 2, 1) := by decide +kernel
theorem d_L_law_732 : decode (mCd M_L_law) 732 = .ok (.invokevirtual 106, 3) := by decide +kernel
theorem d_L_law_735 : decode (mCd M_L_law) 735 = .ok (.if_icmp .eq 737, 3) := by decide +kernel
theorem d_L_law_738 : decode (mCd M_L_law) 738 = .ok (.iconst 0, 1) := by decide +kernel
theorem d_L_law_739 : decode (mCd M_L_law) 739 = .ok (.ireturn, 1) := by decide +kernel
theorem d_L_law_740 : decode (mCd M_L_law) 740 = .ok (.aload_n 1, 1) := by decide +kernel
theorem d_L_law_741 : decode (mCd M_L_law) 741 = .ok (.aload_n 0, 1) := by decide +kernel
theorem d_L_law_742 : decode (mCd M_L_law) 742 = .ok (.iload 4, 2) := by decide +kernel
theorem d_L_law_744 : decode (mCd M_L_law) 744 = .ok (.iconst 1, 1) := by decide +kernel
theorem d_L_law_745 : decode (mCd M_L_law) 745 = .ok (.iadd, 1) := by decide +kernel
theorem d_L_law_746 : decode (mCd M_L_law) 746 = .ok (.iaload, 1) := by decide +kernel
theorem d_L_law_747 : decode (mCd M_L_law) 747 = .ok (.invokevirtual 107, 3) := by decide +kernel
theorem d_L_law_750 : decode (mCd M_L_law) 750 = .ok (.aload_n 2, 1) := by decide +kernel
theorem d_L_law_751 : decode (mCd M_L_law) 751 = .ok (.aload_n 0, 1) := by decide +kernel
theorem d_L_law_752 : decode (mCd M_L_law) 752 = .ok (.iload 4, 2) := by decide +kernel
theorem d_L_law_754 : decode (mCd M_L_law) 754 = .ok (.iconst 1, 1) := by decide +kernel
theorem d_L_law_755 : decode (mCd M_L_law) 755 = .ok (.iadd, 1) := by decide +kernel
theorem d_L_law_756 : decode (mCd M_L_law) 756 = .ok (.iaload, 1) := by decide +kernel
theorem d_L_law_757 : decode (mCd M_L_law) 757 = .ok (.invokevirtual 110, 3) := by decide +kernel
theorem d_L_law_760 : decode (mCd M_L_law) 760 = .ok (.if_icmp .eq 712, 3) := by decide +kernel
theorem d_L_law_763 : decode (mCd M_L_law) 763 = .ok (.iconst 0, 1) := by decide +kernel
theorem d_L_law_764 : decode (mCd M_L_law) 764 = .ok (.ireturn, 1) := by decide +kernel
theorem d_L_law_765 : decode (mCd M_L_law) 765 = .ok (.aload_n 1, 1) := by decide +kernel
theorem d_L_law_766 : decode (mCd M_L_law) 766 = .ok (.aload_n 0, 1) := by decide +kernel
theorem d_L_law_767 : decode (mCd M_L_law) 767 = .ok (.iload 4, 2) := by decide +kernel
theorem d_L_law_769 : decode (mCd M_L_law) 769 = .ok (.iconst 1, 1) := by decide +kernel
theorem d_L_law_770 : decode (mCd M_L_law) 770 = .ok (.iadd, 1) := by decide +kernel
theorem d_L_law_771 : decode (mCd M_L_law) 771 = .ok (.iaload, 1) := by decide +kernel
theorem d_L_law_772 : decode (mCd M_L_law) 772 = .ok (.invokevirtual 111, 3) := by decide +kernel
theorem d_L_law_775 : decode (mCd M_L_law) 775 = .ok (.aload_n 2, 1) := by decide +kernel
theorem d_L_law_776 : decode (mCd M_L_law) 776 = .ok (.aload_n 0, 1) := by decide +kernel
theorem d_L_law_777 : decode (mCd M_L_law) 777 = .ok (.iload 4, 2) := by decide +kernel
theorem d_L_law_779 : decode (mCd M_L_law) 779 = .ok (.iconst 1, 1) := by decide +kernel
theorem d_L_law_780 : decode (mCd M_L_law) 780 = .ok (.iadd, 1) := by decide +kernel
theorem d_L_law_781 : decode (mCd M_L_law) 781 = .ok (.iaload, 1) := by decide +kernel
theorem d_L_law_782 : decode (mCd M_L_law) 782 = .ok (.invokevirtual 114, 3) := by decide +kernel
theorem d_L_law_785 : decode (mCd M_L_law) 785 = .ok (.if_icmp .eq 687, 3) := by decide +kernel
theorem d_L_law_788 : decode (mCd M_L_law) 788 = .ok (.iconst 0, 1) := by decide +kernel
theorem d_L_law_789 : decode (mCd M_L_law) 789 = .ok (.ireturn, 1) := by decide +kernel
theorem d_L_law_790 : decode (mCd M_L_law) 790 = .ok (.aload_n 1, 1) := by decide +kernel
theorem d_L_law_791 : decode (mCd M_L_law) 791 = .ok (.invokevirtual 115, 3) := by decide +kernel
theorem d_L_law_794 : decode (mCd M_L_law) 794 = .ok (.aload_n 2, 1) := by decide +kernel
theorem d_L_law_795 : decode (mCd M_L_law) 795 = .ok (.invokevirtual 118, 3) := by decide +kernel
theorem d_L_law_798 : decode (mCd M_L_law) 798 = .ok (.if_icmp .eq 674, 3) := by decide +kernel
theorem d_L_law_801 : decode (mCd M_L_law) 801 = .ok (.iconst 0, 1) := by decide +kernel
theorem d_L_law_802 : decode (mCd M_L_law) 802 = .ok (.ireturn, 1) := by decide +kernel
theorem d_L_law_803 : decode (mCd M_L_law) 803 = .ok (.aload_n 1, 1) := by decide +kernel
theorem d_L_law_804 : decode (mCd M_L_law) 804 = .ok (.aload_n 0, 1) := by decide +kernel
theorem d_L_law_805 : decode (mCd M_L_law) 805 = .ok (.iload 4, 2) := by decide +kernel
theorem d_L_law_807 : decode (mCd M_L_law) 807 = .ok (.iconst 1, 1) := by decide +kernel
theorem d_L_law_808 : decode (mCd M_L_law) 808 = .ok (.iadd, 1) := by decide +kernel
theorem d_L_law_809 : decode (mCd M_L_law) 809 = .ok (.iaload, 1) := by decide +kernel
theorem d_L_law_810 : decode (mCd M_L_law) 810 = .ok (.invokevirtual 119, 3) := by decide +kernel
theorem d_L_law_813 : decode (mCd M_L_law) 813 = .ok (.aload_n 2, 1) := by decide +kernel
theorem d_L_law_814 : decode (mCd M_L_law) 814 = .ok (.aload_n 0, 1) := by decide +kernel
theorem d_L_law_815 : decode (mCd M_L_law) 815 = .ok (.iload 4, 2) := by decide +kernel
theorem d_L_law_817 : decode (mCd M_L_law) 817 = .ok (.iconst 1, 1) := by decide +kernel
theorem d_L_law_818 : decode (mCd M_L_law) 818 = .ok (.iadd, 1) := by decide +kernel
theorem d_L_law_819 : decode (mCd M_L_law) 819 = .ok (.iaload, 1) := by decide +kernel
theorem d_L_law_820 : decode (mCd M_L_law) 820 = .ok (.invokevirtual 122, 3) := by decide +kernel
theorem d_L_law_823 : decode (mCd M_L_law) 823 = .ok (.lcmp, 1) := by decide +kernel
theorem d_L_law_824 : decode (mCd M_L_law) 824 = .ok (.ifCond .eq 648, 3) := by decide +kernel
theorem d_L_law_827 : decode (mCd M_L_law) 827 = .ok (.iconst 0, 1) := by decide +kernel
theorem d_L_law_828 : decode (mCd M_L_law) 828 = .ok (.ireturn, 1) := by decide +kernel
theorem d_L_law_829 : decode (mCd M_L_law) 829 = .ok (.aload_n 1, 1) := by decide +kernel
theorem d_L_law_830 : decode (mCd M_L_law) 830 = .ok (.aload_n 0, 1) := by decide +kernel
theorem d_L_law_831 : decode (mCd M_L_law) 831 = .ok (.iload 4, 2) := by decide +kernel
theorem d_L_law_833 : decode (mCd M_L_law) 833 = .ok (.iconst 1, 1) := by decide +kernel
theorem d_L_law_834 : decode (mCd M_L_law) 834 = .ok (.iadd, 1) := by decide +kernel
theorem d_L_law_835 : decode (mCd M_L_law) 835 = .ok (.iaload, 1) := by decide +kernel
theorem d_L_law_836 : decode (mCd M_L_law) 836 = .ok (.aload_n 0, 1) := by decide +kernel
theorem d_L_law_837 : decode (mCd M_L_law) 837 = .ok (.iload 4, 2) := by decide +kernel
theorem d_L_law_839 : decode (mCd M_L_law) 839 = .ok (.iconst 2, 1) := by decide +kernel
theorem d_L_law_840 : decode (mCd M_L_law) 840 = .ok (.iadd, 1) := by decide +kernel
theorem d_L_law_841 : decode (mCd M_L_law) 841 = .ok (.iaload, 1) := by decide +kernel
theorem d_L_law_842 : decode (mCd M_L_law) 842 = .ok (.aload_n 0, 1) := by decide +kernel
theorem d_L_law_843 : decode (mCd M_L_law) 843 = .ok (.iload 4, 2) := by decide +kernel
theorem d_L_law_845 : decode (mCd M_L_law) 845 = .ok (.iconst 3, 1) := by decide +kernel
theorem d_L_law_846 : decode (mCd M_L_law) 846 = .ok (.iadd, 1) := by decide +kernel
theorem d_L_law_847 : decode (mCd M_L_law) 847 = .ok (.iaload, 1) := by decide +kernel
theorem d_L_law_848 : decode (mCd M_L_law) 848 = .ok (.invokevirtual 123, 3) := by decide +kernel
theorem d_L_law_851 : decode (mCd M_L_law) 851 = .ok (.aload_n 2, 1) := by decide +kernel
theorem d_L_law_852 : decode (mCd M_L_law) 852 = .ok (.aload_n 0, 1) := by decide +kernel
theorem d_L_law_853 : decode (mCd M_L_law) 853 = .ok (.iload 4, 2) := by decide +kernel
theorem d_L_law_855 : decode (mCd M_L_law) 855 = .ok (.iconst 1, 1) := by decide +kernel
theorem d_L_law_856 : decode (mCd M_L_law) 856 = .ok (.iadd, 1) := by decide +kernel
theorem d_L_law_857 : decode (mCd M_L_law) 857 = .ok (.iaload, 1) := by decide +kernel
theorem d_L_law_858 : decode (mCd M_L_law) 858 = .ok (.aload_n 0, 1) := by decide +kernel
theorem d_L_law_859 : decode (mCd M_L_law) 859 = .ok (.iload 4, 2) := by decide +kernel
theorem d_L_law_861 : decode (mCd M_L_law) 861 = .ok (.iconst 2, 1) := by decide +kernel
theorem d_L_law_862 : decode (mCd M_L_law) 862 = .ok (.iadd, 1) := by decide +kernel
theorem d_L_law_863 : decode (mCd M_L_law) 863 = .ok (.iaload, 1) := by decide +kernel
theorem d_L_law_864 : decode (mCd M_L_law) 864 = .ok (.aload_n 0, 1) := by decide +kernel
theorem d_L_law_865 : decode (mCd M_L_law) 865 = .ok (.iload 4, 2) := by decide +kernel
theorem d_L_law_867 : decode (mCd M_L_law) 867 = .ok (.iconst 3, 1) := by decide +kernel
theorem d_L_law_868 : decode (mCd M_L_law) 868 = .ok (.iadd, 1) := by decide +kernel
theorem d_L_law_869 : decode (mCd M_L_law) 869 = .ok (.iaload, 1) := by decide +kernel
theorem d_L_law_870 : decode (mCd M_L_law) 870 = .ok (.invokevirtual 126, 3) := by decide +kernel
theorem d_L_law_873 : decode (mCd M_L_law) 873 = .ok (.if_icmp .eq 599, 3) := by decide +kernel
theorem d_L_law_876 : decode (mCd M_L_law) 876 = .ok (.iconst 0, 1) := by decide +kernel
theorem d_L_law_877 : decode (mCd M_L_law) 877 = .ok (.ireturn, 1) := by decide +kernel
theorem d_L_law_878 : decode (mCd M_L_law) 878 = .ok (.aload_n 1, 1) := by decide +kernel
theorem d_L_law_879 : decode (mCd M_L_law) 879 = .ok (.aload_n 0, 1) := by decide +kernel
theorem d_L_law_880 : decode (mCd M_L_law) 880 = .ok (.iload 4, 2) := by decide +kernel
theorem d_L_law_882 : decode (mCd M_L_law) 882 = .ok (.iconst 1, 1) := by decide +kernel
theorem d_L_law_883 : decode (mCd M_L_law) 883 = .ok (.iadd, 1) := by decide +kernel
theorem d_L_law_884 : decode (mCd M_L_law) 884 = .ok (.iaload, 1) := by decide +kernel
theorem d_L_law_885 : decode (mCd M_L_law) 885 = .ok (.aload_n 0, 1) := by decide +kernel
theorem d_L_law_886 : decode (mCd M_L_law) 886 = .ok (.iload 4, 2) := by decide +kernel
theorem d_L_law_888 : decode (mCd M_L_law) 888 = .ok (.iconst 2, 1) := by decide +kernel
theorem d_L_law_889 : decode (mCd M_L_law) 889 = .ok (.iadd, 1) := by decide +kernel
theorem d_L_law_890 : decode (mCd M_L_law) 890 = .ok (.iaload, 1) := by decide +kernel
theorem d_L_law_891 : decode (mCd M_L_law) 891 = .ok (.invokevirtual 127, 3) := by decide +kernel
theorem d_L_law_894 : decode (mCd M_L_law) 894 = .ok (.aload_n 2, 1) := by decide +kernel
theorem d_L_law_895 : decode (mCd M_L_law) 895 = .ok (.aload_n 0, 1) := by decide +kernel
theorem d_L_law_896 : decode (mCd M_L_law) 896 = .ok (.iload 4, 2) := by decide +kernel
theorem d_L_law_898 : decode (mCd M_L_law) 898 = .ok (.iconst 1, 1) := by decide +kernel
theorem d_L_law_899 : decode (mCd M_L_law) 899 = .ok (.iadd, 1) := by decide +kernel
theorem d_L_law_900 : decode (mCd M_L_law) 900 = .ok (.iaload, 1) := by decide +kernel
theorem d_L_law_901 : decode (mCd M_L_law) 901 = .ok (.aload_n 0, 1) := by decide +kernel
theorem d_L_law_902 : decode (mCd M_L_law) 902 = .ok (.iload 4, 2) := by decide +kernel
theorem d_L_law_904 : decode (mCd M_L_law) 904 = .ok (.iconst 2, 1) := by decide +kernel
theorem d_L_law_905 : decode (mCd M_L_law) 905 = .ok (.iadd, 1) := by decide +kernel
theorem d_L_law_906 : decode (mCd M_L_law) 906 = .ok (.iaload, 1) := by decide +kernel
theorem d_L_law_907 : decode (mCd M_L_law) 907 = .ok (.invokevirtual 130, 3) := by decide +kernel
theorem d_L_law_910 : decode (mCd M_L_law) 910 = .ok (.if_icmp .eq 562, 3) := by decide +kernel
theorem d_L_law_913 : decode (mCd M_L_law) 913 = .ok (.iconst 0, 1) := by decide +kernel
theorem d_L_law_914 : decode (mCd M_L_law) 914 = .ok (.ireturn, 1) := by decide +kernel
theorem d_L_law_915 : decode (mCd M_L_law) 915 = .ok (.aload_n 1, 1) := by decide +kernel
theorem d_L_law_916 : decode (mCd M_L_law) 916 = .ok (.aload_n 0, 1) := by decide +kernel
theorem d_L_law_917 : decode (mCd M_L_law) 917 = .ok (.iload 4, 2) := by decide +kernel
theorem d_L_law_919 : decode (mCd M_L_law) 919 = .ok (.iconst 1, 1) := by decide +kernel
theorem d_L_law_920 : decode (mCd M_L_law) 920 = .ok (.iadd, 1) := by decide +kernel
theorem d_L_law_921 : decode (mCd M_L_law) 921 = .ok (.iaload, 1) := by decide +kernel
theorem d_L_law_922 : decode (mCd M_L_law) 922 = .ok (.invokevirtual 131, 3) := by decide +kernel
theorem d_L_law_925 : decode (mCd M_L_law) 925 = .ok (.aload_n 2, 1) := by decide +kernel
theorem d_L_law_926 : decode (mCd M_L_law) 926 = .ok (.aload_n 0, 1) := by decide +kernel
theorem d_L_law_927 : decode (mCd M_L_law) 927 = .ok (.iload 4, 2) := by decide +kernel
theorem d_L_law_929 : decode (mCd M_L_law) 929 = .ok (.iconst 1, 1) := by decide +kernel
theorem d_L_law_930 : decode (mCd M_L_law) 930 = .ok (.iadd, 1) := by decide +kernel
theorem d_L_law_931 : decode (mCd M_L_law) 931 = .ok (.iaload, 1) := by decide +kernel
theorem d_L_law_932 : decode (mCd M_L_law) 932 = .ok (.invokevirtual 134, 3) := by decide +kernel
theorem d_L_law_935 : decode (mCd M_L_law) 935 = .ok (.if_icmp .eq 537, 3) := by decide +kernel
theorem d_L_law_938 : decode (mCd M_L_law) 938 = .ok (.iconst 0, 1) := by decide +kernel
theorem d_L_law_939 : decode (mCd M_L_law) 939 = .ok (.ireturn, 1) := by decide +kernel
theorem d_L_law_940 : decode (mCd M_L_law) 940 = .ok (.aload_n 1, 1) := by decide +kernel
theorem d_L_law_941 : decode (mCd M_L_law) 941 = .ok (.invokevirtual 135, 3) := by decide +kernel
theorem d_L_law_944 : decode (mCd M_L_law) 944 = .ok (.aload_n 2, 1) := by decide +kernel
theorem d_L_law_945 : decode (mCd M_L_law) 945 = .ok (.invokevirtual 138, 3) := by decide +kernel
theorem d_L_law_948 : decode (mCd M_L_law) 948 = .ok (.if_icmp .eq 524, 3) := by decide +kernel
theorem d_L_law_951 : decode (mCd M_L_law) 951 = .ok (.iconst 0, 1) := by decide +kernel
theorem d_L_law_952 : decode (mCd M_L_law) 952 = .ok (.ireturn, 1) := by decide +kernel
theorem d_L_law_953 : decode (mCd M_L_law) 953 = .ok (.aload_n 1, 1) := by decide +kernel
theorem d_L_law_954 : decode (mCd M_L_law) 954 = .ok (.invokevirtual 139, 3) := by decide +kernel
theorem d_L_law_957 : decode (mCd M_L_law) 957 = .ok (.aload_n 2, 1) := by decide +kernel
theorem d_L_law_958 : decode (mCd M_L_law) 958 = .ok (.invokevirtual 142, 3) := by decide +kernel
theorem d_L_law_961 : decode (mCd M_L_law) 961 = .ok (.if_icmp .eq 511, 3) := by decide +kernel
theorem d_L_law_964 : decode (mCd M_L_law) 964 = .ok (.iconst 0, 1) := by decide +kernel
theorem d_L_law_965 : decode (mCd M_L_law) 965 = .ok (.ireturn, 1) := by decide +kernel
theorem d_L_law_966 : decode (mCd M_L_law) 966 = .ok (.aload_n 1, 1) := by decide +kernel
theorem d_L_law_967 : decode (mCd M_L_law) 967 = .ok (.aload_n 0, 1) := by decide +kernel
theorem d_L_law_968 : decode (mCd M_L_law) 968 = .ok (.iload 4, 2) := by decide +kernel
theorem d_L_law_970 : decode (mCd M_L_law) 970 = .ok (.iconst 1, 1) := by decide +kernel
theorem d_L_law_971 : decode (mCd M_L_law) 971 = .ok (.iadd, 1) := by decide +kernel
theorem d_L_law_972 : decode (mCd M_L_law) 972 = .ok (.iaload, 1) := by decide +kernel
theorem d_L_law_973 : decode (mCd M_L_law) 973 = .ok (.invokevirtual 143, 3) := by decide +kernel
theorem d_L_law_976 : decode (mCd M_L_law) 976 = .ok (.aload_n 2, 1) := by decide +kernel
theorem d_L_law_977 : decode (mCd M_L_law) 977 = .ok (.aload_n 0, 1) := by decide +kernel
theorem d_L_law_978 : decode (mCd M_L_law) 978 = .ok (.iload 4, 2) := by decide +kernel
theorem d_L_law_980 : decode (mCd M_L_law) 980 = .ok (.iconst 1, 1) := by decide +kernel
theorem d_L_law_981 : decode (mCd M_L_law) 981 = .ok (.iadd, 1) := by decide +kernel
theorem d_L_law_982 : decode (mCd M_L_law) 982 = .ok (.iaload, 1) := by decide +kernel
theorem d_L_law_983 : decode (mCd M_L_law) 983 = .ok (.invokevirtual 146, 3) := by decide +kernel
theorem d_L_law_986 : decode (mCd M_L_law) 986 = .ok (.if_icmp .eq 486, 3) := by decide +kernel
theorem d_L_law_989 : decode (mCd M_L_law) 989 = .ok (.iconst 0, 1) := by decide +kernel
theorem d_L_law_990 : decode (mCd M_L_law) 990 = .ok (.ireturn, 1) := by decide +kernel
theorem d_L_law_991 : decode (mCd M_L_law) 991 = .ok (.aload_n 1, 1) := by decide +kernel
theorem d_L_law_992 : decode (mCd M_L_law) 992 = .ok (.invokevirtual 147, 3) := by decide +kernel
theorem d_L_law_995 : decode (mCd M_L_law) 995 = .ok (.aload_n 2, 1) := by decide +kernel
theorem d_L_law_996 : decode (mCd M_L_law) 996 = .ok (.invokevirtual 150, 3) := by decide +kernel
theorem d_L_law_999 : decode (mCd M_L_law) 999 = .ok (.if_icmp .eq 473, 3) := by decide +kernel
theorem d_L_law_1002 : decode (mCd M_L_law) 1002 = .ok (.iconst 0, 1) := by decide +kernel
theorem d_L_law_1003 : decode (mCd M_L_law) 1003 = .ok (.ireturn, 1) := by decide +kernel
theorem d_L_law_1004 : decode (mCd M_L_law) 1004 = .ok (.aload_n 1, 1) := by decide +kernel
theorem d_L_law_1005 : decode (mCd M_L_law) 1005 = .ok (.invokevirtual 151, 3) := by decide +kernel
theorem d_L_law_1008 : decode (mCd M_L_law) 1008 = .ok (.aload_n 2, 1) := by decide +kernel
theorem d_L_law_1009 : decode (mCd M_L_law) 1009 = .ok (.invokevirtual 154, 3) := by decide +kernel
theorem d_L_law_1012 : decode (mCd M_L_law) 1012 = .ok (.if_icmp .eq 460, 3) := by decide +kernel
theorem d_L_law_1015 : decode (mCd M_L_law) 1015 = .ok (.iconst 0, 1) := by decide +kernel
theorem d_L_law_1016 : decode (mCd M_L_law) 1016 = .ok (.ireturn, 1) := by decide +kernel
theorem d_L_law_1017 : decode (mCd M_L_law) 1017 = .ok (.aload_n 1, 1) := by decide +kernel
theorem d_L_law_1018 : decode (mCd M_L_law) 1018 = .ok (.invokevirtual 155, 3) := by decide +kernel
theorem d_L_law_1021 : decode (mCd M_L_law) 1021 = .ok (.aload_n 2, 1) := by decide +kernel
theorem d_L_law_1022 : decode (mCd M_L_law) 1022 = .ok (.invokevirtual 158, 3) := by decide +kernel
theorem d_L_law_1025 : decode (mCd M_L_law) 1025 = .ok (.if_icmp .eq 447, 3) := by decide +kernel
theorem d_L_law_1028 : decode (mCd M_L_law) 1028 = .ok (.iconst 0, 1) := by decide +kernel
theorem d_L_law_1029 : decode (mCd M_L_law) 1029 = .ok (.ireturn, 1) := by decide +kernel
theorem d_L_law_1030 : decode (mCd M_L_law) 1030 = .ok (.aload_n 1, 1) := by decide +kernel
theorem d_L_law_1031 : decode (mCd M_L_law) 1031 = .ok (.aload_n 0, 1) := by decide +kernel
theorem d_L_law_1032 : decode (mCd M_L_law) 1032 = .ok (.iload 4, 2) := by decide +kernel
theorem d_L_law_1034 : decode (mCd M_L_law) 1034 = .ok (.iconst 1, 1) := by decide +kernel
theorem d_L_law_1035 : decode (mCd M_L_law) 1035 = .ok (.iadd, 1) := by decide +kernel
theorem d_L_law_1036 : decode (mCd M_L_law) 1036 = .ok (.iaload, 1) := by decide +kernel
theorem d_L_law_1037 : decode (mCd M_L_law) 1037 = .ok (.invokevirtual 159, 3) := by decide +kernel
theorem d_L_law_1040 : decode (mCd M_L_law) 1040 = .ok (.aload_n 2, 1) := by decide +kernel
theorem d_L_law_1041 : decode (mCd M_L_law) 1041 = .ok (.aload_n 0, 1) := by decide +kernel
theorem d_L_law_1042 : decode (mCd M_L_law) 1042 = .ok (.iload 4, 2) := by decide +kernel
theorem d_L_law_1044 : decode (mCd M_L_law) 1044 = .ok (.iconst 1, 1) := by decide +kernel
theorem d_L_law_1045 : decode (mCd M_L_law) 1045 = .ok (.iadd, 1) := by decide +kernel
theorem d_L_law_1046 : decode (mCd M_L_law) 1046 = .ok (.iaload, 1) := by decide +kernel
theorem d_L_law_1047 : decode (mCd M_L_law) 1047 = .ok (.invokevirtual 162, 3) := by decide +kernel
theorem d_L_law_1050 : decode (mCd M_L_law) 1050 = .ok (.if_icmp .eq 422, 3) := by decide +kernel
theorem d_L_law_1053 : decode (mCd M_L_law) 1053 = .ok (.iconst 0, 1) := by decide +kernel
theorem d_L_law_1054 : decode (mCd M_L_law) 1054 = .ok (.ireturn, 1) := by decide +kernel
theorem d_L_law_1055 : decode (mCd M_L_law) 1055 = .ok (.aload_n 1, 1) := by decide +kernel
theorem d_L_law_1056 : decode (mCd M_L_law) 1056 = .ok (.aload_n 0, 1) := by decide +kernel
theorem d_L_law_1057 : decode (mCd M_L_law) 1057 = .ok (.iload 4, 2) := by decide +kernel
theorem d_L_law_1059 : decode (mCd M_L_law) 1059 = .ok (.iconst 1, 1) := by decide +kernel
theorem d_L_law_1060 : decode (mCd M_L_law) 1060 = .ok (.iadd, 1) := by decide +kernel
theorem d_L_law_1061 : decode (mCd M_L_law) 1061 = .ok (.iaload, 1) := by decide +kernel
theorem d_L_law_1062 : decode (mCd M_L_law) 1062 = .ok (.aload_n 0, 1) := by decide +kernel
theorem d_L_law_1063 : decode (mCd M_L_law) 1063 = .ok (.iload 4, 2) := by decide +kernel
theorem d_L_law_1065 : decode (mCd M_L_law) 1065 = .ok (.iconst 2, 1) := by decide +kernel
theorem d_L_law_1066 : decode (mCd M_L_law) 1066 = .ok (.iadd, 1) := by decide +kernel
theorem d_L_law_1067 : decode (mCd M_L_law) 1067 = .ok (.iaload, 1) := by decide +kernel
theorem d_L_law_1068 : decode (mCd M_L_law) 1068 = .ok (.aload_n 0, 1) := by decide +kernel
theorem d_L_law_1069 : decode (mCd M_L_law) 1069 = .ok (.iload 4, 2) := by decide +kernel
theorem d_L_law_1071 : decode (mCd M_L_law) 1071 = .ok (.iconst 3, 1) := by decide +kernel
theorem d_L_law_1072 : decode (mCd M_L_law) 1072 = .ok (.iadd, 1) := by decide +kernel
theorem d_L_law_1073 : decode (mCd M_L_law) 1073 = .ok (.iaload, 1) := by decide +kernel
theorem d_L_law_1074 : decode (mCd M_L_law) 1074 = .ok (.invokevirtual 163, 3) := by decide +kernel
theorem d_L_law_1077 : decode (mCd M_L_law) 1077 = .ok (.aload_n 2, 1) := by decide +kernel
theorem d_L_law_1078 : decode (mCd M_L_law) 1078 = .ok (.aload_n 0, 1) := by decide +kernel
theorem d_L_law_1079 : decode (mCd M_L_law) 1079 = .ok (.iload 4, 2) := by decide +kernel
theorem d_L_law_1081 : decode (mCd M_L_law) 1081 = .ok (.iconst 1, 1) := by decide +kernel
theorem d_L_law_1082 : decode (mCd M_L_law) 1082 = .ok (.iadd, 1) := by decide +kernel
theorem d_L_law_1083 : decode (mCd M_L_law) 1083 = .ok (.iaload, 1) := by decide +kernel
theorem d_L_law_1084 : decode (mCd M_L_law) 1084 = .ok (.aload_n 0, 1) := by decide +kernel
theorem d_L_law_1085 : decode (mCd M_L_law) 1085 = .ok (.iload 4, 2) := by decide +kernel
theorem d_L_law_1087 : decode (mCd M_L_law) 1087 = .ok (.iconst 2, 1) := by decide +kernel
theorem d_L_law_1088 : decode (mCd M_L_law) 1088 = .ok (.iadd, 1) := by decide +kernel
theorem d_L_law_1089 : decode (mCd M_L_law) 1089 = .ok (.iaload, 1) := by decide +kernel
theorem d_L_law_1090 : decode (mCd M_L_law) 1090 = .ok (.aload_n 0, 1) := by decide +kernel
theorem d_L_law_1091 : decode (mCd M_L_law) 1091 = .ok (.iload 4, 2) := by decide +kernel
theorem d_L_law_1093 : decode (mCd M_L_law) 1093 = .ok (.iconst 3, 1) := by decide +kernel
theorem d_L_law_1094 : decode (mCd M_L_law) 1094 = .ok (.iadd, 1) := by decide +kernel
theorem d_L_law_1095 : decode (mCd M_L_law) 1095 = .ok (.iaload, 1) := by decide +kernel
theorem d_L_law_1096 : decode (mCd M_L_law) 1096 = .ok (.invokevirtual 166, 3) := by decide +kernel
theorem d_L_law_1099 : decode (mCd M_L_law) 1099 = .ok (.if_icmp .eq 373, 3) := by decide +kernel
theorem d_L_law_1102 : decode (mCd M_L_law) 1102 = .ok (.iconst 0, 1) := by decide +kernel
theorem d_L_law_1103 : decode (mCd M_L_law) 1103 = .ok (.ireturn, 1) := by decide +kernel
theorem d_L_law_1104 : decode (mCd M_L_law) 1104 = .ok (.aload_n 1, 1) := by decide +kernel
theorem d_L_law_1105 : decode (mCd M_L_law) 1105 = .ok (.invokevirtual 167, 3) := by decide +kernel
theorem d_L_law_1108 : decode (mCd M_L_law) 1108 = .ok (.aload_n 2, 1) := by decide +kernel
theorem d_L_law_1109 : decode (mCd M_L_law) 1109 = .ok (.invokevirtual 170, 3) := by decide +kernel
theorem d_L_law_1112 : decode (mCd M_L_law) 1112 = .ok (.if_icmp .eq 360, 3) := by decide +kernel
theorem d_L_law_1115 : decode (mCd M_L_law) 1115 = .ok (.iconst 0, 1) := by decide +kernel
theorem d_L_law_1116 : decode (mCd M_L_law) 1116 = .ok (.ireturn, 1) := by decide +kernel
theorem d_L_law_1117 : decode (mCd M_L_law) 1117 = .ok (.aload_n 1, 1) := by decide +kernel
theorem d_L_law_1118 : decode (mCd M_L_law) 1118 = .ok (.invokevirtual 171, 3) := by decide +kernel
theorem d_L_law_1121 : decode (mCd M_L_law) 1121 = .ok (.aload_n 2, 1) := by decide +kernel
theorem d_L_law_1122 : decode (mCd M_L_law) 1122 = .ok (.invokevirtual 174, 3) := by decide +kernel
theorem d_L_law_1125 : decode (mCd M_L_law) 1125 = .ok (.if_icmp .eq 347, 3) := by decide +kernel
theorem d_L_law_1128 : decode (mCd M_L_law) 1128 = .ok (.iconst 0, 1) := by decide +kernel
theorem d_L_law_1129 : decode (mCd M_L_law) 1129 = .ok (.ireturn, 1) := by decide +kernel
theorem d_L_law_1130 : decode (mCd M_L_law) 1130 = .ok (.aload_n 1, 1) := by decide +kernel
theorem d_L_law_1131 : decode (mCd M_L_law) 1131 = .ok (.invokevirtual 175, 3) := by decide +kernel
theorem d_L_law_1134 : decode (mCd M_L_law) 1134 = .ok (.aload_n 2, 1) := by decide +kernel
theorem d_L_law_1135 : decode (mCd M_L_law) 1135 = .ok (.invokevirtual 178, 3) := by decide +kernel
theorem d_L_law_1138 : decode (mCd M_L_law) 1138 = .ok (.if_icmp .eq 334, 3) := by decide +kernel
theorem d_L_law_1141 : decode (mCd M_L_law) 1141 = .ok (.iconst 0, 1) := by decide +kernel
theorem d_L_law_1142 : decode (mCd M_L_law) 1142 = .ok (.ireturn, 1) := by decide +kernel
theorem d_L_law_1143 : decode (mCd M_L_law) 1143 = .ok (.aload_n 1, 1) := by decide +kernel
theorem d_L_law_1144 : decode (mCd M_L_law) 1144 = .ok (.aload_n 0, 1) := by decide +kernel
theorem d_L_law_1145 : decode (mCd M_L_law) 1145 = .ok (.iload 4, 2) := by decide +kernel
theorem d_L_law_1147 : decode (mCd M_L_law) 1147 = .ok (.iconst 1, 1) := by decide +kernel
theorem d_L_law_1148 : decode (mCd M_L_law) 1148 = .ok (.iadd, 1) := by decide +kernel
theorem d_L_law_1149 : decode (mCd M_L_law) 1149 = .ok (.iaload, 1) := by decide +kernel
theorem d_L_law_1150 : decode (mCd M_L_law) 1150 = .ok (.aload_n 0, 1) := by decide +kernel
theorem d_L_law_1151 : decode (mCd M_L_law) 1151 = .ok (.iload 4, 2) := by decide +kernel
theorem d_L_law_1153 : decode (mCd M_L_law) 1153 = .ok (.iconst 2, 1) := by decide +kernel
theorem d_L_law_1154 : decode (mCd M_L_law) 1154 = .ok (.iadd, 1) := by decide +kernel
theorem d_L_law_1155 : decode (mCd M_L_law) 1155 = .ok (.iaload, 1) := by decide +kernel
theorem d_L_law_1156 : decode (mCd M_L_law) 1156 = .ok (.invokevirtual 179, 3) := by decide +kernel
theorem d_L_law_1159 : decode (mCd M_L_law) 1159 = .ok (.aload_n 2, 1) := by decide +kernel
theorem d_L_law_1160 : decode (mCd M_L_law) 1160 = .ok (.aload_n 0, 1) := by decide +kernel
theorem d_L_law_1161 : decode (mCd M_L_law) 1161 = .ok (.iload 4, 2) := by decide +kernel
theorem d_L_law_1163 : decode (mCd M_L_law) 1163 = .ok (.iconst 1, 1) := by decide +kernel
theorem d_L_law_1164 : decode (mCd M_L_law) 1164 = .ok (.iadd, 1) := by decide +kernel
theorem d_L_law_1165 : decode (mCd M_L_law) 1165 = .ok (.iaload, 1) := by decide +kernel
theorem d_L_law_1166 : decode (mCd M_L_law) 1166 = .ok (.aload_n 0, 1) := by decide +kernel
theorem d_L_law_1167 : decode (mCd M_L_law) 1167 = .ok (.iload 4, 2) := by decide +kernel
theorem d_L_law_1169 : decode (mCd M_L_law) 1169 = .ok (.iconst 2, 1) := by decide +kernel
theorem d_L_law_1170 : decode (mCd M_L_law) 1170 = .ok (.iadd, 1) := by decide +kernel
theorem d_L_law_1171 : decode (mCd M_L_law) 1171 = .ok (.iaload, 1) := by decide +kernel
theorem d_L_law_1172 : decode (mCd M_L_law) 1172 = .ok (.invokevirtual 182, 3) := by decide +kernel
theorem d_L_law_1175 : decode (mCd M_L_law) 1175 = .ok (.if_icmp .eq 297, 3) := by decide +kernel
theorem d_L_law_1178 : decode (mCd M_L_law) 1178 = .ok (.iconst 0, 1) := by decide +kernel
theorem d_L_law_1179 : decode (mCd M_L_law) 1179 = .ok (.ireturn, 1) := by decide +kernel
theorem d_L_law_1180 : decode (mCd M_L_law) 1180 = .ok (.aload_n 1, 1) := by decide +kernel
theorem d_L_law_1181 : decode (mCd M_L_law) 1181 = .ok (.invokevirtual 183, 3) := by decide +kernel
theorem d_L_law_1184 : decode (mCd M_L_law) 1184 = .ok (.aload_n 2, 1) := by decide +kernel
theorem d_L_law_1185 : decode (mCd M_L_law) 1185 = .ok (.invokevirtual 186, 3) := by decide +kernel
theorem d_L_law_1188 : decode (mCd M_L_law) 1188 = .ok (.if_icmp .eq 284, 3) := by decide +kernel
theorem d_L_law_1191 : decode (mCd M_L_law) 1191 = .ok (.iconst 0, 1) := by decide +kernel
theorem d_L_law_1192 : decode (mCd M_L_law) 1192 = .ok (.ireturn, 1) := by decide +kernel
theorem d_L_law_1193 : decode (mCd M_L_law) 1193 = .ok (.aload_n 1, 1) := by decide +kernel
theorem d_L_law_1194 : decode (mCd M_L_law) 1194 = .ok (.aload_n 0, 1) := by decide +kernel
theorem d_L_law_1195 : decode (mCd M_L_law) 1195 = .ok (.iload 4, 2) := by decide +kernel
theorem d_L_law_1197 : decode (mCd M_L_law) 1197 = .ok (.iconst 1, 1) := by decide +kernel
theorem d_L_law_1198 : decode (mCd M_L_law) 1198 = .ok (.iadd, 1) := by decide +kernel
theorem d_L_law_1199 : decode (mCd M_L_law) 1199 = .ok (.iaload, 1) := by decide +kernel
theorem d_L_law_1200 : decode (mCd M_L_law) 1200 = .ok (.aload_n 0, 1) := by decide +kernel
theorem d_L_law_1201 : decode (mCd M_L_law) 1201 = .ok (.iload 4, 2) := by decide +kernel
theorem d_L_law_1203 : decode (mCd M_L_law) 1203 = .ok (.iconst 2, 1) := by decide +kernel
theorem d_L_law_1204 : decode (mCd M_L_law) 1204 = .ok (.iadd, 1) := by decide +kernel
theorem d_L_law_1205 : decode (mCd M_L_law) 1205 = .ok (.iaload, 1) := by decide +kernel
theorem d_L_law_1206 : decode (mCd M_L_law) 1206 = .ok (.invokevirtual 187, 3) := by decide +kernel
theorem d_L_law_1209 : decode (mCd M_L_law) 1209 = .ok (.aload_n 2, 1) := by decide +kernel
theorem d_L_law_1210 : decode (mCd M_L_law) 1210 = .ok (.aload_n 0, 1) := by decide +kernel
theorem d_L_law_1211 : decode (mCd M_L_law) 1211 = .ok (.iload 4, 2) := by decide +kernel
theorem d_L_law_1213 : decode (mCd M_L_law) 1213 = .ok (.iconst 1, 1) := by decide +kernel
theorem d_L_law_1214 : decode (mCd M_L_law) 1214 = .ok (.iadd, 1) := by decide +kernel
theorem d_L_law_1215 : decode (mCd M_L_law) 1215 = .ok (.iaload, 1) := by decide +kernel
theorem d_L_law_1216 : decode (mCd M_L_law) 1216 = .ok (.aload_n 0, 1) := by decide +kernel
theorem d_L_law_1217 : decode (mCd M_L_law) 1217 = .ok (.iload 4, 2) := by decide +kernel
theorem d_L_law_1219 : decode (mCd M_L_law) 1219 = .ok (.iconst 2, 1) := by decide +kernel
theorem d_L_law_1220 : decode (mCd M_L_law) 1220 = .ok (.iadd, 1) := by decide +kernel
theorem d_L_law_1221 : decode (mCd M_L_law) 1221 = .ok (.iaload, 1) := by decide +kernel
theorem d_L_law_1222 : decode (mCd M_L_law) 1222 = .ok (.invokevirtual 190, 3) := by decide +kernel
theorem d_L_law_1225 : decode (mCd M_L_law) 1225 = .ok (.if_icmp .eq 247, 3) := by decide +kernel
theorem d_L_law_1228 : decode (mCd M_L_law) 1228 = .ok (.iconst 0, 1) := by decide +kernel
theorem d_L_law_1229 : decode (mCd M_L_law) 1229 = .ok (.ireturn, 1) := by decide +kernel
theorem d_L_law_1230 : decode (mCd M_L_law) 1230 = .ok (.aload_n 1, 1) := by decide +kernel
theorem d_L_law_1231 : decode (mCd M_L_law) 1231 = .ok (.aload_n 0, 1) := by decide +kernel
theorem d_L_law_1232 : decode (mCd M_L_law) 1232 = .ok (.iload 4, 2) := by decide +kernel
theorem d_L_law_1234 : decode (mCd M_L_law) 1234 = .ok (.iconst 1, 1) := by decide +kernel
theorem d_L_law_1235 : decode (mCd M_L_law) 1235 = .ok (.iadd, 1) := by decide +kernel
theorem d_L_law_1236 : decode (mCd M_L_law) 1236 = .ok (.iaload, 1) := by decide +kernel
theorem d_L_law_1237 : decode (mCd M_L_law) 1237 = .ok (.aload_n 0, 1) := by decide +kernel
theorem d_L_law_1238 : decode (mCd M_L_law) 1238 = .ok (.iload 4, 2) := by decide +kernel
theorem d_L_law_1240 : decode (mCd M_L_law) 1240 = .ok (.iconst 2, 1) := by decide +kernel
theorem d_L_law_1241 : decode (mCd M_L_law) 1241 = .ok (.iadd, 1) := by decide +kernel
theorem d_L_law_1242 : decode (mCd M_L_law) 1242 = .ok (.iaload, 1) := by decide +kernel
theorem d_L_law_1243 : decode (mCd M_L_law) 1243 = .ok (.invokevirtual 191, 3) := by decide +kernel
theorem d_L_law_1246 : decode (mCd M_L_law) 1246 = .ok (.aload_n 2, 1) := by decide +kernel
theorem d_L_law_1247 : decode (mCd M_L_law) 1247 = .ok (.aload_n 0, 1) := by decide +kernel
theorem d_L_law_1248 : decode (mCd M_L_law) 1248 = .ok (.iload 4, 2) := by decide +kernel
theorem d_L_law_1250 : decode (mCd M_L_law) 1250 = .ok (.iconst 1, 1) := by decide +kernel
theorem d_L_law_1251 : decode (mCd M_L_law) 1251 = .ok (.iadd, 1) := by decide +kernel
theorem d_L_law_1252 : decode (mCd M_L_law) 1252 = .ok (.iaload, 1) := by decide +kernel
theorem d_L_law_1253 : decode (mCd M_L_law) 1253 = .ok (.aload_n 0, 1) := by decide +kernel
theorem d_L_law_1254 : decode (mCd M_L_law) 1254 = .ok (.iload 4, 2) := by decide +kernel
theorem d_L_law_1256 : decode (mCd M_L_law) 1256 = .ok (.iconst 2, 1) := by decide +kernel
theorem d_L_law_1257 : decode (mCd M_L_law) 1257 = .ok (.iadd, 1) := by decide +kernel
theorem d_L_law_1258 : decode (mCd M_L_law) 1258 = .ok (.iaload, 1) := by decide +kernel
theorem d_L_law_1259 : decode (mCd M_L_law) 1259 = .ok (.invokevirtual 194, 3) := by decide +kernel
theorem d_L_law_1262 : decode (mCd M_L_law) 1262 = .ok (.if_icmp .eq 210, 3) := by decide +kernel
theorem d_L_law_1265 : decode (mCd M_L_law) 1265 = .ok (.iconst 0, 1) := by decide +kernel
theorem d_L_law_1266 : decode (mCd M_L_law) 1266 = .ok (.ireturn, 1) := by decide +kernel
theorem d_L_law_1267 : decode (mCd M_L_law) 1267 = .ok (.aload_n 1, 1) := by decide +kernel
theorem d_L_law_1268 : decode (mCd M_L_law) 1268 = .ok (.invokevirtual 195, 3) := by decide +kernel
theorem d_L_law_1271 : decode (mCd M_L_law) 1271 = .ok (.aload_n 2, 1) := by decide +kernel
theorem d_L_law_1272 : decode (mCd M_L_law) 1272 = .ok (.invokevirtual 198, 3) := by decide +kernel
theorem d_L_law_1275 : decode (mCd M_L_law) 1275 = .ok (.if_icmp .eq 197, 3) := by decide +kernel
theorem d_L_law_1278 : decode (mCd M_L_law) 1278 = .ok (.iconst 0, 1) := by decide +kernel
theorem d_L_law_1279 : decode (mCd M_L_law) 1279 = .ok (.ireturn, 1) := by decide +kernel
theorem d_L_law_1280 : decode (mCd M_L_law) 1280 = .ok (.aload_n 1, 1) := by decide +kernel
theorem d_L_law_1281 : decode (mCd M_L_law) 1281 = .ok (.aload_n 0, 1) := by decide +kernel
theorem d_L_law_1282 : decode (mCd M_L_law) 1282 = .ok (.iload 4, 2) := by decide +kernel
theorem d_L_law_1284 : decode (mCd M_L_law) 1284 = .ok (.iconst 1, 1) := by decide +kernel
theorem d_L_law_1285 : decode (mCd M_L_law) 1285 = .ok (.iadd, 1) := by decide +kernel
theorem d_L_law_1286 : decode (mCd M_L_law) 1286 = .ok (.iaload, 1) := by decide +kernel
theorem d_L_law_1287 : decode (mCd M_L_law) 1287 = .ok (.invokevirtual 199, 3) := by decide +kernel
theorem d_L_law_1290 : decode (mCd M_L_law) 1290 = .ok (.aload_n 2, 1) := by decide +kernel
theorem d_L_law_1291 : decode (mCd M_L_law) 1291 = .ok (.aload_n 0, 1) := by decide +kernel
theorem d_L_law_1292 : decode (mCd M_L_law) 1292 = .ok (.iload 4, 2) := by decide +kernel
theorem d_L_law_1294 : decode (mCd M_L_law) 1294 = .ok (.iconst 1, 1) := by decide +kernel
theorem d_L_law_1295 : decode (mCd M_L_law) 1295 = .ok (.iadd, 1) := by decide +kernel
theorem d_L_law_1296 : decode (mCd M_L_law) 1296 = .ok (.iaload, 1) := by decide +kernel
theorem d_L_law_1297 : decode (mCd M_L_law) 1297 = .ok (.invokevirtual 202, 3) := by decide +kernel
theorem d_L_law_1300 : decode (mCd M_L_law) 1300 = .ok (.if_icmp .eq 172, 3) := by decide +kernel
theorem d_L_law_1303 : decode (mCd M_L_law) 1303 = .ok (.iconst 0, 1) := by decide +kernel
theorem d_L_law_1304 : decode (mCd M_L_law) 1304 = .ok (.ireturn, 1) := by decide +kernel
theorem d_L_law_1305 : decode (mCd M_L_law) 1305 = .ok (.aload_n 1, 1) := by decide +kernel
theorem d_L_law_1306 : decode (mCd M_L_law) 1306 = .ok (.aload_n 0, 1) := by decide +kernel
theorem d_L_law_1307 : decode (mCd M_L_law) 1307 = .ok (.iload 4, 2) := by decide +kernel
theorem d_L_law_1309 : decode (mCd M_L_law) 1309 = .ok (.iconst 1, 1) := by decide +kernel
theorem d_L_law_1310 : decode (mCd M_L_law) 1310 = .ok (.iadd, 1) := by decide +kernel
theorem d_L_law_1311 : decode (mCd M_L_law) 1311 = .ok (.iaload, 1) := by decide +kernel
theorem d_L_law_1312 : decode (mCd M_L_law) 1312 = .ok (.aload_n 0, 1) := by decide +kernel
theorem d_L_law_1313 : decode (mCd M_L_law) 1313 = .ok (.iload 4, 2) := by decide +kernel
theorem d_L_law_1315 : decode (mCd M_L_law) 1315 = .ok (.iconst 2, 1) := by decide +kernel
theorem d_L_law_1316 : decode (mCd M_L_law) 1316 = .ok (.iadd, 1) := by decide +kernel
theorem d_L_law_1317 : decode (mCd M_L_law) 1317 = .ok (.iaload, 1) := by decide +kernel
theorem d_L_law_1318 : decode (mCd M_L_law) 1318 = .ok (.invokevirtual 203, 3) := by decide +kernel
theorem d_L_law_1321 : decode (mCd M_L_law) 1321 = .ok (.aload_n 2, 1) := by decide +kernel
theorem d_L_law_1322 : decode (mCd M_L_law) 1322 = .ok (.aload_n 0, 1) := by decide +kernel
theorem d_L_law_1323 : decode (mCd M_L_law) 1323 = .ok (.iload 4, 2) := by decide +kernel
theorem d_L_law_1325 : decode (mCd M_L_law) 1325 = .ok (.iconst 1, 1) := by decide +kernel
theorem d_L_law_1326 : decode (mCd M_L_law) 1326 = .ok (.iadd, 1) := by decide +kernel
theorem d_L_law_1327 : decode (mCd M_L_law) 1327 = .ok (.iaload, 1) := by decide +kernel
theorem d_L_law_1328 : decode (mCd M_L_law) 1328 = .ok (.aload_n 0, 1) := by decide +kernel
theorem d_L_law_1329 : decode (mCd M_L_law) 1329 = .ok (.iload 4, 2) := by decide +kernel
theorem d_L_law_1331 : decode (mCd M_L_law) 1331 = .ok (.iconst 2, 1) := by decide +kernel
theorem d_L_law_1332 : decode (mCd M_L_law) 1332 = .ok (.iadd, 1) := by decide +kernel
theorem d_L_law_1333 : decode (mCd M_L_law) 1333 = .ok (.iaload, 1) := by decide +kernel
theorem d_L_law_1334 : decode (mCd M_L_law) 1334 = .ok (.invokevirtual 206, 3) := by decide +kernel
theorem d_L_law_1337 : decode (mCd M_L_law) 1337 = .ok (.if_icmp .eq 135, 3) := by decide +kernel
theorem d_L_law_1340 : decode (mCd M_L_law) 1340 = .ok (.iconst 0, 1) := by decide +kernel
theorem d_L_law_1341 : decode (mCd M_L_law) 1341 = .ok (.ireturn, 1) := by decide +kernel
theorem d_L_law_1342 : decode (mCd M_L_law) 1342 = .ok (.aload_n 1, 1) := by decide +kernel
theorem d_L_law_1343 : decode (mCd M_L_law) 1343 = .ok (.aload_n 0, 1) := by decide +kernel
theorem d_L_law_1344 : decode (mCd M_L_law) 1344 = .ok (.iload 4, 2) := by decide +kernel
theorem d_L_law_1346 : decode (mCd M_L_law) 1346 = .ok (.iconst 1, 1) := by decide +kernel
theorem d_L_law_1347 : decode (mCd M_L_law) 1347 = .ok (.iadd, 1) := by decide +kernel
theorem d_L_law_1348 : decode (mCd M_L_law) 1348 = .ok (.iaload, 1) := by decide +kernel
theorem d_L_law_1349 : decode (mCd M_L_law) 1349 = .ok (.invokevirtual 207, 3) := by decide +kernel
theorem d_L_law_1352 : decode (mCd M_L_law) 1352 = .ok (.aload_n 2, 1) := by decide +kernel
theorem d_L_law_1353 : decode (mCd M_L_law) 1353 = .ok (.aload_n 0, 1) := by decide +kernel
theorem d_L_law_1354 : decode (mCd M_L_law) 1354 = .ok (.iload 4, 2) := by decide +kernel
theorem d_L_law_1356 : decode (mCd M_L_law) 1356 = .ok (.iconst 1, 1) := by decide +kernel
theorem d_L_law_1357 : decode (mCd M_L_law) 1357 = .ok (.iadd, 1) := by decide +kernel
theorem d_L_law_1358 : decode (mCd M_L_law) 1358 = .ok (.iaload, 1) := by decide +kernel
theorem d_L_law_1359 : decode (mCd M_L_law) 1359 = .ok (.invokevirtual 210, 3) := by decide +kernel
theorem d_L_law_1362 : decode (mCd M_L_law) 1362 = .ok (.if_icmp .eq 110, 3) := by decide +kernel
theorem d_L_law_1365 : decode (mCd M_L_law) 1365 = .ok (.iconst 0, 1) := by decide +kernel
theorem d_L_law_1366 : decode (mCd M_L_law) 1366 = .ok (.ireturn, 1) := by decide +kernel
theorem d_L_law_1367 : decode (mCd M_L_law) 1367 = .ok (.aload_n 1, 1) := by decide +kernel
theorem d_L_law_1368 : decode (mCd M_L_law) 1368 = .ok (.aload_n 0, 1) := by decide +kernel
theorem d_L_law_1369 : decode (mCd M_L_law) 1369 = .ok (.iload 4, 2) := by decide +kernel
theorem d_L_law_1371 : decode (mCd M_L_law) 1371 = .ok (.iconst 1, 1) := by decide +kernel
theorem d_L_law_1372 : decode (mCd M_L_law) 1372 = .ok (.iadd, 1) := by decide +kernel
theorem d_L_law_1373 : decode (mCd M_L_law) 1373 = .ok (.iaload, 1) := by decide +kernel
theorem d_L_law_1374 : decode (mCd M_L_law) 1374 = .ok (.invokevirtual 211, 3) := by decide +kernel
theorem d_L_law_1377 : decode (mCd M_L_law) 1377 = .ok (.aload_n 2, 1) := by decide +kernel
theorem d_L_law_1378 : decode (mCd M_L_law) 1378 = .ok (.aload_n 0, 1) := by decide +kernel
theorem d_L_law_1379 : decode (mCd M_L_law) 1379 = .ok (.iload 4, 2) := by decide +kernel
theorem d_L_law_1381 : decode (mCd M_L_law) 1381 = .ok (.iconst 1, 1) := by decide +kernel
theorem d_L_law_1382 : decode (mCd M_L_law) 1382 = .ok (.iadd, 1) := by decide +kernel
theorem d_L_law_1383 : decode (mCd M_L_law) 1383 = .ok (.iaload, 1) := by decide +kernel
theorem d_L_law_1384 : decode (mCd M_L_law) 1384 = .ok (.invokevirtual 214, 3) := by decide +kernel
theorem d_L_law_1387 : decode (mCd M_L_law) 1387 = .ok (.if_icmp .eq 85, 3) := by decide +kernel
theorem d_L_law_1390 : decode (mCd M_L_law) 1390 = .ok (.iconst 0, 1) := by decide +kernel
theorem d_L_law_1391 : decode (mCd M_L_law) 1391 = .ok (.ireturn, 1) := by decide +kernel
theorem d_L_law_1392 : decode (mCd M_L_law) 1392 = .ok (.aload_n 1, 1) := by decide +kernel
theorem d_L_law_1393 : decode (mCd M_L_law) 1393 = .ok (.aload_n 0, 1) := by decide +kernel
theorem d_L_law_1394 : decode (mCd M_L_law) 1394 = .ok (.iload 4, 2) := by decide +kernel
theorem d_L_law_1396 : decode (mCd M_L_law) 1396 = .ok (.iconst 1, 1) := by decide +kernel
theorem d_L_law_1397 : decode (mCd M_L_law) 1397 = .ok (.iadd, 1) := by decide +kernel
theorem d_L_law_1398 : decode (mCd M_L_law) 1398 = .ok (.iaload, 1) := by decide +kernel
theorem d_L_law_1399 : decode (mCd M_L_law) 1399 = .ok (.invokevirtual 215, 3) := by decide +kernel
theorem d_L_law_1402 : decode (mCd M_L_law) 1402 = .ok (.aload_n 2, 1) := by decide +kernel
theorem d_L_law_1403 : decode (mCd M_L_law) 1403 = .ok (.aload_n 0, 1) := by decide +kernel
theorem d_L_law_1404 : decode (mCd M_L_law) 1404 = .ok (.iload 4, 2) := by decide +kernel
theorem d_L_law_1406 : decode (mCd M_L_law) 1406 = .ok (.iconst 1, 1) := by decide +kernel
theorem d_L_law_1407 : decode (mCd M_L_law) 1407 = .ok (.iadd, 1) := by decide +kernel
theorem d_L_law_1408 : decode (mCd M_L_law) 1408 = .ok (.iaload, 1) := by decide +kernel
theorem d_L_law_1409 : decode (mCd M_L_law) 1409 = .ok (.invokevirtual 218, 3) := by decide +kernel
theorem d_L_law_1412 : decode (mCd M_L_law) 1412 = .ok (.if_icmp .eq 60, 3) := by decide +kernel
theorem d_L_law_1415 : decode (mCd M_L_law) 1415 = .ok (.iconst 0, 1) := by decide +kernel
theorem d_L_law_1416 : decode (mCd M_L_law) 1416 = .ok (.ireturn, 1) := by decide +kernel
theorem d_L_law_1417 : decode (mCd M_L_law) 1417 = .ok (.aload_n 1, 1) := by decide +kernel
theorem d_L_law_1418 : decode (mCd M_L_law) 1418 = .ok (.aload_n 0, 1) := by decide +kernel
theorem d_L_law_1419 : decode (mCd M_L_law) 1419 = .ok (.iload 4, 2) := by decide +kernel
theorem d_L_law_1421 : decode (mCd M_L_law) 1421 = .ok (.iconst 1, 1) := by decide +kernel
theorem d_L_law_1422 : decode (mCd M_L_law) 1422 = .ok (.iadd, 1) := by decide +kernel
theorem d_L_law_1423 : decode (mCd M_L_law) 1423 = .ok (.iaload, 1) := by decide +kernel
theorem d_L_law_1424 : decode (mCd M_L_law) 1424 = .ok (.aload_n 3, 1) := by decide +kernel
theorem d_L_law_1425 : decode (mCd M_L_law) 1425 = .ok (.invokestatic 219, 3) := by decide +kernel
theorem d_L_law_1428 : decode (mCd M_L_law) 1428 = .ok (.istore 5, 2) := by decide +kernel
theorem d_L_law_1430 : decode (mCd M_L_law) 1430 = .ok (.aload_n 2, 1) := by decide +kernel
theorem d_L_law_1431 : decode (mCd M_L_law) 1431 = .ok (.aload_n 0, 1) := by decide +kernel
theorem d_L_law_1432 : decode (mCd M_L_law) 1432 = .ok (.iload 4, 2) := by decide +kernel
theorem d_L_law_1434 : decode (mCd M_L_law) 1434 = .ok (.iconst 1, 1) := by decide +kernel
theorem d_L_law_1435 : decode (mCd M_L_law) 1435 = .ok (.iadd, 1) := by decide +kernel
theorem d_L_law_1436 : decode (mCd M_L_law) 1436 = .ok (.iaload, 1) := by decide +kernel
theorem d_L_law_1437 : decode (mCd M_L_law) 1437 = .ok (.invokevirtual 222, 3) := by decide +kernel
theorem d_L_law_1440 : decode (mCd M_L_law) 1440 = .ok (.lstore 6, 2) := by decide +kernel
theorem d_L_law_1442 : decode (mCd M_L_law) 1442 = .ok (.aload_n 2, 1) := by decide +kernel
theorem d_L_law_1443 : decode (mCd M_L_law) 1443 = .ok (.invokevirtual 63, 3) := by decide +kernel
theorem d_L_law_1446 : decode (mCd M_L_law) 1446 = .ok (.iload 5, 2) := by decide +kernel
theorem d_L_law_1448 : decode (mCd M_L_law) 1448 = .ok (.if_icmp .eq 5, 3) := by decide +kernel
theorem d_L_law_1451 : decode (mCd M_L_law) 1451 = .ok (.iconst 0, 1) := by decide +kernel
theorem d_L_law_1452 : decode (mCd M_L_law) 1452 = .ok (.ireturn, 1) := by decide +kernel
theorem d_L_law_1453 : decode (mCd M_L_law) 1453 = .ok (.iload 5, 2) := by decide +kernel
theorem d_L_law_1455 : decode (mCd M_L_law) 1455 = .ok (.ifCond .ne 14, 3) := by decide +kernel
theorem d_L_law_1458 : decode (mCd M_L_law) 1458 = .ok (.aload_n 3, 1) := by decide +kernel
theorem d_L_law_1459 : decode (mCd M_L_law) 1459 = .ok (.iconst 0, 1) := by decide +kernel
theorem d_L_law_1460 : decode (mCd M_L_law) 1460 = .ok (.laload, 1) := by decide +kernel
theorem d_L_law_1461 : decode (mCd M_L_law) 1461 = .ok (.lload 6, 2) := by decide +kernel
theorem d_L_law_1463 : decode (mCd M_L_law) 1463 = .ok (.lcmp, 1) := by decide +kernel
theorem d_L_law_1464 : decode (mCd M_L_law) 1464 = .ok (.ifCond .eq 5, 3) := by decide +kernel
theorem d_L_law_1467 : decode (mCd M_L_law) 1467 = .ok (.iconst 0, 1) := by decide +kernel
theorem d_L_law_1468 : decode (mCd M_L_law) 1468 = .ok (.ireturn, 1) := by decide +kernel
theorem d_L_law_1469 : decode (mCd M_L_law) 1469 = .ok (.goto 3, 3) := by decide +kernel
theorem d_L_law_1472 : decode (mCd M_L_law) 1472 = .ok (.iinc 4 5, 3) := by decide +kernel
theorem d_L_law_1475 : decode (mCd M_L_law) 1475 = .ok (.goto (-1452), 3) := by decide +kernel
theorem d_L_law_1478 : decode (mCd M_L_law) 1478 = .ok (.iconst 1, 1) := by decide +kernel
theorem d_L_law_1479 : decode (mCd M_L_law) 1479 = .ok (.ireturn, 1) := by decide +kernel
theorem d_L_one_0 : decode (mCd M_L_one) 0 = .ok (.aload_n 3, 1) := by decide +kernel
theorem d_L_one_1 : decode (mCd M_L_one) 1 = .ok (.iconst 0, 1) := by decide +kernel
theorem d_L_one_2 : decode (mCd M_L_one) 2 = .ok (.aload_n 0, 1) := by decide +kernel
theorem d_L_one_3 : decode (mCd M_L_one) 3 = .ok (.iload_n 1, 1) := by decide +kernel
theorem d_L_one_4 : decode (mCd M_L_one) 4 = .ok (.iload_n 2, 1) := by decide +kernel
theorem d_L_one_5 : decode (mCd M_L_one) 5 = .ok (.invokevirtual 7, 3) := by decide +kernel
theorem d_L_one_8 : decode (mCd M_L_one) 8 = .ok (.i2l, 1) := by decide +kernel
theorem d_L_one_9 : decode (mCd M_L_one) 9 = .ok (.lastore, 1) := by decide +kernel
theorem d_L_one_10 : decode (mCd M_L_one) 10 = .ok (.goto 7, 3) := by decide +kernel
theorem d_L_one_13 : decode (mCd M_L_one) 13 = .ok (.astore 4, 2) := by decide +kernel
theorem d_L_one_15 : decode (mCd M_L_one) 15 = .ok (.iconst 1, 1) := by decide +kernel
theorem d_L_one_16 : decode (mCd M_L_one) 16 = .ok (.ireturn, 1) := by decide +kernel
theorem d_L_one_17 : decode (mCd M_L_one) 17 = .ok (.iconst 0, 1) := by decide +kernel
theorem d_L_one_18 : decode (mCd M_L_one) 18 = .ok (.ireturn, 1) := by decide +kernel
theorem d_L_field_0 : decode (mCd M_L_field) 0 = .ok (.aload_n 3, 1) := by decide +kernel
theorem d_L_field_1 : decode (mCd M_L_field) 1 = .ok (.iconst 0, 1) := by decide +kernel
theorem d_L_field_2 : decode (mCd M_L_field) 2 = .ok (.aload_n 0, 1) := by decide +kernel
theorem d_L_field_3 : decode (mCd M_L_field) 3 = .ok (.iload_n 1, 1) := by decide +kernel
theorem d_L_field_4 : decode (mCd M_L_field) 4 = .ok (.iload_n 2, 1) := by decide +kernel
theorem d_L_field_5 : decode (mCd M_L_field) 5 = .ok (.invokevirtual 15, 3) := by decide +kernel
theorem d_L_field_8 : decode (mCd M_L_field) 8 = .ok (.i2l, 1) := by decide +kernel
theorem d_L_field_9 : decode (mCd M_L_field) 9 = .ok (.lastore, 1) := by decide +kernel
theorem d_L_field_10 : decode (mCd M_L_field) 10 = .ok (.goto 7, 3) := by decide +kernel
theorem d_L_field_13 : decode (mCd M_L_field) 13 = .ok (.astore 4, 2) := by decide +kernel
theorem d_L_field_15 : decode (mCd M_L_field) 15 = .ok (.iconst 1, 1) := by decide +kernel
theorem d_L_field_16 : decode (mCd M_L_field) 16 = .ok (.ireturn, 1) := by decide +kernel
theorem d_L_field_17 : decode (mCd M_L_field) 17 = .ok (.iconst 0, 1) := by decide +kernel
theorem d_L_field_18 : decode (mCd M_L_field) 18 = .ok (.ireturn, 1) := by decide +kernel
theorem d_L_row_0 : decode (mCd M_L_row) 0 = .ok (.aload_n 2, 1) := by decide +kernel
theorem d_L_row_1 : decode (mCd M_L_row) 1 = .ok (.iconst 0, 1) := by decide +kernel
theorem d_L_row_2 : decode (mCd M_L_row) 2 = .ok (.aload_n 0, 1) := by decide +kernel
theorem d_L_row_3 : decode (mCd M_L_row) 3 = .ok (.iload_n 1, 1) := by decide +kernel
theorem d_L_row_4 : decode (mCd M_L_row) 4 = .ok (.invokevirtual 18, 3) := by decide +kernel
theorem d_L_row_7 : decode (mCd M_L_row) 7 = .ok (.lastore, 1) := by decide +kernel
theorem d_L_row_8 : decode (mCd M_L_row) 8 = .ok (.goto 6, 3) := by decide +kernel
theorem d_L_row_11 : decode (mCd M_L_row) 11 = .ok (.astore_n 3, 1) := by decide +kernel
theorem d_L_row_12 : decode (mCd M_L_row) 12 = .ok (.iconst 1, 1) := by decide +kernel
theorem d_L_row_13 : decode (mCd M_L_row) 13 = .ok (.ireturn, 1) := by decide +kernel
theorem d_L_row_14 : decode (mCd M_L_row) 14 = .ok (.iconst 0, 1) := by decide +kernel
theorem d_L_row_15 : decode (mCd M_L_row) 15 = .ok (.ireturn, 1) := by decide +kernel
