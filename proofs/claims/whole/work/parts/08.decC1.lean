theorem dX12_text_273 : decode cX12_text 273 = .ok (.istore_n 3, 1) := by decide +kernel
theorem dX12_text_274 : decode cX12_text 274 = .ok (.iload_n 3, 1) := by decide +kernel
theorem dX12_text_275 : decode cX12_text 275 = .ok (.bipush 45, 2) := by decide +kernel
theorem dX12_text_277 : decode cX12_text 277 = .ok (.if_icmp .ge 21, 3) := by decide +kernel
theorem dX12_text_280 : decode cX12_text 280 = .ok (.aload_n 0, 1) := by decide +kernel
theorem dX12_text_281 : decode cX12_text 281 = .ok (.getfield 49, 3) := by decide +kernel
theorem dX12_text_284 : decode cX12_text 284 = .ok (.iload_n 3, 1) := by decide +kernel
theorem dX12_text_285 : decode cX12_text 285 = .ok (.aload_n 0, 1) := by decide +kernel
theorem dX12_text_286 : decode cX12_text 286 = .ok (.getfield 52, 3) := by decide +kernel
theorem dX12_text_289 : decode cX12_text 289 = .ok (.iload_n 3, 1) := by decide +kernel
theorem dX12_text_290 : decode cX12_text 290 = .ok (.iaload, 1) := by decide +kernel
theorem dX12_text_291 : decode cX12_text 291 = .ok (.iastore, 1) := by decide +kernel
theorem dX12_text_292 : decode cX12_text 292 = .ok (.iinc 3 1, 3) := by decide +kernel
theorem dX12_text_295 : decode cX12_text 295 = .ok (.goto (-21), 3) := by decide +kernel
theorem dX12_text_298 : decode cX12_text 298 = .ok (.iconst 0, 1) := by decide +kernel
theorem dX12_text_299 : decode cX12_text 299 = .ok (.istore_n 3, 1) := by decide +kernel
theorem dX12_text_300 : decode cX12_text 300 = .ok (.iload_n 3, 1) := by decide +kernel
theorem dX12_text_301 : decode cX12_text 301 = .ok (.sipush 205, 3) := by decide +kernel
theorem dX12_text_304 : decode cX12_text 304 = .ok (.if_icmp .ge 16, 3) := by decide +kernel
theorem dX12_text_307 : decode cX12_text 307 = .ok (.aload_n 0, 1) := by decide +kernel
theorem dX12_text_308 : decode cX12_text 308 = .ok (.getfield 61, 3) := by decide +kernel
theorem dX12_text_311 : decode cX12_text 311 = .ok (.iload_n 3, 1) := by decide +kernel
theorem dX12_text_312 : decode cX12_text 312 = .ok (.iconst 0, 1) := by decide +kernel
theorem dX12_text_313 : decode cX12_text 313 = .ok (.iastore, 1) := by decide +kernel
theorem dX12_text_314 : decode cX12_text 314 = .ok (.iinc 3 1, 3) := by decide +kernel
theorem dX12_text_317 : decode cX12_text 317 = .ok (.goto (-17), 3) := by decide +kernel
theorem dX12_text_320 : decode cX12_text 320 = .ok (.iconst 0, 1) := by decide +kernel
theorem dX12_text_321 : decode cX12_text 321 = .ok (.istore_n 3, 1) := by decide +kernel
theorem dX12_text_322 : decode cX12_text 322 = .ok (.iload_n 3, 1) := by decide +kernel
theorem dX12_text_323 : decode cX12_text 323 = .ok (.aload_n 0, 1) := by decide +kernel
theorem dX12_text_324 : decode cX12_text 324 = .ok (.getfield 294, 3) := by decide +kernel
theorem dX12_text_327 : decode cX12_text 327 = .ok (.if_icmp .ge 59, 3) := by decide +kernel
theorem dX12_text_330 : decode cX12_text 330 = .ok (.aload_n 0, 1) := by decide +kernel
theorem dX12_text_331 : decode cX12_text 331 = .ok (.getfield 61, 3) := by decide +kernel
theorem dX12_text_334 : decode cX12_text 334 = .ok (.iconst 3, 1) := by decide +kernel
theorem dX12_text_335 : decode cX12_text 335 = .ok (.iload_n 3, 1) := by decide +kernel
theorem dX12_text_336 : decode cX12_text 336 = .ok (.imul, 1) := by decide +kernel
theorem dX12_text_337 : decode cX12_text 337 = .ok (.iconst 0, 1) := by decide +kernel
theorem dX12_text_338 : decode cX12_text 338 = .ok (.iadd, 1) := by decide +kernel
theorem dX12_text_339 : decode cX12_text 339 = .ok (.aload_n 0, 1) := by decide +kernel
theorem dX12_text_340 : decode cX12_text 340 = .ok (.iload_n 3, 1) := by decide +kernel
theorem dX12_text_341 : decode cX12_text 341 = .ok (.iconst 0, 1) := by decide +kernel
theorem dX12_text_342 : decode cX12_text 342 = .ok (.invokevirtual 300, 3) := by decide +kernel
theorem dX12_text_345 : decode cX12_text 345 = .ok (.iastore, 1) := by decide +kernel
theorem dX12_text_346 : decode cX12_text 346 = .ok (.aload_n 0, 1) := by decide +kernel
theorem dX12_text_347 : decode cX12_text 347 = .ok (.getfield 61, 3) := by decide +kernel
theorem dX12_text_350 : decode cX12_text 350 = .ok (.iconst 3, 1) := by decide +kernel
theorem dX12_text_351 : decode cX12_text 351 = .ok (.iload_n 3, 1) := by decide +kernel
theorem dX12_text_352 : decode cX12_text 352 = .ok (.imul, 1) := by decide +kernel
theorem dX12_text_353 : decode cX12_text 353 = .ok (.iconst 1, 1) := by decide +kernel
theorem dX12_text_354 : decode cX12_text 354 = .ok (.iadd, 1) := by decide +kernel
theorem dX12_text_355 : decode cX12_text 355 = .ok (.aload_n 0, 1) := by decide +kernel
theorem dX12_text_356 : decode cX12_text 356 = .ok (.iload_n 3, 1) := by decide +kernel
theorem dX12_text_357 : decode cX12_text 357 = .ok (.bipush 7, 2) := by decide +kernel
theorem dX12_text_359 : decode cX12_text 359 = .ok (.invokevirtual 300, 3) := by decide +kernel
theorem dX12_text_362 : decode cX12_text 362 = .ok (.iastore, 1) := by decide +kernel
theorem dX12_text_363 : decode cX12_text 363 = .ok (.aload_n 0, 1) := by decide +kernel
theorem dX12_text_364 : decode cX12_text 364 = .ok (.getfield 61, 3) := by decide +kernel
theorem dX12_text_367 : decode cX12_text 367 = .ok (.iconst 3, 1) := by decide +kernel
theorem dX12_text_368 : decode cX12_text 368 = .ok (.iload_n 3, 1) := by decide +kernel
theorem dX12_text_369 : decode cX12_text 369 = .ok (.imul, 1) := by decide +kernel
theorem dX12_text_370 : decode cX12_text 370 = .ok (.iconst 2, 1) := by decide +kernel
theorem dX12_text_371 : decode cX12_text 371 = .ok (.iadd, 1) := by decide +kernel
theorem dX12_text_372 : decode cX12_text 372 = .ok (.aload_n 0, 1) := by decide +kernel
theorem dX12_text_373 : decode cX12_text 373 = .ok (.iload_n 3, 1) := by decide +kernel
theorem dX12_text_374 : decode cX12_text 374 = .ok (.bipush 8, 2) := by decide +kernel
theorem dX12_text_376 : decode cX12_text 376 = .ok (.invokevirtual 300, 3) := by decide +kernel
theorem dX12_text_379 : decode cX12_text 379 = .ok (.iastore, 1) := by decide +kernel
theorem dX12_text_380 : decode cX12_text 380 = .ok (.iinc 3 1, 3) := by decide +kernel
theorem dX12_text_383 : decode cX12_text 383 = .ok (.goto (-61), 3) := by decide +kernel
theorem dX12_text_386 : decode cX12_text 386 = .ok (.iconst 0, 1) := by decide +kernel
theorem dX12_text_387 : decode cX12_text 387 = .ok (.istore_n 3, 1) := by decide +kernel
theorem dX12_text_388 : decode cX12_text 388 = .ok (.iload_n 3, 1) := by decide +kernel
theorem dX12_text_389 : decode cX12_text 389 = .ok (.aload_n 0, 1) := by decide +kernel
theorem dX12_text_390 : decode cX12_text 390 = .ok (.getfield 297, 3) := by decide +kernel
theorem dX12_text_393 : decode cX12_text 393 = .ok (.if_icmp .ge 31, 3) := by decide +kernel
theorem dX12_text_396 : decode cX12_text 396 = .ok (.aload_n 0, 1) := by decide +kernel
theorem dX12_text_397 : decode cX12_text 397 = .ok (.getfield 61, 3) := by decide +kernel
theorem dX12_text_400 : decode cX12_text 400 = .ok (.bipush 21, 2) := by decide +kernel
theorem dX12_text_402 : decode cX12_text 402 = .ok (.dup2, 1) := by decide +kernel
theorem dX12_text_403 : decode cX12_text 403 = .ok (.iaload, 1) := by decide +kernel
theorem dX12_text_404 : decode cX12_text 404 = .ok (.aload_n 0, 1) := by decide +kernel
theorem dX12_text_405 : decode cX12_text 405 = .ok (.getfield 49, 3) := by decide +kernel
theorem dX12_text_408 : decode cX12_text 408 = .ok (.iconst 5, 1) := by decide +kernel
theorem dX12_text_409 : decode cX12_text 409 = .ok (.iload_n 3, 1) := by decide +kernel
theorem dX12_text_410 : decode cX12_text 410 = .ok (.imul, 1) := by decide +kernel
theorem dX12_text_411 : decode cX12_text 411 = .ok (.iconst 4, 1) := by decide +kernel
theorem dX12_text_412 : decode cX12_text 412 = .ok (.iadd, 1) := by decide +kernel
theorem dX12_text_413 : decode cX12_text 413 = .ok (.iaload, 1) := by decide +kernel
theorem dX12_text_414 : decode cX12_text 414 = .ok (.iload_n 3, 1) := by decide +kernel
theorem dX12_text_415 : decode cX12_text 415 = .ok (.ishl, 1) := by decide +kernel
theorem dX12_text_416 : decode cX12_text 416 = .ok (.ior, 1) := by decide +kernel
theorem dX12_text_417 : decode cX12_text 417 = .ok (.iastore, 1) := by decide +kernel
theorem dX12_text_418 : decode cX12_text 418 = .ok (.iinc 3 1, 3) := by decide +kernel
theorem dX12_text_421 : decode cX12_text 421 = .ok (.goto (-33), 3) := by decide +kernel
theorem dX12_text_424 : decode cX12_text 424 = .ok (.aload_n 0, 1) := by decide +kernel
theorem dX12_text_425 : decode cX12_text 425 = .ok (.iconst 0, 1) := by decide +kernel
theorem dX12_text_426 : decode cX12_text 426 = .ok (.putfield 303, 3) := by decide +kernel
theorem dX12_text_429 : decode cX12_text 429 = .ok (.aload_n 0, 1) := by decide +kernel
theorem dX12_text_430 : decode cX12_text 430 = .ok (.iconst 0, 1) := by decide +kernel
theorem dX12_text_431 : decode cX12_text 431 = .ok (.putfield 306, 3) := by decide +kernel
theorem dX12_text_434 : decode cX12_text 434 = .ok (.aload_n 0, 1) := by decide +kernel
theorem dX12_text_435 : decode cX12_text 435 = .ok (.iconst 0, 1) := by decide +kernel
theorem dX12_text_436 : decode cX12_text 436 = .ok (.putfield 309, 3) := by decide +kernel
theorem dX12_text_439 : decode cX12_text 439 = .ok (.aload_n 0, 1) := by decide +kernel
theorem dX12_text_440 : decode cX12_text 440 = .ok (.getfield 294, 3) := by decide +kernel
theorem dX12_text_443 : decode cX12_text 443 = .ok (.ireturn, 1) := by decide +kernel
theorem dX12_copy_0 : decode cX12_copy 0 = .ok (.bipush 25, 2) := by decide +kernel
theorem dX12_copy_2 : decode cX12_copy 2 = .ok (.iconst 3, 1) := by decide +kernel
theorem dX12_copy_3 : decode cX12_copy 3 = .ok (.aload_n 0, 1) := by decide +kernel
theorem dX12_copy_4 : decode cX12_copy 4 = .ok (.bipush 24, 2) := by decide +kernel
theorem dX12_copy_6 : decode cX12_copy 6 = .ok (.iaload, 1) := by decide +kernel
theorem dX12_copy_7 : decode cX12_copy 7 = .ok (.imul, 1) := by decide +kernel
theorem dX12_copy_8 : decode cX12_copy 8 = .ok (.iadd, 1) := by decide +kernel
theorem dX12_copy_9 : decode cX12_copy 9 = .ok (.istore_n 2, 1) := by decide +kernel
theorem dX12_copy_10 : decode cX12_copy 10 = .ok (.iconst 0, 1) := by decide +kernel
theorem dX12_copy_11 : decode cX12_copy 11 = .ok (.istore_n 3, 1) := by decide +kernel
theorem dX12_copy_12 : decode cX12_copy 12 = .ok (.iload_n 3, 1) := by decide +kernel
theorem dX12_copy_13 : decode cX12_copy 13 = .ok (.iload_n 2, 1) := by decide +kernel
theorem dX12_copy_14 : decode cX12_copy 14 = .ok (.if_icmp .ge 15, 3) := by decide +kernel
theorem dX12_copy_17 : decode cX12_copy 17 = .ok (.aload_n 1, 1) := by decide +kernel
theorem dX12_copy_18 : decode cX12_copy 18 = .ok (.iload_n 3, 1) := by decide +kernel
theorem dX12_copy_19 : decode cX12_copy 19 = .ok (.aload_n 0, 1) := by decide +kernel
theorem dX12_copy_20 : decode cX12_copy 20 = .ok (.iload_n 3, 1) := by decide +kernel
theorem dX12_copy_21 : decode cX12_copy 21 = .ok (.iaload, 1) := by decide +kernel
theorem dX12_copy_22 : decode cX12_copy 22 = .ok (.iastore, 1) := by decide +kernel
theorem dX12_copy_23 : decode cX12_copy 23 = .ok (.iinc 3 1, 3) := by decide +kernel
theorem dX12_copy_26 : decode cX12_copy 26 = .ok (.goto (-14), 3) := by decide +kernel
theorem dX12_copy_29 : decode cX12_copy 29 = .ok (.return_, 1) := by decide +kernel
theorem dX12_isPond_0 : decode cX12_isPond 0 = .ok (.iload_n 1, 1) := by decide +kernel
theorem dX12_isPond_1 : decode cX12_isPond 1 = .ok (.ifCond .lt 15, 3) := by decide +kernel
theorem dX12_isPond_4 : decode cX12_isPond 4 = .ok (.iload_n 1, 1) := by decide +kernel
theorem dX12_isPond_5 : decode cX12_isPond 5 = .ok (.aload_n 0, 1) := by decide +kernel
theorem dX12_isPond_6 : decode cX12_isPond 6 = .ok (.getfield 294, 3) := by decide +kernel
theorem dX12_isPond_9 : decode cX12_isPond 9 = .ok (.if_icmp .ge 7, 3) := by decide +kernel
theorem dX12_isPond_12 : decode cX12_isPond 12 = .ok (.iconst 1, 1) := by decide +kernel
theorem dX12_isPond_13 : decode cX12_isPond 13 = .ok (.goto 4, 3) := by decide +kernel
theorem dX12_isPond_16 : decode cX12_isPond 16 = .ok (.iconst 0, 1) := by decide +kernel
theorem dX12_isPond_17 : decode cX12_isPond 17 = .ok (.ireturn, 1) := by decide +kernel
theorem dX12_isPipe_0 : decode cX12_isPipe 0 = .ok (.iload_n 1, 1) := by decide +kernel
theorem dX12_isPipe_1 : decode cX12_isPipe 1 = .ok (.ifCond .lt 15, 3) := by decide +kernel
theorem dX12_isPipe_4 : decode cX12_isPipe 4 = .ok (.iload_n 1, 1) := by decide +kernel
theorem dX12_isPipe_5 : decode cX12_isPipe 5 = .ok (.aload_n 0, 1) := by decide +kernel
theorem dX12_isPipe_6 : decode cX12_isPipe 6 = .ok (.getfield 297, 3) := by decide +kernel
theorem dX12_isPipe_9 : decode cX12_isPipe 9 = .ok (.if_icmp .ge 7, 3) := by decide +kernel
theorem dX12_isPipe_12 : decode cX12_isPipe 12 = .ok (.iconst 1, 1) := by decide +kernel
theorem dX12_isPipe_13 : decode cX12_isPipe 13 = .ok (.goto 4, 3) := by decide +kernel
theorem dX12_isPipe_16 : decode cX12_isPipe 16 = .ok (.iconst 0, 1) := by decide +kernel
theorem dX12_isPipe_17 : decode cX12_isPipe 17 = .ok (.ireturn, 1) := by decide +kernel
theorem dX12_told_0 : decode cX12_told 0 = .ok (.aload_n 0, 1) := by decide +kernel
theorem dX12_told_1 : decode cX12_told 1 = .ok (.getfield 43, 3) := by decide +kernel
theorem dX12_told_4 : decode cX12_told 4 = .ok (.bipush 9, 2) := by decide +kernel
theorem dX12_told_6 : decode cX12_told 6 = .ok (.iload_n 1, 1) := by decide +kernel
theorem dX12_told_7 : decode cX12_told 7 = .ok (.imul, 1) := by decide +kernel
theorem dX12_told_8 : decode cX12_told 8 = .ok (.iload_n 2, 1) := by decide +kernel
theorem dX12_told_9 : decode cX12_told 9 = .ok (.iadd, 1) := by decide +kernel
theorem dX12_told_10 : decode cX12_told 10 = .ok (.iaload, 1) := by decide +kernel
theorem dX12_told_11 : decode cX12_told 11 = .ok (.ireturn, 1) := by decide +kernel
theorem dX12_water_0 : decode cX12_water 0 = .ok (.aload_n 0, 1) := by decide +kernel
theorem dX12_water_1 : decode cX12_water 1 = .ok (.iconst 3, 1) := by decide +kernel
theorem dX12_water_2 : decode cX12_water 2 = .ok (.iload_n 1, 1) := by decide +kernel
theorem dX12_water_3 : decode cX12_water 3 = .ok (.imul, 1) := by decide +kernel
theorem dX12_water_4 : decode cX12_water 4 = .ok (.iconst 0, 1) := by decide +kernel
theorem dX12_water_5 : decode cX12_water 5 = .ok (.iadd, 1) := by decide +kernel
theorem dX12_water_6 : decode cX12_water 6 = .ok (.iaload, 1) := by decide +kernel
theorem dX12_water_7 : decode cX12_water 7 = .ok (.ireturn, 1) := by decide +kernel
theorem dX12_level_0 : decode cX12_level 0 = .ok (.aload_n 0, 1) := by decide +kernel
theorem dX12_level_1 : decode cX12_level 1 = .ok (.iload_n 2, 1) := by decide +kernel
theorem dX12_level_2 : decode cX12_level 2 = .ok (.iconst 2, 1) := by decide +kernel
theorem dX12_level_3 : decode cX12_level 3 = .ok (.invokevirtual 300, 3) := by decide +kernel
theorem dX12_level_6 : decode cX12_level 6 = .ok (.aload_n 1, 1) := by decide +kernel
theorem dX12_level_7 : decode cX12_level 7 = .ok (.iload_n 2, 1) := by decide +kernel
theorem dX12_level_8 : decode cX12_level 8 = .ok (.invokestatic 312, 3) := by decide +kernel
theorem dX12_level_11 : decode cX12_level 11 = .ok (.iadd, 1) := by decide +kernel
theorem dX12_level_12 : decode cX12_level 12 = .ok (.ireturn, 1) := by decide +kernel
theorem dX12_highOf_0 : decode cX12_highOf 0 = .ok (.aload_n 0, 1) := by decide +kernel
theorem dX12_highOf_1 : decode cX12_highOf 1 = .ok (.getfield 49, 3) := by decide +kernel
theorem dX12_highOf_4 : decode cX12_highOf 4 = .ok (.iconst 5, 1) := by decide +kernel
theorem dX12_highOf_5 : decode cX12_highOf 5 = .ok (.iload_n 2, 1) := by decide +kernel
theorem dX12_highOf_6 : decode cX12_highOf 6 = .ok (.imul, 1) := by decide +kernel
theorem dX12_highOf_7 : decode cX12_highOf 7 = .ok (.iaload, 1) := by decide +kernel
theorem dX12_highOf_8 : decode cX12_highOf 8 = .ok (.istore_n 3, 1) := by decide +kernel
theorem dX12_highOf_9 : decode cX12_highOf 9 = .ok (.aload_n 0, 1) := by decide +kernel
theorem dX12_highOf_10 : decode cX12_highOf 10 = .ok (.getfield 49, 3) := by decide +kernel
theorem dX12_highOf_13 : decode cX12_highOf 13 = .ok (.iconst 5, 1) := by decide +kernel
theorem dX12_highOf_14 : decode cX12_highOf 14 = .ok (.iload_n 2, 1) := by decide +kernel
theorem dX12_highOf_15 : decode cX12_highOf 15 = .ok (.imul, 1) := by decide +kernel
theorem dX12_highOf_16 : decode cX12_highOf 16 = .ok (.iconst 1, 1) := by decide +kernel
theorem dX12_highOf_17 : decode cX12_highOf 17 = .ok (.iadd, 1) := by decide +kernel
theorem dX12_highOf_18 : decode cX12_highOf 18 = .ok (.iaload, 1) := by decide +kernel
theorem dX12_highOf_19 : decode cX12_highOf 19 = .ok (.istore 4, 2) := by decide +kernel
theorem dX12_highOf_21 : decode cX12_highOf 21 = .ok (.aload_n 0, 1) := by decide +kernel
theorem dX12_highOf_22 : decode cX12_highOf 22 = .ok (.aload_n 1, 1) := by decide +kernel
theorem dX12_highOf_23 : decode cX12_highOf 23 = .ok (.iload_n 3, 1) := by decide +kernel
theorem dX12_highOf_24 : decode cX12_highOf 24 = .ok (.invokevirtual 316, 3) := by decide +kernel
theorem dX12_highOf_27 : decode cX12_highOf 27 = .ok (.aload_n 0, 1) := by decide +kernel
theorem dX12_highOf_28 : decode cX12_highOf 28 = .ok (.aload_n 1, 1) := by decide +kernel
theorem dX12_highOf_29 : decode cX12_highOf 29 = .ok (.iload 4, 2) := by decide +kernel
theorem dX12_highOf_31 : decode cX12_highOf 31 = .ok (.invokevirtual 316, 3) := by decide +kernel
theorem dX12_highOf_34 : decode cX12_highOf 34 = .ok (.if_icmp .ne 7, 3) := by decide +kernel
theorem dX12_highOf_37 : decode cX12_highOf 37 = .ok (.iconst (-1), 1) := by decide +kernel
theorem dX12_highOf_38 : decode cX12_highOf 38 = .ok (.goto 25, 3) := by decide +kernel
theorem dX12_highOf_41 : decode cX12_highOf 41 = .ok (.aload_n 0, 1) := by decide +kernel
theorem dX12_highOf_42 : decode cX12_highOf 42 = .ok (.aload_n 1, 1) := by decide +kernel
theorem dX12_highOf_43 : decode cX12_highOf 43 = .ok (.iload_n 3, 1) := by decide +kernel
theorem dX12_highOf_44 : decode cX12_highOf 44 = .ok (.invokevirtual 316, 3) := by decide +kernel
theorem dX12_highOf_47 : decode cX12_highOf 47 = .ok (.aload_n 0, 1) := by decide +kernel
theorem dX12_highOf_48 : decode cX12_highOf 48 = .ok (.aload_n 1, 1) := by decide +kernel
theorem dX12_highOf_49 : decode cX12_highOf 49 = .ok (.iload 4, 2) := by decide +kernel
theorem dX12_highOf_51 : decode cX12_highOf 51 = .ok (.invokevirtual 316, 3) := by decide +kernel
theorem dX12_highOf_54 : decode cX12_highOf 54 = .ok (.if_icmp .le 7, 3) := by decide +kernel
theorem dX12_highOf_57 : decode cX12_highOf 57 = .ok (.iload_n 3, 1) := by decide +kernel
theorem dX12_highOf_58 : decode cX12_highOf 58 = .ok (.goto 5, 3) := by decide +kernel
theorem dX12_highOf_61 : decode cX12_highOf 61 = .ok (.iload 4, 2) := by decide +kernel
theorem dX12_highOf_63 : decode cX12_highOf 63 = .ok (.ireturn, 1) := by decide +kernel
theorem dX12_otherOf_0 : decode cX12_otherOf 0 = .ok (.aload_n 0, 1) := by decide +kernel
theorem dX12_otherOf_1 : decode cX12_otherOf 1 = .ok (.getfield 49, 3) := by decide +kernel
theorem dX12_otherOf_4 : decode cX12_otherOf 4 = .ok (.iconst 5, 1) := by decide +kernel
theorem dX12_otherOf_5 : decode cX12_otherOf 5 = .ok (.iload_n 1, 1) := by decide +kernel
theorem dX12_otherOf_6 : decode cX12_otherOf 6 = .ok (.imul, 1) := by decide +kernel
theorem dX12_otherOf_7 : decode cX12_otherOf 7 = .ok (.iaload, 1) := by decide +kernel
theorem dX12_otherOf_8 : decode cX12_otherOf 8 = .ok (.iload_n 2, 1) := by decide +kernel
theorem dX12_otherOf_9 : decode cX12_otherOf 9 = .ok (.if_icmp .ne 16, 3) := by decide +kernel
theorem dX12_otherOf_12 : decode cX12_otherOf 12 = .ok (.aload_n 0, 1) := by decide +kernel
theorem dX12_otherOf_13 : decode cX12_otherOf 13 = .ok (.getfield 49, 3) := by decide +kernel
theorem dX12_otherOf_16 : decode cX12_otherOf 16 = .ok (.iconst 5, 1) := by decide +kernel
theorem dX12_otherOf_17 : decode cX12_otherOf 17 = .ok (.iload_n 1, 1) := by decide +kernel
theorem dX12_otherOf_18 : decode cX12_otherOf 18 = .ok (.imul, 1) := by decide +kernel
theorem dX12_otherOf_19 : decode cX12_otherOf 19 = .ok (.iconst 1, 1) := by decide +kernel
theorem dX12_otherOf_20 : decode cX12_otherOf 20 = .ok (.iadd, 1) := by decide +kernel
theorem dX12_otherOf_21 : decode cX12_otherOf 21 = .ok (.iaload, 1) := by decide +kernel
theorem dX12_otherOf_22 : decode cX12_otherOf 22 = .ok (.goto 11, 3) := by decide +kernel
theorem dX12_otherOf_25 : decode cX12_otherOf 25 = .ok (.aload_n 0, 1) := by decide +kernel
theorem dX12_otherOf_26 : decode cX12_otherOf 26 = .ok (.getfield 49, 3) := by decide +kernel
theorem dX12_otherOf_29 : decode cX12_otherOf 29 = .ok (.iconst 5, 1) := by decide +kernel
theorem dX12_otherOf_30 : decode cX12_otherOf 30 = .ok (.iload_n 1, 1) := by decide +kernel
theorem dX12_otherOf_31 : decode cX12_otherOf 31 = .ok (.imul, 1) := by decide +kernel
theorem dX12_otherOf_32 : decode cX12_otherOf 32 = .ok (.iaload, 1) := by decide +kernel
theorem dX12_otherOf_33 : decode cX12_otherOf 33 = .ok (.ireturn, 1) := by decide +kernel
theorem dX12_flowOf_0 : decode cX12_flowOf 0 = .ok (.aload_n 0, 1) := by decide +kernel
theorem dX12_flowOf_1 : decode cX12_flowOf 1 = .ok (.aload_n 1, 1) := by decide +kernel
theorem dX12_flowOf_2 : decode cX12_flowOf 2 = .ok (.iload_n 2, 1) := by decide +kernel
theorem dX12_flowOf_3 : decode cX12_flowOf 3 = .ok (.invokevirtual 319, 3) := by decide +kernel
theorem dX12_flowOf_6 : decode cX12_flowOf 6 = .ok (.istore_n 3, 1) := by decide +kernel
theorem dX12_flowOf_7 : decode cX12_flowOf 7 = .ok (.iload_n 3, 1) := by decide +kernel
theorem dX12_flowOf_8 : decode cX12_flowOf 8 = .ok (.iconst (-1), 1) := by decide +kernel
theorem dX12_flowOf_9 : decode cX12_flowOf 9 = .ok (.if_icmp .ne 5, 3) := by decide +kernel
theorem dX12_flowOf_12 : decode cX12_flowOf 12 = .ok (.iconst 0, 1) := by decide +kernel
theorem dX12_flowOf_13 : decode cX12_flowOf 13 = .ok (.ireturn, 1) := by decide +kernel
theorem dX12_flowOf_14 : decode cX12_flowOf 14 = .ok (.aload_n 0, 1) := by decide +kernel
theorem dX12_flowOf_15 : decode cX12_flowOf 15 = .ok (.iload_n 2, 1) := by decide +kernel
theorem dX12_flowOf_16 : decode cX12_flowOf 16 = .ok (.iload_n 3, 1) := by decide +kernel
theorem dX12_flowOf_17 : decode cX12_flowOf 17 = .ok (.invokevirtual 322, 3) := by decide +kernel
theorem dX12_flowOf_20 : decode cX12_flowOf 20 = .ok (.istore 4, 2) := by decide +kernel
theorem dX12_flowOf_22 : decode cX12_flowOf 22 = .ok (.aload_n 0, 1) := by decide +kernel
theorem dX12_flowOf_23 : decode cX12_flowOf 23 = .ok (.aload_n 1, 1) := by decide +kernel
theorem dX12_flowOf_24 : decode cX12_flowOf 24 = .ok (.iload_n 3, 1) := by decide +kernel
theorem dX12_flowOf_25 : decode cX12_flowOf 25 = .ok (.invokevirtual 316, 3) := by decide +kernel
theorem dX12_flowOf_28 : decode cX12_flowOf 28 = .ok (.aload_n 0, 1) := by decide +kernel
theorem dX12_flowOf_29 : decode cX12_flowOf 29 = .ok (.aload_n 1, 1) := by decide +kernel
theorem dX12_flowOf_30 : decode cX12_flowOf 30 = .ok (.iload 4, 2) := by decide +kernel
theorem dX12_flowOf_32 : decode cX12_flowOf 32 = .ok (.invokevirtual 316, 3) := by decide +kernel
theorem dX12_flowOf_35 : decode cX12_flowOf 35 = .ok (.isub, 1) := by decide +kernel
theorem dX12_flowOf_36 : decode cX12_flowOf 36 = .ok (.istore 5, 2) := by decide +kernel
theorem dX12_flowOf_38 : decode cX12_flowOf 38 = .ok (.iload 5, 2) := by decide +kernel
theorem dX12_flowOf_40 : decode cX12_flowOf 40 = .ok (.iconst 2, 1) := by decide +kernel
theorem dX12_flowOf_41 : decode cX12_flowOf 41 = .ok (.idiv, 1) := by decide +kernel
theorem dX12_flowOf_42 : decode cX12_flowOf 42 = .ok (.istore 6, 2) := by decide +kernel
theorem dX12_flowOf_44 : decode cX12_flowOf 44 = .ok (.aload_n 0, 1) := by decide +kernel
theorem dX12_flowOf_45 : decode cX12_flowOf 45 = .ok (.getfield 67, 3) := by decide +kernel
theorem dX12_flowOf_48 : decode cX12_flowOf 48 = .ok (.iconst (-1), 1) := by decide +kernel
theorem dX12_flowOf_49 : decode cX12_flowOf 49 = .ok (.if_icmp .eq 88, 3) := by decide +kernel
theorem dX12_flowOf_52 : decode cX12_flowOf 52 = .ok (.aload_n 0, 1) := by decide +kernel
theorem dX12_flowOf_53 : decode cX12_flowOf 53 = .ok (.getfield 20, 3) := by decide +kernel
theorem dX12_flowOf_56 : decode cX12_flowOf 56 = .ok (.bipush 100, 2) := by decide +kernel
theorem dX12_flowOf_58 : decode cX12_flowOf 58 = .ok (.iload 5, 2) := by decide +kernel
theorem dX12_flowOf_60 : decode cX12_flowOf 60 = .ok (.iastore, 1) := by decide +kernel
theorem dX12_flowOf_61 : decode cX12_flowOf 61 = .ok (.aload_n 0, 1) := by decide +kernel
theorem dX12_flowOf_62 : decode cX12_flowOf 62 = .ok (.getfield 20, 3) := by decide +kernel
theorem dX12_flowOf_65 : decode cX12_flowOf 65 = .ok (.bipush 109, 2) := by decide +kernel
theorem dX12_flowOf_67 : decode cX12_flowOf 67 = .ok (.aload_n 0, 1) := by decide +kernel
theorem dX12_flowOf_68 : decode cX12_flowOf 68 = .ok (.getfield 49, 3) := by decide +kernel
theorem dX12_flowOf_71 : decode cX12_flowOf 71 = .ok (.iconst 5, 1) := by decide +kernel
theorem dX12_flowOf_72 : decode cX12_flowOf 72 = .ok (.iload_n 2, 1) := by decide +kernel
theorem dX12_flowOf_73 : decode cX12_flowOf 73 = .ok (.imul, 1) := by decide +kernel
theorem dX12_flowOf_74 : decode cX12_flowOf 74 = .ok (.iconst 2, 1) := by decide +kernel
theorem dX12_flowOf_75 : decode cX12_flowOf 75 = .ok (.iadd, 1) := by decide +kernel
theorem dX12_flowOf_76 : decode cX12_flowOf 76 = .ok (.iaload, 1) := by decide +kernel
theorem dX12_flowOf_77 : decode cX12_flowOf 77 = .ok (.iastore, 1) := by decide +kernel
theorem dX12_flowOf_78 : decode cX12_flowOf 78 = .ok (.aload_n 0, 1) := by decide +kernel
theorem dX12_flowOf_79 : decode cX12_flowOf 79 = .ok (.getfield 20, 3) := by decide +kernel
theorem dX12_flowOf_82 : decode cX12_flowOf 82 = .ok (.bipush 119, 2) := by decide +kernel
theorem dX12_flowOf_84 : decode cX12_flowOf 84 = .ok (.aload_n 1, 1) := by decide +kernel
theorem dX12_flowOf_85 : decode cX12_flowOf 85 = .ok (.iload_n 3, 1) := by decide +kernel
theorem dX12_flowOf_86 : decode cX12_flowOf 86 = .ok (.invokestatic 312, 3) := by decide +kernel
theorem dX12_flowOf_89 : decode cX12_flowOf 89 = .ok (.iastore, 1) := by decide +kernel
theorem dX12_flowOf_90 : decode cX12_flowOf 90 = .ok (.aload_n 0, 1) := by decide +kernel
theorem dX12_flowOf_91 : decode cX12_flowOf 91 = .ok (.getfield 20, 3) := by decide +kernel
theorem dX12_flowOf_94 : decode cX12_flowOf 94 = .ok (.bipush 104, 2) := by decide +kernel
theorem dX12_flowOf_96 : decode cX12_flowOf 96 = .ok (.aload_n 0, 1) := by decide +kernel
theorem dX12_flowOf_97 : decode cX12_flowOf 97 = .ok (.getfield 49, 3) := by decide +kernel
theorem dX12_flowOf_100 : decode cX12_flowOf 100 = .ok (.iconst 5, 1) := by decide +kernel
theorem dX12_flowOf_101 : decode cX12_flowOf 101 = .ok (.iload_n 2, 1) := by decide +kernel
theorem dX12_flowOf_102 : decode cX12_flowOf 102 = .ok (.imul, 1) := by decide +kernel
theorem dX12_flowOf_103 : decode cX12_flowOf 103 = .ok (.iconst 3, 1) := by decide +kernel
theorem dX12_flowOf_104 : decode cX12_flowOf 104 = .ok (.iadd, 1) := by decide +kernel
theorem dX12_flowOf_105 : decode cX12_flowOf 105 = .ok (.iaload, 1) := by decide +kernel
theorem dX12_flowOf_106 : decode cX12_flowOf 106 = .ok (.iastore, 1) := by decide +kernel
theorem dX12_flowOf_107 : decode cX12_flowOf 107 = .ok (.aload_n 0, 1) := by decide +kernel
theorem dX12_flowOf_108 : decode cX12_flowOf 108 = .ok (.getfield 20, 3) := by decide +kernel
theorem dX12_flowOf_111 : decode cX12_flowOf 111 = .ok (.bipush 108, 2) := by decide +kernel
theorem dX12_flowOf_113 : decode cX12_flowOf 113 = .ok (.aload_n 1, 1) := by decide +kernel
theorem dX12_flowOf_114 : decode cX12_flowOf 114 = .ok (.iload 4, 2) := by decide +kernel
theorem dX12_flowOf_116 : decode cX12_flowOf 116 = .ok (.invokestatic 312, 3) := by decide +kernel
theorem dX12_flowOf_119 : decode cX12_flowOf 119 = .ok (.iastore, 1) := by decide +kernel
theorem dX12_flowOf_120 : decode cX12_flowOf 120 = .ok (.aload_n 0, 1) := by decide +kernel
theorem dX12_flowOf_121 : decode cX12_flowOf 121 = .ok (.getfield 20, 3) := by decide +kernel
theorem dX12_flowOf_124 : decode cX12_flowOf 124 = .ok (.bipush 116, 2) := by decide +kernel
theorem dX12_flowOf_126 : decode cX12_flowOf 126 = .ok (.aload_n 1, 1) := by decide +kernel
theorem dX12_flowOf_127 : decode cX12_flowOf 127 = .ok (.bipush 23, 2) := by decide +kernel
theorem dX12_flowOf_129 : decode cX12_flowOf 129 = .ok (.iaload, 1) := by decide +kernel
theorem dX12_flowOf_130 : decode cX12_flowOf 130 = .ok (.iastore, 1) := by decide +kernel
theorem dX12_flowOf_131 : decode cX12_flowOf 131 = .ok (.aload_n 0, 1) := by decide +kernel
theorem dX12_flowOf_132 : decode cX12_flowOf 132 = .ok (.invokevirtual 325, 3) := by decide +kernel
theorem dX12_flowOf_135 : decode cX12_flowOf 135 = .ok (.istore 6, 2) := by decide +kernel
theorem dX12_flowOf_137 : decode cX12_flowOf 137 = .ok (.aload_n 0, 1) := by decide +kernel
theorem dX12_flowOf_138 : decode cX12_flowOf 138 = .ok (.getfield 49, 3) := by decide +kernel
theorem dX12_flowOf_141 : decode cX12_flowOf 141 = .ok (.iconst 5, 1) := by decide +kernel
theorem dX12_flowOf_142 : decode cX12_flowOf 142 = .ok (.iload_n 2, 1) := by decide +kernel
theorem dX12_flowOf_143 : decode cX12_flowOf 143 = .ok (.imul, 1) := by decide +kernel
theorem dX12_flowOf_144 : decode cX12_flowOf 144 = .ok (.iconst 2, 1) := by decide +kernel
theorem dX12_flowOf_145 : decode cX12_flowOf 145 = .ok (.iadd, 1) := by decide +kernel
theorem dX12_flowOf_146 : decode cX12_flowOf 146 = .ok (.iaload, 1) := by decide +kernel
theorem dX12_flowOf_147 : decode cX12_flowOf 147 = .ok (.iconst 0, 1) := by decide +kernel
theorem dX12_flowOf_148 : decode cX12_flowOf 148 = .ok (.aload_n 1, 1) := by decide +kernel
theorem dX12_flowOf_149 : decode cX12_flowOf 149 = .ok (.iload_n 3, 1) := by decide +kernel
theorem dX12_flowOf_150 : decode cX12_flowOf 150 = .ok (.invokestatic 312, 3) := by decide +kernel
theorem dX12_flowOf_153 : decode cX12_flowOf 153 = .ok (.aload_n 0, 1) := by decide +kernel
theorem dX12_flowOf_154 : decode cX12_flowOf 154 = .ok (.getfield 49, 3) := by decide +kernel
theorem dX12_flowOf_157 : decode cX12_flowOf 157 = .ok (.iconst 5, 1) := by decide +kernel
theorem dX12_flowOf_158 : decode cX12_flowOf 158 = .ok (.iload_n 2, 1) := by decide +kernel
theorem dX12_flowOf_159 : decode cX12_flowOf 159 = .ok (.imul, 1) := by decide +kernel
theorem dX12_flowOf_160 : decode cX12_flowOf 160 = .ok (.iconst 3, 1) := by decide +kernel
theorem dX12_flowOf_161 : decode cX12_flowOf 161 = .ok (.iadd, 1) := by decide +kernel
theorem dX12_flowOf_162 : decode cX12_flowOf 162 = .ok (.iaload, 1) := by decide +kernel
theorem dX12_flowOf_163 : decode cX12_flowOf 163 = .ok (.isub, 1) := by decide +kernel
theorem dX12_flowOf_164 : decode cX12_flowOf 164 = .ok (.invokestatic 328, 3) := by decide +kernel
theorem dX12_flowOf_167 : decode cX12_flowOf 167 = .ok (.aload_n 0, 1) := by decide +kernel
theorem dX12_flowOf_168 : decode cX12_flowOf 168 = .ok (.iload 4, 2) := by decide +kernel
theorem dX12_flowOf_170 : decode cX12_flowOf 170 = .ok (.iconst 1, 1) := by decide +kernel
theorem dX12_flowOf_171 : decode cX12_flowOf 171 = .ok (.invokevirtual 300, 3) := by decide +kernel
theorem dX12_flowOf_174 : decode cX12_flowOf 174 = .ok (.aload_n 1, 1) := by decide +kernel
theorem dX12_flowOf_175 : decode cX12_flowOf 175 = .ok (.iload 4, 2) := by decide +kernel
theorem dX12_flowOf_177 : decode cX12_flowOf 177 = .ok (.invokestatic 312, 3) := by decide +kernel
theorem dX12_flowOf_180 : decode cX12_flowOf 180 = .ok (.isub, 1) := by decide +kernel
theorem dX12_flowOf_181 : decode cX12_flowOf 181 = .ok (.invokestatic 330, 3) := by decide +kernel
theorem dX12_flowOf_184 : decode cX12_flowOf 184 = .ok (.invokestatic 330, 3) := by decide +kernel
theorem dX12_flowOf_187 : decode cX12_flowOf 187 = .ok (.istore 7, 2) := by decide +kernel
theorem dX12_flowOf_189 : decode cX12_flowOf 189 = .ok (.iconst 0, 1) := by decide +kernel
theorem dX12_flowOf_190 : decode cX12_flowOf 190 = .ok (.iload 7, 2) := by decide +kernel
theorem dX12_flowOf_192 : decode cX12_flowOf 192 = .ok (.iload 6, 2) := by decide +kernel
theorem dX12_flowOf_194 : decode cX12_flowOf 194 = .ok (.invokestatic 330, 3) := by decide +kernel
theorem dX12_flowOf_197 : decode cX12_flowOf 197 = .ok (.invokestatic 328, 3) := by decide +kernel
theorem dX12_flowOf_200 : decode cX12_flowOf 200 = .ok (.ireturn, 1) := by decide +kernel
theorem dX12_worthNow_0 : decode cX12_worthNow 0 = .ok (.aload_n 0, 1) := by decide +kernel
theorem dX12_worthNow_1 : decode cX12_worthNow 1 = .ok (.getfield 20, 3) := by decide +kernel
theorem dX12_worthNow_4 : decode cX12_worthNow 4 = .ok (.bipush 116, 2) := by decide +kernel
theorem dX12_worthNow_6 : decode cX12_worthNow 6 = .ok (.iaload, 1) := by decide +kernel
theorem dX12_worthNow_7 : decode cX12_worthNow 7 = .ok (.i2l, 1) := by decide +kernel
theorem dX12_worthNow_8 : decode cX12_worthNow 8 = .ok (.lstore_n 1, 1) := by decide +kernel
theorem dX12_worthNow_9 : decode cX12_worthNow 9 = .ok (.ldc2_w 332, 3) := by decide +kernel
theorem dX12_worthNow_12 : decode cX12_worthNow 12 = .ok (.lload_n 1, 1) := by decide +kernel
theorem dX12_worthNow_13 : decode cX12_worthNow 13 = .ok (.lmul, 1) := by decide +kernel
theorem dX12_worthNow_14 : decode cX12_worthNow 14 = .ok (.aload_n 0, 1) := by decide +kernel
theorem dX12_worthNow_15 : decode cX12_worthNow 15 = .ok (.getfield 20, 3) := by decide +kernel
theorem dX12_worthNow_18 : decode cX12_worthNow 18 = .ok (.bipush 100, 2) := by decide +kernel
theorem dX12_worthNow_20 : decode cX12_worthNow 20 = .ok (.iaload, 1) := by decide +kernel
theorem dX12_worthNow_21 : decode cX12_worthNow 21 = .ok (.i2l, 1) := by decide +kernel
theorem dX12_worthNow_22 : decode cX12_worthNow 22 = .ok (.ladd, 1) := by decide +kernel
theorem dX12_worthNow_23 : decode cX12_worthNow 23 = .ok (.lstore_n 1, 1) := by decide +kernel
theorem dX12_worthNow_24 : decode cX12_worthNow 24 = .ok (.ldc2_w 334, 3) := by decide +kernel
theorem dX12_worthNow_27 : decode cX12_worthNow 27 = .ok (.lload_n 1, 1) := by decide +kernel
theorem dX12_worthNow_28 : decode cX12_worthNow 28 = .ok (.lmul, 1) := by decide +kernel
theorem dX12_worthNow_29 : decode cX12_worthNow 29 = .ok (.aload_n 0, 1) := by decide +kernel
theorem dX12_worthNow_30 : decode cX12_worthNow 30 = .ok (.getfield 20, 3) := by decide +kernel
theorem dX12_worthNow_33 : decode cX12_worthNow 33 = .ok (.bipush 109, 2) := by decide +kernel
theorem dX12_worthNow_35 : decode cX12_worthNow 35 = .ok (.iaload, 1) := by decide +kernel
theorem dX12_worthNow_36 : decode cX12_worthNow 36 = .ok (.i2l, 1) := by decide +kernel
theorem dX12_worthNow_37 : decode cX12_worthNow 37 = .ok (.ladd, 1) := by decide +kernel
theorem dX12_worthNow_38 : decode cX12_worthNow 38 = .ok (.lstore_n 1, 1) := by decide +kernel
theorem dX12_worthNow_39 : decode cX12_worthNow 39 = .ok (.ldc2_w 336, 3) := by decide +kernel
theorem dX12_worthNow_42 : decode cX12_worthNow 42 = .ok (.lload_n 1, 1) := by decide +kernel
theorem dX12_worthNow_43 : decode cX12_worthNow 43 = .ok (.lmul, 1) := by decide +kernel
theorem dX12_worthNow_44 : decode cX12_worthNow 44 = .ok (.aload_n 0, 1) := by decide +kernel
theorem dX12_worthNow_45 : decode cX12_worthNow 45 = .ok (.getfield 20, 3) := by decide +kernel
theorem dX12_worthNow_48 : decode cX12_worthNow 48 = .ok (.bipush 119, 2) := by decide +kernel
theorem dX12_worthNow_50 : decode cX12_worthNow 50 = .ok (.iaload, 1) := by decide +kernel
theorem dX12_worthNow_51 : decode cX12_worthNow 51 = .ok (.i2l, 1) := by decide +kernel
theorem dX12_worthNow_52 : decode cX12_worthNow 52 = .ok (.ladd, 1) := by decide +kernel
theorem dX12_worthNow_53 : decode cX12_worthNow 53 = .ok (.lstore_n 1, 1) := by decide +kernel
theorem dX12_worthNow_54 : decode cX12_worthNow 54 = .ok (.ldc2_w 336, 3) := by decide +kernel
theorem dX12_worthNow_57 : decode cX12_worthNow 57 = .ok (.lload_n 1, 1) := by decide +kernel
theorem dX12_worthNow_58 : decode cX12_worthNow 58 = .ok (.lmul, 1) := by decide +kernel
theorem dX12_worthNow_59 : decode cX12_worthNow 59 = .ok (.aload_n 0, 1) := by decide +kernel
theorem dX12_worthNow_60 : decode cX12_worthNow 60 = .ok (.getfield 20, 3) := by decide +kernel
theorem dX12_worthNow_63 : decode cX12_worthNow 63 = .ok (.bipush 104, 2) := by decide +kernel
theorem dX12_worthNow_65 : decode cX12_worthNow 65 = .ok (.iaload, 1) := by decide +kernel
theorem dX12_worthNow_66 : decode cX12_worthNow 66 = .ok (.i2l, 1) := by decide +kernel
theorem dX12_worthNow_67 : decode cX12_worthNow 67 = .ok (.ladd, 1) := by decide +kernel
theorem dX12_worthNow_68 : decode cX12_worthNow 68 = .ok (.lstore_n 1, 1) := by decide +kernel
theorem dX12_worthNow_69 : decode cX12_worthNow 69 = .ok (.ldc2_w 336, 3) := by decide +kernel
theorem dX12_worthNow_72 : decode cX12_worthNow 72 = .ok (.lload_n 1, 1) := by decide +kernel
theorem dX12_worthNow_73 : decode cX12_worthNow 73 = .ok (.lmul, 1) := by decide +kernel
theorem dX12_worthNow_74 : decode cX12_worthNow 74 = .ok (.aload_n 0, 1) := by decide +kernel
theorem dX12_worthNow_75 : decode cX12_worthNow 75 = .ok (.getfield 20, 3) := by decide +kernel
theorem dX12_worthNow_78 : decode cX12_worthNow 78 = .ok (.bipush 108, 2) := by decide +kernel
theorem dX12_worthNow_80 : decode cX12_worthNow 80 = .ok (.iaload, 1) := by decide +kernel
theorem dX12_worthNow_81 : decode cX12_worthNow 81 = .ok (.i2l, 1) := by decide +kernel
theorem dX12_worthNow_82 : decode cX12_worthNow 82 = .ok (.ladd, 1) := by decide +kernel
theorem dX12_worthNow_83 : decode cX12_worthNow 83 = .ok (.lstore_n 1, 1) := by decide +kernel
theorem dX12_worthNow_84 : decode cX12_worthNow 84 = .ok (.ldc2_w 338, 3) := by decide +kernel
theorem dX12_worthNow_87 : decode cX12_worthNow 87 = .ok (.lload_n 1, 1) := by decide +kernel
theorem dX12_worthNow_88 : decode cX12_worthNow 88 = .ok (.lmul, 1) := by decide +kernel
theorem dX12_worthNow_89 : decode cX12_worthNow 89 = .ok (.aload_n 0, 1) := by decide +kernel
theorem dX12_worthNow_90 : decode cX12_worthNow 90 = .ok (.getfield 67, 3) := by decide +kernel
theorem dX12_worthNow_93 : decode cX12_worthNow 93 = .ok (.i2l, 1) := by decide +kernel
theorem dX12_worthNow_94 : decode cX12_worthNow 94 = .ok (.ladd, 1) := by decide +kernel
theorem dX12_worthNow_95 : decode cX12_worthNow 95 = .ok (.lconst 1, 1) := by decide +kernel
theorem dX12_worthNow_96 : decode cX12_worthNow 96 = .ok (.ladd, 1) := by decide +kernel
theorem dX12_worthNow_97 : decode cX12_worthNow 97 = .ok (.lstore_n 1, 1) := by decide +kernel
theorem dX12_worthNow_98 : decode cX12_worthNow 98 = .ok (.lload_n 1, 1) := by decide +kernel
theorem dX12_worthNow_99 : decode cX12_worthNow 99 = .ok (.ldc2_w 340, 3) := by decide +kernel
theorem dX12_worthNow_102 : decode cX12_worthNow 102 = .ok (.lrem, 1) := by decide +kernel
theorem dX12_worthNow_103 : decode cX12_worthNow 103 = .ok (.l2i, 1) := by decide +kernel
theorem dX12_worthNow_104 : decode cX12_worthNow 104 = .ok (.istore_n 3, 1) := by decide +kernel
theorem dX12_worthNow_105 : decode cX12_worthNow 105 = .ok (.aload_n 0, 1) := by decide +kernel
theorem dX12_worthNow_106 : decode cX12_worthNow 106 = .ok (.getfield 74, 3) := by decide +kernel
theorem dX12_worthNow_109 : decode cX12_worthNow 109 = .ok (.iload_n 3, 1) := by decide +kernel
theorem dX12_worthNow_110 : decode cX12_worthNow 110 = .ok (.laload, 1) := by decide +kernel
theorem dX12_worthNow_111 : decode cX12_worthNow 111 = .ok (.lload_n 1, 1) := by decide +kernel
theorem dX12_worthNow_112 : decode cX12_worthNow 112 = .ok (.lcmp, 1) := by decide +kernel
theorem dX12_worthNow_113 : decode cX12_worthNow 113 = .ok (.ifCond .ne 10, 3) := by decide +kernel
theorem dX12_worthNow_116 : decode cX12_worthNow 116 = .ok (.aload_n 0, 1) := by decide +kernel
theorem dX12_worthNow_117 : decode cX12_worthNow 117 = .ok (.getfield 78, 3) := by decide +kernel
theorem dX12_worthNow_120 : decode cX12_worthNow 120 = .ok (.iload_n 3, 1) := by decide +kernel
theorem dX12_worthNow_121 : decode cX12_worthNow 121 = .ok (.iaload, 1) := by decide +kernel
theorem dX12_worthNow_122 : decode cX12_worthNow 122 = .ok (.ireturn, 1) := by decide +kernel
theorem dX12_worthNow_123 : decode cX12_worthNow 123 = .ok (.aload_n 0, 1) := by decide +kernel
theorem dX12_worthNow_124 : decode cX12_worthNow 124 = .ok (.aload_n 0, 1) := by decide +kernel
theorem dX12_worthNow_125 : decode cX12_worthNow 125 = .ok (.getfield 13, 3) := by decide +kernel
theorem dX12_worthNow_128 : decode cX12_worthNow 128 = .ok (.sipush 240, 3) := by decide +kernel
theorem dX12_worthNow_131 : decode cX12_worthNow 131 = .ok (.aload_n 0, 1) := by decide +kernel
theorem dX12_worthNow_132 : decode cX12_worthNow 132 = .ok (.getfield 67, 3) := by decide +kernel
theorem dX12_worthNow_135 : decode cX12_worthNow 135 = .ok (.imul, 1) := by decide +kernel
theorem dX12_worthNow_136 : decode cX12_worthNow 136 = .ok (.aload_n 0, 1) := by decide +kernel
theorem dX12_worthNow_137 : decode cX12_worthNow 137 = .ok (.getfield 16, 3) := by decide +kernel
theorem dX12_worthNow_140 : decode cX12_worthNow 140 = .ok (.aload_n 0, 1) := by decide +kernel
theorem dX12_worthNow_141 : decode cX12_worthNow 141 = .ok (.getfield 67, 3) := by decide +kernel
theorem dX12_worthNow_144 : decode cX12_worthNow 144 = .ok (.iaload, 1) := by decide +kernel
theorem dX12_worthNow_145 : decode cX12_worthNow 145 = .ok (.invokevirtual 280, 3) := by decide +kernel
theorem dX12_worthNow_148 : decode cX12_worthNow 148 = .ok (.aload_n 0, 1) := by decide +kernel
theorem dX12_worthNow_149 : decode cX12_worthNow 149 = .ok (.getfield 74, 3) := by decide +kernel
theorem dX12_worthNow_152 : decode cX12_worthNow 152 = .ok (.iload_n 3, 1) := by decide +kernel
theorem dX12_worthNow_153 : decode cX12_worthNow 153 = .ok (.lload_n 1, 1) := by decide +kernel
theorem dX12_worthNow_154 : decode cX12_worthNow 154 = .ok (.lastore, 1) := by decide +kernel
theorem dX12_worthNow_155 : decode cX12_worthNow 155 = .ok (.aload_n 0, 1) := by decide +kernel
theorem dX12_worthNow_156 : decode cX12_worthNow 156 = .ok (.getfield 78, 3) := by decide +kernel
theorem dX12_worthNow_159 : decode cX12_worthNow 159 = .ok (.iload_n 3, 1) := by decide +kernel
theorem dX12_worthNow_160 : decode cX12_worthNow 160 = .ok (.aload_n 0, 1) := by decide +kernel
theorem dX12_worthNow_161 : decode cX12_worthNow 161 = .ok (.getfield 204, 3) := by decide +kernel
theorem dX12_worthNow_164 : decode cX12_worthNow 164 = .ok (.iastore, 1) := by decide +kernel
theorem dX12_worthNow_165 : decode cX12_worthNow 165 = .ok (.aload_n 0, 1) := by decide +kernel
theorem dX12_worthNow_166 : decode cX12_worthNow 166 = .ok (.getfield 204, 3) := by decide +kernel
theorem dX12_worthNow_169 : decode cX12_worthNow 169 = .ok (.ireturn, 1) := by decide +kernel
theorem dX12_swims_0 : decode cX12_swims 0 = .ok (.aload_n 0, 1) := by decide +kernel
theorem dX12_swims_1 : decode cX12_swims 1 = .ok (.iconst 3, 1) := by decide +kernel
theorem dX12_swims_2 : decode cX12_swims 2 = .ok (.iload_n 1, 1) := by decide +kernel
theorem dX12_swims_3 : decode cX12_swims 3 = .ok (.imul, 1) := by decide +kernel
theorem dX12_swims_4 : decode cX12_swims 4 = .ok (.iload_n 3, 1) := by decide +kernel
theorem dX12_swims_5 : decode cX12_swims 5 = .ok (.iadd, 1) := by decide +kernel
theorem dX12_swims_6 : decode cX12_swims 6 = .ok (.iaload, 1) := by decide +kernel
theorem dX12_swims_7 : decode cX12_swims 7 = .ok (.ifCond .eq 15, 3) := by decide +kernel
theorem dX12_swims_10 : decode cX12_swims 10 = .ok (.aload_n 0, 1) := by decide +kernel
theorem dX12_swims_11 : decode cX12_swims 11 = .ok (.iconst 3, 1) := by decide +kernel
theorem dX12_swims_12 : decode cX12_swims 12 = .ok (.iload_n 2, 1) := by decide +kernel
theorem dX12_swims_13 : decode cX12_swims 13 = .ok (.imul, 1) := by decide +kernel
theorem dX12_swims_14 : decode cX12_swims 14 = .ok (.iload_n 3, 1) := by decide +kernel
theorem dX12_swims_15 : decode cX12_swims 15 = .ok (.iadd, 1) := by decide +kernel
theorem dX12_swims_16 : decode cX12_swims 16 = .ok (.iaload, 1) := by decide +kernel
theorem dX12_swims_17 : decode cX12_swims 17 = .ok (.iload 4, 2) := by decide +kernel
theorem dX12_swims_19 : decode cX12_swims 19 = .ok (.if_icmp .lt 4, 3) := by decide +kernel
theorem dX12_swims_22 : decode cX12_swims 22 = .ok (.return_, 1) := by decide +kernel
theorem dX12_swims_23 : decode cX12_swims 23 = .ok (.aload_n 0, 1) := by decide +kernel
theorem dX12_swims_24 : decode cX12_swims 24 = .ok (.iconst 3, 1) := by decide +kernel
theorem dX12_swims_25 : decode cX12_swims 25 = .ok (.iload_n 1, 1) := by decide +kernel
theorem dX12_swims_26 : decode cX12_swims 26 = .ok (.imul, 1) := by decide +kernel
theorem dX12_swims_27 : decode cX12_swims 27 = .ok (.iload_n 3, 1) := by decide +kernel
theorem dX12_swims_28 : decode cX12_swims 28 = .ok (.iadd, 1) := by decide +kernel
theorem dX12_swims_29 : decode cX12_swims 29 = .ok (.dup2, 1) := by decide +kernel
theorem dX12_swims_30 : decode cX12_swims 30 = .ok (.iaload, 1) := by decide +kernel
theorem dX12_swims_31 : decode cX12_swims 31 = .ok (.iconst 1, 1) := by decide +kernel
theorem dX12_swims_32 : decode cX12_swims 32 = .ok (.isub, 1) := by decide +kernel
theorem dX12_swims_33 : decode cX12_swims 33 = .ok (.iastore, 1) := by decide +kernel
theorem dX12_swims_34 : decode cX12_swims 34 = .ok (.aload_n 0, 1) := by decide +kernel
theorem dX12_swims_35 : decode cX12_swims 35 = .ok (.iconst 3, 1) := by decide +kernel
theorem dX12_swims_36 : decode cX12_swims 36 = .ok (.iload_n 2, 1) := by decide +kernel
theorem dX12_swims_37 : decode cX12_swims 37 = .ok (.imul, 1) := by decide +kernel
theorem dX12_swims_38 : decode cX12_swims 38 = .ok (.iload_n 3, 1) := by decide +kernel
theorem dX12_swims_39 : decode cX12_swims 39 = .ok (.iadd, 1) := by decide +kernel
theorem dX12_swims_40 : decode cX12_swims 40 = .ok (.dup2, 1) := by decide +kernel
theorem dX12_swims_41 : decode cX12_swims 41 = .ok (.iaload, 1) := by decide +kernel
theorem dX12_swims_42 : decode cX12_swims 42 = .ok (.iconst 1, 1) := by decide +kernel
theorem dX12_swims_43 : decode cX12_swims 43 = .ok (.iadd, 1) := by decide +kernel
theorem dX12_swims_44 : decode cX12_swims 44 = .ok (.iastore, 1) := by decide +kernel
theorem dX12_swims_45 : decode cX12_swims 45 = .ok (.return_, 1) := by decide +kernel
theorem dX12_flows_0 : decode cX12_flows 0 = .ok (.iconst 0, 1) := by decide +kernel
theorem dX12_flows_1 : decode cX12_flows 1 = .ok (.istore_n 2, 1) := by decide +kernel
theorem dX12_flows_2 : decode cX12_flows 2 = .ok (.iload_n 2, 1) := by decide +kernel
theorem dX12_flows_3 : decode cX12_flows 3 = .ok (.aload_n 0, 1) := by decide +kernel
theorem dX12_flows_4 : decode cX12_flows 4 = .ok (.getfield 297, 3) := by decide +kernel
theorem dX12_flows_7 : decode cX12_flows 7 = .ok (.if_icmp .ge 101, 3) := by decide +kernel
theorem dX12_flows_10 : decode cX12_flows 10 = .ok (.aload_n 1, 1) := by decide +kernel
theorem dX12_flows_11 : decode cX12_flows 11 = .ok (.bipush 21, 2) := by decide +kernel
theorem dX12_flows_13 : decode cX12_flows 13 = .ok (.iaload, 1) := by decide +kernel
theorem dX12_flows_14 : decode cX12_flows 14 = .ok (.iload_n 2, 1) := by decide +kernel
theorem dX12_flows_15 : decode cX12_flows 15 = .ok (.invokestatic 229, 3) := by decide +kernel
theorem dX12_flows_18 : decode cX12_flows 18 = .ok (.ifCond .eq 12, 3) := by decide +kernel
theorem dX12_flows_21 : decode cX12_flows 21 = .ok (.aload_n 0, 1) := by decide +kernel
theorem dX12_flows_22 : decode cX12_flows 22 = .ok (.aload_n 1, 1) := by decide +kernel
theorem dX12_flows_23 : decode cX12_flows 23 = .ok (.iload_n 2, 1) := by decide +kernel
theorem dX12_flows_24 : decode cX12_flows 24 = .ok (.invokevirtual 342, 3) := by decide +kernel
theorem dX12_flows_27 : decode cX12_flows 27 = .ok (.goto 4, 3) := by decide +kernel
theorem dX12_flows_30 : decode cX12_flows 30 = .ok (.iconst 0, 1) := by decide +kernel
theorem dX12_flows_31 : decode cX12_flows 31 = .ok (.istore_n 3, 1) := by decide +kernel
theorem dX12_flows_32 : decode cX12_flows 32 = .ok (.iload_n 3, 1) := by decide +kernel
theorem dX12_flows_33 : decode cX12_flows 33 = .ok (.ifCond .ne 6, 3) := by decide +kernel
theorem dX12_flows_36 : decode cX12_flows 36 = .ok (.goto 66, 3) := by decide +kernel
theorem dX12_flows_39 : decode cX12_flows 39 = .ok (.aload_n 0, 1) := by decide +kernel
theorem dX12_flows_40 : decode cX12_flows 40 = .ok (.aload_n 1, 1) := by decide +kernel
theorem dX12_flows_41 : decode cX12_flows 41 = .ok (.iload_n 2, 1) := by decide +kernel
theorem dX12_flows_42 : decode cX12_flows 42 = .ok (.invokevirtual 319, 3) := by decide +kernel
theorem dX12_flows_45 : decode cX12_flows 45 = .ok (.istore 4, 2) := by decide +kernel
theorem dX12_flows_47 : decode cX12_flows 47 = .ok (.aload_n 0, 1) := by decide +kernel
theorem dX12_flows_48 : decode cX12_flows 48 = .ok (.iload_n 2, 1) := by decide +kernel
theorem dX12_flows_49 : decode cX12_flows 49 = .ok (.iload 4, 2) := by decide +kernel
theorem dX12_flows_51 : decode cX12_flows 51 = .ok (.invokevirtual 322, 3) := by decide +kernel
theorem dX12_flows_54 : decode cX12_flows 54 = .ok (.istore 5, 2) := by decide +kernel
theorem dX12_flows_56 : decode cX12_flows 56 = .ok (.aload_n 1, 1) := by decide +kernel
theorem dX12_flows_57 : decode cX12_flows 57 = .ok (.iconst 3, 1) := by decide +kernel
theorem dX12_flows_58 : decode cX12_flows 58 = .ok (.iload 4, 2) := by decide +kernel
theorem dX12_flows_60 : decode cX12_flows 60 = .ok (.imul, 1) := by decide +kernel
theorem dX12_flows_61 : decode cX12_flows 61 = .ok (.iconst 0, 1) := by decide +kernel
theorem dX12_flows_62 : decode cX12_flows 62 = .ok (.iadd, 1) := by decide +kernel
theorem dX12_flows_63 : decode cX12_flows 63 = .ok (.dup2, 1) := by decide +kernel
theorem dX12_flows_64 : decode cX12_flows 64 = .ok (.iaload, 1) := by decide +kernel
theorem dX12_flows_65 : decode cX12_flows 65 = .ok (.iload_n 3, 1) := by decide +kernel
theorem dX12_flows_66 : decode cX12_flows 66 = .ok (.isub, 1) := by decide +kernel
theorem dX12_flows_67 : decode cX12_flows 67 = .ok (.iastore, 1) := by decide +kernel
theorem dX12_flows_68 : decode cX12_flows 68 = .ok (.aload_n 1, 1) := by decide +kernel
theorem dX12_flows_69 : decode cX12_flows 69 = .ok (.iconst 3, 1) := by decide +kernel
theorem dX12_flows_70 : decode cX12_flows 70 = .ok (.iload 5, 2) := by decide +kernel
theorem dX12_flows_72 : decode cX12_flows 72 = .ok (.imul, 1) := by decide +kernel
theorem dX12_flows_73 : decode cX12_flows 73 = .ok (.iconst 0, 1) := by decide +kernel
theorem dX12_flows_74 : decode cX12_flows 74 = .ok (.iadd, 1) := by decide +kernel
theorem dX12_flows_75 : decode cX12_flows 75 = .ok (.dup2, 1) := by decide +kernel
theorem dX12_flows_76 : decode cX12_flows 76 = .ok (.iaload, 1) := by decide +kernel
theorem dX12_flows_77 : decode cX12_flows 77 = .ok (.iload_n 3, 1) := by decide +kernel
theorem dX12_flows_78 : decode cX12_flows 78 = .ok (.iadd, 1) := by decide +kernel
theorem dX12_flows_79 : decode cX12_flows 79 = .ok (.iastore, 1) := by decide +kernel
theorem dX12_flows_80 : decode cX12_flows 80 = .ok (.aload_n 1, 1) := by decide +kernel
theorem dX12_flows_81 : decode cX12_flows 81 = .ok (.iload 4, 2) := by decide +kernel
theorem dX12_flows_83 : decode cX12_flows 83 = .ok (.iload 5, 2) := by decide +kernel
theorem dX12_flows_85 : decode cX12_flows 85 = .ok (.iconst 1, 1) := by decide +kernel
theorem dX12_flows_86 : decode cX12_flows 86 = .ok (.bipush 99, 2) := by decide +kernel
theorem dX12_flows_88 : decode cX12_flows 88 = .ok (.invokestatic 345, 3) := by decide +kernel
theorem dX12_flows_91 : decode cX12_flows 91 = .ok (.aload_n 1, 1) := by decide +kernel
theorem dX12_flows_92 : decode cX12_flows 92 = .ok (.iload 4, 2) := by decide +kernel
theorem dX12_flows_94 : decode cX12_flows 94 = .ok (.iload 5, 2) := by decide +kernel
theorem dX12_flows_96 : decode cX12_flows 96 = .ok (.iconst 2, 1) := by decide +kernel
theorem dX12_flows_97 : decode cX12_flows 97 = .ok (.bipush 9, 2) := by decide +kernel
theorem dX12_flows_99 : decode cX12_flows 99 = .ok (.invokestatic 345, 3) := by decide +kernel
theorem dX12_flows_102 : decode cX12_flows 102 = .ok (.iinc 2 1, 3) := by decide +kernel
theorem dX12_flows_105 : decode cX12_flows 105 = .ok (.goto (-103), 3) := by decide +kernel
theorem dX12_flows_108 : decode cX12_flows 108 = .ok (.return_, 1) := by decide +kernel
theorem dX12_breeds_0 : decode cX12_breeds 0 = .ok (.iconst 3, 1) := by decide +kernel
theorem dX12_breeds_1 : decode cX12_breeds 1 = .ok (.iload_n 2, 1) := by decide +kernel
theorem dX12_breeds_2 : decode cX12_breeds 2 = .ok (.imul, 1) := by decide +kernel
theorem dX12_breeds_3 : decode cX12_breeds 3 = .ok (.istore_n 3, 1) := by decide +kernel
theorem dX12_breeds_4 : decode cX12_breeds 4 = .ok (.aload_n 1, 1) := by decide +kernel
theorem dX12_breeds_5 : decode cX12_breeds 5 = .ok (.iload_n 3, 1) := by decide +kernel
theorem dX12_breeds_6 : decode cX12_breeds 6 = .ok (.iconst 0, 1) := by decide +kernel
theorem dX12_breeds_7 : decode cX12_breeds 7 = .ok (.iadd, 1) := by decide +kernel
theorem dX12_breeds_8 : decode cX12_breeds 8 = .ok (.iaload, 1) := by decide +kernel
theorem dX12_breeds_9 : decode cX12_breeds 9 = .ok (.ifCond .ne 16, 3) := by decide +kernel
theorem dX12_breeds_12 : decode cX12_breeds 12 = .ok (.aload_n 1, 1) := by decide +kernel
theorem dX12_breeds_13 : decode cX12_breeds 13 = .ok (.iload_n 3, 1) := by decide +kernel
theorem dX12_breeds_14 : decode cX12_breeds 14 = .ok (.iconst 1, 1) := by decide +kernel
theorem dX12_breeds_15 : decode cX12_breeds 15 = .ok (.iadd, 1) := by decide +kernel
theorem dX12_breeds_16 : decode cX12_breeds 16 = .ok (.iconst 0, 1) := by decide +kernel
theorem dX12_breeds_17 : decode cX12_breeds 17 = .ok (.iastore, 1) := by decide +kernel
theorem dX12_breeds_18 : decode cX12_breeds 18 = .ok (.aload_n 1, 1) := by decide +kernel
theorem dX12_breeds_19 : decode cX12_breeds 19 = .ok (.iload_n 3, 1) := by decide +kernel
theorem dX12_breeds_20 : decode cX12_breeds 20 = .ok (.iconst 2, 1) := by decide +kernel
theorem dX12_breeds_21 : decode cX12_breeds 21 = .ok (.iadd, 1) := by decide +kernel
theorem dX12_breeds_22 : decode cX12_breeds 22 = .ok (.iconst 0, 1) := by decide +kernel
theorem dX12_breeds_23 : decode cX12_breeds 23 = .ok (.iastore, 1) := by decide +kernel
theorem dX12_breeds_24 : decode cX12_breeds 24 = .ok (.return_, 1) := by decide +kernel
theorem dX12_breeds_25 : decode cX12_breeds 25 = .ok (.aload_n 1, 1) := by decide +kernel
theorem dX12_breeds_26 : decode cX12_breeds 26 = .ok (.iload_n 3, 1) := by decide +kernel
theorem dX12_breeds_27 : decode cX12_breeds 27 = .ok (.iconst 1, 1) := by decide +kernel
theorem dX12_breeds_28 : decode cX12_breeds 28 = .ok (.iadd, 1) := by decide +kernel
theorem dX12_breeds_29 : decode cX12_breeds 29 = .ok (.iaload, 1) := by decide +kernel
theorem dX12_breeds_30 : decode cX12_breeds 30 = .ok (.aload_n 1, 1) := by decide +kernel
theorem dX12_breeds_31 : decode cX12_breeds 31 = .ok (.iload_n 3, 1) := by decide +kernel
theorem dX12_breeds_32 : decode cX12_breeds 32 = .ok (.iconst 2, 1) := by decide +kernel
theorem dX12_breeds_33 : decode cX12_breeds 33 = .ok (.iadd, 1) := by decide +kernel
theorem dX12_breeds_34 : decode cX12_breeds 34 = .ok (.iaload, 1) := by decide +kernel
theorem dX12_breeds_35 : decode cX12_breeds 35 = .ok (.if_icmp .ge 7, 3) := by decide +kernel
theorem dX12_breeds_38 : decode cX12_breeds 38 = .ok (.iconst 1, 1) := by decide +kernel
theorem dX12_breeds_39 : decode cX12_breeds 39 = .ok (.goto 4, 3) := by decide +kernel
theorem dX12_breeds_42 : decode cX12_breeds 42 = .ok (.iconst 0, 1) := by decide +kernel
theorem dX12_breeds_43 : decode cX12_breeds 43 = .ok (.istore 4, 2) := by decide +kernel
theorem dX12_breeds_45 : decode cX12_breeds 45 = .ok (.aload_n 1, 1) := by decide +kernel
theorem dX12_breeds_46 : decode cX12_breeds 46 = .ok (.iload_n 3, 1) := by decide +kernel
theorem dX12_breeds_47 : decode cX12_breeds 47 = .ok (.iconst 1, 1) := by decide +kernel
theorem dX12_breeds_48 : decode cX12_breeds 48 = .ok (.iadd, 1) := by decide +kernel
theorem dX12_breeds_49 : decode cX12_breeds 49 = .ok (.iconst 0, 1) := by decide +kernel
theorem dX12_breeds_50 : decode cX12_breeds 50 = .ok (.aload_n 1, 1) := by decide +kernel
theorem dX12_breeds_51 : decode cX12_breeds 51 = .ok (.iload_n 3, 1) := by decide +kernel
theorem dX12_breeds_52 : decode cX12_breeds 52 = .ok (.iconst 1, 1) := by decide +kernel
theorem dX12_breeds_53 : decode cX12_breeds 53 = .ok (.iadd, 1) := by decide +kernel
theorem dX12_breeds_54 : decode cX12_breeds 54 = .ok (.iaload, 1) := by decide +kernel
theorem dX12_breeds_55 : decode cX12_breeds 55 = .ok (.iconst 2, 1) := by decide +kernel
theorem dX12_breeds_56 : decode cX12_breeds 56 = .ok (.aload_n 1, 1) := by decide +kernel
theorem dX12_breeds_57 : decode cX12_breeds 57 = .ok (.iload_n 3, 1) := by decide +kernel
theorem dX12_breeds_58 : decode cX12_breeds 58 = .ok (.iconst 2, 1) := by decide +kernel
theorem dX12_breeds_59 : decode cX12_breeds 59 = .ok (.iadd, 1) := by decide +kernel
theorem dX12_breeds_60 : decode cX12_breeds 60 = .ok (.iaload, 1) := by decide +kernel
theorem dX12_breeds_61 : decode cX12_breeds 61 = .ok (.imul, 1) := by decide +kernel
theorem dX12_breeds_62 : decode cX12_breeds 62 = .ok (.isub, 1) := by decide +kernel
theorem dX12_breeds_63 : decode cX12_breeds 63 = .ok (.invokestatic 328, 3) := by decide +kernel
theorem dX12_breeds_66 : decode cX12_breeds 66 = .ok (.iastore, 1) := by decide +kernel
theorem dX12_breeds_67 : decode cX12_breeds 67 = .ok (.iload 4, 2) := by decide +kernel
theorem dX12_breeds_69 : decode cX12_breeds 69 = .ok (.ifCond .eq 12, 3) := by decide +kernel
theorem dX12_breeds_72 : decode cX12_breeds 72 = .ok (.aload_n 1, 1) := by decide +kernel
theorem dX12_breeds_73 : decode cX12_breeds 73 = .ok (.iload_n 3, 1) := by decide +kernel
theorem dX12_breeds_74 : decode cX12_breeds 74 = .ok (.iconst 2, 1) := by decide +kernel
theorem dX12_breeds_75 : decode cX12_breeds 75 = .ok (.iadd, 1) := by decide +kernel
theorem dX12_breeds_76 : decode cX12_breeds 76 = .ok (.dup2, 1) := by decide +kernel
theorem dX12_breeds_77 : decode cX12_breeds 77 = .ok (.iaload, 1) := by decide +kernel
theorem dX12_breeds_78 : decode cX12_breeds 78 = .ok (.iconst 1, 1) := by decide +kernel
theorem dX12_breeds_79 : decode cX12_breeds 79 = .ok (.isub, 1) := by decide +kernel
theorem dX12_breeds_80 : decode cX12_breeds 80 = .ok (.iastore, 1) := by decide +kernel
theorem dX12_breeds_81 : decode cX12_breeds 81 = .ok (.aload_n 1, 1) := by decide +kernel
theorem dX12_breeds_82 : decode cX12_breeds 82 = .ok (.iload_n 3, 1) := by decide +kernel
theorem dX12_breeds_83 : decode cX12_breeds 83 = .ok (.iconst 0, 1) := by decide +kernel
theorem dX12_breeds_84 : decode cX12_breeds 84 = .ok (.iadd, 1) := by decide +kernel
theorem dX12_breeds_85 : decode cX12_breeds 85 = .ok (.iaload, 1) := by decide +kernel
theorem dX12_breeds_86 : decode cX12_breeds 86 = .ok (.aload_n 0, 1) := by decide +kernel
theorem dX12_breeds_87 : decode cX12_breeds 87 = .ok (.getfield 37, 3) := by decide +kernel
theorem dX12_breeds_90 : decode cX12_breeds 90 = .ok (.iconst 2, 1) := by decide +kernel
theorem dX12_breeds_91 : decode cX12_breeds 91 = .ok (.iaload, 1) := by decide +kernel
theorem dX12_breeds_92 : decode cX12_breeds 92 = .ok (.if_icmp .lt 26, 3) := by decide +kernel
theorem dX12_breeds_95 : decode cX12_breeds 95 = .ok (.aload_n 1, 1) := by decide +kernel
theorem dX12_breeds_96 : decode cX12_breeds 96 = .ok (.iload_n 3, 1) := by decide +kernel
theorem dX12_breeds_97 : decode cX12_breeds 97 = .ok (.iconst 1, 1) := by decide +kernel
theorem dX12_breeds_98 : decode cX12_breeds 98 = .ok (.iadd, 1) := by decide +kernel
theorem dX12_breeds_99 : decode cX12_breeds 99 = .ok (.bipush 99, 2) := by decide +kernel
theorem dX12_breeds_101 : decode cX12_breeds 101 = .ok (.aload_n 1, 1) := by decide +kernel
theorem dX12_breeds_102 : decode cX12_breeds 102 = .ok (.iload_n 3, 1) := by decide +kernel
theorem dX12_breeds_103 : decode cX12_breeds 103 = .ok (.iconst 1, 1) := by decide +kernel
theorem dX12_breeds_104 : decode cX12_breeds 104 = .ok (.iadd, 1) := by decide +kernel
theorem dX12_breeds_105 : decode cX12_breeds 105 = .ok (.iaload, 1) := by decide +kernel
theorem dX12_breeds_106 : decode cX12_breeds 106 = .ok (.aload_n 1, 1) := by decide +kernel
theorem dX12_breeds_107 : decode cX12_breeds 107 = .ok (.iload_n 3, 1) := by decide +kernel
theorem dX12_breeds_108 : decode cX12_breeds 108 = .ok (.iconst 1, 1) := by decide +kernel
theorem dX12_breeds_109 : decode cX12_breeds 109 = .ok (.iadd, 1) := by decide +kernel
theorem dX12_breeds_110 : decode cX12_breeds 110 = .ok (.iaload, 1) := by decide +kernel
theorem dX12_breeds_111 : decode cX12_breeds 111 = .ok (.iconst 4, 1) := by decide +kernel
theorem dX12_breeds_112 : decode cX12_breeds 112 = .ok (.idiv, 1) := by decide +kernel
theorem dX12_breeds_113 : decode cX12_breeds 113 = .ok (.iadd, 1) := by decide +kernel
theorem dX12_breeds_114 : decode cX12_breeds 114 = .ok (.invokestatic 330, 3) := by decide +kernel
theorem dX12_breeds_117 : decode cX12_breeds 117 = .ok (.iastore, 1) := by decide +kernel
theorem dX12_breeds_118 : decode cX12_breeds 118 = .ok (.return_, 1) := by decide +kernel
theorem dX12_bareIn_0 : decode cX12_bareIn 0 = .ok (.iconst 0, 1) := by decide +kernel
theorem dX12_bareIn_1 : decode cX12_bareIn 1 = .ok (.istore_n 2, 1) := by decide +kernel
theorem dX12_bareIn_2 : decode cX12_bareIn 2 = .ok (.iconst 0, 1) := by decide +kernel
theorem dX12_bareIn_3 : decode cX12_bareIn 3 = .ok (.istore_n 3, 1) := by decide +kernel
theorem dX12_bareIn_4 : decode cX12_bareIn 4 = .ok (.iload_n 3, 1) := by decide +kernel
theorem dX12_bareIn_5 : decode cX12_bareIn 5 = .ok (.aload_n 0, 1) := by decide +kernel
theorem dX12_bareIn_6 : decode cX12_bareIn 6 = .ok (.getfield 294, 3) := by decide +kernel
theorem dX12_bareIn_9 : decode cX12_bareIn 9 = .ok (.if_icmp .ge 33, 3) := by decide +kernel
theorem dX12_bareIn_12 : decode cX12_bareIn 12 = .ok (.iload_n 2, 1) := by decide +kernel
theorem dX12_bareIn_13 : decode cX12_bareIn 13 = .ok (.aload_n 1, 1) := by decide +kernel
theorem dX12_bareIn_14 : decode cX12_bareIn 14 = .ok (.iload_n 3, 1) := by decide +kernel
theorem dX12_bareIn_15 : decode cX12_bareIn 15 = .ok (.invokestatic 312, 3) := by decide +kernel
theorem dX12_bareIn_18 : decode cX12_bareIn 18 = .ok (.aload_n 0, 1) := by decide +kernel
theorem dX12_bareIn_19 : decode cX12_bareIn 19 = .ok (.iload_n 3, 1) := by decide +kernel
theorem dX12_bareIn_20 : decode cX12_bareIn 20 = .ok (.iconst 3, 1) := by decide +kernel
theorem dX12_bareIn_21 : decode cX12_bareIn 21 = .ok (.invokevirtual 300, 3) := by decide +kernel
theorem dX12_bareIn_24 : decode cX12_bareIn 24 = .ok (.if_icmp .ge 9, 3) := by decide +kernel
theorem dX12_bareIn_27 : decode cX12_bareIn 27 = .ok (.iconst 1, 1) := by decide +kernel
theorem dX12_bareIn_28 : decode cX12_bareIn 28 = .ok (.iload_n 3, 1) := by decide +kernel
theorem dX12_bareIn_29 : decode cX12_bareIn 29 = .ok (.ishl, 1) := by decide +kernel
theorem dX12_bareIn_30 : decode cX12_bareIn 30 = .ok (.goto 4, 3) := by decide +kernel
theorem dX12_bareIn_33 : decode cX12_bareIn 33 = .ok (.iconst 0, 1) := by decide +kernel
theorem dX12_bareIn_34 : decode cX12_bareIn 34 = .ok (.ior, 1) := by decide +kernel
theorem dX12_bareIn_35 : decode cX12_bareIn 35 = .ok (.istore_n 2, 1) := by decide +kernel
theorem dX12_bareIn_36 : decode cX12_bareIn 36 = .ok (.iinc 3 1, 3) := by decide +kernel
theorem dX12_bareIn_39 : decode cX12_bareIn 39 = .ok (.goto (-35), 3) := by decide +kernel
theorem dX12_bareIn_42 : decode cX12_bareIn 42 = .ok (.iload_n 2, 1) := by decide +kernel
theorem dX12_bareIn_43 : decode cX12_bareIn 43 = .ok (.ireturn, 1) := by decide +kernel
theorem dX12_sumIn_0 : decode cX12_sumIn 0 = .ok (.iconst 0, 1) := by decide +kernel
theorem dX12_sumIn_1 : decode cX12_sumIn 1 = .ok (.istore_n 3, 1) := by decide +kernel
theorem dX12_sumIn_2 : decode cX12_sumIn 2 = .ok (.iconst 0, 1) := by decide +kernel
theorem dX12_sumIn_3 : decode cX12_sumIn 3 = .ok (.istore 4, 2) := by decide +kernel
theorem dX12_sumIn_5 : decode cX12_sumIn 5 = .ok (.iload 4, 2) := by decide +kernel
theorem dX12_sumIn_7 : decode cX12_sumIn 7 = .ok (.aload_n 0, 1) := by decide +kernel
theorem dX12_sumIn_8 : decode cX12_sumIn 8 = .ok (.getfield 294, 3) := by decide +kernel
theorem dX12_sumIn_11 : decode cX12_sumIn 11 = .ok (.if_icmp .ge 20, 3) := by decide +kernel
theorem dX12_sumIn_14 : decode cX12_sumIn 14 = .ok (.iload_n 3, 1) := by decide +kernel
theorem dX12_sumIn_15 : decode cX12_sumIn 15 = .ok (.aload_n 1, 1) := by decide +kernel
theorem dX12_sumIn_16 : decode cX12_sumIn 16 = .ok (.iconst 3, 1) := by decide +kernel
theorem dX12_sumIn_17 : decode cX12_sumIn 17 = .ok (.iload 4, 2) := by decide +kernel
theorem dX12_sumIn_19 : decode cX12_sumIn 19 = .ok (.imul, 1) := by decide +kernel
theorem dX12_sumIn_20 : decode cX12_sumIn 20 = .ok (.iload_n 2, 1) := by decide +kernel
theorem dX12_sumIn_21 : decode cX12_sumIn 21 = .ok (.iadd, 1) := by decide +kernel
theorem dX12_sumIn_22 : decode cX12_sumIn 22 = .ok (.iaload, 1) := by decide +kernel
theorem dX12_sumIn_23 : decode cX12_sumIn 23 = .ok (.iadd, 1) := by decide +kernel
theorem dX12_sumIn_24 : decode cX12_sumIn 24 = .ok (.istore_n 3, 1) := by decide +kernel
theorem dX12_sumIn_25 : decode cX12_sumIn 25 = .ok (.iinc 4 1, 3) := by decide +kernel
theorem dX12_sumIn_28 : decode cX12_sumIn 28 = .ok (.goto (-23), 3) := by decide +kernel
theorem dX12_sumIn_31 : decode cX12_sumIn 31 = .ok (.iload_n 3, 1) := by decide +kernel
theorem dX12_sumIn_32 : decode cX12_sumIn 32 = .ok (.ireturn, 1) := by decide +kernel
theorem dX12_goDay_0 : decode cX12_goDay 0 = .ok (.aload_n 0, 1) := by decide +kernel
theorem dX12_goDay_1 : decode cX12_goDay 1 = .ok (.aload_n 1, 1) := by decide +kernel
theorem dX12_goDay_2 : decode cX12_goDay 2 = .ok (.invokevirtual 349, 3) := by decide +kernel
theorem dX12_goDay_5 : decode cX12_goDay 5 = .ok (.iconst 0, 1) := by decide +kernel
theorem dX12_goDay_6 : decode cX12_goDay 6 = .ok (.istore_n 3, 1) := by decide +kernel
theorem dX12_goDay_7 : decode cX12_goDay 7 = .ok (.iload_n 3, 1) := by decide +kernel
theorem dX12_goDay_8 : decode cX12_goDay 8 = .ok (.aload_n 0, 1) := by decide +kernel
theorem dX12_goDay_9 : decode cX12_goDay 9 = .ok (.getfield 294, 3) := by decide +kernel
theorem dX12_goDay_12 : decode cX12_goDay 12 = .ok (.if_icmp .ge 85, 3) := by decide +kernel
theorem dX12_goDay_15 : decode cX12_goDay 15 = .ok (.iconst 3, 1) := by decide +kernel
theorem dX12_goDay_16 : decode cX12_goDay 16 = .ok (.iload_n 3, 1) := by decide +kernel
theorem dX12_goDay_17 : decode cX12_goDay 17 = .ok (.imul, 1) := by decide +kernel
theorem dX12_goDay_18 : decode cX12_goDay 18 = .ok (.iconst 0, 1) := by decide +kernel
theorem dX12_goDay_19 : decode cX12_goDay 19 = .ok (.iadd, 1) := by decide +kernel
theorem dX12_goDay_20 : decode cX12_goDay 20 = .ok (.istore 4, 2) := by decide +kernel
theorem dX12_goDay_22 : decode cX12_goDay 22 = .ok (.aload_n 1, 1) := by decide +kernel
theorem dX12_goDay_23 : decode cX12_goDay 23 = .ok (.bipush 22, 2) := by decide +kernel
theorem dX12_goDay_25 : decode cX12_goDay 25 = .ok (.dup2, 1) := by decide +kernel
theorem dX12_goDay_26 : decode cX12_goDay 26 = .ok (.iaload, 1) := by decide +kernel
theorem dX12_goDay_27 : decode cX12_goDay 27 = .ok (.iconst 0, 1) := by decide +kernel
theorem dX12_goDay_28 : decode cX12_goDay 28 = .ok (.aload_n 1, 1) := by decide +kernel
theorem dX12_goDay_29 : decode cX12_goDay 29 = .ok (.iload 4, 2) := by decide +kernel
theorem dX12_goDay_31 : decode cX12_goDay 31 = .ok (.iaload, 1) := by decide +kernel
theorem dX12_goDay_32 : decode cX12_goDay 32 = .ok (.iload_n 2, 1) := by decide +kernel
theorem dX12_goDay_33 : decode cX12_goDay 33 = .ok (.iadd, 1) := by decide +kernel
theorem dX12_goDay_34 : decode cX12_goDay 34 = .ok (.aload_n 0, 1) := by decide +kernel
theorem dX12_goDay_35 : decode cX12_goDay 35 = .ok (.iload_n 3, 1) := by decide +kernel
theorem dX12_goDay_36 : decode cX12_goDay 36 = .ok (.iconst 1, 1) := by decide +kernel
theorem dX12_goDay_37 : decode cX12_goDay 37 = .ok (.invokevirtual 300, 3) := by decide +kernel
theorem dX12_goDay_40 : decode cX12_goDay 40 = .ok (.isub, 1) := by decide +kernel
theorem dX12_goDay_41 : decode cX12_goDay 41 = .ok (.invokestatic 328, 3) := by decide +kernel
theorem dX12_goDay_44 : decode cX12_goDay 44 = .ok (.iadd, 1) := by decide +kernel
theorem dX12_goDay_45 : decode cX12_goDay 45 = .ok (.iastore, 1) := by decide +kernel
theorem dX12_goDay_46 : decode cX12_goDay 46 = .ok (.aload_n 1, 1) := by decide +kernel
theorem dX12_goDay_47 : decode cX12_goDay 47 = .ok (.iload 4, 2) := by decide +kernel
theorem dX12_goDay_49 : decode cX12_goDay 49 = .ok (.aload_n 0, 1) := by decide +kernel
theorem dX12_goDay_50 : decode cX12_goDay 50 = .ok (.iload_n 3, 1) := by decide +kernel
theorem dX12_goDay_51 : decode cX12_goDay 51 = .ok (.iconst 1, 1) := by decide +kernel
theorem dX12_goDay_52 : decode cX12_goDay 52 = .ok (.invokevirtual 300, 3) := by decide +kernel
theorem dX12_goDay_55 : decode cX12_goDay 55 = .ok (.aload_n 1, 1) := by decide +kernel
theorem dX12_goDay_56 : decode cX12_goDay 56 = .ok (.iload 4, 2) := by decide +kernel
theorem dX12_goDay_58 : decode cX12_goDay 58 = .ok (.iaload, 1) := by decide +kernel
theorem dX12_goDay_59 : decode cX12_goDay 59 = .ok (.iload_n 2, 1) := by decide +kernel
theorem dX12_goDay_60 : decode cX12_goDay 60 = .ok (.iadd, 1) := by decide +kernel
theorem dX12_goDay_61 : decode cX12_goDay 61 = .ok (.invokestatic 330, 3) := by decide +kernel
theorem dX12_goDay_64 : decode cX12_goDay 64 = .ok (.iastore, 1) := by decide +kernel
theorem dX12_goDay_65 : decode cX12_goDay 65 = .ok (.aload_n 1, 1) := by decide +kernel
theorem dX12_goDay_66 : decode cX12_goDay 66 = .ok (.iload 4, 2) := by decide +kernel
theorem dX12_goDay_68 : decode cX12_goDay 68 = .ok (.iconst 0, 1) := by decide +kernel
theorem dX12_goDay_69 : decode cX12_goDay 69 = .ok (.aload_n 1, 1) := by decide +kernel
theorem dX12_goDay_70 : decode cX12_goDay 70 = .ok (.iload 4, 2) := by decide +kernel
theorem dX12_goDay_72 : decode cX12_goDay 72 = .ok (.iaload, 1) := by decide +kernel
theorem dX12_goDay_73 : decode cX12_goDay 73 = .ok (.aload_n 0, 1) := by decide +kernel
theorem dX12_goDay_74 : decode cX12_goDay 74 = .ok (.getfield 37, 3) := by decide +kernel
theorem dX12_goDay_77 : decode cX12_goDay 77 = .ok (.iconst 1, 1) := by decide +kernel
theorem dX12_goDay_78 : decode cX12_goDay 78 = .ok (.iaload, 1) := by decide +kernel
theorem dX12_goDay_79 : decode cX12_goDay 79 = .ok (.isub, 1) := by decide +kernel
theorem dX12_goDay_80 : decode cX12_goDay 80 = .ok (.aload_n 0, 1) := by decide +kernel
theorem dX12_goDay_81 : decode cX12_goDay 81 = .ok (.iload_n 3, 1) := by decide +kernel
theorem dX12_goDay_82 : decode cX12_goDay 82 = .ok (.iconst 4, 1) := by decide +kernel
theorem dX12_goDay_83 : decode cX12_goDay 83 = .ok (.invokevirtual 300, 3) := by decide +kernel
theorem dX12_goDay_86 : decode cX12_goDay 86 = .ok (.isub, 1) := by decide +kernel
theorem dX12_goDay_87 : decode cX12_goDay 87 = .ok (.invokestatic 328, 3) := by decide +kernel
theorem dX12_goDay_90 : decode cX12_goDay 90 = .ok (.iastore, 1) := by decide +kernel
theorem dX12_goDay_91 : decode cX12_goDay 91 = .ok (.iinc 3 1, 3) := by decide +kernel
theorem dX12_goDay_94 : decode cX12_goDay 94 = .ok (.goto (-87), 3) := by decide +kernel
theorem dX12_goDay_97 : decode cX12_goDay 97 = .ok (.iconst 0, 1) := by decide +kernel
theorem dX12_goDay_98 : decode cX12_goDay 98 = .ok (.istore_n 3, 1) := by decide +kernel
theorem dX12_goDay_99 : decode cX12_goDay 99 = .ok (.iload_n 3, 1) := by decide +kernel
theorem dX12_goDay_100 : decode cX12_goDay 100 = .ok (.aload_n 0, 1) := by decide +kernel
theorem dX12_goDay_101 : decode cX12_goDay 101 = .ok (.getfield 294, 3) := by decide +kernel
theorem dX12_goDay_104 : decode cX12_goDay 104 = .ok (.if_icmp .ge 15, 3) := by decide +kernel
theorem dX12_goDay_107 : decode cX12_goDay 107 = .ok (.aload_n 0, 1) := by decide +kernel
theorem dX12_goDay_108 : decode cX12_goDay 108 = .ok (.aload_n 1, 1) := by decide +kernel
theorem dX12_goDay_109 : decode cX12_goDay 109 = .ok (.iload_n 3, 1) := by decide +kernel
theorem dX12_goDay_110 : decode cX12_goDay 110 = .ok (.invokevirtual 353, 3) := by decide +kernel
theorem dX12_goDay_113 : decode cX12_goDay 113 = .ok (.iinc 3 1, 3) := by decide +kernel
theorem dX12_goDay_116 : decode cX12_goDay 116 = .ok (.goto (-17), 3) := by decide +kernel
theorem dX12_goDay_119 : decode cX12_goDay 119 = .ok (.aload_n 1, 1) := by decide +kernel
theorem dX12_goDay_120 : decode cX12_goDay 120 = .ok (.bipush 23, 2) := by decide +kernel
theorem dX12_goDay_122 : decode cX12_goDay 122 = .ok (.dup2, 1) := by decide +kernel
theorem dX12_goDay_123 : decode cX12_goDay 123 = .ok (.iaload, 1) := by decide +kernel
theorem dX12_goDay_124 : decode cX12_goDay 124 = .ok (.iconst 1, 1) := by decide +kernel
theorem dX12_goDay_125 : decode cX12_goDay 125 = .ok (.iadd, 1) := by decide +kernel
theorem dX12_goDay_126 : decode cX12_goDay 126 = .ok (.iastore, 1) := by decide +kernel
theorem dX12_goDay_127 : decode cX12_goDay 127 = .ok (.aload_n 1, 1) := by decide +kernel
theorem dX12_goDay_128 : decode cX12_goDay 128 = .ok (.bipush 24, 2) := by decide +kernel
theorem dX12_goDay_130 : decode cX12_goDay 130 = .ok (.iaload, 1) := by decide +kernel
theorem dX12_goDay_131 : decode cX12_goDay 131 = .ok (.bipush 60, 2) := by decide +kernel
theorem dX12_goDay_133 : decode cX12_goDay 133 = .ok (.if_icmp .ne 40, 3) := by decide +kernel
theorem dX12_goDay_136 : decode cX12_goDay 136 = .ok (.iconst 1, 1) := by decide +kernel
theorem dX12_goDay_137 : decode cX12_goDay 137 = .ok (.istore_n 3, 1) := by decide +kernel
theorem dX12_goDay_138 : decode cX12_goDay 138 = .ok (.iload_n 3, 1) := by decide +kernel
theorem dX12_goDay_139 : decode cX12_goDay 139 = .ok (.sipush 177, 3) := by decide +kernel
theorem dX12_goDay_142 : decode cX12_goDay 142 = .ok (.if_icmp .gt 23, 3) := by decide +kernel
theorem dX12_goDay_145 : decode cX12_goDay 145 = .ok (.aload_n 1, 1) := by decide +kernel
theorem dX12_goDay_146 : decode cX12_goDay 146 = .ok (.bipush 24, 2) := by decide +kernel
theorem dX12_goDay_148 : decode cX12_goDay 148 = .ok (.iload_n 3, 1) := by decide +kernel
theorem dX12_goDay_149 : decode cX12_goDay 149 = .ok (.iadd, 1) := by decide +kernel
theorem dX12_goDay_150 : decode cX12_goDay 150 = .ok (.aload_n 1, 1) := by decide +kernel
theorem dX12_goDay_151 : decode cX12_goDay 151 = .ok (.bipush 24, 2) := by decide +kernel
theorem dX12_goDay_153 : decode cX12_goDay 153 = .ok (.iload_n 3, 1) := by decide +kernel
theorem dX12_goDay_154 : decode cX12_goDay 154 = .ok (.iadd, 1) := by decide +kernel
theorem dX12_goDay_155 : decode cX12_goDay 155 = .ok (.iconst 3, 1) := by decide +kernel
theorem dX12_goDay_156 : decode cX12_goDay 156 = .ok (.iadd, 1) := by decide +kernel
theorem dX12_goDay_157 : decode cX12_goDay 157 = .ok (.iaload, 1) := by decide +kernel
theorem dX12_goDay_158 : decode cX12_goDay 158 = .ok (.iastore, 1) := by decide +kernel
theorem dX12_goDay_159 : decode cX12_goDay 159 = .ok (.iinc 3 1, 3) := by decide +kernel
theorem dX12_goDay_162 : decode cX12_goDay 162 = .ok (.goto (-24), 3) := by decide +kernel
theorem dX12_goDay_165 : decode cX12_goDay 165 = .ok (.aload_n 1, 1) := by decide +kernel
theorem dX12_goDay_166 : decode cX12_goDay 166 = .ok (.bipush 24, 2) := by decide +kernel
theorem dX12_goDay_168 : decode cX12_goDay 168 = .ok (.dup2, 1) := by decide +kernel
theorem dX12_goDay_169 : decode cX12_goDay 169 = .ok (.iaload, 1) := by decide +kernel
theorem dX12_goDay_170 : decode cX12_goDay 170 = .ok (.iconst 1, 1) := by decide +kernel
theorem dX12_goDay_171 : decode cX12_goDay 171 = .ok (.isub, 1) := by decide +kernel
theorem dX12_goDay_172 : decode cX12_goDay 172 = .ok (.iastore, 1) := by decide +kernel
theorem dX12_goDay_173 : decode cX12_goDay 173 = .ok (.bipush 25, 2) := by decide +kernel
theorem dX12_goDay_175 : decode cX12_goDay 175 = .ok (.iconst 3, 1) := by decide +kernel
theorem dX12_goDay_176 : decode cX12_goDay 176 = .ok (.aload_n 1, 1) := by decide +kernel
theorem dX12_goDay_177 : decode cX12_goDay 177 = .ok (.bipush 24, 2) := by decide +kernel
theorem dX12_goDay_179 : decode cX12_goDay 179 = .ok (.iaload, 1) := by decide +kernel
theorem dX12_goDay_180 : decode cX12_goDay 180 = .ok (.imul, 1) := by decide +kernel
theorem dX12_goDay_181 : decode cX12_goDay 181 = .ok (.iadd, 1) := by decide +kernel
theorem dX12_goDay_182 : decode cX12_goDay 182 = .ok (.istore_n 3, 1) := by decide +kernel
theorem dX12_goDay_183 : decode cX12_goDay 183 = .ok (.aload_n 1, 1) := by decide +kernel
theorem dX12_goDay_184 : decode cX12_goDay 184 = .ok (.iload_n 3, 1) := by decide +kernel
theorem dX12_goDay_185 : decode cX12_goDay 185 = .ok (.aload_n 0, 1) := by decide +kernel
theorem dX12_goDay_186 : decode cX12_goDay 186 = .ok (.aload_n 1, 1) := by decide +kernel
theorem dX12_goDay_187 : decode cX12_goDay 187 = .ok (.iconst 0, 1) := by decide +kernel
theorem dX12_goDay_188 : decode cX12_goDay 188 = .ok (.invokevirtual 357, 3) := by decide +kernel
theorem dX12_goDay_191 : decode cX12_goDay 191 = .ok (.iastore, 1) := by decide +kernel
theorem dX12_goDay_192 : decode cX12_goDay 192 = .ok (.aload_n 1, 1) := by decide +kernel
theorem dX12_goDay_193 : decode cX12_goDay 193 = .ok (.iload_n 3, 1) := by decide +kernel
theorem dX12_goDay_194 : decode cX12_goDay 194 = .ok (.iconst 1, 1) := by decide +kernel
theorem dX12_goDay_195 : decode cX12_goDay 195 = .ok (.iadd, 1) := by decide +kernel
theorem dX12_goDay_196 : decode cX12_goDay 196 = .ok (.aload_n 0, 1) := by decide +kernel
theorem dX12_goDay_197 : decode cX12_goDay 197 = .ok (.aload_n 1, 1) := by decide +kernel
theorem dX12_goDay_198 : decode cX12_goDay 198 = .ok (.invokevirtual 360, 3) := by decide +kernel
theorem dX12_goDay_201 : decode cX12_goDay 201 = .ok (.iastore, 1) := by decide +kernel
theorem dX12_goDay_202 : decode cX12_goDay 202 = .ok (.aload_n 1, 1) := by decide +kernel
theorem dX12_goDay_203 : decode cX12_goDay 203 = .ok (.iload_n 3, 1) := by decide +kernel
theorem dX12_goDay_204 : decode cX12_goDay 204 = .ok (.iconst 2, 1) := by decide +kernel
theorem dX12_goDay_205 : decode cX12_goDay 205 = .ok (.iadd, 1) := by decide +kernel
theorem dX12_goDay_206 : decode cX12_goDay 206 = .ok (.aload_n 0, 1) := by decide +kernel
theorem dX12_goDay_207 : decode cX12_goDay 207 = .ok (.aload_n 1, 1) := by decide +kernel
theorem dX12_goDay_208 : decode cX12_goDay 208 = .ok (.iconst 1, 1) := by decide +kernel
theorem dX12_goDay_209 : decode cX12_goDay 209 = .ok (.invokevirtual 357, 3) := by decide +kernel
theorem dX12_goDay_212 : decode cX12_goDay 212 = .ok (.iastore, 1) := by decide +kernel
theorem dX12_goDay_213 : decode cX12_goDay 213 = .ok (.aload_n 1, 1) := by decide +kernel
theorem dX12_goDay_214 : decode cX12_goDay 214 = .ok (.bipush 24, 2) := by decide +kernel
theorem dX12_goDay_216 : decode cX12_goDay 216 = .ok (.dup2, 1) := by decide +kernel
theorem dX12_goDay_217 : decode cX12_goDay 217 = .ok (.iaload, 1) := by decide +kernel
theorem dX12_goDay_218 : decode cX12_goDay 218 = .ok (.iconst 1, 1) := by decide +kernel
theorem dX12_goDay_219 : decode cX12_goDay 219 = .ok (.iadd, 1) := by decide +kernel
theorem dX12_goDay_220 : decode cX12_goDay 220 = .ok (.iastore, 1) := by decide +kernel
theorem dX12_goDay_221 : decode cX12_goDay 221 = .ok (.return_, 1) := by decide +kernel
theorem dX12_sky_0 : decode cX12_sky 0 = .ok (.aload_n 0, 1) := by decide +kernel
theorem dX12_sky_1 : decode cX12_sky 1 = .ok (.iconst 0, 1) := by decide +kernel
theorem dX12_sky_2 : decode cX12_sky 2 = .ok (.putfield 96, 3) := by decide +kernel
theorem dX12_sky_5 : decode cX12_sky 5 = .ok (.aload_n 0, 1) := by decide +kernel
theorem dX12_sky_6 : decode cX12_sky 6 = .ok (.getfield 294, 3) := by decide +kernel
theorem dX12_sky_9 : decode cX12_sky 9 = .ok (.ifCond .le 24, 3) := by decide +kernel
theorem dX12_sky_12 : decode cX12_sky 12 = .ok (.iload_n 1, 1) := by decide +kernel
theorem dX12_sky_13 : decode cX12_sky 13 = .ok (.i2l, 1) := by decide +kernel
theorem dX12_sky_14 : decode cX12_sky 14 = .ok (.lconst 0, 1) := by decide +kernel
theorem dX12_sky_15 : decode cX12_sky 15 = .ok (.ldc2_w 275, 3) := by decide +kernel
theorem dX12_sky_18 : decode cX12_sky 18 = .ok (.invokestatic 217, 3) := by decide +kernel
theorem dX12_sky_21 : decode cX12_sky 21 = .ok (.ifCond .eq 12, 3) := by decide +kernel
theorem dX12_sky_24 : decode cX12_sky 24 = .ok (.aload_n 0, 1) := by decide +kernel
theorem dX12_sky_25 : decode cX12_sky 25 = .ok (.getfield 37, 3) := by decide +kernel
theorem dX12_sky_28 : decode cX12_sky 28 = .ok (.iload_n 1, 1) := by decide +kernel
theorem dX12_sky_29 : decode cX12_sky 29 = .ok (.iaload, 1) := by decide +kernel
theorem dX12_sky_30 : decode cX12_sky 30 = .ok (.goto 4, 3) := by decide +kernel
theorem dX12_sky_33 : decode cX12_sky 33 = .ok (.iconst (-1), 1) := by decide +kernel
theorem dX12_sky_34 : decode cX12_sky 34 = .ok (.ireturn, 1) := by decide +kernel
theorem dX12_pond_0 : decode cX12_pond 0 = .ok (.aload_n 0, 1) := by decide +kernel
theorem dX12_pond_1 : decode cX12_pond 1 = .ok (.aload_n 0, 1) := by decide +kernel
theorem dX12_pond_2 : decode cX12_pond 2 = .ok (.iload_n 1, 1) := by decide +kernel
theorem dX12_pond_3 : decode cX12_pond 3 = .ok (.invokevirtual 364, 3) := by decide +kernel
theorem dX12_pond_6 : decode cX12_pond 6 = .ok (.ifCond .eq 19, 3) := by decide +kernel
theorem dX12_pond_9 : decode cX12_pond 9 = .ok (.iload_n 2, 1) := by decide +kernel
theorem dX12_pond_10 : decode cX12_pond 10 = .ok (.i2l, 1) := by decide +kernel
theorem dX12_pond_11 : decode cX12_pond 11 = .ok (.lconst 0, 1) := by decide +kernel
theorem dX12_pond_12 : decode cX12_pond 12 = .ok (.ldc2_w 367, 3) := by decide +kernel
theorem dX12_pond_15 : decode cX12_pond 15 = .ok (.invokestatic 217, 3) := by decide +kernel
theorem dX12_pond_18 : decode cX12_pond 18 = .ok (.ifCond .eq 7, 3) := by decide +kernel
theorem dX12_pond_21 : decode cX12_pond 21 = .ok (.iconst 0, 1) := by decide +kernel
theorem dX12_pond_22 : decode cX12_pond 22 = .ok (.goto 4, 3) := by decide +kernel
theorem dX12_pond_25 : decode cX12_pond 25 = .ok (.iconst 1, 1) := by decide +kernel
theorem dX12_pond_26 : decode cX12_pond 26 = .ok (.putfield 96, 3) := by decide +kernel
theorem dX12_pond_29 : decode cX12_pond 29 = .ok (.aload_n 0, 1) := by decide +kernel
theorem dX12_pond_30 : decode cX12_pond 30 = .ok (.getfield 96, 3) := by decide +kernel
theorem dX12_pond_33 : decode cX12_pond 33 = .ok (.ifCond .le 5, 3) := by decide +kernel
theorem dX12_pond_36 : decode cX12_pond 36 = .ok (.iconst 0, 1) := by decide +kernel
theorem dX12_pond_37 : decode cX12_pond 37 = .ok (.ireturn, 1) := by decide +kernel
theorem dX12_pond_38 : decode cX12_pond 38 = .ok (.iload_n 2, 1) := by decide +kernel
theorem dX12_pond_39 : decode cX12_pond 39 = .ok (.tableswitch 94 0 9 #[53, 94, 94, 94, 94, 94, 94, 62, 73, 84], 53) := by decide +kernel
theorem dX12_pond_92 : decode cX12_pond 92 = .ok (.aload_n 0, 1) := by decide +kernel
theorem dX12_pond_93 : decode cX12_pond 93 = .ok (.getfield 61, 3) := by decide +kernel
theorem dX12_pond_96 : decode cX12_pond 96 = .ok (.iload_n 1, 1) := by decide +kernel
theorem dX12_pond_97 : decode cX12_pond 97 = .ok (.invokestatic 312, 3) := by decide +kernel
theorem dX12_pond_100 : decode cX12_pond 100 = .ok (.ireturn, 1) := by decide +kernel
theorem dX12_pond_101 : decode cX12_pond 101 = .ok (.aload_n 0, 1) := by decide +kernel
theorem dX12_pond_102 : decode cX12_pond 102 = .ok (.getfield 61, 3) := by decide +kernel
theorem dX12_pond_105 : decode cX12_pond 105 = .ok (.iconst 3, 1) := by decide +kernel
theorem dX12_pond_106 : decode cX12_pond 106 = .ok (.iload_n 1, 1) := by decide +kernel
theorem dX12_pond_107 : decode cX12_pond 107 = .ok (.imul, 1) := by decide +kernel
theorem dX12_pond_108 : decode cX12_pond 108 = .ok (.iconst 1, 1) := by decide +kernel
theorem dX12_pond_109 : decode cX12_pond 109 = .ok (.iadd, 1) := by decide +kernel
theorem dX12_pond_110 : decode cX12_pond 110 = .ok (.iaload, 1) := by decide +kernel
theorem dX12_pond_111 : decode cX12_pond 111 = .ok (.ireturn, 1) := by decide +kernel
theorem dX12_pond_112 : decode cX12_pond 112 = .ok (.aload_n 0, 1) := by decide +kernel
theorem dX12_pond_113 : decode cX12_pond 113 = .ok (.getfield 61, 3) := by decide +kernel
theorem dX12_pond_116 : decode cX12_pond 116 = .ok (.iconst 3, 1) := by decide +kernel
theorem dX12_pond_117 : decode cX12_pond 117 = .ok (.iload_n 1, 1) := by decide +kernel
theorem dX12_pond_118 : decode cX12_pond 118 = .ok (.imul, 1) := by decide +kernel
theorem dX12_pond_119 : decode cX12_pond 119 = .ok (.iconst 2, 1) := by decide +kernel
theorem dX12_pond_120 : decode cX12_pond 120 = .ok (.iadd, 1) := by decide +kernel
theorem dX12_pond_121 : decode cX12_pond 121 = .ok (.iaload, 1) := by decide +kernel
theorem dX12_pond_122 : decode cX12_pond 122 = .ok (.ireturn, 1) := by decide +kernel
theorem dX12_pond_123 : decode cX12_pond 123 = .ok (.aload_n 0, 1) := by decide +kernel
theorem dX12_pond_124 : decode cX12_pond 124 = .ok (.aload_n 0, 1) := by decide +kernel
theorem dX12_pond_125 : decode cX12_pond 125 = .ok (.getfield 61, 3) := by decide +kernel
theorem dX12_pond_128 : decode cX12_pond 128 = .ok (.iload_n 1, 1) := by decide +kernel
theorem dX12_pond_129 : decode cX12_pond 129 = .ok (.invokevirtual 316, 3) := by decide +kernel
theorem dX12_pond_132 : decode cX12_pond 132 = .ok (.ireturn, 1) := by decide +kernel
theorem dX12_pond_133 : decode cX12_pond 133 = .ok (.aload_n 0, 1) := by decide +kernel
theorem dX12_pond_134 : decode cX12_pond 134 = .ok (.iload_n 1, 1) := by decide +kernel
theorem dX12_pond_135 : decode cX12_pond 135 = .ok (.iload_n 2, 1) := by decide +kernel
theorem dX12_pond_136 : decode cX12_pond 136 = .ok (.invokevirtual 300, 3) := by decide +kernel
theorem dX12_pond_139 : decode cX12_pond 139 = .ok (.ireturn, 1) := by decide +kernel
theorem dX12_pipe_0 : decode cX12_pipe 0 = .ok (.aload_n 0, 1) := by decide +kernel
theorem dX12_pipe_1 : decode cX12_pipe 1 = .ok (.iconst 0, 1) := by decide +kernel
theorem dX12_pipe_2 : decode cX12_pipe 2 = .ok (.putfield 96, 3) := by decide +kernel
theorem dX12_pipe_5 : decode cX12_pipe 5 = .ok (.aload_n 0, 1) := by decide +kernel
theorem dX12_pipe_6 : decode cX12_pipe 6 = .ok (.iload_n 1, 1) := by decide +kernel
theorem dX12_pipe_7 : decode cX12_pipe 7 = .ok (.invokevirtual 369, 3) := by decide +kernel
theorem dX12_pipe_10 : decode cX12_pipe 10 = .ok (.ifCond .eq 15, 3) := by decide +kernel
theorem dX12_pipe_13 : decode cX12_pipe 13 = .ok (.iload_n 2, 1) := by decide +kernel
theorem dX12_pipe_14 : decode cX12_pipe 14 = .ok (.i2l, 1) := by decide +kernel
theorem dX12_pipe_15 : decode cX12_pipe 15 = .ok (.lconst 0, 1) := by decide +kernel
theorem dX12_pipe_16 : decode cX12_pipe 16 = .ok (.ldc2_w 338, 3) := by decide +kernel
theorem dX12_pipe_19 : decode cX12_pipe 19 = .ok (.invokestatic 217, 3) := by decide +kernel
theorem dX12_pipe_22 : decode cX12_pipe 22 = .ok (.ifCond .ne 5, 3) := by decide +kernel
theorem dX12_pipe_25 : decode cX12_pipe 25 = .ok (.iconst (-1), 1) := by decide +kernel
theorem dX12_pipe_26 : decode cX12_pipe 26 = .ok (.ireturn, 1) := by decide +kernel
theorem dX12_pipe_27 : decode cX12_pipe 27 = .ok (.iload_n 2, 1) := by decide +kernel
theorem dX12_pipe_28 : decode cX12_pipe 28 = .ok (.iconst 5, 1) := by decide +kernel
theorem dX12_pipe_29 : decode cX12_pipe 29 = .ok (.if_icmp .ne 13, 3) := by decide +kernel
theorem dX12_pipe_32 : decode cX12_pipe 32 = .ok (.aload_n 0, 1) := by decide +kernel
theorem dX12_pipe_33 : decode cX12_pipe 33 = .ok (.aload_n 0, 1) := by decide +kernel
theorem dX12_pipe_34 : decode cX12_pipe 34 = .ok (.getfield 61, 3) := by decide +kernel
theorem dX12_pipe_37 : decode cX12_pipe 37 = .ok (.iload_n 1, 1) := by decide +kernel
theorem dX12_pipe_38 : decode cX12_pipe 38 = .ok (.invokevirtual 342, 3) := by decide +kernel
theorem dX12_pipe_41 : decode cX12_pipe 41 = .ok (.ireturn, 1) := by decide +kernel
theorem dX12_pipe_42 : decode cX12_pipe 42 = .ok (.iload_n 2, 1) := by decide +kernel
theorem dX12_pipe_43 : decode cX12_pipe 43 = .ok (.iconst 4, 1) := by decide +kernel
theorem dX12_pipe_44 : decode cX12_pipe 44 = .ok (.if_icmp .ne 17, 3) := by decide +kernel
theorem dX12_pipe_47 : decode cX12_pipe 47 = .ok (.aload_n 0, 1) := by decide +kernel
theorem dX12_pipe_48 : decode cX12_pipe 48 = .ok (.getfield 61, 3) := by decide +kernel
theorem dX12_pipe_51 : decode cX12_pipe 51 = .ok (.bipush 21, 2) := by decide +kernel
theorem dX12_pipe_53 : decode cX12_pipe 53 = .ok (.iaload, 1) := by decide +kernel
theorem dX12_pipe_54 : decode cX12_pipe 54 = .ok (.iload_n 1, 1) := by decide +kernel
theorem dX12_pipe_55 : decode cX12_pipe 55 = .ok (.ishr, 1) := by decide +kernel
theorem dX12_pipe_56 : decode cX12_pipe 56 = .ok (.iconst 1, 1) := by decide +kernel
theorem dX12_pipe_57 : decode cX12_pipe 57 = .ok (.iand, 1) := by decide +kernel
theorem dX12_pipe_58 : decode cX12_pipe 58 = .ok (.goto 13, 3) := by decide +kernel
theorem dX12_pipe_61 : decode cX12_pipe 61 = .ok (.aload_n 0, 1) := by decide +kernel
theorem dX12_pipe_62 : decode cX12_pipe 62 = .ok (.getfield 49, 3) := by decide +kernel
theorem dX12_pipe_65 : decode cX12_pipe 65 = .ok (.iconst 5, 1) := by decide +kernel
theorem dX12_pipe_66 : decode cX12_pipe 66 = .ok (.iload_n 1, 1) := by decide +kernel
theorem dX12_pipe_67 : decode cX12_pipe 67 = .ok (.imul, 1) := by decide +kernel
theorem dX12_pipe_68 : decode cX12_pipe 68 = .ok (.iload_n 2, 1) := by decide +kernel
theorem dX12_pipe_69 : decode cX12_pipe 69 = .ok (.iadd, 1) := by decide +kernel
theorem dX12_pipe_70 : decode cX12_pipe 70 = .ok (.iaload, 1) := by decide +kernel
theorem dX12_pipe_71 : decode cX12_pipe 71 = .ok (.ireturn, 1) := by decide +kernel
theorem dX12_law_0 : decode cX12_law 0 = .ok (.aload_n 0, 1) := by decide +kernel
theorem dX12_law_1 : decode cX12_law 1 = .ok (.iconst 0, 1) := by decide +kernel
theorem dX12_law_2 : decode cX12_law 2 = .ok (.putfield 96, 3) := by decide +kernel
theorem dX12_law_5 : decode cX12_law 5 = .ok (.iload_n 1, 1) := by decide +kernel
theorem dX12_law_6 : decode cX12_law 6 = .ok (.iconst (-1), 1) := by decide +kernel
theorem dX12_law_7 : decode cX12_law 7 = .ok (.if_icmp .eq 21, 3) := by decide +kernel
theorem dX12_law_10 : decode cX12_law 10 = .ok (.iload_n 1, 1) := by decide +kernel
theorem dX12_law_11 : decode cX12_law 11 = .ok (.i2l, 1) := by decide +kernel
theorem dX12_law_12 : decode cX12_law 12 = .ok (.lconst 0, 1) := by decide +kernel
theorem dX12_law_13 : decode cX12_law 13 = .ok (.aload_n 0, 1) := by decide +kernel
theorem dX12_law_14 : decode cX12_law 14 = .ok (.getfield 286, 3) := by decide +kernel
theorem dX12_law_17 : decode cX12_law 17 = .ok (.iconst 1, 1) := by decide +kernel
theorem dX12_law_18 : decode cX12_law 18 = .ok (.isub, 1) := by decide +kernel
theorem dX12_law_19 : decode cX12_law 19 = .ok (.i2l, 1) := by decide +kernel
theorem dX12_law_20 : decode cX12_law 20 = .ok (.invokestatic 217, 3) := by decide +kernel
theorem dX12_law_23 : decode cX12_law 23 = .ok (.ifCond .ne 5, 3) := by decide +kernel
theorem dX12_law_26 : decode cX12_law 26 = .ok (.iconst 0, 1) := by decide +kernel
theorem dX12_law_27 : decode cX12_law 27 = .ok (.ireturn, 1) := by decide +kernel
theorem dX12_law_28 : decode cX12_law 28 = .ok (.aload_n 0, 1) := by decide +kernel
theorem dX12_law_29 : decode cX12_law 29 = .ok (.iload_n 1, 1) := by decide +kernel
theorem dX12_law_30 : decode cX12_law 30 = .ok (.putfield 67, 3) := by decide +kernel
theorem dX12_law_33 : decode cX12_law 33 = .ok (.iconst 1, 1) := by decide +kernel
theorem dX12_law_34 : decode cX12_law 34 = .ok (.ireturn, 1) := by decide +kernel
theorem dX12_odds_0 : decode cX12_odds 0 = .ok (.aload_n 0, 1) := by decide +kernel
theorem dX12_odds_1 : decode cX12_odds 1 = .ok (.iconst 0, 1) := by decide +kernel
theorem dX12_odds_2 : decode cX12_odds 2 = .ok (.putfield 96, 3) := by decide +kernel
theorem dX12_odds_5 : decode cX12_odds 5 = .ok (.iload_n 1, 1) := by decide +kernel
theorem dX12_odds_6 : decode cX12_odds 6 = .ok (.i2l, 1) := by decide +kernel
theorem dX12_odds_7 : decode cX12_odds 7 = .ok (.lconst 0, 1) := by decide +kernel
theorem dX12_odds_8 : decode cX12_odds 8 = .ok (.lconst 1, 1) := by decide +kernel
theorem dX12_odds_9 : decode cX12_odds 9 = .ok (.invokestatic 217, 3) := by decide +kernel
theorem dX12_odds_12 : decode cX12_odds 12 = .ok (.ifCond .eq 34, 3) := by decide +kernel
theorem dX12_odds_15 : decode cX12_odds 15 = .ok (.iload_n 2, 1) := by decide +kernel
theorem dX12_odds_16 : decode cX12_odds 16 = .ok (.i2l, 1) := by decide +kernel
theorem dX12_odds_17 : decode cX12_odds 17 = .ok (.lconst 0, 1) := by decide +kernel
theorem dX12_odds_18 : decode cX12_odds 18 = .ok (.ldc2_w 372, 3) := by decide +kernel
theorem dX12_odds_21 : decode cX12_odds 21 = .ok (.invokestatic 217, 3) := by decide +kernel
theorem dX12_odds_24 : decode cX12_odds 24 = .ok (.ifCond .eq 22, 3) := by decide +kernel
theorem dX12_odds_27 : decode cX12_odds 27 = .ok (.iload_n 2, 1) := by decide +kernel
theorem dX12_odds_28 : decode cX12_odds 28 = .ok (.iload_n 1, 1) := by decide +kernel
theorem dX12_odds_29 : decode cX12_odds 29 = .ok (.ifCond .ne 10, 3) := by decide +kernel
theorem dX12_odds_32 : decode cX12_odds 32 = .ok (.aload_n 0, 1) := by decide +kernel
theorem dX12_odds_33 : decode cX12_odds 33 = .ok (.getfield 71, 3) := by decide +kernel
theorem dX12_odds_36 : decode cX12_odds 36 = .ok (.goto 7, 3) := by decide +kernel
theorem dX12_odds_39 : decode cX12_odds 39 = .ok (.aload_n 0, 1) := by decide +kernel
theorem dX12_odds_40 : decode cX12_odds 40 = .ok (.getfield 374, 3) := by decide +kernel
theorem dX12_odds_43 : decode cX12_odds 43 = .ok (.if_icmp .ne 5, 3) := by decide +kernel
theorem dX12_odds_46 : decode cX12_odds 46 = .ok (.iconst 0, 1) := by decide +kernel
theorem dX12_odds_47 : decode cX12_odds 47 = .ok (.ireturn, 1) := by decide +kernel
theorem dX12_odds_48 : decode cX12_odds 48 = .ok (.iload_n 1, 1) := by decide +kernel
theorem dX12_odds_49 : decode cX12_odds 49 = .ok (.ifCond .ne 11, 3) := by decide +kernel
theorem dX12_odds_52 : decode cX12_odds 52 = .ok (.aload_n 0, 1) := by decide +kernel
theorem dX12_odds_53 : decode cX12_odds 53 = .ok (.iload_n 2, 1) := by decide +kernel
theorem dX12_odds_54 : decode cX12_odds 54 = .ok (.putfield 71, 3) := by decide +kernel
theorem dX12_odds_57 : decode cX12_odds 57 = .ok (.goto 8, 3) := by decide +kernel
theorem dX12_odds_60 : decode cX12_odds 60 = .ok (.aload_n 0, 1) := by decide +kernel
theorem dX12_odds_61 : decode cX12_odds 61 = .ok (.iload_n 2, 1) := by decide +kernel
theorem dX12_odds_62 : decode cX12_odds 62 = .ok (.putfield 374, 3) := by decide +kernel
theorem dX12_odds_65 : decode cX12_odds 65 = .ok (.iconst 1, 1) := by decide +kernel
theorem dX12_odds_66 : decode cX12_odds 66 = .ok (.ireturn, 1) := by decide +kernel
theorem dX12_remember_0 : decode cX12_remember 0 = .ok (.aload_n 0, 1) := by decide +kernel
theorem dX12_remember_1 : decode cX12_remember 1 = .ok (.getfield 306, 3) := by decide +kernel
theorem dX12_remember_4 : decode cX12_remember 4 = .ok (.bipush 40, 2) := by decide +kernel
theorem dX12_remember_6 : decode cX12_remember 6 = .ok (.if_icmp .ne 44, 3) := by decide +kernel
theorem dX12_remember_9 : decode cX12_remember 9 = .ok (.iconst 0, 1) := by decide +kernel
theorem dX12_remember_10 : decode cX12_remember 10 = .ok (.istore_n 1, 1) := by decide +kernel
theorem dX12_remember_11 : decode cX12_remember 11 = .ok (.iload_n 1, 1) := by decide +kernel
theorem dX12_remember_12 : decode cX12_remember 12 = .ok (.sipush 7995, 3) := by decide +kernel
theorem dX12_remember_15 : decode cX12_remember 15 = .ok (.if_icmp .ge 25, 3) := by decide +kernel
theorem dX12_remember_18 : decode cX12_remember 18 = .ok (.aload_n 0, 1) := by decide +kernel
theorem dX12_remember_19 : decode cX12_remember 19 = .ok (.getfield 81, 3) := by decide +kernel
theorem dX12_remember_22 : decode cX12_remember 22 = .ok (.iload_n 1, 1) := by decide +kernel
theorem dX12_remember_23 : decode cX12_remember 23 = .ok (.aload_n 0, 1) := by decide +kernel
theorem dX12_remember_24 : decode cX12_remember 24 = .ok (.getfield 81, 3) := by decide +kernel
theorem dX12_remember_27 : decode cX12_remember 27 = .ok (.iload_n 1, 1) := by decide +kernel
theorem dX12_remember_28 : decode cX12_remember 28 = .ok (.sipush 205, 3) := by decide +kernel
theorem dX12_remember_31 : decode cX12_remember 31 = .ok (.iadd, 1) := by decide +kernel
theorem dX12_remember_32 : decode cX12_remember 32 = .ok (.iaload, 1) := by decide +kernel
theorem dX12_remember_33 : decode cX12_remember 33 = .ok (.iastore, 1) := by decide +kernel
theorem dX12_remember_34 : decode cX12_remember 34 = .ok (.iinc 1 1, 3) := by decide +kernel
theorem dX12_remember_37 : decode cX12_remember 37 = .ok (.goto (-26), 3) := by decide +kernel
theorem dX12_remember_40 : decode cX12_remember 40 = .ok (.aload_n 0, 1) := by decide +kernel
theorem dX12_remember_41 : decode cX12_remember 41 = .ok (.dup, 1) := by decide +kernel
theorem dX12_remember_42 : decode cX12_remember 42 = .ok (.getfield 306, 3) := by decide +kernel
theorem dX12_remember_45 : decode cX12_remember 45 = .ok (.iconst 1, 1) := by decide +kernel
theorem dX12_remember_46 : decode cX12_remember 46 = .ok (.isub, 1) := by decide +kernel
theorem dX12_remember_47 : decode cX12_remember 47 = .ok (.putfield 306, 3) := by decide +kernel
theorem dX12_remember_50 : decode cX12_remember 50 = .ok (.iconst 0, 1) := by decide +kernel
theorem dX12_remember_51 : decode cX12_remember 51 = .ok (.istore_n 1, 1) := by decide +kernel
theorem dX12_remember_52 : decode cX12_remember 52 = .ok (.iload_n 1, 1) := by decide +kernel
theorem dX12_remember_53 : decode cX12_remember 53 = .ok (.sipush 205, 3) := by decide +kernel
theorem dX12_remember_56 : decode cX12_remember 56 = .ok (.if_icmp .ge 30, 3) := by decide +kernel
theorem dX12_remember_59 : decode cX12_remember 59 = .ok (.aload_n 0, 1) := by decide +kernel
theorem dX12_remember_60 : decode cX12_remember 60 = .ok (.getfield 81, 3) := by decide +kernel
theorem dX12_remember_63 : decode cX12_remember 63 = .ok (.sipush 205, 3) := by decide +kernel
theorem dX12_remember_66 : decode cX12_remember 66 = .ok (.aload_n 0, 1) := by decide +kernel
theorem dX12_remember_67 : decode cX12_remember 67 = .ok (.getfield 306, 3) := by decide +kernel
theorem dX12_remember_70 : decode cX12_remember 70 = .ok (.imul, 1) := by decide +kernel
theorem dX12_remember_71 : decode cX12_remember 71 = .ok (.iload_n 1, 1) := by decide +kernel
theorem dX12_remember_72 : decode cX12_remember 72 = .ok (.iadd, 1) := by decide +kernel
theorem dX12_remember_73 : decode cX12_remember 73 = .ok (.aload_n 0, 1) := by decide +kernel
theorem dX12_remember_74 : decode cX12_remember 74 = .ok (.getfield 61, 3) := by decide +kernel
theorem dX12_remember_77 : decode cX12_remember 77 = .ok (.iload_n 1, 1) := by decide +kernel
theorem dX12_remember_78 : decode cX12_remember 78 = .ok (.iaload, 1) := by decide +kernel
theorem dX12_remember_79 : decode cX12_remember 79 = .ok (.iastore, 1) := by decide +kernel
theorem dX12_remember_80 : decode cX12_remember 80 = .ok (.iinc 1 1, 3) := by decide +kernel
theorem dX12_remember_83 : decode cX12_remember 83 = .ok (.goto (-31), 3) := by decide +kernel
theorem dX12_remember_86 : decode cX12_remember 86 = .ok (.aload_n 0, 1) := by decide +kernel
theorem dX12_remember_87 : decode cX12_remember 87 = .ok (.dup, 1) := by decide +kernel
theorem dX12_remember_88 : decode cX12_remember 88 = .ok (.getfield 306, 3) := by decide +kernel
theorem dX12_remember_91 : decode cX12_remember 91 = .ok (.iconst 1, 1) := by decide +kernel
theorem dX12_remember_92 : decode cX12_remember 92 = .ok (.iadd, 1) := by decide +kernel
theorem dX12_remember_93 : decode cX12_remember 93 = .ok (.putfield 306, 3) := by decide +kernel
theorem dX12_remember_96 : decode cX12_remember 96 = .ok (.return_, 1) := by decide +kernel
theorem dX12_canTurn_0 : decode cX12_canTurn 0 = .ok (.aload_n 0, 1) := by decide +kernel
theorem dX12_canTurn_1 : decode cX12_canTurn 1 = .ok (.iload_n 2, 1) := by decide +kernel
theorem dX12_canTurn_2 : decode cX12_canTurn 2 = .ok (.invokevirtual 369, 3) := by decide +kernel
theorem dX12_canTurn_5 : decode cX12_canTurn 5 = .ok (.ifCond .eq 19, 3) := by decide +kernel
theorem dX12_canTurn_8 : decode cX12_canTurn 8 = .ok (.aload_n 1, 1) := by decide +kernel
theorem dX12_canTurn_9 : decode cX12_canTurn 9 = .ok (.bipush 21, 2) := by decide +kernel
theorem dX12_canTurn_11 : decode cX12_canTurn 11 = .ok (.iaload, 1) := by decide +kernel
theorem dX12_canTurn_12 : decode cX12_canTurn 12 = .ok (.iload_n 2, 1) := by decide +kernel
theorem dX12_canTurn_13 : decode cX12_canTurn 13 = .ok (.invokestatic 229, 3) := by decide +kernel
theorem dX12_canTurn_16 : decode cX12_canTurn 16 = .ok (.iload_n 3, 1) := by decide +kernel
theorem dX12_canTurn_17 : decode cX12_canTurn 17 = .ok (.if_icmp .eq 7, 3) := by decide +kernel
theorem dX12_canTurn_20 : decode cX12_canTurn 20 = .ok (.iconst 1, 1) := by decide +kernel
theorem dX12_canTurn_21 : decode cX12_canTurn 21 = .ok (.goto 4, 3) := by decide +kernel
theorem dX12_canTurn_24 : decode cX12_canTurn 24 = .ok (.iconst 0, 1) := by decide +kernel
theorem dX12_canTurn_25 : decode cX12_canTurn 25 = .ok (.ireturn, 1) := by decide +kernel
theorem dX12_key_0 : decode cX12_key 0 = .ok (.aload_n 0, 1) := by decide +kernel
theorem dX12_key_1 : decode cX12_key 1 = .ok (.iconst 0, 1) := by decide +kernel
theorem dX12_key_2 : decode cX12_key 2 = .ok (.putfield 96, 3) := by decide +kernel
theorem dX12_key_5 : decode cX12_key 5 = .ok (.aload_n 0, 1) := by decide +kernel
theorem dX12_key_6 : decode cX12_key 6 = .ok (.aload_n 0, 1) := by decide +kernel
theorem dX12_key_7 : decode cX12_key 7 = .ok (.getfield 61, 3) := by decide +kernel
theorem dX12_key_10 : decode cX12_key 10 = .ok (.iload_n 1, 1) := by decide +kernel
theorem dX12_key_11 : decode cX12_key 11 = .ok (.iload_n 2, 1) := by decide +kernel
theorem dX12_key_12 : decode cX12_key 12 = .ok (.invokevirtual 377, 3) := by decide +kernel
theorem dX12_key_15 : decode cX12_key 15 = .ok (.ifCond .ne 5, 3) := by decide +kernel
theorem dX12_key_18 : decode cX12_key 18 = .ok (.iconst 0, 1) := by decide +kernel
theorem dX12_key_19 : decode cX12_key 19 = .ok (.ireturn, 1) := by decide +kernel
theorem dX12_key_20 : decode cX12_key 20 = .ok (.aload_n 0, 1) := by decide +kernel
theorem dX12_key_21 : decode cX12_key 21 = .ok (.invokevirtual 381, 3) := by decide +kernel
theorem dX12_key_24 : decode cX12_key 24 = .ok (.aload_n 0, 1) := by decide +kernel
theorem dX12_key_25 : decode cX12_key 25 = .ok (.getfield 61, 3) := by decide +kernel
theorem dX12_key_28 : decode cX12_key 28 = .ok (.bipush 21, 2) := by decide +kernel
theorem dX12_key_30 : decode cX12_key 30 = .ok (.dup2, 1) := by decide +kernel
theorem dX12_key_31 : decode cX12_key 31 = .ok (.iaload, 1) := by decide +kernel
theorem dX12_key_32 : decode cX12_key 32 = .ok (.iconst 1, 1) := by decide +kernel
theorem dX12_key_33 : decode cX12_key 33 = .ok (.iload_n 1, 1) := by decide +kernel
theorem dX12_key_34 : decode cX12_key 34 = .ok (.ishl, 1) := by decide +kernel
theorem dX12_key_35 : decode cX12_key 35 = .ok (.ixor, 1) := by decide +kernel
theorem dX12_key_36 : decode cX12_key 36 = .ok (.iastore, 1) := by decide +kernel
theorem dX12_key_37 : decode cX12_key 37 = .ok (.iconst 1, 1) := by decide +kernel
theorem dX12_key_38 : decode cX12_key 38 = .ok (.ireturn, 1) := by decide +kernel
theorem dX12_canPour_0 : decode cX12_canPour 0 = .ok (.aload_n 0, 1) := by decide +kernel
theorem dX12_canPour_1 : decode cX12_canPour 1 = .ok (.iload_n 2, 1) := by decide +kernel
theorem dX12_canPour_2 : decode cX12_canPour 2 = .ok (.invokevirtual 364, 3) := by decide +kernel
theorem dX12_canPour_5 : decode cX12_canPour 5 = .ok (.ifCond .eq 35, 3) := by decide +kernel
theorem dX12_canPour_8 : decode cX12_canPour 8 = .ok (.iload_n 3, 1) := by decide +kernel
theorem dX12_canPour_9 : decode cX12_canPour 9 = .ok (.i2l, 1) := by decide +kernel
theorem dX12_canPour_10 : decode cX12_canPour 10 = .ok (.lconst 1, 1) := by decide +kernel
theorem dX12_canPour_11 : decode cX12_canPour 11 = .ok (.ldc2_w 367, 3) := by decide +kernel
theorem dX12_canPour_14 : decode cX12_canPour 14 = .ok (.invokestatic 217, 3) := by decide +kernel
theorem dX12_canPour_17 : decode cX12_canPour 17 = .ok (.ifCond .eq 23, 3) := by decide +kernel
theorem dX12_canPour_20 : decode cX12_canPour 20 = .ok (.aload_n 1, 1) := by decide +kernel
theorem dX12_canPour_21 : decode cX12_canPour 21 = .ok (.iload_n 2, 1) := by decide +kernel
theorem dX12_canPour_22 : decode cX12_canPour 22 = .ok (.invokestatic 312, 3) := by decide +kernel
theorem dX12_canPour_25 : decode cX12_canPour 25 = .ok (.iload_n 3, 1) := by decide +kernel
theorem dX12_canPour_26 : decode cX12_canPour 26 = .ok (.iadd, 1) := by decide +kernel
theorem dX12_canPour_27 : decode cX12_canPour 27 = .ok (.aload_n 0, 1) := by decide +kernel
theorem dX12_canPour_28 : decode cX12_canPour 28 = .ok (.iload_n 2, 1) := by decide +kernel
theorem dX12_canPour_29 : decode cX12_canPour 29 = .ok (.iconst 1, 1) := by decide +kernel
theorem dX12_canPour_30 : decode cX12_canPour 30 = .ok (.invokevirtual 300, 3) := by decide +kernel
theorem dX12_canPour_33 : decode cX12_canPour 33 = .ok (.if_icmp .gt 7, 3) := by decide +kernel
theorem dX12_canPour_36 : decode cX12_canPour 36 = .ok (.iconst 1, 1) := by decide +kernel
theorem dX12_canPour_37 : decode cX12_canPour 37 = .ok (.goto 4, 3) := by decide +kernel
theorem dX12_canPour_40 : decode cX12_canPour 40 = .ok (.iconst 0, 1) := by decide +kernel
theorem dX12_canPour_41 : decode cX12_canPour 41 = .ok (.ireturn, 1) := by decide +kernel
theorem dX12_pour_0 : decode cX12_pour 0 = .ok (.aload_n 0, 1) := by decide +kernel
theorem dX12_pour_1 : decode cX12_pour 1 = .ok (.iconst 0, 1) := by decide +kernel
theorem dX12_pour_2 : decode cX12_pour 2 = .ok (.putfield 96, 3) := by decide +kernel
theorem dX12_pour_5 : decode cX12_pour 5 = .ok (.aload_n 0, 1) := by decide +kernel
theorem dX12_pour_6 : decode cX12_pour 6 = .ok (.aload_n 0, 1) := by decide +kernel
theorem dX12_pour_7 : decode cX12_pour 7 = .ok (.getfield 61, 3) := by decide +kernel
theorem dX12_pour_10 : decode cX12_pour 10 = .ok (.iload_n 1, 1) := by decide +kernel
theorem dX12_pour_11 : decode cX12_pour 11 = .ok (.iload_n 2, 1) := by decide +kernel
theorem dX12_pour_12 : decode cX12_pour 12 = .ok (.invokevirtual 384, 3) := by decide +kernel
theorem dX12_pour_15 : decode cX12_pour 15 = .ok (.ifCond .ne 5, 3) := by decide +kernel
theorem dX12_pour_18 : decode cX12_pour 18 = .ok (.iconst (-1), 1) := by decide +kernel
theorem dX12_pour_19 : decode cX12_pour 19 = .ok (.ireturn, 1) := by decide +kernel
theorem dX12_pour_20 : decode cX12_pour 20 = .ok (.aload_n 0, 1) := by decide +kernel
theorem dX12_pour_21 : decode cX12_pour 21 = .ok (.invokevirtual 381, 3) := by decide +kernel
theorem dX12_pour_24 : decode cX12_pour 24 = .ok (.aload_n 0, 1) := by decide +kernel
theorem dX12_pour_25 : decode cX12_pour 25 = .ok (.getfield 61, 3) := by decide +kernel
theorem dX12_pour_28 : decode cX12_pour 28 = .ok (.iconst 3, 1) := by decide +kernel
theorem dX12_pour_29 : decode cX12_pour 29 = .ok (.iload_n 1, 1) := by decide +kernel
theorem dX12_pour_30 : decode cX12_pour 30 = .ok (.imul, 1) := by decide +kernel
theorem dX12_pour_31 : decode cX12_pour 31 = .ok (.iconst 0, 1) := by decide +kernel
theorem dX12_pour_32 : decode cX12_pour 32 = .ok (.iadd, 1) := by decide +kernel
theorem dX12_pour_33 : decode cX12_pour 33 = .ok (.dup2, 1) := by decide +kernel
theorem dX12_pour_34 : decode cX12_pour 34 = .ok (.iaload, 1) := by decide +kernel
theorem dX12_pour_35 : decode cX12_pour 35 = .ok (.iload_n 2, 1) := by decide +kernel
theorem dX12_pour_36 : decode cX12_pour 36 = .ok (.iadd, 1) := by decide +kernel
theorem dX12_pour_37 : decode cX12_pour 37 = .ok (.iastore, 1) := by decide +kernel
theorem dX12_pour_38 : decode cX12_pour 38 = .ok (.aload_n 0, 1) := by decide +kernel
theorem dX12_pour_39 : decode cX12_pour 39 = .ok (.getfield 61, 3) := by decide +kernel
theorem dX12_pour_42 : decode cX12_pour 42 = .ok (.iload_n 1, 1) := by decide +kernel
theorem dX12_pour_43 : decode cX12_pour 43 = .ok (.invokestatic 312, 3) := by decide +kernel
theorem dX12_pour_46 : decode cX12_pour 46 = .ok (.ireturn, 1) := by decide +kernel
theorem dX12_stock_0 : decode cX12_stock 0 = .ok (.aload_n 0, 1) := by decide +kernel
theorem dX12_stock_1 : decode cX12_stock 1 = .ok (.iconst 0, 1) := by decide +kernel
theorem dX12_stock_2 : decode cX12_stock 2 = .ok (.putfield 96, 3) := by decide +kernel
theorem dX12_stock_5 : decode cX12_stock 5 = .ok (.aload_n 0, 1) := by decide +kernel
theorem dX12_stock_6 : decode cX12_stock 6 = .ok (.iload_n 1, 1) := by decide +kernel
theorem dX12_stock_7 : decode cX12_stock 7 = .ok (.invokevirtual 364, 3) := by decide +kernel
theorem dX12_stock_10 : decode cX12_stock 10 = .ok (.ifCond .eq 15, 3) := by decide +kernel
theorem dX12_stock_13 : decode cX12_stock 13 = .ok (.iload_n 2, 1) := by decide +kernel
theorem dX12_stock_14 : decode cX12_stock 14 = .ok (.i2l, 1) := by decide +kernel
theorem dX12_stock_15 : decode cX12_stock 15 = .ok (.lconst 0, 1) := by decide +kernel
theorem dX12_stock_16 : decode cX12_stock 16 = .ok (.ldc2_w 367, 3) := by decide +kernel
theorem dX12_stock_19 : decode cX12_stock 19 = .ok (.invokestatic 217, 3) := by decide +kernel
theorem dX12_stock_22 : decode cX12_stock 22 = .ok (.ifCond .ne 5, 3) := by decide +kernel
theorem dX12_stock_25 : decode cX12_stock 25 = .ok (.iconst (-1), 1) := by decide +kernel
theorem dX12_stock_26 : decode cX12_stock 26 = .ok (.ireturn, 1) := by decide +kernel
theorem dX12_stock_27 : decode cX12_stock 27 = .ok (.iconst 3, 1) := by decide +kernel
theorem dX12_stock_28 : decode cX12_stock 28 = .ok (.iload_n 1, 1) := by decide +kernel
theorem dX12_stock_29 : decode cX12_stock 29 = .ok (.imul, 1) := by decide +kernel
theorem dX12_stock_30 : decode cX12_stock 30 = .ok (.iload_n 2, 1) := by decide +kernel
theorem dX12_stock_31 : decode cX12_stock 31 = .ok (.ifCond .ne 7, 3) := by decide +kernel
theorem dX12_stock_34 : decode cX12_stock 34 = .ok (.iconst 2, 1) := by decide +kernel
theorem dX12_stock_35 : decode cX12_stock 35 = .ok (.goto 4, 3) := by decide +kernel
theorem dX12_stock_38 : decode cX12_stock 38 = .ok (.iconst 1, 1) := by decide +kernel
theorem dX12_stock_39 : decode cX12_stock 39 = .ok (.iadd, 1) := by decide +kernel
theorem dX12_stock_40 : decode cX12_stock 40 = .ok (.istore_n 3, 1) := by decide +kernel
theorem dX12_stock_41 : decode cX12_stock 41 = .ok (.iload_n 2, 1) := by decide +kernel
theorem dX12_stock_42 : decode cX12_stock 42 = .ok (.ifCond .ne 7, 3) := by decide +kernel
theorem dX12_stock_45 : decode cX12_stock 45 = .ok (.iconst 1, 1) := by decide +kernel
theorem dX12_stock_46 : decode cX12_stock 46 = .ok (.goto 4, 3) := by decide +kernel
theorem dX12_stock_49 : decode cX12_stock 49 = .ok (.iload_n 2, 1) := by decide +kernel
theorem dX12_stock_50 : decode cX12_stock 50 = .ok (.istore 4, 2) := by decide +kernel
theorem dX12_stock_52 : decode cX12_stock 52 = .ok (.aload_n 0, 1) := by decide +kernel
theorem dX12_stock_53 : decode cX12_stock 53 = .ok (.getfield 61, 3) := by decide +kernel
theorem dX12_stock_56 : decode cX12_stock 56 = .ok (.iload_n 3, 1) := by decide +kernel
theorem dX12_stock_57 : decode cX12_stock 57 = .ok (.iaload, 1) := by decide +kernel
theorem dX12_stock_58 : decode cX12_stock 58 = .ok (.iload 4, 2) := by decide +kernel
theorem dX12_stock_60 : decode cX12_stock 60 = .ok (.iadd, 1) := by decide +kernel
theorem dX12_stock_61 : decode cX12_stock 61 = .ok (.iload_n 2, 1) := by decide +kernel
theorem dX12_stock_62 : decode cX12_stock 62 = .ok (.ifCond .ne 8, 3) := by decide +kernel
theorem dX12_stock_65 : decode cX12_stock 65 = .ok (.bipush 9, 2) := by decide +kernel
theorem dX12_stock_67 : decode cX12_stock 67 = .ok (.goto 5, 3) := by decide +kernel
theorem dX12_stock_70 : decode cX12_stock 70 = .ok (.bipush 99, 2) := by decide +kernel
theorem dX12_stock_72 : decode cX12_stock 72 = .ok (.if_icmp .le 5, 3) := by decide +kernel
theorem dX12_stock_75 : decode cX12_stock 75 = .ok (.iconst (-1), 1) := by decide +kernel
theorem dX12_stock_76 : decode cX12_stock 76 = .ok (.ireturn, 1) := by decide +kernel
theorem dX12_stock_77 : decode cX12_stock 77 = .ok (.aload_n 0, 1) := by decide +kernel
theorem dX12_stock_78 : decode cX12_stock 78 = .ok (.invokevirtual 381, 3) := by decide +kernel
theorem dX12_stock_81 : decode cX12_stock 81 = .ok (.aload_n 0, 1) := by decide +kernel
theorem dX12_stock_82 : decode cX12_stock 82 = .ok (.getfield 61, 3) := by decide +kernel
theorem dX12_stock_85 : decode cX12_stock 85 = .ok (.iload_n 3, 1) := by decide +kernel
theorem dX12_stock_86 : decode cX12_stock 86 = .ok (.dup2, 1) := by decide +kernel
theorem dX12_stock_87 : decode cX12_stock 87 = .ok (.iaload, 1) := by decide +kernel
theorem dX12_stock_88 : decode cX12_stock 88 = .ok (.iload 4, 2) := by decide +kernel
theorem dX12_stock_90 : decode cX12_stock 90 = .ok (.iadd, 1) := by decide +kernel
theorem dX12_stock_91 : decode cX12_stock 91 = .ok (.iastore, 1) := by decide +kernel
theorem dX12_stock_92 : decode cX12_stock 92 = .ok (.aload_n 0, 1) := by decide +kernel
theorem dX12_stock_93 : decode cX12_stock 93 = .ok (.getfield 61, 3) := by decide +kernel
theorem dX12_stock_96 : decode cX12_stock 96 = .ok (.iload_n 3, 1) := by decide +kernel
theorem dX12_stock_97 : decode cX12_stock 97 = .ok (.iaload, 1) := by decide +kernel
theorem dX12_stock_98 : decode cX12_stock 98 = .ok (.ireturn, 1) := by decide +kernel
theorem dX12_mayPass_0 : decode cX12_mayPass 0 = .ok (.aload_n 0, 1) := by decide +kernel
theorem dX12_mayPass_1 : decode cX12_mayPass 1 = .ok (.getfield 294, 3) := by decide +kernel
theorem dX12_mayPass_4 : decode cX12_mayPass 4 = .ok (.ifCond .le 30, 3) := by decide +kernel
theorem dX12_mayPass_7 : decode cX12_mayPass 7 = .ok (.iload_n 2, 1) := by decide +kernel
theorem dX12_mayPass_8 : decode cX12_mayPass 8 = .ok (.i2l, 1) := by decide +kernel
theorem dX12_mayPass_9 : decode cX12_mayPass 9 = .ok (.lconst 1, 1) := by decide +kernel
theorem dX12_mayPass_10 : decode cX12_mayPass 10 = .ok (.iload_n 3, 1) := by decide +kernel
theorem dX12_mayPass_11 : decode cX12_mayPass 11 = .ok (.i2l, 1) := by decide +kernel
theorem dX12_mayPass_12 : decode cX12_mayPass 12 = .ok (.invokestatic 217, 3) := by decide +kernel
theorem dX12_mayPass_15 : decode cX12_mayPass 15 = .ok (.ifCond .eq 19, 3) := by decide +kernel
theorem dX12_mayPass_18 : decode cX12_mayPass 18 = .ok (.aload_n 1, 1) := by decide +kernel
theorem dX12_mayPass_19 : decode cX12_mayPass 19 = .ok (.bipush 23, 2) := by decide +kernel
theorem dX12_mayPass_21 : decode cX12_mayPass 21 = .ok (.iaload, 1) := by decide +kernel
theorem dX12_mayPass_22 : decode cX12_mayPass 22 = .ok (.iload_n 2, 1) := by decide +kernel
theorem dX12_mayPass_23 : decode cX12_mayPass 23 = .ok (.iadd, 1) := by decide +kernel
theorem dX12_mayPass_24 : decode cX12_mayPass 24 = .ok (.sipush 9999, 3) := by decide +kernel
theorem dX12_mayPass_27 : decode cX12_mayPass 27 = .ok (.if_icmp .gt 7, 3) := by decide +kernel
theorem dX12_mayPass_30 : decode cX12_mayPass 30 = .ok (.iconst 1, 1) := by decide +kernel
theorem dX12_mayPass_31 : decode cX12_mayPass 31 = .ok (.goto 4, 3) := by decide +kernel
theorem dX12_mayPass_34 : decode cX12_mayPass 34 = .ok (.iconst 0, 1) := by decide +kernel
theorem dX12_mayPass_35 : decode cX12_mayPass 35 = .ok (.ireturn, 1) := by decide +kernel
theorem dX12_days_0 : decode cX12_days 0 = .ok (.aload_n 0, 1) := by decide +kernel
theorem dX12_days_1 : decode cX12_days 1 = .ok (.iconst 0, 1) := by decide +kernel
theorem dX12_days_2 : decode cX12_days 2 = .ok (.putfield 96, 3) := by decide +kernel
theorem dX12_days_5 : decode cX12_days 5 = .ok (.aload_n 0, 1) := by decide +kernel
theorem dX12_days_6 : decode cX12_days 6 = .ok (.aload_n 0, 1) := by decide +kernel
theorem dX12_days_7 : decode cX12_days 7 = .ok (.getfield 61, 3) := by decide +kernel
theorem dX12_days_10 : decode cX12_days 10 = .ok (.iload_n 1, 1) := by decide +kernel
theorem dX12_days_11 : decode cX12_days 11 = .ok (.bipush 60, 2) := by decide +kernel
theorem dX12_days_13 : decode cX12_days 13 = .ok (.invokevirtual 388, 3) := by decide +kernel
theorem dX12_days_16 : decode cX12_days 16 = .ok (.ifCond .ne 5, 3) := by decide +kernel
theorem dX12_days_19 : decode cX12_days 19 = .ok (.iconst (-1), 1) := by decide +kernel
theorem dX12_days_20 : decode cX12_days 20 = .ok (.ireturn, 1) := by decide +kernel
theorem dX12_days_21 : decode cX12_days 21 = .ok (.iconst 0, 1) := by decide +kernel
theorem dX12_days_22 : decode cX12_days 22 = .ok (.istore_n 2, 1) := by decide +kernel
theorem dX12_days_23 : decode cX12_days 23 = .ok (.iload_n 2, 1) := by decide +kernel
theorem dX12_days_24 : decode cX12_days 24 = .ok (.iload_n 1, 1) := by decide +kernel
theorem dX12_days_25 : decode cX12_days 25 = .ok (.if_icmp .ge 27, 3) := by decide +kernel
theorem dX12_days_28 : decode cX12_days 28 = .ok (.aload_n 0, 1) := by decide +kernel
theorem dX12_days_29 : decode cX12_days 29 = .ok (.invokevirtual 381, 3) := by decide +kernel
theorem dX12_days_32 : decode cX12_days 32 = .ok (.aload_n 0, 1) := by decide +kernel
theorem dX12_days_33 : decode cX12_days 33 = .ok (.aload_n 0, 1) := by decide +kernel
theorem dX12_days_34 : decode cX12_days 34 = .ok (.getfield 61, 3) := by decide +kernel
theorem dX12_days_37 : decode cX12_days 37 = .ok (.aload_n 0, 1) := by decide +kernel
theorem dX12_days_38 : decode cX12_days 38 = .ok (.getfield 37, 3) := by decide +kernel
theorem dX12_days_41 : decode cX12_days 41 = .ok (.iconst 0, 1) := by decide +kernel
theorem dX12_days_42 : decode cX12_days 42 = .ok (.iaload, 1) := by decide +kernel
theorem dX12_days_43 : decode cX12_days 43 = .ok (.invokevirtual 391, 3) := by decide +kernel
theorem dX12_days_46 : decode cX12_days 46 = .ok (.iinc 2 1, 3) := by decide +kernel
theorem dX12_days_49 : decode cX12_days 49 = .ok (.goto (-26), 3) := by decide +kernel
theorem dX12_days_52 : decode cX12_days 52 = .ok (.aload_n 0, 1) := by decide +kernel
theorem dX12_days_53 : decode cX12_days 53 = .ok (.getfield 61, 3) := by decide +kernel
theorem dX12_days_56 : decode cX12_days 56 = .ok (.bipush 23, 2) := by decide +kernel
theorem dX12_days_58 : decode cX12_days 58 = .ok (.iaload, 1) := by decide +kernel
theorem dX12_days_59 : decode cX12_days 59 = .ok (.ireturn, 1) := by decide +kernel
theorem dX12_draw_0 : decode cX12_draw 0 = .ok (.aload_n 0, 1) := by decide +kernel
theorem dX12_draw_1 : decode cX12_draw 1 = .ok (.aload_n 0, 1) := by decide +kernel
theorem dX12_draw_2 : decode cX12_draw 2 = .ok (.getfield 394, 3) := by decide +kernel
theorem dX12_draw_5 : decode cX12_draw 5 = .ok (.ldc2_w 398, 3) := by decide +kernel
theorem dX12_draw_8 : decode cX12_draw 8 = .ok (.lmul, 1) := by decide +kernel
theorem dX12_draw_9 : decode cX12_draw 9 = .ok (.ldc2_w 400, 3) := by decide +kernel
theorem dX12_draw_12 : decode cX12_draw 12 = .ok (.ladd, 1) := by decide +kernel
theorem dX12_draw_13 : decode cX12_draw 13 = .ok (.putfield 394, 3) := by decide +kernel
theorem dX12_draw_16 : decode cX12_draw 16 = .ok (.aload_n 0, 1) := by decide +kernel
theorem dX12_draw_17 : decode cX12_draw 17 = .ok (.getfield 394, 3) := by decide +kernel
theorem dX12_draw_20 : decode cX12_draw 20 = .ok (.bipush 33, 2) := by decide +kernel
theorem dX12_draw_22 : decode cX12_draw 22 = .ok (.lushr, 1) := by decide +kernel
theorem dX12_draw_23 : decode cX12_draw 23 = .ok (.iload_n 1, 1) := by decide +kernel
theorem dX12_draw_24 : decode cX12_draw 24 = .ok (.i2l, 1) := by decide +kernel
theorem dX12_draw_25 : decode cX12_draw 25 = .ok (.lrem, 1) := by decide +kernel
theorem dX12_draw_26 : decode cX12_draw 26 = .ok (.l2i, 1) := by decide +kernel
theorem dX12_draw_27 : decode cX12_draw 27 = .ok (.ireturn, 1) := by decide +kernel
theorem dX12_years_0 : decode cX12_years 0 = .ok (.aload_n 0, 1) := by decide +kernel
theorem dX12_years_1 : decode cX12_years 1 = .ok (.iconst 0, 1) := by decide +kernel
theorem dX12_years_2 : decode cX12_years 2 = .ok (.putfield 96, 3) := by decide +kernel
theorem dX12_years_5 : decode cX12_years 5 = .ok (.aload_n 0, 1) := by decide +kernel
theorem dX12_years_6 : decode cX12_years 6 = .ok (.aload_n 0, 1) := by decide +kernel
theorem dX12_years_7 : decode cX12_years 7 = .ok (.getfield 61, 3) := by decide +kernel
theorem dX12_years_10 : decode cX12_years 10 = .ok (.iload_n 1, 1) := by decide +kernel
theorem dX12_years_11 : decode cX12_years 11 = .ok (.bipush 60, 2) := by decide +kernel
theorem dX12_years_13 : decode cX12_years 13 = .ok (.invokevirtual 388, 3) := by decide +kernel
theorem dX12_years_16 : decode cX12_years 16 = .ok (.ifCond .ne 5, 3) := by decide +kernel
theorem dX12_years_19 : decode cX12_years 19 = .ok (.iconst (-1), 1) := by decide +kernel
theorem dX12_years_20 : decode cX12_years 20 = .ok (.ireturn, 1) := by decide +kernel
theorem dX12_years_21 : decode cX12_years 21 = .ok (.aload_n 0, 1) := by decide +kernel
theorem dX12_years_22 : decode cX12_years 22 = .ok (.lload_n 2, 1) := by decide +kernel
theorem dX12_years_23 : decode cX12_years 23 = .ok (.putfield 394, 3) := by decide +kernel
theorem dX12_years_26 : decode cX12_years 26 = .ok (.iconst 0, 1) := by decide +kernel
theorem dX12_years_27 : decode cX12_years 27 = .ok (.istore 4, 2) := by decide +kernel
theorem dX12_years_29 : decode cX12_years 29 = .ok (.iload 4, 2) := by decide +kernel
theorem dX12_years_31 : decode cX12_years 31 = .ok (.iload_n 1, 1) := by decide +kernel
theorem dX12_years_32 : decode cX12_years 32 = .ok (.if_icmp .ge 112, 3) := by decide +kernel
theorem dX12_years_35 : decode cX12_years 35 = .ok (.aload_n 0, 1) := by decide +kernel
theorem dX12_years_36 : decode cX12_years 36 = .ok (.invokevirtual 381, 3) := by decide +kernel
theorem dX12_years_39 : decode cX12_years 39 = .ok (.aload_n 0, 1) := by decide +kernel
theorem dX12_years_40 : decode cX12_years 40 = .ok (.getfield 37, 3) := by decide +kernel
theorem dX12_years_43 : decode cX12_years 43 = .ok (.iconst 0, 1) := by decide +kernel
theorem dX12_years_44 : decode cX12_years 44 = .ok (.iaload, 1) := by decide +kernel
theorem dX12_years_45 : decode cX12_years 45 = .ok (.istore 5, 2) := by decide +kernel
theorem dX12_years_47 : decode cX12_years 47 = .ok (.aload_n 0, 1) := by decide +kernel
theorem dX12_years_48 : decode cX12_years 48 = .ok (.bipush 100, 2) := by decide +kernel
theorem dX12_years_50 : decode cX12_years 50 = .ok (.invokevirtual 402, 3) := by decide +kernel
theorem dX12_years_53 : decode cX12_years 53 = .ok (.aload_n 0, 1) := by decide +kernel
theorem dX12_years_54 : decode cX12_years 54 = .ok (.getfield 71, 3) := by decide +kernel
theorem dX12_years_57 : decode cX12_years 57 = .ok (.if_icmp .ge 17, 3) := by decide +kernel
theorem dX12_years_60 : decode cX12_years 60 = .ok (.iload 5, 2) := by decide +kernel
theorem dX12_years_62 : decode cX12_years 62 = .ok (.aload_n 0, 1) := by decide +kernel
theorem dX12_years_63 : decode cX12_years 63 = .ok (.bipush 10, 2) := by decide +kernel
theorem dX12_years_65 : decode cX12_years 65 = .ok (.invokevirtual 402, 3) := by decide +kernel
theorem dX12_years_68 : decode cX12_years 68 = .ok (.iadd, 1) := by decide +kernel
theorem dX12_years_69 : decode cX12_years 69 = .ok (.istore 5, 2) := by decide +kernel
theorem dX12_years_71 : decode cX12_years 71 = .ok (.goto 57, 3) := by decide +kernel
theorem dX12_years_74 : decode cX12_years 74 = .ok (.aload_n 0, 1) := by decide +kernel
theorem dX12_years_75 : decode cX12_years 75 = .ok (.bipush 100, 2) := by decide +kernel
theorem dX12_years_77 : decode cX12_years 77 = .ok (.invokevirtual 402, 3) := by decide +kernel
theorem dX12_years_80 : decode cX12_years 80 = .ok (.aload_n 0, 1) := by decide +kernel
theorem dX12_years_81 : decode cX12_years 81 = .ok (.getfield 374, 3) := by decide +kernel
theorem dX12_years_84 : decode cX12_years 84 = .ok (.if_icmp .ge 44, 3) := by decide +kernel
theorem dX12_years_87 : decode cX12_years 87 = .ok (.aload_n 0, 1) := by decide +kernel
theorem dX12_years_88 : decode cX12_years 88 = .ok (.aload_n 0, 1) := by decide +kernel
theorem dX12_years_89 : decode cX12_years 89 = .ok (.getfield 294, 3) := by decide +kernel
theorem dX12_years_92 : decode cX12_years 92 = .ok (.invokevirtual 402, 3) := by decide +kernel
theorem dX12_years_95 : decode cX12_years 95 = .ok (.istore 6, 2) := by decide +kernel
theorem dX12_years_97 : decode cX12_years 97 = .ok (.aload_n 0, 1) := by decide +kernel
theorem dX12_years_98 : decode cX12_years 98 = .ok (.getfield 61, 3) := by decide +kernel
theorem dX12_years_101 : decode cX12_years 101 = .ok (.iconst 3, 1) := by decide +kernel
theorem dX12_years_102 : decode cX12_years 102 = .ok (.iload 6, 2) := by decide +kernel
theorem dX12_years_104 : decode cX12_years 104 = .ok (.imul, 1) := by decide +kernel
theorem dX12_years_105 : decode cX12_years 105 = .ok (.iconst 2, 1) := by decide +kernel
theorem dX12_years_106 : decode cX12_years 106 = .ok (.iadd, 1) := by decide +kernel
theorem dX12_years_107 : decode cX12_years 107 = .ok (.iaload, 1) := by decide +kernel
theorem dX12_years_108 : decode cX12_years 108 = .ok (.bipush 9, 2) := by decide +kernel
theorem dX12_years_110 : decode cX12_years 110 = .ok (.if_icmp .ge 18, 3) := by decide +kernel
theorem dX12_years_113 : decode cX12_years 113 = .ok (.aload_n 0, 1) := by decide +kernel
theorem dX12_years_114 : decode cX12_years 114 = .ok (.getfield 61, 3) := by decide +kernel
theorem dX12_years_117 : decode cX12_years 117 = .ok (.iconst 3, 1) := by decide +kernel
theorem dX12_years_118 : decode cX12_years 118 = .ok (.iload 6, 2) := by decide +kernel
theorem dX12_years_120 : decode cX12_years 120 = .ok (.imul, 1) := by decide +kernel
theorem dX12_years_121 : decode cX12_years 121 = .ok (.iconst 2, 1) := by decide +kernel
theorem dX12_years_122 : decode cX12_years 122 = .ok (.iadd, 1) := by decide +kernel
theorem dX12_years_123 : decode cX12_years 123 = .ok (.dup2, 1) := by decide +kernel
theorem dX12_years_124 : decode cX12_years 124 = .ok (.iaload, 1) := by decide +kernel
theorem dX12_years_125 : decode cX12_years 125 = .ok (.iconst 1, 1) := by decide +kernel
theorem dX12_years_126 : decode cX12_years 126 = .ok (.iadd, 1) := by decide +kernel
theorem dX12_years_127 : decode cX12_years 127 = .ok (.iastore, 1) := by decide +kernel
theorem dX12_years_128 : decode cX12_years 128 = .ok (.aload_n 0, 1) := by decide +kernel
theorem dX12_years_129 : decode cX12_years 129 = .ok (.aload_n 0, 1) := by decide +kernel
theorem dX12_years_130 : decode cX12_years 130 = .ok (.getfield 61, 3) := by decide +kernel
theorem dX12_years_133 : decode cX12_years 133 = .ok (.iload 5, 2) := by decide +kernel
theorem dX12_years_135 : decode cX12_years 135 = .ok (.invokevirtual 391, 3) := by decide +kernel
theorem dX12_years_138 : decode cX12_years 138 = .ok (.iinc 4 1, 3) := by decide +kernel
theorem dX12_years_141 : decode cX12_years 141 = .ok (.goto (-112), 3) := by decide +kernel
theorem dX12_years_144 : decode cX12_years 144 = .ok (.aload_n 0, 1) := by decide +kernel
theorem dX12_years_145 : decode cX12_years 145 = .ok (.getfield 61, 3) := by decide +kernel
theorem dX12_years_148 : decode cX12_years 148 = .ok (.bipush 23, 2) := by decide +kernel
theorem dX12_years_150 : decode cX12_years 150 = .ok (.iaload, 1) := by decide +kernel
theorem dX12_years_151 : decode cX12_years 151 = .ok (.ireturn, 1) := by decide +kernel
theorem dX12_undo_0 : decode cX12_undo 0 = .ok (.aload_n 0, 1) := by decide +kernel
theorem dX12_undo_1 : decode cX12_undo 1 = .ok (.iconst 0, 1) := by decide +kernel
theorem dX12_undo_2 : decode cX12_undo 2 = .ok (.putfield 96, 3) := by decide +kernel
theorem dX12_undo_5 : decode cX12_undo 5 = .ok (.aload_n 0, 1) := by decide +kernel
theorem dX12_undo_6 : decode cX12_undo 6 = .ok (.getfield 306, 3) := by decide +kernel
theorem dX12_undo_9 : decode cX12_undo 9 = .ok (.ifCond .ne 5, 3) := by decide +kernel
theorem dX12_undo_12 : decode cX12_undo 12 = .ok (.iconst (-1), 1) := by decide +kernel
theorem dX12_undo_13 : decode cX12_undo 13 = .ok (.ireturn, 1) := by decide +kernel
theorem dX12_undo_14 : decode cX12_undo 14 = .ok (.aload_n 0, 1) := by decide +kernel
theorem dX12_undo_15 : decode cX12_undo 15 = .ok (.dup, 1) := by decide +kernel
theorem dX12_undo_16 : decode cX12_undo 16 = .ok (.getfield 306, 3) := by decide +kernel
theorem dX12_undo_19 : decode cX12_undo 19 = .ok (.iconst 1, 1) := by decide +kernel
theorem dX12_undo_20 : decode cX12_undo 20 = .ok (.isub, 1) := by decide +kernel
theorem dX12_undo_21 : decode cX12_undo 21 = .ok (.putfield 306, 3) := by decide +kernel
theorem dX12_undo_24 : decode cX12_undo 24 = .ok (.iconst 0, 1) := by decide +kernel
theorem dX12_undo_25 : decode cX12_undo 25 = .ok (.istore_n 1, 1) := by decide +kernel
theorem dX12_undo_26 : decode cX12_undo 26 = .ok (.iload_n 1, 1) := by decide +kernel
theorem dX12_undo_27 : decode cX12_undo 27 = .ok (.sipush 205, 3) := by decide +kernel
theorem dX12_undo_30 : decode cX12_undo 30 = .ok (.if_icmp .ge 30, 3) := by decide +kernel
theorem dX12_undo_33 : decode cX12_undo 33 = .ok (.aload_n 0, 1) := by decide +kernel
theorem dX12_undo_34 : decode cX12_undo 34 = .ok (.getfield 61, 3) := by decide +kernel
theorem dX12_undo_37 : decode cX12_undo 37 = .ok (.iload_n 1, 1) := by decide +kernel
theorem dX12_undo_38 : decode cX12_undo 38 = .ok (.aload_n 0, 1) := by decide +kernel
theorem dX12_undo_39 : decode cX12_undo 39 = .ok (.getfield 81, 3) := by decide +kernel
theorem dX12_undo_42 : decode cX12_undo 42 = .ok (.sipush 205, 3) := by decide +kernel
theorem dX12_undo_45 : decode cX12_undo 45 = .ok (.aload_n 0, 1) := by decide +kernel
theorem dX12_undo_46 : decode cX12_undo 46 = .ok (.getfield 306, 3) := by decide +kernel
theorem dX12_undo_49 : decode cX12_undo 49 = .ok (.imul, 1) := by decide +kernel
theorem dX12_undo_50 : decode cX12_undo 50 = .ok (.iload_n 1, 1) := by decide +kernel
theorem dX12_undo_51 : decode cX12_undo 51 = .ok (.iadd, 1) := by decide +kernel
theorem dX12_undo_52 : decode cX12_undo 52 = .ok (.iaload, 1) := by decide +kernel
theorem dX12_undo_53 : decode cX12_undo 53 = .ok (.iastore, 1) := by decide +kernel
theorem dX12_undo_54 : decode cX12_undo 54 = .ok (.iinc 1 1, 3) := by decide +kernel
theorem dX12_undo_57 : decode cX12_undo 57 = .ok (.goto (-31), 3) := by decide +kernel
theorem dX12_undo_60 : decode cX12_undo 60 = .ok (.aload_n 0, 1) := by decide +kernel
theorem dX12_undo_61 : decode cX12_undo 61 = .ok (.getfield 306, 3) := by decide +kernel
theorem dX12_undo_64 : decode cX12_undo 64 = .ok (.ireturn, 1) := by decide +kernel
theorem dX12_log_0 : decode cX12_log 0 = .ok (.aload_n 0, 1) := by decide +kernel
theorem dX12_log_1 : decode cX12_log 1 = .ok (.iconst 0, 1) := by decide +kernel
theorem dX12_log_2 : decode cX12_log 2 = .ok (.putfield 96, 3) := by decide +kernel
theorem dX12_log_5 : decode cX12_log 5 = .ok (.iload_n 1, 1) := by decide +kernel
theorem dX12_log_6 : decode cX12_log 6 = .ok (.i2l, 1) := by decide +kernel
theorem dX12_log_7 : decode cX12_log 7 = .ok (.lconst 0, 1) := by decide +kernel
theorem dX12_log_8 : decode cX12_log 8 = .ok (.aload_n 0, 1) := by decide +kernel
theorem dX12_log_9 : decode cX12_log 9 = .ok (.getfield 61, 3) := by decide +kernel
theorem dX12_log_12 : decode cX12_log 12 = .ok (.bipush 24, 2) := by decide +kernel
theorem dX12_log_14 : decode cX12_log 14 = .ok (.iaload, 1) := by decide +kernel
theorem dX12_log_15 : decode cX12_log 15 = .ok (.iconst 1, 1) := by decide +kernel
theorem dX12_log_16 : decode cX12_log 16 = .ok (.isub, 1) := by decide +kernel
theorem dX12_log_17 : decode cX12_log 17 = .ok (.i2l, 1) := by decide +kernel
theorem dX12_log_18 : decode cX12_log 18 = .ok (.invokestatic 217, 3) := by decide +kernel
theorem dX12_log_21 : decode cX12_log 21 = .ok (.ifCond .eq 41, 3) := by decide +kernel
theorem dX12_log_24 : decode cX12_log 24 = .ok (.iload_n 2, 1) := by decide +kernel
theorem dX12_log_25 : decode cX12_log 25 = .ok (.i2l, 1) := by decide +kernel
theorem dX12_log_26 : decode cX12_log 26 = .ok (.lconst 0, 1) := by decide +kernel
theorem dX12_log_27 : decode cX12_log 27 = .ok (.ldc2_w 275, 3) := by decide +kernel
theorem dX12_log_30 : decode cX12_log 30 = .ok (.invokestatic 217, 3) := by decide +kernel
theorem dX12_log_33 : decode cX12_log 33 = .ok (.ifCond .eq 29, 3) := by decide +kernel
theorem dX12_log_36 : decode cX12_log 36 = .ok (.aload_n 0, 1) := by decide +kernel
theorem dX12_log_37 : decode cX12_log 37 = .ok (.getfield 61, 3) := by decide +kernel
theorem dX12_log_40 : decode cX12_log 40 = .ok (.bipush 25, 2) := by decide +kernel
theorem dX12_log_42 : decode cX12_log 42 = .ok (.iconst 3, 1) := by decide +kernel
theorem dX12_log_43 : decode cX12_log 43 = .ok (.aload_n 0, 1) := by decide +kernel
theorem dX12_log_44 : decode cX12_log 44 = .ok (.getfield 61, 3) := by decide +kernel
theorem dX12_log_47 : decode cX12_log 47 = .ok (.bipush 24, 2) := by decide +kernel
theorem dX12_log_49 : decode cX12_log 49 = .ok (.iaload, 1) := by decide +kernel
theorem dX12_log_50 : decode cX12_log 50 = .ok (.iconst 1, 1) := by decide +kernel
theorem dX12_log_51 : decode cX12_log 51 = .ok (.isub, 1) := by decide +kernel
theorem dX12_log_52 : decode cX12_log 52 = .ok (.iload_n 1, 1) := by decide +kernel
theorem dX12_log_53 : decode cX12_log 53 = .ok (.isub, 1) := by decide +kernel
theorem dX12_log_54 : decode cX12_log 54 = .ok (.imul, 1) := by decide +kernel
theorem dX12_log_55 : decode cX12_log 55 = .ok (.iadd, 1) := by decide +kernel
theorem dX12_log_56 : decode cX12_log 56 = .ok (.iload_n 2, 1) := by decide +kernel
theorem dX12_log_57 : decode cX12_log 57 = .ok (.iadd, 1) := by decide +kernel
theorem dX12_log_58 : decode cX12_log 58 = .ok (.iaload, 1) := by decide +kernel
theorem dX12_log_59 : decode cX12_log 59 = .ok (.goto 4, 3) := by decide +kernel
theorem dX12_log_62 : decode cX12_log 62 = .ok (.iconst (-1), 1) := by decide +kernel
theorem dX12_log_63 : decode cX12_log 63 = .ok (.ireturn, 1) := by decide +kernel
theorem dX12_isPlan_0 : decode cX12_isPlan 0 = .ok (.iload_n 1, 1) := by decide +kernel
theorem dX12_isPlan_1 : decode cX12_isPlan 1 = .ok (.ifCond .lt 15, 3) := by decide +kernel
theorem dX12_isPlan_4 : decode cX12_isPlan 4 = .ok (.iload_n 1, 1) := by decide +kernel
theorem dX12_isPlan_5 : decode cX12_isPlan 5 = .ok (.aload_n 0, 1) := by decide +kernel
theorem dX12_isPlan_6 : decode cX12_isPlan 6 = .ok (.getfield 289, 3) := by decide +kernel
theorem dX12_isPlan_9 : decode cX12_isPlan 9 = .ok (.if_icmp .ge 7, 3) := by decide +kernel
theorem dX12_isPlan_12 : decode cX12_isPlan 12 = .ok (.iconst 1, 1) := by decide +kernel
theorem dX12_isPlan_13 : decode cX12_isPlan 13 = .ok (.goto 4, 3) := by decide +kernel
theorem dX12_isPlan_16 : decode cX12_isPlan 16 = .ok (.iconst 0, 1) := by decide +kernel
theorem dX12_isPlan_17 : decode cX12_isPlan 17 = .ok (.ireturn, 1) := by decide +kernel
theorem dX12_step_0 : decode cX12_step 0 = .ok (.aload_n 0, 1) := by decide +kernel
theorem dX12_step_1 : decode cX12_step 1 = .ok (.iconst 0, 1) := by decide +kernel
theorem dX12_step_2 : decode cX12_step 2 = .ok (.putfield 96, 3) := by decide +kernel
theorem dX12_step_5 : decode cX12_step 5 = .ok (.aload_n 0, 1) := by decide +kernel
theorem dX12_step_6 : decode cX12_step 6 = .ok (.iload_n 1, 1) := by decide +kernel
theorem dX12_step_7 : decode cX12_step 7 = .ok (.invokevirtual 405, 3) := by decide +kernel
theorem dX12_step_10 : decode cX12_step 10 = .ok (.ifCond .eq 51, 3) := by decide +kernel
theorem dX12_step_13 : decode cX12_step 13 = .ok (.iload_n 2, 1) := by decide +kernel
theorem dX12_step_14 : decode cX12_step 14 = .ok (.i2l, 1) := by decide +kernel
theorem dX12_step_15 : decode cX12_step 15 = .ok (.lconst 0, 1) := by decide +kernel
theorem dX12_step_16 : decode cX12_step 16 = .ok (.aload_n 0, 1) := by decide +kernel
theorem dX12_step_17 : decode cX12_step 17 = .ok (.getfield 58, 3) := by decide +kernel
theorem dX12_step_20 : decode cX12_step 20 = .ok (.iload_n 1, 1) := by decide +kernel
theorem dX12_step_21 : decode cX12_step 21 = .ok (.iaload, 1) := by decide +kernel
theorem dX12_step_22 : decode cX12_step 22 = .ok (.iconst 1, 1) := by decide +kernel
theorem dX12_step_23 : decode cX12_step 23 = .ok (.isub, 1) := by decide +kernel
theorem dX12_step_24 : decode cX12_step 24 = .ok (.i2l, 1) := by decide +kernel
theorem dX12_step_25 : decode cX12_step 25 = .ok (.invokestatic 217, 3) := by decide +kernel
theorem dX12_step_28 : decode cX12_step 28 = .ok (.ifCond .eq 33, 3) := by decide +kernel
theorem dX12_step_31 : decode cX12_step 31 = .ok (.iload_n 3, 1) := by decide +kernel
theorem dX12_step_32 : decode cX12_step 32 = .ok (.i2l, 1) := by decide +kernel
theorem dX12_step_33 : decode cX12_step 33 = .ok (.lconst 0, 1) := by decide +kernel
theorem dX12_step_34 : decode cX12_step 34 = .ok (.ldc2_w 275, 3) := by decide +kernel
theorem dX12_step_37 : decode cX12_step 37 = .ok (.invokestatic 217, 3) := by decide +kernel
theorem dX12_step_40 : decode cX12_step 40 = .ok (.ifCond .eq 21, 3) := by decide +kernel
theorem dX12_step_43 : decode cX12_step 43 = .ok (.aload_n 0, 1) := by decide +kernel
theorem dX12_step_44 : decode cX12_step 44 = .ok (.getfield 55, 3) := by decide +kernel
theorem dX12_step_47 : decode cX12_step 47 = .ok (.iconst 3, 1) := by decide +kernel
theorem dX12_step_48 : decode cX12_step 48 = .ok (.bipush 16, 2) := by decide +kernel
theorem dX12_step_50 : decode cX12_step 50 = .ok (.iload_n 1, 1) := by decide +kernel
theorem dX12_step_51 : decode cX12_step 51 = .ok (.imul, 1) := by decide +kernel
theorem dX12_step_52 : decode cX12_step 52 = .ok (.iload_n 2, 1) := by decide +kernel
theorem dX12_step_53 : decode cX12_step 53 = .ok (.iadd, 1) := by decide +kernel
theorem dX12_step_54 : decode cX12_step 54 = .ok (.imul, 1) := by decide +kernel
theorem dX12_step_55 : decode cX12_step 55 = .ok (.iload_n 3, 1) := by decide +kernel
theorem dX12_step_56 : decode cX12_step 56 = .ok (.iadd, 1) := by decide +kernel
theorem dX12_step_57 : decode cX12_step 57 = .ok (.iaload, 1) := by decide +kernel
theorem dX12_step_58 : decode cX12_step 58 = .ok (.goto 6, 3) := by decide +kernel
theorem dX12_step_61 : decode cX12_step 61 = .ok (.ldc_w 408, 3) := by decide +kernel
theorem dX12_step_64 : decode cX12_step 64 = .ok (.ireturn, 1) := by decide +kernel
theorem dX12_canStep_0 : decode cX12_canStep 0 = .ok (.aload_n 0, 1) := by decide +kernel
theorem dX12_canStep_1 : decode cX12_canStep 1 = .ok (.getfield 55, 3) := by decide +kernel
theorem dX12_canStep_4 : decode cX12_canStep 4 = .ok (.iload_n 2, 1) := by decide +kernel
theorem dX12_canStep_5 : decode cX12_canStep 5 = .ok (.iconst 1, 1) := by decide +kernel
theorem dX12_canStep_6 : decode cX12_canStep 6 = .ok (.iadd, 1) := by decide +kernel
theorem dX12_canStep_7 : decode cX12_canStep 7 = .ok (.iaload, 1) := by decide +kernel
theorem dX12_canStep_8 : decode cX12_canStep 8 = .ok (.istore_n 3, 1) := by decide +kernel
theorem dX12_canStep_9 : decode cX12_canStep 9 = .ok (.aload_n 0, 1) := by decide +kernel
theorem dX12_canStep_10 : decode cX12_canStep 10 = .ok (.getfield 55, 3) := by decide +kernel
theorem dX12_canStep_13 : decode cX12_canStep 13 = .ok (.iload_n 2, 1) := by decide +kernel
theorem dX12_canStep_14 : decode cX12_canStep 14 = .ok (.iaload, 1) := by decide +kernel
theorem dX12_canStep_15 : decode cX12_canStep 15 = .ok (.tableswitch 50 0 2 #[25, 33, 41], 25) := by decide +kernel
theorem dX12_canStep_40 : decode cX12_canStep 40 = .ok (.aload_n 0, 1) := by decide +kernel
theorem dX12_canStep_41 : decode cX12_canStep 41 = .ok (.aload_n 1, 1) := by decide +kernel
theorem dX12_canStep_42 : decode cX12_canStep 42 = .ok (.iload_n 3, 1) := by decide +kernel
theorem dX12_canStep_43 : decode cX12_canStep 43 = .ok (.iconst 1, 1) := by decide +kernel
theorem dX12_canStep_44 : decode cX12_canStep 44 = .ok (.invokevirtual 377, 3) := by decide +kernel
theorem dX12_canStep_47 : decode cX12_canStep 47 = .ok (.ireturn, 1) := by decide +kernel
theorem dX12_canStep_48 : decode cX12_canStep 48 = .ok (.aload_n 0, 1) := by decide +kernel
theorem dX12_canStep_49 : decode cX12_canStep 49 = .ok (.aload_n 1, 1) := by decide +kernel
theorem dX12_canStep_50 : decode cX12_canStep 50 = .ok (.iload_n 3, 1) := by decide +kernel
theorem dX12_canStep_51 : decode cX12_canStep 51 = .ok (.iconst 0, 1) := by decide +kernel
theorem dX12_canStep_52 : decode cX12_canStep 52 = .ok (.invokevirtual 377, 3) := by decide +kernel
theorem dX12_canStep_55 : decode cX12_canStep 55 = .ok (.ireturn, 1) := by decide +kernel
theorem dX12_canStep_56 : decode cX12_canStep 56 = .ok (.aload_n 0, 1) := by decide +kernel
theorem dX12_canStep_57 : decode cX12_canStep 57 = .ok (.aload_n 1, 1) := by decide +kernel
theorem dX12_canStep_58 : decode cX12_canStep 58 = .ok (.iload_n 3, 1) := by decide +kernel
theorem dX12_canStep_59 : decode cX12_canStep 59 = .ok (.bipush 9, 2) := by decide +kernel
theorem dX12_canStep_61 : decode cX12_canStep 61 = .ok (.invokevirtual 388, 3) := by decide +kernel
theorem dX12_canStep_64 : decode cX12_canStep 64 = .ok (.ireturn, 1) := by decide +kernel
theorem dX12_canStep_65 : decode cX12_canStep 65 = .ok (.aload_n 0, 1) := by decide +kernel
theorem dX12_canStep_66 : decode cX12_canStep 66 = .ok (.aload_n 1, 1) := by decide +kernel
theorem dX12_canStep_67 : decode cX12_canStep 67 = .ok (.iload_n 3, 1) := by decide +kernel
theorem dX12_canStep_68 : decode cX12_canStep 68 = .ok (.aload_n 0, 1) := by decide +kernel
theorem dX12_canStep_69 : decode cX12_canStep 69 = .ok (.getfield 55, 3) := by decide +kernel
theorem dX12_canStep_72 : decode cX12_canStep 72 = .ok (.iload_n 2, 1) := by decide +kernel
theorem dX12_canStep_73 : decode cX12_canStep 73 = .ok (.iconst 2, 1) := by decide +kernel
theorem dX12_canStep_74 : decode cX12_canStep 74 = .ok (.iadd, 1) := by decide +kernel
theorem dX12_canStep_75 : decode cX12_canStep 75 = .ok (.iaload, 1) := by decide +kernel
theorem dX12_canStep_76 : decode cX12_canStep 76 = .ok (.invokevirtual 384, 3) := by decide +kernel
theorem dX12_canStep_79 : decode cX12_canStep 79 = .ok (.ireturn, 1) := by decide +kernel
theorem dX12_steps_0 : decode cX12_steps 0 = .ok (.aload_n 0, 1) := by decide +kernel
theorem dX12_steps_1 : decode cX12_steps 1 = .ok (.getfield 55, 3) := by decide +kernel
theorem dX12_steps_4 : decode cX12_steps 4 = .ok (.iload_n 2, 1) := by decide +kernel
theorem dX12_steps_5 : decode cX12_steps 5 = .ok (.iconst 1, 1) := by decide +kernel
theorem dX12_steps_6 : decode cX12_steps 6 = .ok (.iadd, 1) := by decide +kernel
theorem dX12_steps_7 : decode cX12_steps 7 = .ok (.iaload, 1) := by decide +kernel
theorem dX12_steps_8 : decode cX12_steps 8 = .ok (.istore_n 3, 1) := by decide +kernel
theorem dX12_steps_9 : decode cX12_steps 9 = .ok (.aload_n 0, 1) := by decide +kernel
theorem dX12_steps_10 : decode cX12_steps 10 = .ok (.getfield 55, 3) := by decide +kernel
theorem dX12_steps_13 : decode cX12_steps 13 = .ok (.iload_n 2, 1) := by decide +kernel
theorem dX12_steps_14 : decode cX12_steps 14 = .ok (.iaload, 1) := by decide +kernel
theorem dX12_steps_15 : decode cX12_steps 15 = .ok (.lookupswitch 75 #[(2, 25), (3, 54)], 25) := by decide +kernel
theorem dX12_steps_40 : decode cX12_steps 40 = .ok (.iconst 0, 1) := by decide +kernel
theorem dX12_steps_41 : decode cX12_steps 41 = .ok (.istore 4, 2) := by decide +kernel
theorem dX12_steps_43 : decode cX12_steps 43 = .ok (.iload 4, 2) := by decide +kernel
theorem dX12_steps_45 : decode cX12_steps 45 = .ok (.iload_n 3, 1) := by decide +kernel
theorem dX12_steps_46 : decode cX12_steps 46 = .ok (.if_icmp .ge 20, 3) := by decide +kernel
theorem dX12_steps_49 : decode cX12_steps 49 = .ok (.aload_n 0, 1) := by decide +kernel
theorem dX12_steps_50 : decode cX12_steps 50 = .ok (.aload_n 1, 1) := by decide +kernel
theorem dX12_steps_51 : decode cX12_steps 51 = .ok (.aload_n 0, 1) := by decide +kernel
theorem dX12_steps_52 : decode cX12_steps 52 = .ok (.getfield 37, 3) := by decide +kernel
theorem dX12_steps_55 : decode cX12_steps 55 = .ok (.iconst 0, 1) := by decide +kernel
theorem dX12_steps_56 : decode cX12_steps 56 = .ok (.iaload, 1) := by decide +kernel
theorem dX12_steps_57 : decode cX12_steps 57 = .ok (.invokevirtual 391, 3) := by decide +kernel
theorem dX12_steps_60 : decode cX12_steps 60 = .ok (.iinc 4 1, 3) := by decide +kernel
theorem dX12_steps_63 : decode cX12_steps 63 = .ok (.goto (-20), 3) := by decide +kernel
theorem dX12_steps_66 : decode cX12_steps 66 = .ok (.goto 34, 3) := by decide +kernel
theorem dX12_steps_69 : decode cX12_steps 69 = .ok (.aload_n 1, 1) := by decide +kernel
theorem dX12_steps_70 : decode cX12_steps 70 = .ok (.iconst 3, 1) := by decide +kernel
theorem dX12_steps_71 : decode cX12_steps 71 = .ok (.iload_n 3, 1) := by decide +kernel
theorem dX12_steps_72 : decode cX12_steps 72 = .ok (.imul, 1) := by decide +kernel
theorem dX12_steps_73 : decode cX12_steps 73 = .ok (.iconst 0, 1) := by decide +kernel
theorem dX12_steps_74 : decode cX12_steps 74 = .ok (.iadd, 1) := by decide +kernel
theorem dX12_steps_75 : decode cX12_steps 75 = .ok (.dup2, 1) := by decide +kernel
theorem dX12_steps_76 : decode cX12_steps 76 = .ok (.iaload, 1) := by decide +kernel
theorem dX12_steps_77 : decode cX12_steps 77 = .ok (.aload_n 0, 1) := by decide +kernel
theorem dX12_steps_78 : decode cX12_steps 78 = .ok (.getfield 55, 3) := by decide +kernel
theorem dX12_steps_81 : decode cX12_steps 81 = .ok (.iload_n 2, 1) := by decide +kernel
theorem dX12_steps_82 : decode cX12_steps 82 = .ok (.iconst 2, 1) := by decide +kernel
theorem dX12_steps_83 : decode cX12_steps 83 = .ok (.iadd, 1) := by decide +kernel
theorem dX12_steps_84 : decode cX12_steps 84 = .ok (.iaload, 1) := by decide +kernel
theorem dX12_steps_85 : decode cX12_steps 85 = .ok (.iadd, 1) := by decide +kernel
theorem dX12_steps_86 : decode cX12_steps 86 = .ok (.iastore, 1) := by decide +kernel
theorem dX12_steps_87 : decode cX12_steps 87 = .ok (.goto 13, 3) := by decide +kernel
theorem dX12_steps_90 : decode cX12_steps 90 = .ok (.aload_n 1, 1) := by decide +kernel
theorem dX12_steps_91 : decode cX12_steps 91 = .ok (.bipush 21, 2) := by decide +kernel
theorem dX12_steps_93 : decode cX12_steps 93 = .ok (.dup2, 1) := by decide +kernel
theorem dX12_steps_94 : decode cX12_steps 94 = .ok (.iaload, 1) := by decide +kernel
theorem dX12_steps_95 : decode cX12_steps 95 = .ok (.iconst 1, 1) := by decide +kernel
theorem dX12_steps_96 : decode cX12_steps 96 = .ok (.iload_n 3, 1) := by decide +kernel
theorem dX12_steps_97 : decode cX12_steps 97 = .ok (.ishl, 1) := by decide +kernel
theorem dX12_steps_98 : decode cX12_steps 98 = .ok (.ixor, 1) := by decide +kernel
theorem dX12_steps_99 : decode cX12_steps 99 = .ok (.iastore, 1) := by decide +kernel
theorem dX12_steps_100 : decode cX12_steps 100 = .ok (.return_, 1) := by decide +kernel
theorem dX12_run_0 : decode cX12_run 0 = .ok (.aload_n 0, 1) := by decide +kernel
theorem dX12_run_1 : decode cX12_run 1 = .ok (.iconst 0, 1) := by decide +kernel
theorem dX12_run_2 : decode cX12_run 2 = .ok (.putfield 96, 3) := by decide +kernel
theorem dX12_run_5 : decode cX12_run 5 = .ok (.aload_n 0, 1) := by decide +kernel
theorem dX12_run_6 : decode cX12_run 6 = .ok (.iload_n 1, 1) := by decide +kernel
theorem dX12_run_7 : decode cX12_run 7 = .ok (.invokevirtual 405, 3) := by decide +kernel
theorem dX12_run_10 : decode cX12_run 10 = .ok (.ifCond .eq 20, 3) := by decide +kernel
theorem dX12_run_13 : decode cX12_run 13 = .ok (.aload_n 0, 1) := by decide +kernel
theorem dX12_run_14 : decode cX12_run 14 = .ok (.getfield 294, 3) := by decide +kernel
theorem dX12_run_17 : decode cX12_run 17 = .ok (.ifCond .eq 13, 3) := by decide +kernel
theorem dX12_run_20 : decode cX12_run 20 = .ok (.iload_n 2, 1) := by decide +kernel
theorem dX12_run_21 : decode cX12_run 21 = .ok (.i2l, 1) := by decide +kernel
theorem dX12_run_22 : decode cX12_run 22 = .ok (.lconst 0, 1) := by decide +kernel
theorem dX12_run_23 : decode cX12_run 23 = .ok (.lconst 1, 1) := by decide +kernel
theorem dX12_run_24 : decode cX12_run 24 = .ok (.invokestatic 217, 3) := by decide +kernel
theorem dX12_run_27 : decode cX12_run 27 = .ok (.ifCond .ne 7, 3) := by decide +kernel
theorem dX12_run_30 : decode cX12_run 30 = .ok (.ldc_w 408, 3) := by decide +kernel
theorem dX12_run_33 : decode cX12_run 33 = .ok (.ireturn, 1) := by decide +kernel
theorem dX12_run_34 : decode cX12_run 34 = .ok (.aload_n 0, 1) := by decide +kernel
theorem dX12_run_35 : decode cX12_run 35 = .ok (.getfield 61, 3) := by decide +kernel
theorem dX12_run_38 : decode cX12_run 38 = .ok (.aload_n 0, 1) := by decide +kernel
theorem dX12_run_39 : decode cX12_run 39 = .ok (.getfield 64, 3) := by decide +kernel
theorem dX12_run_42 : decode cX12_run 42 = .ok (.invokestatic 409, 3) := by decide +kernel
theorem dX12_run_45 : decode cX12_run 45 = .ok (.iconst 0, 1) := by decide +kernel
theorem dX12_run_46 : decode cX12_run 46 = .ok (.istore_n 3, 1) := by decide +kernel
theorem dX12_run_47 : decode cX12_run 47 = .ok (.iload_n 3, 1) := by decide +kernel
theorem dX12_run_48 : decode cX12_run 48 = .ok (.aload_n 0, 1) := by decide +kernel
theorem dX12_run_49 : decode cX12_run 49 = .ok (.getfield 58, 3) := by decide +kernel
theorem dX12_run_52 : decode cX12_run 52 = .ok (.iload_n 1, 1) := by decide +kernel
theorem dX12_run_53 : decode cX12_run 53 = .ok (.iaload, 1) := by decide +kernel
theorem dX12_run_54 : decode cX12_run 54 = .ok (.if_icmp .ge 44, 3) := by decide +kernel
theorem dX12_run_57 : decode cX12_run 57 = .ok (.aload_n 0, 1) := by decide +kernel
theorem dX12_run_58 : decode cX12_run 58 = .ok (.aload_n 0, 1) := by decide +kernel
theorem dX12_run_59 : decode cX12_run 59 = .ok (.getfield 64, 3) := by decide +kernel
theorem dX12_run_62 : decode cX12_run 62 = .ok (.iconst 3, 1) := by decide +kernel
theorem dX12_run_63 : decode cX12_run 63 = .ok (.bipush 16, 2) := by decide +kernel
theorem dX12_run_65 : decode cX12_run 65 = .ok (.iload_n 1, 1) := by decide +kernel
theorem dX12_run_66 : decode cX12_run 66 = .ok (.imul, 1) := by decide +kernel
theorem dX12_run_67 : decode cX12_run 67 = .ok (.iload_n 3, 1) := by decide +kernel
theorem dX12_run_68 : decode cX12_run 68 = .ok (.iadd, 1) := by decide +kernel
theorem dX12_run_69 : decode cX12_run 69 = .ok (.imul, 1) := by decide +kernel
theorem dX12_run_70 : decode cX12_run 70 = .ok (.invokevirtual 413, 3) := by decide +kernel
theorem dX12_run_73 : decode cX12_run 73 = .ok (.ifCond .eq 25, 3) := by decide +kernel
theorem dX12_run_76 : decode cX12_run 76 = .ok (.aload_n 0, 1) := by decide +kernel
theorem dX12_run_77 : decode cX12_run 77 = .ok (.aload_n 0, 1) := by decide +kernel
theorem dX12_run_78 : decode cX12_run 78 = .ok (.getfield 64, 3) := by decide +kernel
theorem dX12_run_81 : decode cX12_run 81 = .ok (.iconst 3, 1) := by decide +kernel
theorem dX12_run_82 : decode cX12_run 82 = .ok (.bipush 16, 2) := by decide +kernel
theorem dX12_run_84 : decode cX12_run 84 = .ok (.iload_n 1, 1) := by decide +kernel
theorem dX12_run_85 : decode cX12_run 85 = .ok (.imul, 1) := by decide +kernel
theorem dX12_run_86 : decode cX12_run 86 = .ok (.iload_n 3, 1) := by decide +kernel
theorem dX12_run_87 : decode cX12_run 87 = .ok (.iadd, 1) := by decide +kernel
theorem dX12_run_88 : decode cX12_run 88 = .ok (.imul, 1) := by decide +kernel
theorem dX12_run_89 : decode cX12_run 89 = .ok (.invokevirtual 417, 3) := by decide +kernel
theorem dX12_run_92 : decode cX12_run 92 = .ok (.iinc 3 1, 3) := by decide +kernel
theorem dX12_run_95 : decode cX12_run 95 = .ok (.goto (-48), 3) := by decide +kernel
theorem dX12_run_98 : decode cX12_run 98 = .ok (.iload_n 2, 1) := by decide +kernel
theorem dX12_run_99 : decode cX12_run 99 = .ok (.iconst 1, 1) := by decide +kernel
theorem dX12_run_100 : decode cX12_run 100 = .ok (.if_icmp .ne 12, 3) := by decide +kernel
theorem dX12_run_103 : decode cX12_run 103 = .ok (.aload_n 0, 1) := by decide +kernel
theorem dX12_run_104 : decode cX12_run 104 = .ok (.aload_n 0, 1) := by decide +kernel
theorem dX12_run_105 : decode cX12_run 105 = .ok (.getfield 64, 3) := by decide +kernel
theorem dX12_run_108 : decode cX12_run 108 = .ok (.invokevirtual 360, 3) := by decide +kernel
theorem dX12_run_111 : decode cX12_run 111 = .ok (.ireturn, 1) := by decide +kernel
theorem dX12_run_112 : decode cX12_run 112 = .ok (.iload_n 3, 1) := by decide +kernel
theorem dX12_run_113 : decode cX12_run 113 = .ok (.aload_n 0, 1) := by decide +kernel
theorem dX12_run_114 : decode cX12_run 114 = .ok (.getfield 58, 3) := by decide +kernel
theorem dX12_run_117 : decode cX12_run 117 = .ok (.iload_n 1, 1) := by decide +kernel
theorem dX12_run_118 : decode cX12_run 118 = .ok (.iaload, 1) := by decide +kernel
theorem dX12_run_119 : decode cX12_run 119 = .ok (.if_icmp .ne 7, 3) := by decide +kernel
theorem dX12_run_122 : decode cX12_run 122 = .ok (.iconst (-1), 1) := by decide +kernel
theorem dX12_run_123 : decode cX12_run 123 = .ok (.goto 4, 3) := by decide +kernel
theorem dX12_run_126 : decode cX12_run 126 = .ok (.iload_n 3, 1) := by decide +kernel
theorem dX12_run_127 : decode cX12_run 127 = .ok (.ireturn, 1) := by decide +kernel
theorem dX12_performs_0 : decode cX12_performs 0 = .ok (.aload_n 0, 1) := by decide +kernel
theorem dX12_performs_1 : decode cX12_performs 1 = .ok (.getfield 55, 3) := by decide +kernel
theorem dX12_performs_4 : decode cX12_performs 4 = .ok (.iload_n 1, 1) := by decide +kernel
theorem dX12_performs_5 : decode cX12_performs 5 = .ok (.iaload, 1) := by decide +kernel
theorem dX12_performs_6 : decode cX12_performs 6 = .ok (.iconst 2, 1) := by decide +kernel
theorem dX12_performs_7 : decode cX12_performs 7 = .ok (.if_icmp .eq 17, 3) := by decide +kernel
theorem dX12_performs_10 : decode cX12_performs 10 = .ok (.aload_n 0, 1) := by decide +kernel
theorem dX12_performs_11 : decode cX12_performs 11 = .ok (.invokevirtual 381, 3) := by decide +kernel
theorem dX12_performs_14 : decode cX12_performs 14 = .ok (.aload_n 0, 1) := by decide +kernel
theorem dX12_performs_15 : decode cX12_performs 15 = .ok (.aload_n 0, 1) := by decide +kernel
theorem dX12_performs_16 : decode cX12_performs 16 = .ok (.getfield 61, 3) := by decide +kernel
theorem dX12_performs_19 : decode cX12_performs 19 = .ok (.iload_n 1, 1) := by decide +kernel
theorem dX12_performs_20 : decode cX12_performs 20 = .ok (.invokevirtual 417, 3) := by decide +kernel
theorem dX12_performs_23 : decode cX12_performs 23 = .ok (.return_, 1) := by decide +kernel
theorem dX12_performs_24 : decode cX12_performs 24 = .ok (.iconst 0, 1) := by decide +kernel
theorem dX12_performs_25 : decode cX12_performs 25 = .ok (.istore_n 2, 1) := by decide +kernel
theorem dX12_performs_26 : decode cX12_performs 26 = .ok (.iload_n 2, 1) := by decide +kernel
theorem dX12_performs_27 : decode cX12_performs 27 = .ok (.aload_n 0, 1) := by decide +kernel
theorem dX12_performs_28 : decode cX12_performs 28 = .ok (.getfield 55, 3) := by decide +kernel
theorem dX12_performs_31 : decode cX12_performs 31 = .ok (.iload_n 1, 1) := by decide +kernel
theorem dX12_performs_32 : decode cX12_performs 32 = .ok (.iconst 1, 1) := by decide +kernel
theorem dX12_performs_33 : decode cX12_performs 33 = .ok (.iadd, 1) := by decide +kernel
theorem dX12_performs_34 : decode cX12_performs 34 = .ok (.iaload, 1) := by decide +kernel
theorem dX12_performs_35 : decode cX12_performs 35 = .ok (.if_icmp .ge 27, 3) := by decide +kernel
theorem dX12_performs_38 : decode cX12_performs 38 = .ok (.aload_n 0, 1) := by decide +kernel
theorem dX12_performs_39 : decode cX12_performs 39 = .ok (.invokevirtual 381, 3) := by decide +kernel
theorem dX12_performs_42 : decode cX12_performs 42 = .ok (.aload_n 0, 1) := by decide +kernel
theorem dX12_performs_43 : decode cX12_performs 43 = .ok (.aload_n 0, 1) := by decide +kernel
theorem dX12_performs_44 : decode cX12_performs 44 = .ok (.getfield 61, 3) := by decide +kernel
theorem dX12_performs_47 : decode cX12_performs 47 = .ok (.aload_n 0, 1) := by decide +kernel
theorem dX12_performs_48 : decode cX12_performs 48 = .ok (.getfield 37, 3) := by decide +kernel
theorem dX12_performs_51 : decode cX12_performs 51 = .ok (.iconst 0, 1) := by decide +kernel
theorem dX12_performs_52 : decode cX12_performs 52 = .ok (.iaload, 1) := by decide +kernel
theorem dX12_performs_53 : decode cX12_performs 53 = .ok (.invokevirtual 391, 3) := by decide +kernel
theorem dX12_performs_56 : decode cX12_performs 56 = .ok (.iinc 2 1, 3) := by decide +kernel
theorem dX12_performs_59 : decode cX12_performs 59 = .ok (.goto (-33), 3) := by decide +kernel
theorem dX12_performs_62 : decode cX12_performs 62 = .ok (.return_, 1) := by decide +kernel
theorem dX12_perform_0 : decode cX12_perform 0 = .ok (.aload_n 0, 1) := by decide +kernel
theorem dX12_perform_1 : decode cX12_perform 1 = .ok (.iconst 0, 1) := by decide +kernel
theorem dX12_perform_2 : decode cX12_perform 2 = .ok (.putfield 96, 3) := by decide +kernel
theorem dX12_perform_5 : decode cX12_perform 5 = .ok (.aload_n 0, 1) := by decide +kernel
theorem dX12_perform_6 : decode cX12_perform 6 = .ok (.iload_n 1, 1) := by decide +kernel
theorem dX12_perform_7 : decode cX12_perform 7 = .ok (.invokevirtual 405, 3) := by decide +kernel
theorem dX12_perform_10 : decode cX12_perform 10 = .ok (.ifCond .eq 10, 3) := by decide +kernel
theorem dX12_perform_13 : decode cX12_perform 13 = .ok (.aload_n 0, 1) := by decide +kernel
theorem dX12_perform_14 : decode cX12_perform 14 = .ok (.getfield 294, 3) := by decide +kernel
theorem dX12_perform_17 : decode cX12_perform 17 = .ok (.ifCond .ne 5, 3) := by decide +kernel
theorem dX12_perform_20 : decode cX12_perform 20 = .ok (.iconst (-1), 1) := by decide +kernel
theorem dX12_perform_21 : decode cX12_perform 21 = .ok (.ireturn, 1) := by decide +kernel
theorem dX12_perform_22 : decode cX12_perform 22 = .ok (.iconst 0, 1) := by decide +kernel
theorem dX12_perform_23 : decode cX12_perform 23 = .ok (.istore_n 2, 1) := by decide +kernel
theorem dX12_perform_24 : decode cX12_perform 24 = .ok (.iload_n 2, 1) := by decide +kernel
theorem dX12_perform_25 : decode cX12_perform 25 = .ok (.aload_n 0, 1) := by decide +kernel
theorem dX12_perform_26 : decode cX12_perform 26 = .ok (.getfield 58, 3) := by decide +kernel
theorem dX12_perform_29 : decode cX12_perform 29 = .ok (.iload_n 1, 1) := by decide +kernel
theorem dX12_perform_30 : decode cX12_perform 30 = .ok (.iaload, 1) := by decide +kernel
theorem dX12_perform_31 : decode cX12_perform 31 = .ok (.if_icmp .ge 40, 3) := by decide +kernel
theorem dX12_perform_34 : decode cX12_perform 34 = .ok (.aload_n 0, 1) := by decide +kernel
theorem dX12_perform_35 : decode cX12_perform 35 = .ok (.aload_n 0, 1) := by decide +kernel
theorem dX12_perform_36 : decode cX12_perform 36 = .ok (.getfield 61, 3) := by decide +kernel
theorem dX12_perform_39 : decode cX12_perform 39 = .ok (.iconst 3, 1) := by decide +kernel
theorem dX12_perform_40 : decode cX12_perform 40 = .ok (.bipush 16, 2) := by decide +kernel
theorem dX12_perform_42 : decode cX12_perform 42 = .ok (.iload_n 1, 1) := by decide +kernel
theorem dX12_perform_43 : decode cX12_perform 43 = .ok (.imul, 1) := by decide +kernel
theorem dX12_perform_44 : decode cX12_perform 44 = .ok (.iload_n 2, 1) := by decide +kernel
theorem dX12_perform_45 : decode cX12_perform 45 = .ok (.iadd, 1) := by decide +kernel
