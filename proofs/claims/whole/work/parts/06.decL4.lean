theorem d_L_law_353 : decode c_L_law 353 = .ok (.aload_n 2, 1) := by decide +kernel
theorem d_L_law_354 : decode c_L_law 354 = .ok (.invokevirtual 55, 3) := by decide +kernel
theorem d_L_law_357 : decode c_L_law 357 = .ok (.iload 5, 2) := by decide +kernel
theorem d_L_law_359 : decode c_L_law 359 = .ok (.if_icmp .eq 5, 3) := by decide +kernel
theorem d_L_law_362 : decode c_L_law 362 = .ok (.iconst 0, 1) := by decide +kernel
theorem d_L_law_363 : decode c_L_law 363 = .ok (.ireturn, 1) := by decide +kernel
theorem d_L_law_364 : decode c_L_law 364 = .ok (.iload 5, 2) := by decide +kernel
theorem d_L_law_366 : decode c_L_law 366 = .ok (.ifCond .ne 15, 3) := by decide +kernel
theorem d_L_law_369 : decode c_L_law 369 = .ok (.aload_n 3, 1) := by decide +kernel
theorem d_L_law_370 : decode c_L_law 370 = .ok (.iconst 0, 1) := by decide +kernel
theorem d_L_law_371 : decode c_L_law 371 = .ok (.laload, 1) := by decide +kernel
theorem d_L_law_372 : decode c_L_law 372 = .ok (.iload 6, 2) := by decide +kernel
theorem d_L_law_374 : decode c_L_law 374 = .ok (.i2l, 1) := by decide +kernel
theorem d_L_law_375 : decode c_L_law 375 = .ok (.lcmp, 1) := by decide +kernel
theorem d_L_law_376 : decode c_L_law 376 = .ok (.ifCond .eq 5, 3) := by decide +kernel
theorem d_L_law_379 : decode c_L_law 379 = .ok (.iconst 0, 1) := by decide +kernel
theorem d_L_law_380 : decode c_L_law 380 = .ok (.ireturn, 1) := by decide +kernel
theorem d_L_law_381 : decode c_L_law 381 = .ok (.goto 256, 3) := by decide +kernel
theorem d_L_law_384 : decode c_L_law 384 = .ok (.aload_n 1, 1) := by decide +kernel
theorem d_L_law_385 : decode c_L_law 385 = .ok (.aload_n 0, 1) := by decide +kernel
theorem d_L_law_386 : decode c_L_law 386 = .ok (.iload 4, 2) := by decide +kernel
theorem d_L_law_388 : decode c_L_law 388 = .ok (.iconst 1, 1) := by decide +kernel
theorem d_L_law_389 : decode c_L_law 389 = .ok (.iadd, 1) := by decide +kernel
theorem d_L_law_390 : decode c_L_law 390 = .ok (.iaload, 1) := by decide +kernel
theorem d_L_law_391 : decode c_L_law 391 = .ok (.aload_n 0, 1) := by decide +kernel
theorem d_L_law_392 : decode c_L_law 392 = .ok (.iload 4, 2) := by decide +kernel
theorem d_L_law_394 : decode c_L_law 394 = .ok (.iconst 2, 1) := by decide +kernel
theorem d_L_law_395 : decode c_L_law 395 = .ok (.iadd, 1) := by decide +kernel
theorem d_L_law_396 : decode c_L_law 396 = .ok (.iaload, 1) := by decide +kernel
theorem d_L_law_397 : decode c_L_law 397 = .ok (.invokestatic 72, 3) := by decide +kernel
theorem d_L_law_400 : decode c_L_law 400 = .ok (.istore 5, 2) := by decide +kernel
theorem d_L_law_402 : decode c_L_law 402 = .ok (.aload_n 2, 1) := by decide +kernel
theorem d_L_law_403 : decode c_L_law 403 = .ok (.aload_n 0, 1) := by decide +kernel
theorem d_L_law_404 : decode c_L_law 404 = .ok (.iload 4, 2) := by decide +kernel
theorem d_L_law_406 : decode c_L_law 406 = .ok (.iconst 1, 1) := by decide +kernel
theorem d_L_law_407 : decode c_L_law 407 = .ok (.iadd, 1) := by decide +kernel
theorem d_L_law_408 : decode c_L_law 408 = .ok (.iaload, 1) := by decide +kernel
theorem d_L_law_409 : decode c_L_law 409 = .ok (.aload_n 0, 1) := by decide +kernel
theorem d_L_law_410 : decode c_L_law 410 = .ok (.iload 4, 2) := by decide +kernel
theorem d_L_law_412 : decode c_L_law 412 = .ok (.iconst 2, 1) := by decide +kernel
theorem d_L_law_413 : decode c_L_law 413 = .ok (.iadd, 1) := by decide +kernel
theorem d_L_law_414 : decode c_L_law 414 = .ok (.iaload, 1) := by decide +kernel
theorem d_L_law_415 : decode c_L_law 415 = .ok (.invokevirtual 75, 3) := by decide +kernel
theorem d_L_law_418 : decode c_L_law 418 = .ok (.aload_n 2, 1) := by decide +kernel
theorem d_L_law_419 : decode c_L_law 419 = .ok (.invokevirtual 55, 3) := by decide +kernel
theorem d_L_law_422 : decode c_L_law 422 = .ok (.iload 5, 2) := by decide +kernel
theorem d_L_law_424 : decode c_L_law 424 = .ok (.if_icmp .eq 5, 3) := by decide +kernel
theorem d_L_law_427 : decode c_L_law 427 = .ok (.iconst 0, 1) := by decide +kernel
theorem d_L_law_428 : decode c_L_law 428 = .ok (.ireturn, 1) := by decide +kernel
theorem d_L_law_429 : decode c_L_law 429 = .ok (.goto 208, 3) := by decide +kernel
theorem d_L_law_432 : decode c_L_law 432 = .ok (.aload_n 1, 1) := by decide +kernel
theorem d_L_law_433 : decode c_L_law 433 = .ok (.aload_n 0, 1) := by decide +kernel
theorem d_L_law_434 : decode c_L_law 434 = .ok (.iload 4, 2) := by decide +kernel
theorem d_L_law_436 : decode c_L_law 436 = .ok (.iconst 1, 1) := by decide +kernel
theorem d_L_law_437 : decode c_L_law 437 = .ok (.iadd, 1) := by decide +kernel
theorem d_L_law_438 : decode c_L_law 438 = .ok (.iaload, 1) := by decide +kernel
theorem d_L_law_439 : decode c_L_law 439 = .ok (.aload_n 3, 1) := by decide +kernel
theorem d_L_law_440 : decode c_L_law 440 = .ok (.invokestatic 76, 3) := by decide +kernel
theorem d_L_law_443 : decode c_L_law 443 = .ok (.istore 5, 2) := by decide +kernel
theorem d_L_law_445 : decode c_L_law 445 = .ok (.aload_n 2, 1) := by decide +kernel
theorem d_L_law_446 : decode c_L_law 446 = .ok (.aload_n 0, 1) := by decide +kernel
theorem d_L_law_447 : decode c_L_law 447 = .ok (.iload 4, 2) := by decide +kernel
theorem d_L_law_449 : decode c_L_law 449 = .ok (.iconst 1, 1) := by decide +kernel
theorem d_L_law_450 : decode c_L_law 450 = .ok (.iadd, 1) := by decide +kernel
