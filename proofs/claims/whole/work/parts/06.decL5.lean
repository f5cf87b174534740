theorem d_L_law_451 : decode c_L_law 451 = .ok (.iaload, 1) := by decide +kernel
theorem d_L_law_452 : decode c_L_law 452 = .ok (.invokevirtual 78, 3) := by decide +kernel
theorem d_L_law_455 : decode c_L_law 455 = .ok (.istore 6, 2) := by decide +kernel
theorem d_L_law_457 : decode c_L_law 457 = .ok (.aload_n 2, 1) := by decide +kernel
theorem d_L_law_458 : decode c_L_law 458 = .ok (.invokevirtual 55, 3) := by decide +kernel
theorem d_L_law_461 : decode c_L_law 461 = .ok (.iload 5, 2) := by decide +kernel
theorem d_L_law_463 : decode c_L_law 463 = .ok (.if_icmp .eq 5, 3) := by decide +kernel
theorem d_L_law_466 : decode c_L_law 466 = .ok (.iconst 0, 1) := by decide +kernel
theorem d_L_law_467 : decode c_L_law 467 = .ok (.ireturn, 1) := by decide +kernel
theorem d_L_law_468 : decode c_L_law 468 = .ok (.iload 5, 2) := by decide +kernel
theorem d_L_law_470 : decode c_L_law 470 = .ok (.ifCond .ne 15, 3) := by decide +kernel
theorem d_L_law_473 : decode c_L_law 473 = .ok (.aload_n 3, 1) := by decide +kernel
theorem d_L_law_474 : decode c_L_law 474 = .ok (.iconst 0, 1) := by decide +kernel
theorem d_L_law_475 : decode c_L_law 475 = .ok (.laload, 1) := by decide +kernel
theorem d_L_law_476 : decode c_L_law 476 = .ok (.iload 6, 2) := by decide +kernel
theorem d_L_law_478 : decode c_L_law 478 = .ok (.i2l, 1) := by decide +kernel
theorem d_L_law_479 : decode c_L_law 479 = .ok (.lcmp, 1) := by decide +kernel
theorem d_L_law_480 : decode c_L_law 480 = .ok (.ifCond .eq 5, 3) := by decide +kernel
theorem d_L_law_483 : decode c_L_law 483 = .ok (.iconst 0, 1) := by decide +kernel
theorem d_L_law_484 : decode c_L_law 484 = .ok (.ireturn, 1) := by decide +kernel
theorem d_L_law_485 : decode c_L_law 485 = .ok (.goto 152, 3) := by decide +kernel
theorem d_L_law_488 : decode c_L_law 488 = .ok (.aload_n 1, 1) := by decide +kernel
theorem d_L_law_489 : decode c_L_law 489 = .ok (.aload_n 0, 1) := by decide +kernel
theorem d_L_law_490 : decode c_L_law 490 = .ok (.iload 4, 2) := by decide +kernel
theorem d_L_law_492 : decode c_L_law 492 = .ok (.iconst 1, 1) := by decide +kernel
theorem d_L_law_493 : decode c_L_law 493 = .ok (.iadd, 1) := by decide +kernel
theorem d_L_law_494 : decode c_L_law 494 = .ok (.iaload, 1) := by decide +kernel
theorem d_L_law_495 : decode c_L_law 495 = .ok (.aload_n 0, 1) := by decide +kernel
theorem d_L_law_496 : decode c_L_law 496 = .ok (.iload 4, 2) := by decide +kernel
theorem d_L_law_498 : decode c_L_law 498 = .ok (.iconst 2, 1) := by decide +kernel
theorem d_L_law_499 : decode c_L_law 499 = .ok (.iadd, 1) := by decide +kernel
theorem d_L_law_500 : decode c_L_law 500 = .ok (.iaload, 1) := by decide +kernel
theorem d_L_law_501 : decode c_L_law 501 = .ok (.invokevirtual 79, 3) := by decide +kernel
theorem d_L_law_504 : decode c_L_law 504 = .ok (.aload_n 2, 1) := by decide +kernel
theorem d_L_law_505 : decode c_L_law 505 = .ok (.aload_n 0, 1) := by decide +kernel
theorem d_L_law_506 : decode c_L_law 506 = .ok (.iload 4, 2) := by decide +kernel
theorem d_L_law_508 : decode c_L_law 508 = .ok (.iconst 1, 1) := by decide +kernel
theorem d_L_law_509 : decode c_L_law 509 = .ok (.iadd, 1) := by decide +kernel
theorem d_L_law_510 : decode c_L_law 510 = .ok (.iaload, 1) := by decide +kernel
theorem d_L_law_511 : decode c_L_law 511 = .ok (.aload_n 0, 1) := by decide +kernel
theorem d_L_law_512 : decode c_L_law 512 = .ok (.iload 4, 2) := by decide +kernel
theorem d_L_law_514 : decode c_L_law 514 = .ok (.iconst 2, 1) := by decide +kernel
theorem d_L_law_515 : decode c_L_law 515 = .ok (.iadd, 1) := by decide +kernel
theorem d_L_law_516 : decode c_L_law 516 = .ok (.iaload, 1) := by decide +kernel
theorem d_L_law_517 : decode c_L_law 517 = .ok (.invokevirtual 82, 3) := by decide +kernel
theorem d_L_law_520 : decode c_L_law 520 = .ok (.if_icmp .eq 117, 3) := by decide +kernel
theorem d_L_law_523 : decode c_L_law 523 = .ok (.iconst 0, 1) := by decide +kernel
theorem d_L_law_524 : decode c_L_law 524 = .ok (.ireturn, 1) := by decide +kernel
theorem d_L_law_525 : decode c_L_law 525 = .ok (.aload_n 1, 1) := by decide +kernel
theorem d_L_law_526 : decode c_L_law 526 = .ok (.aload_n 0, 1) := by decide +kernel
theorem d_L_law_527 : decode c_L_law 527 = .ok (.iload 4, 2) := by decide +kernel
theorem d_L_law_529 : decode c_L_law 529 = .ok (.iconst 1, 1) := by decide +kernel
theorem d_L_law_530 : decode c_L_law 530 = .ok (.iadd, 1) := by decide +kernel
theorem d_L_law_531 : decode c_L_law 531 = .ok (.iaload, 1) := by decide +kernel
theorem d_L_law_532 : decode c_L_law 532 = .ok (.aload_n 3, 1) := by decide +kernel
theorem d_L_law_533 : decode c_L_law 533 = .ok (.invokestatic 83, 3) := by decide +kernel
theorem d_L_law_536 : decode c_L_law 536 = .ok (.istore 5, 2) := by decide +kernel
theorem d_L_law_538 : decode c_L_law 538 = .ok (.aload_n 2, 1) := by decide +kernel
theorem d_L_law_539 : decode c_L_law 539 = .ok (.aload_n 0, 1) := by decide +kernel
theorem d_L_law_540 : decode c_L_law 540 = .ok (.iload 4, 2) := by decide +kernel
theorem d_L_law_542 : decode c_L_law 542 = .ok (.iconst 1, 1) := by decide +kernel
theorem d_L_law_543 : decode c_L_law 543 = .ok (.iadd, 1) := by decide +kernel
theorem d_L_law_544 : decode c_L_law 544 = .ok (.iaload, 1) := by decide +kernel
theorem d_L_law_545 : decode c_L_law 545 = .ok (.invokevirtual 85, 3) := by decide +kernel
