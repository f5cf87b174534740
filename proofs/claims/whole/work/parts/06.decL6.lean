theorem d_L_law_548 : decode c_L_law 548 = .ok (.istore 6, 2) := by decide +kernel
theorem d_L_law_550 : decode c_L_law 550 = .ok (.aload_n 2, 1) := by decide +kernel
theorem d_L_law_551 : decode c_L_law 551 = .ok (.invokevirtual 55, 3) := by decide +kernel
theorem d_L_law_554 : decode c_L_law 554 = .ok (.iload 5, 2) := by decide +kernel
theorem d_L_law_556 : decode c_L_law 556 = .ok (.if_icmp .eq 5, 3) := by decide +kernel
theorem d_L_law_559 : decode c_L_law 559 = .ok (.iconst 0, 1) := by decide +kernel
theorem d_L_law_560 : decode c_L_law 560 = .ok (.ireturn, 1) := by decide +kernel
theorem d_L_law_561 : decode c_L_law 561 = .ok (.iload 5, 2) := by decide +kernel
theorem d_L_law_563 : decode c_L_law 563 = .ok (.ifCond .ne 15, 3) := by decide +kernel
theorem d_L_law_566 : decode c_L_law 566 = .ok (.aload_n 3, 1) := by decide +kernel
theorem d_L_law_567 : decode c_L_law 567 = .ok (.iconst 0, 1) := by decide +kernel
theorem d_L_law_568 : decode c_L_law 568 = .ok (.laload, 1) := by decide +kernel
theorem d_L_law_569 : decode c_L_law 569 = .ok (.iload 6, 2) := by decide +kernel
theorem d_L_law_571 : decode c_L_law 571 = .ok (.i2l, 1) := by decide +kernel
theorem d_L_law_572 : decode c_L_law 572 = .ok (.lcmp, 1) := by decide +kernel
theorem d_L_law_573 : decode c_L_law 573 = .ok (.ifCond .eq 5, 3) := by decide +kernel
theorem d_L_law_576 : decode c_L_law 576 = .ok (.iconst 0, 1) := by decide +kernel
theorem d_L_law_577 : decode c_L_law 577 = .ok (.ireturn, 1) := by decide +kernel
theorem d_L_law_578 : decode c_L_law 578 = .ok (.goto 59, 3) := by decide +kernel
theorem d_L_law_581 : decode c_L_law 581 = .ok (.aload_n 1, 1) := by decide +kernel
theorem d_L_law_582 : decode c_L_law 582 = .ok (.aload_n 0, 1) := by decide +kernel
theorem d_L_law_583 : decode c_L_law 583 = .ok (.iload 4, 2) := by decide +kernel
theorem d_L_law_585 : decode c_L_law 585 = .ok (.iconst 1, 1) := by decide +kernel
theorem d_L_law_586 : decode c_L_law 586 = .ok (.iadd, 1) := by decide +kernel
theorem d_L_law_587 : decode c_L_law 587 = .ok (.iaload, 1) := by decide +kernel
theorem d_L_law_588 : decode c_L_law 588 = .ok (.aload_n 3, 1) := by decide +kernel
theorem d_L_law_589 : decode c_L_law 589 = .ok (.invokestatic 86, 3) := by decide +kernel
theorem d_L_law_592 : decode c_L_law 592 = .ok (.istore 5, 2) := by decide +kernel
theorem d_L_law_594 : decode c_L_law 594 = .ok (.aload_n 2, 1) := by decide +kernel
theorem d_L_law_595 : decode c_L_law 595 = .ok (.aload_n 0, 1) := by decide +kernel
theorem d_L_law_596 : decode c_L_law 596 = .ok (.iload 4, 2) := by decide +kernel
theorem d_L_law_598 : decode c_L_law 598 = .ok (.iconst 1, 1) := by decide +kernel
theorem d_L_law_599 : decode c_L_law 599 = .ok (.iadd, 1) := by decide +kernel
theorem d_L_law_600 : decode c_L_law 600 = .ok (.iaload, 1) := by decide +kernel
theorem d_L_law_601 : decode c_L_law 601 = .ok (.invokevirtual 88, 3) := by decide +kernel
theorem d_L_law_604 : decode c_L_law 604 = .ok (.istore 6, 2) := by decide +kernel
theorem d_L_law_606 : decode c_L_law 606 = .ok (.aload_n 2, 1) := by decide +kernel
theorem d_L_law_607 : decode c_L_law 607 = .ok (.invokevirtual 55, 3) := by decide +kernel
theorem d_L_law_610 : decode c_L_law 610 = .ok (.iload 5, 2) := by decide +kernel
theorem d_L_law_612 : decode c_L_law 612 = .ok (.if_icmp .eq 5, 3) := by decide +kernel
theorem d_L_law_615 : decode c_L_law 615 = .ok (.iconst 0, 1) := by decide +kernel
theorem d_L_law_616 : decode c_L_law 616 = .ok (.ireturn, 1) := by decide +kernel
theorem d_L_law_617 : decode c_L_law 617 = .ok (.iload 5, 2) := by decide +kernel
theorem d_L_law_619 : decode c_L_law 619 = .ok (.ifCond .ne 15, 3) := by decide +kernel
theorem d_L_law_622 : decode c_L_law 622 = .ok (.aload_n 3, 1) := by decide +kernel
theorem d_L_law_623 : decode c_L_law 623 = .ok (.iconst 0, 1) := by decide +kernel
theorem d_L_law_624 : decode c_L_law 624 = .ok (.laload, 1) := by decide +kernel
theorem d_L_law_625 : decode c_L_law 625 = .ok (.iload 6, 2) := by decide +kernel
theorem d_L_law_627 : decode c_L_law 627 = .ok (.i2l, 1) := by decide +kernel
theorem d_L_law_628 : decode c_L_law 628 = .ok (.lcmp, 1) := by decide +kernel
theorem d_L_law_629 : decode c_L_law 629 = .ok (.ifCond .eq 5, 3) := by decide +kernel
theorem d_L_law_632 : decode c_L_law 632 = .ok (.iconst 0, 1) := by decide +kernel
theorem d_L_law_633 : decode c_L_law 633 = .ok (.ireturn, 1) := by decide +kernel
theorem d_L_law_634 : decode c_L_law 634 = .ok (.goto 3, 3) := by decide +kernel
theorem d_L_law_637 : decode c_L_law 637 = .ok (.iinc 4 3, 3) := by decide +kernel
theorem d_L_law_640 : decode c_L_law 640 = .ok (.goto (-617), 3) := by decide +kernel
theorem d_L_law_643 : decode c_L_law 643 = .ok (.iconst 1, 1) := by decide +kernel
theorem d_L_law_644 : decode c_L_law 644 = .ok (.ireturn, 1) := by decide +kernel
