/-! the law's instructions -/
theorem dL_law_538 : decode cL_law 538 = .ok (.invokevirtual 80, 3) := by decide +kernel
theorem dL_law_541 : decode cL_law 541 = .ok (.if_icmp .eq 537, 3) := by decide +kernel
theorem dL_law_544 : decode cL_law 544 = .ok (.iconst 0, 1) := by decide +kernel
theorem dL_law_545 : decode cL_law 545 = .ok (.ireturn, 1) := by decide +kernel
theorem dL_law_546 : decode cL_law 546 = .ok (.aload_n 1, 1) := by decide +kernel
theorem dL_law_547 : decode cL_law 547 = .ok (.aload_n 0, 1) := by decide +kernel
theorem dL_law_548 : decode cL_law 548 = .ok (.iload_n 3, 1) := by decide +kernel
theorem dL_law_549 : decode cL_law 549 = .ok (.iconst 1, 1) := by decide +kernel
theorem dL_law_550 : decode cL_law 550 = .ok (.iadd, 1) := by decide +kernel
theorem dL_law_551 : decode cL_law 551 = .ok (.iaload, 1) := by decide +kernel
theorem dL_law_552 : decode cL_law 552 = .ok (.invokevirtual 81, 3) := by decide +kernel
theorem dL_law_555 : decode cL_law 555 = .ok (.aload_n 2, 1) := by decide +kernel
theorem dL_law_556 : decode cL_law 556 = .ok (.aload_n 0, 1) := by decide +kernel
theorem dL_law_557 : decode cL_law 557 = .ok (.iload_n 3, 1) := by decide +kernel
theorem dL_law_558 : decode cL_law 558 = .ok (.iconst 1, 1) := by decide +kernel
theorem dL_law_559 : decode cL_law 559 = .ok (.iadd, 1) := by decide +kernel
theorem dL_law_560 : decode cL_law 560 = .ok (.iaload, 1) := by decide +kernel
theorem dL_law_561 : decode cL_law 561 = .ok (.invokevirtual 84, 3) := by decide +kernel
theorem dL_law_564 : decode cL_law 564 = .ok (.if_icmp .eq 514, 3) := by decide +kernel
theorem dL_law_567 : decode cL_law 567 = .ok (.iconst 0, 1) := by decide +kernel
theorem dL_law_568 : decode cL_law 568 = .ok (.ireturn, 1) := by decide +kernel
theorem dL_law_569 : decode cL_law 569 = .ok (.aload_n 1, 1) := by decide +kernel
theorem dL_law_570 : decode cL_law 570 = .ok (.aload_n 0, 1) := by decide +kernel
theorem dL_law_571 : decode cL_law 571 = .ok (.iload_n 3, 1) := by decide +kernel
theorem dL_law_572 : decode cL_law 572 = .ok (.iconst 1, 1) := by decide +kernel
theorem dL_law_573 : decode cL_law 573 = .ok (.iadd, 1) := by decide +kernel
theorem dL_law_574 : decode cL_law 574 = .ok (.iaload, 1) := by decide +kernel
theorem dL_law_575 : decode cL_law 575 = .ok (.aload_n 0, 1) := by decide +kernel
theorem dL_law_576 : decode cL_law 576 = .ok (.iload_n 3, 1) := by decide +kernel
theorem dL_law_577 : decode cL_law 577 = .ok (.iconst 2, 1) := by decide +kernel
theorem dL_law_578 : decode cL_law 578 = .ok (.iadd, 1) := by decide +kernel
theorem dL_law_579 : decode cL_law 579 = .ok (.iaload, 1) := by decide +kernel
theorem dL_law_580 : decode cL_law 580 = .ok (.invokevirtual 85, 3) := by decide +kernel
theorem dL_law_583 : decode cL_law 583 = .ok (.aload_n 2, 1) := by decide +kernel
theorem dL_law_584 : decode cL_law 584 = .ok (.aload_n 0, 1) := by decide +kernel
theorem dL_law_585 : decode cL_law 585 = .ok (.iload_n 3, 1) := by decide +kernel
theorem dL_law_586 : decode cL_law 586 = .ok (.iconst 1, 1) := by decide +kernel
theorem dL_law_587 : decode cL_law 587 = .ok (.iadd, 1) := by decide +kernel
theorem dL_law_588 : decode cL_law 588 = .ok (.iaload, 1) := by decide +kernel
theorem dL_law_589 : decode cL_law 589 = .ok (.aload_n 0, 1) := by decide +kernel
theorem dL_law_590 : decode cL_law 590 = .ok (.iload_n 3, 1) := by decide +kernel
theorem dL_law_591 : decode cL_law 591 = .ok (.iconst 2, 1) := by decide +kernel
theorem dL_law_592 : decode cL_law 592 = .ok (.iadd, 1) := by decide +kernel
theorem dL_law_593 : decode cL_law 593 = .ok (.iaload, 1) := by decide +kernel
theorem dL_law_594 : decode cL_law 594 = .ok (.invokevirtual 88, 3) := by decide +kernel
theorem dL_law_597 : decode cL_law 597 = .ok (.if_icmp .eq 481, 3) := by decide +kernel
theorem dL_law_600 : decode cL_law 600 = .ok (.iconst 0, 1) := by decide +kernel
theorem dL_law_601 : decode cL_law 601 = .ok (.ireturn, 1) := by decide +kernel
theorem dL_law_602 : decode cL_law 602 = .ok (.aload_n 1, 1) := by decide +kernel
theorem dL_law_603 : decode cL_law 603 = .ok (.invokevirtual 89, 3) := by decide +kernel
