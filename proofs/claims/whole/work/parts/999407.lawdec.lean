/-! the law's instructions -/
theorem dL_law_606 : decode cL_law 606 = .ok (.aload_n 2, 1) := by decide +kernel
theorem dL_law_607 : decode cL_law 607 = .ok (.invokevirtual 92, 3) := by decide +kernel
theorem dL_law_610 : decode cL_law 610 = .ok (.if_icmp .eq 468, 3) := by decide +kernel
theorem dL_law_613 : decode cL_law 613 = .ok (.iconst 0, 1) := by decide +kernel
theorem dL_law_614 : decode cL_law 614 = .ok (.ireturn, 1) := by decide +kernel
theorem dL_law_615 : decode cL_law 615 = .ok (.aload_n 1, 1) := by decide +kernel
theorem dL_law_616 : decode cL_law 616 = .ok (.aload_n 0, 1) := by decide +kernel
theorem dL_law_617 : decode cL_law 617 = .ok (.iload_n 3, 1) := by decide +kernel
theorem dL_law_618 : decode cL_law 618 = .ok (.iconst 1, 1) := by decide +kernel
theorem dL_law_619 : decode cL_law 619 = .ok (.iadd, 1) := by decide +kernel
theorem dL_law_620 : decode cL_law 620 = .ok (.iaload, 1) := by decide +kernel
theorem dL_law_621 : decode cL_law 621 = .ok (.invokevirtual 93, 3) := by decide +kernel
theorem dL_law_624 : decode cL_law 624 = .ok (.aload_n 2, 1) := by decide +kernel
theorem dL_law_625 : decode cL_law 625 = .ok (.aload_n 0, 1) := by decide +kernel
theorem dL_law_626 : decode cL_law 626 = .ok (.iload_n 3, 1) := by decide +kernel
theorem dL_law_627 : decode cL_law 627 = .ok (.iconst 1, 1) := by decide +kernel
theorem dL_law_628 : decode cL_law 628 = .ok (.iadd, 1) := by decide +kernel
theorem dL_law_629 : decode cL_law 629 = .ok (.iaload, 1) := by decide +kernel
theorem dL_law_630 : decode cL_law 630 = .ok (.invokevirtual 96, 3) := by decide +kernel
theorem dL_law_633 : decode cL_law 633 = .ok (.if_icmp .eq 445, 3) := by decide +kernel
theorem dL_law_636 : decode cL_law 636 = .ok (.iconst 0, 1) := by decide +kernel
theorem dL_law_637 : decode cL_law 637 = .ok (.ireturn, 1) := by decide +kernel
theorem dL_law_638 : decode cL_law 638 = .ok (.aload_n 1, 1) := by decide +kernel
theorem dL_law_639 : decode cL_law 639 = .ok (.aload_n 0, 1) := by decide +kernel
theorem dL_law_640 : decode cL_law 640 = .ok (.iload_n 3, 1) := by decide +kernel
theorem dL_law_641 : decode cL_law 641 = .ok (.iconst 1, 1) := by decide +kernel
theorem dL_law_642 : decode cL_law 642 = .ok (.iadd, 1) := by decide +kernel
theorem dL_law_643 : decode cL_law 643 = .ok (.iaload, 1) := by decide +kernel
theorem dL_law_644 : decode cL_law 644 = .ok (.aload_n 0, 1) := by decide +kernel
theorem dL_law_645 : decode cL_law 645 = .ok (.iload_n 3, 1) := by decide +kernel
theorem dL_law_646 : decode cL_law 646 = .ok (.iconst 2, 1) := by decide +kernel
theorem dL_law_647 : decode cL_law 647 = .ok (.iadd, 1) := by decide +kernel
theorem dL_law_648 : decode cL_law 648 = .ok (.iaload, 1) := by decide +kernel
theorem dL_law_649 : decode cL_law 649 = .ok (.invokevirtual 97, 3) := by decide +kernel
theorem dL_law_652 : decode cL_law 652 = .ok (.aload_n 2, 1) := by decide +kernel
theorem dL_law_653 : decode cL_law 653 = .ok (.aload_n 0, 1) := by decide +kernel
theorem dL_law_654 : decode cL_law 654 = .ok (.iload_n 3, 1) := by decide +kernel
theorem dL_law_655 : decode cL_law 655 = .ok (.iconst 1, 1) := by decide +kernel
theorem dL_law_656 : decode cL_law 656 = .ok (.iadd, 1) := by decide +kernel
theorem dL_law_657 : decode cL_law 657 = .ok (.iaload, 1) := by decide +kernel
theorem dL_law_658 : decode cL_law 658 = .ok (.aload_n 0, 1) := by decide +kernel
theorem dL_law_659 : decode cL_law 659 = .ok (.iload_n 3, 1) := by decide +kernel
theorem dL_law_660 : decode cL_law 660 = .ok (.iconst 2, 1) := by decide +kernel
theorem dL_law_661 : decode cL_law 661 = .ok (.iadd, 1) := by decide +kernel
theorem dL_law_662 : decode cL_law 662 = .ok (.iaload, 1) := by decide +kernel
theorem dL_law_663 : decode cL_law 663 = .ok (.invokevirtual 100, 3) := by decide +kernel
theorem dL_law_666 : decode cL_law 666 = .ok (.if_icmp .eq 412, 3) := by decide +kernel
theorem dL_law_669 : decode cL_law 669 = .ok (.iconst 0, 1) := by decide +kernel
theorem dL_law_670 : decode cL_law 670 = .ok (.ireturn, 1) := by decide +kernel
theorem dL_law_671 : decode cL_law 671 = .ok (.aload_n 1, 1) := by decide +kernel
