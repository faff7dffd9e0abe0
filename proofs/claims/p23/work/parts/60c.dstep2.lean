theorem dL_isStep_447 : decode cL_isStep 447 = .ok (.iload 5, 2) := by decide +kernel
theorem dL_isStep_449 : decode cL_isStep 449 = .ok (.invokevirtual 52, 3) := by decide +kernel
theorem dL_isStep_452 : decode cL_isStep 452 = .ok (.iload 7, 2) := by decide +kernel
theorem dL_isStep_454 : decode cL_isStep 454 = .ok (.if_icmp .ne 22, 3) := by decide +kernel
theorem dL_isStep_457 : decode cL_isStep 457 = .ok (.aload_n 0, 1) := by decide +kernel
theorem dL_isStep_458 : decode cL_isStep 458 = .ok (.iload 5, 2) := by decide +kernel
theorem dL_isStep_460 : decode cL_isStep 460 = .ok (.iconst 2, 1) := by decide +kernel
theorem dL_isStep_461 : decode cL_isStep 461 = .ok (.invokevirtual 42, 3) := by decide +kernel
theorem dL_isStep_464 : decode cL_isStep 464 = .ok (.iload 6, 2) := by decide +kernel
theorem dL_isStep_466 : decode cL_isStep 466 = .ok (.iload 7, 2) := by decide +kernel
theorem dL_isStep_468 : decode cL_isStep 468 = .ok (.iadd, 1) := by decide +kernel
theorem dL_isStep_469 : decode cL_isStep 469 = .ok (.if_icmp .ne 7, 3) := by decide +kernel
theorem dL_isStep_472 : decode cL_isStep 472 = .ok (.iconst 1, 1) := by decide +kernel
theorem dL_isStep_473 : decode cL_isStep 473 = .ok (.goto 4, 3) := by decide +kernel
theorem dL_isStep_476 : decode cL_isStep 476 = .ok (.iconst 0, 1) := by decide +kernel
theorem dL_isStep_477 : decode cL_isStep 477 = .ok (.ireturn, 1) := by decide +kernel
theorem dL_isStep_478 : decode cL_isStep 478 = .ok (.iload_n 3, 1) := by decide +kernel
theorem dL_isStep_479 : decode cL_isStep 479 = .ok (.aload_n 0, 1) := by decide +kernel
theorem dL_isStep_480 : decode cL_isStep 480 = .ok (.iconst 4, 1) := by decide +kernel
theorem dL_isStep_481 : decode cL_isStep 481 = .ok (.invokevirtual 15, 3) := by decide +kernel
theorem dL_isStep_484 : decode cL_isStep 484 = .ok (.iconst 1, 1) := by decide +kernel
theorem dL_isStep_485 : decode cL_isStep 485 = .ok (.iadd, 1) := by decide +kernel
theorem dL_isStep_486 : decode cL_isStep 486 = .ok (.invokestatic 19, 3) := by decide +kernel
theorem dL_isStep_489 : decode cL_isStep 489 = .ok (.istore 6, 2) := by decide +kernel
theorem dL_isStep_491 : decode cL_isStep 491 = .ok (.aload_n 0, 1) := by decide +kernel
theorem dL_isStep_492 : decode cL_isStep 492 = .ok (.iload 6, 2) := by decide +kernel
theorem dL_isStep_494 : decode cL_isStep 494 = .ok (.iconst 0, 1) := by decide +kernel
theorem dL_isStep_495 : decode cL_isStep 495 = .ok (.invokevirtual 36, 3) := by decide +kernel
theorem dL_isStep_498 : decode cL_isStep 498 = .ok (.istore 7, 2) := by decide +kernel
theorem dL_isStep_500 : decode cL_isStep 500 = .ok (.aload_n 0, 1) := by decide +kernel
theorem dL_isStep_501 : decode cL_isStep 501 = .ok (.iload 6, 2) := by decide +kernel
theorem dL_isStep_503 : decode cL_isStep 503 = .ok (.iconst 3, 1) := by decide +kernel
theorem dL_isStep_504 : decode cL_isStep 504 = .ok (.invokevirtual 36, 3) := by decide +kernel
theorem dL_isStep_507 : decode cL_isStep 507 = .ok (.istore 8, 2) := by decide +kernel
theorem dL_isStep_509 : decode cL_isStep 509 = .ok (.aload_n 0, 1) := by decide +kernel
theorem dL_isStep_510 : decode cL_isStep 510 = .ok (.iload 6, 2) := by decide +kernel
theorem dL_isStep_512 : decode cL_isStep 512 = .ok (.iconst 4, 1) := by decide +kernel
theorem dL_isStep_513 : decode cL_isStep 513 = .ok (.invokevirtual 36, 3) := by decide +kernel
theorem dL_isStep_516 : decode cL_isStep 516 = .ok (.istore 9, 2) := by decide +kernel
theorem dL_isStep_518 : decode cL_isStep 518 = .ok (.aload_n 0, 1) := by decide +kernel
theorem dL_isStep_519 : decode cL_isStep 519 = .ok (.bipush 11, 2) := by decide +kernel
theorem dL_isStep_521 : decode cL_isStep 521 = .ok (.invokevirtual 15, 3) := by decide +kernel
theorem dL_isStep_524 : decode cL_isStep 524 = .ok (.istore 10, 2) := by decide +kernel
theorem dL_isStep_526 : decode cL_isStep 526 = .ok (.aload_n 0, 1) := by decide +kernel
theorem dL_isStep_527 : decode cL_isStep 527 = .ok (.iload 6, 2) := by decide +kernel
theorem dL_isStep_529 : decode cL_isStep 529 = .ok (.invokevirtual 55, 3) := by decide +kernel
theorem dL_isStep_532 : decode cL_isStep 532 = .ok (.istore 11, 2) := by decide +kernel
theorem dL_isStep_534 : decode cL_isStep 534 = .ok (.iload 11, 2) := by decide +kernel
theorem dL_isStep_536 : decode cL_isStep 536 = .ok (.aload_n 1, 1) := by decide +kernel
theorem dL_isStep_537 : decode cL_isStep 537 = .ok (.iload 6, 2) := by decide +kernel
theorem dL_isStep_539 : decode cL_isStep 539 = .ok (.invokevirtual 55, 3) := by decide +kernel
theorem dL_isStep_542 : decode cL_isStep 542 = .ok (.if_icmp .ne 68, 3) := by decide +kernel
theorem dL_isStep_545 : decode cL_isStep 545 = .ok (.iload 7, 2) := by decide +kernel
theorem dL_isStep_547 : decode cL_isStep 547 = .ok (.ifCond .ne 54, 3) := by decide +kernel
theorem dL_isStep_550 : decode cL_isStep 550 = .ok (.iload 11, 2) := by decide +kernel
theorem dL_isStep_552 : decode cL_isStep 552 = .ok (.iload 9, 2) := by decide +kernel
theorem dL_isStep_554 : decode cL_isStep 554 = .ok (.if_icmp .ne 56, 3) := by decide +kernel
theorem dL_isStep_557 : decode cL_isStep 557 = .ok (.aload_n 0, 1) := by decide +kernel
theorem dL_isStep_558 : decode cL_isStep 558 = .ok (.iload 6, 2) := by decide +kernel
theorem dL_isStep_560 : decode cL_isStep 560 = .ok (.iconst 0, 1) := by decide +kernel
theorem dL_isStep_561 : decode cL_isStep 561 = .ok (.invokevirtual 36, 3) := by decide +kernel
theorem dL_isStep_564 : decode cL_isStep 564 = .ok (.iconst 3, 1) := by decide +kernel
theorem dL_isStep_565 : decode cL_isStep 565 = .ok (.if_icmp .ne 45, 3) := by decide +kernel
theorem dL_isStep_568 : decode cL_isStep 568 = .ok (.aload_n 0, 1) := by decide +kernel
theorem dL_isStep_569 : decode cL_isStep 569 = .ok (.bipush 11, 2) := by decide +kernel
theorem dL_isStep_571 : decode cL_isStep 571 = .ok (.invokevirtual 15, 3) := by decide +kernel
theorem dL_isStep_574 : decode cL_isStep 574 = .ok (.iload 10, 2) := by decide +kernel
theorem dL_isStep_576 : decode cL_isStep 576 = .ok (.iload 8, 2) := by decide +kernel
theorem dL_isStep_578 : decode cL_isStep 578 = .ok (.iadd, 1) := by decide +kernel
theorem dL_isStep_579 : decode cL_isStep 579 = .ok (.if_icmp .ne 31, 3) := by decide +kernel
theorem dL_isStep_582 : decode cL_isStep 582 = .ok (.aload_n 0, 1) := by decide +kernel
theorem dL_isStep_583 : decode cL_isStep 583 = .ok (.iload 6, 2) := by decide +kernel
theorem dL_isStep_585 : decode cL_isStep 585 = .ok (.bipush 8, 2) := by decide +kernel
theorem dL_isStep_587 : decode cL_isStep 587 = .ok (.invokevirtual 36, 3) := by decide +kernel
theorem dL_isStep_590 : decode cL_isStep 590 = .ok (.aload_n 0, 1) := by decide +kernel
theorem dL_isStep_591 : decode cL_isStep 591 = .ok (.iconst 3, 1) := by decide +kernel
theorem dL_isStep_592 : decode cL_isStep 592 = .ok (.invokevirtual 15, 3) := by decide +kernel
theorem dL_isStep_595 : decode cL_isStep 595 = .ok (.if_icmp .ne 15, 3) := by decide +kernel
theorem dL_isStep_598 : decode cL_isStep 598 = .ok (.goto 8, 3) := by decide +kernel
theorem dL_isStep_601 : decode cL_isStep 601 = .ok (.iload 11, 2) := by decide +kernel
theorem dL_isStep_603 : decode cL_isStep 603 = .ok (.ifCond .ge 7, 3) := by decide +kernel
theorem dL_isStep_606 : decode cL_isStep 606 = .ok (.iconst 1, 1) := by decide +kernel
theorem dL_isStep_607 : decode cL_isStep 607 = .ok (.goto 4, 3) := by decide +kernel
theorem dL_isStep_610 : decode cL_isStep 610 = .ok (.iconst 0, 1) := by decide +kernel
theorem dL_isStep_611 : decode cL_isStep 611 = .ok (.ireturn, 1) := by decide +kernel
theorem dL_isStep_612 : decode cL_isStep 612 = .ok (.iload_n 3, 1) := by decide +kernel
theorem dL_isStep_613 : decode cL_isStep 613 = .ok (.iconst 2, 1) := by decide +kernel
theorem dL_isStep_614 : decode cL_isStep 614 = .ok (.invokestatic 19, 3) := by decide +kernel
theorem dL_isStep_617 : decode cL_isStep 617 = .ok (.ifCond .ne 34, 3) := by decide +kernel
theorem dL_isStep_620 : decode cL_isStep 620 = .ok (.aload_n 0, 1) := by decide +kernel
theorem dL_isStep_621 : decode cL_isStep 621 = .ok (.iload 4, 2) := by decide +kernel
theorem dL_isStep_623 : decode cL_isStep 623 = .ok (.iconst 2, 1) := by decide +kernel
theorem dL_isStep_624 : decode cL_isStep 624 = .ok (.invokestatic 19, 3) := by decide +kernel
theorem dL_isStep_627 : decode cL_isStep 627 = .ok (.invokevirtual 58, 3) := by decide +kernel
theorem dL_isStep_630 : decode cL_isStep 630 = .ok (.aload_n 1, 1) := by decide +kernel
theorem dL_isStep_631 : decode cL_isStep 631 = .ok (.iload 4, 2) := by decide +kernel
theorem dL_isStep_633 : decode cL_isStep 633 = .ok (.iconst 2, 1) := by decide +kernel
theorem dL_isStep_634 : decode cL_isStep 634 = .ok (.invokestatic 19, 3) := by decide +kernel
theorem dL_isStep_637 : decode cL_isStep 637 = .ok (.invokevirtual 58, 3) := by decide +kernel
theorem dL_isStep_640 : decode cL_isStep 640 = .ok (.if_icmp .ne 7, 3) := by decide +kernel
theorem dL_isStep_643 : decode cL_isStep 643 = .ok (.iconst 1, 1) := by decide +kernel
theorem dL_isStep_644 : decode cL_isStep 644 = .ok (.goto 35, 3) := by decide +kernel
theorem dL_isStep_647 : decode cL_isStep 647 = .ok (.iconst 0, 1) := by decide +kernel
theorem dL_isStep_648 : decode cL_isStep 648 = .ok (.goto 31, 3) := by decide +kernel
theorem dL_isStep_651 : decode cL_isStep 651 = .ok (.aload_n 0, 1) := by decide +kernel
theorem dL_isStep_652 : decode cL_isStep 652 = .ok (.iload 4, 2) := by decide +kernel
theorem dL_isStep_654 : decode cL_isStep 654 = .ok (.iconst 2, 1) := by decide +kernel
theorem dL_isStep_655 : decode cL_isStep 655 = .ok (.invokestatic 19, 3) := by decide +kernel
theorem dL_isStep_658 : decode cL_isStep 658 = .ok (.invokevirtual 61, 3) := by decide +kernel
theorem dL_isStep_661 : decode cL_isStep 661 = .ok (.aload_n 1, 1) := by decide +kernel
theorem dL_isStep_662 : decode cL_isStep 662 = .ok (.iload 4, 2) := by decide +kernel
theorem dL_isStep_664 : decode cL_isStep 664 = .ok (.iconst 2, 1) := by decide +kernel
theorem dL_isStep_665 : decode cL_isStep 665 = .ok (.invokestatic 19, 3) := by decide +kernel
theorem dL_isStep_668 : decode cL_isStep 668 = .ok (.invokevirtual 61, 3) := by decide +kernel
theorem dL_isStep_671 : decode cL_isStep 671 = .ok (.if_icmp .ne 7, 3) := by decide +kernel
theorem dL_isStep_674 : decode cL_isStep 674 = .ok (.iconst 1, 1) := by decide +kernel
theorem dL_isStep_675 : decode cL_isStep 675 = .ok (.goto 4, 3) := by decide +kernel
theorem dL_isStep_678 : decode cL_isStep 678 = .ok (.iconst 0, 1) := by decide +kernel
theorem dL_isStep_679 : decode cL_isStep 679 = .ok (.ireturn, 1) := by decide +kernel
theorem dL_isStep_680 : decode cL_isStep 680 = .ok (.aload_n 0, 1) := by decide +kernel
theorem dL_isStep_681 : decode cL_isStep 681 = .ok (.aload_n 1, 1) := by decide +kernel
theorem dL_isStep_682 : decode cL_isStep 682 = .ok (.iload_n 3, 1) := by decide +kernel
theorem dL_isStep_683 : decode cL_isStep 683 = .ok (.iload 4, 2) := by decide +kernel
theorem dL_isStep_685 : decode cL_isStep 685 = .ok (.invokestatic 64, 3) := by decide +kernel
theorem dL_isStep_688 : decode cL_isStep 688 = .ok (.ireturn, 1) := by decide +kernel
theorem dL_isStep_689 : decode cL_isStep 689 = .ok (.iconst 1, 1) := by decide +kernel
theorem dL_isStep_690 : decode cL_isStep 690 = .ok (.iload_n 3, 1) := by decide +kernel
theorem dL_isStep_691 : decode cL_isStep 691 = .ok (.iload 4, 2) := by decide +kernel
theorem dL_isStep_693 : decode cL_isStep 693 = .ok (.bipush 8, 2) := by decide +kernel
theorem dL_isStep_695 : decode cL_isStep 695 = .ok (.invokestatic 19, 3) := by decide +kernel
theorem dL_isStep_698 : decode cL_isStep 698 = .ok (.ifCond .ne 8, 3) := by decide +kernel
theorem dL_isStep_701 : decode cL_isStep 701 = .ok (.bipush 99, 2) := by decide +kernel
theorem dL_isStep_703 : decode cL_isStep 703 = .ok (.goto 5, 3) := by decide +kernel
theorem dL_isStep_706 : decode cL_isStep 706 = .ok (.bipush 7, 2) := by decide +kernel
theorem dL_isStep_708 : decode cL_isStep 708 = .ok (.invokestatic 19, 3) := by decide +kernel
theorem dL_isStep_711 : decode cL_isStep 711 = .ok (.iadd, 1) := by decide +kernel
theorem dL_isStep_712 : decode cL_isStep 712 = .ok (.istore 6, 2) := by decide +kernel
theorem dL_isStep_714 : decode cL_isStep 714 = .ok (.aload_n 0, 1) := by decide +kernel
theorem dL_isStep_715 : decode cL_isStep 715 = .ok (.iconst 3, 1) := by decide +kernel
theorem dL_isStep_716 : decode cL_isStep 716 = .ok (.invokevirtual 15, 3) := by decide +kernel
theorem dL_isStep_719 : decode cL_isStep 719 = .ok (.istore 7, 2) := by decide +kernel
theorem dL_isStep_721 : decode cL_isStep 721 = .ok (.aload_n 0, 1) := by decide +kernel
theorem dL_isStep_722 : decode cL_isStep 722 = .ok (.bipush 7, 2) := by decide +kernel
theorem dL_isStep_724 : decode cL_isStep 724 = .ok (.invokevirtual 15, 3) := by decide +kernel
theorem dL_isStep_727 : decode cL_isStep 727 = .ok (.istore 8, 2) := by decide +kernel
theorem dL_isStep_729 : decode cL_isStep 729 = .ok (.iconst 0, 1) := by decide +kernel
theorem dL_isStep_730 : decode cL_isStep 730 = .ok (.istore 9, 2) := by decide +kernel
theorem dL_isStep_732 : decode cL_isStep 732 = .ok (.iconst 0, 1) := by decide +kernel
theorem dL_isStep_733 : decode cL_isStep 733 = .ok (.istore 10, 2) := by decide +kernel
theorem dL_isStep_735 : decode cL_isStep 735 = .ok (.iload 10, 2) := by decide +kernel
theorem dL_isStep_737 : decode cL_isStep 737 = .ok (.iload 6, 2) := by decide +kernel
theorem dL_isStep_739 : decode cL_isStep 739 = .ok (.if_icmp .ge 19, 3) := by decide +kernel
theorem dL_isStep_742 : decode cL_isStep 742 = .ok (.iload 9, 2) := by decide +kernel
theorem dL_isStep_744 : decode cL_isStep 744 = .ok (.aload_n 1, 1) := by decide +kernel
theorem dL_isStep_745 : decode cL_isStep 745 = .ok (.iconst 1, 1) := by decide +kernel
theorem dL_isStep_746 : decode cL_isStep 746 = .ok (.invokevirtual 68, 3) := by decide +kernel
theorem dL_isStep_749 : decode cL_isStep 749 = .ok (.iadd, 1) := by decide +kernel
theorem dL_isStep_750 : decode cL_isStep 750 = .ok (.istore 9, 2) := by decide +kernel
theorem dL_isStep_752 : decode cL_isStep 752 = .ok (.iinc 10 1, 3) := by decide +kernel
theorem dL_isStep_755 : decode cL_isStep 755 = .ok (.goto (-20), 3) := by decide +kernel
theorem dL_isStep_758 : decode cL_isStep 758 = .ok (.aload_n 0, 1) := by decide +kernel
theorem dL_isStep_759 : decode cL_isStep 759 = .ok (.iload 6, 2) := by decide +kernel
theorem dL_isStep_761 : decode cL_isStep 761 = .ok (.invokevirtual 68, 3) := by decide +kernel
theorem dL_isStep_764 : decode cL_isStep 764 = .ok (.iload 9, 2) := by decide +kernel
theorem dL_isStep_766 : decode cL_isStep 766 = .ok (.if_icmp .ne 34, 3) := by decide +kernel
theorem dL_isStep_769 : decode cL_isStep 769 = .ok (.aload_n 0, 1) := by decide +kernel
theorem dL_isStep_770 : decode cL_isStep 770 = .ok (.iconst 3, 1) := by decide +kernel
theorem dL_isStep_771 : decode cL_isStep 771 = .ok (.invokevirtual 15, 3) := by decide +kernel
theorem dL_isStep_774 : decode cL_isStep 774 = .ok (.iload 7, 2) := by decide +kernel
theorem dL_isStep_776 : decode cL_isStep 776 = .ok (.iload 6, 2) := by decide +kernel
theorem dL_isStep_778 : decode cL_isStep 778 = .ok (.iadd, 1) := by decide +kernel
theorem dL_isStep_779 : decode cL_isStep 779 = .ok (.if_icmp .ne 21, 3) := by decide +kernel
theorem dL_isStep_782 : decode cL_isStep 782 = .ok (.aload_n 0, 1) := by decide +kernel
theorem dL_isStep_783 : decode cL_isStep 783 = .ok (.bipush 7, 2) := by decide +kernel
theorem dL_isStep_785 : decode cL_isStep 785 = .ok (.invokevirtual 15, 3) := by decide +kernel
theorem dL_isStep_788 : decode cL_isStep 788 = .ok (.iload 8, 2) := by decide +kernel
theorem dL_isStep_790 : decode cL_isStep 790 = .ok (.iload 9, 2) := by decide +kernel
theorem dL_isStep_792 : decode cL_isStep 792 = .ok (.iadd, 1) := by decide +kernel
theorem dL_isStep_793 : decode cL_isStep 793 = .ok (.if_icmp .ne 7, 3) := by decide +kernel
theorem dL_isStep_796 : decode cL_isStep 796 = .ok (.iconst 1, 1) := by decide +kernel
theorem dL_isStep_797 : decode cL_isStep 797 = .ok (.goto 4, 3) := by decide +kernel
theorem dL_isStep_800 : decode cL_isStep 800 = .ok (.iconst 0, 1) := by decide +kernel
theorem dL_isStep_801 : decode cL_isStep 801 = .ok (.ireturn, 1) := by decide +kernel
theorem ggL_isStep_L_up : GoodIn wsL_isStep wsL_up := goodIn_r _ [4, 5] (by decide +kernel) (by decide +kernel)
theorem gL_isStep_L_up : GoodIn wsL_isStep (va_wsS RL 19 yL_up wsL_up) := goodIn_app (goodIn_of _ (by decide +kernel)) ggL_isStep_L_up
theorem ggL_isStep_X6_count : GoodIn wsL_isStep wsX6_count := goodIn_r _ [10, 11, 12, 13, 14, 15, 16, 17, 18, 19, 20, 21, 22, 23, 24, 25, 26, 27, 28, 29, 30, 31, 32, 33, 34, 35, 36, 37, 38, 39, 40, 41, 42, 43, 44, 45, 46, 47, 48, 49, 50, 51, 52, 53, 54, 55, 56, 57, 58, 341, 342, 343, 344, 345, 346, 347, 348, 349, 350, 351, 352, 353, 354, 355, 356, 357, 358, 359, 360, 361, 362, 363, 364, 365, 366, 367, 368, 369, 370, 371, 372, 373, 374, 375, 376, 377] (by decide +kernel) (by decide +kernel)
theorem gL_isStep_X6_count : GoodIn wsL_isStep (wsV RL 15 RX6 yX6_count wsX6_count) := goodIn_app (goodIn_of _ (by decide +kernel)) ggL_isStep_X6_count
theorem ggL_isStep_X6_set : GoodIn wsL_isStep wsX6_set := goodIn_r _ [62, 63, 64, 65, 18, 11, 12, 66, 67, 68, 56, 69, 70, 71, 58, 72, 73, 74, 75, 76, 77, 78, 22, 79, 80, 81, 82, 83, 84, 30, 24, 85, 86, 87, 88, 89, 90, 91, 92, 93, 94, 95, 96, 97, 98, 99, 100, 101, 102, 103, 104, 105, 106, 107, 108, 109, 110, 111, 112, 113, 114, 115, 116, 117, 118, 119, 120, 121, 122, 123, 124, 125, 341, 342, 343, 344, 345, 346, 347, 348, 349, 350, 351, 352, 353, 375, 376, 377, 366, 367, 368, 369, 370, 371, 372, 378, 379, 354, 355, 356, 357, 358, 359, 360, 361, 362, 363, 364, 365] (by decide +kernel) (by decide +kernel)
theorem gL_isStep_X6_set : GoodIn wsL_isStep (wsV RL 39 RX6 yX6_set wsX6_set) := goodIn_app (goodIn_of _ (by decide +kernel)) ggL_isStep_X6_set
theorem ggL_isStep_X6_windowOf : GoodIn wsL_isStep wsX6_windowOf := goodIn_r _ [129, 11, 130, 131, 132, 133, 134, 135, 136, 137, 138, 139, 22, 140, 30, 141, 142, 143, 104, 144, 108, 341, 342, 343, 344, 345, 346, 366, 367, 368, 369, 370, 371, 372, 347, 348, 349, 350, 351, 352, 353, 378, 379] (by decide +kernel) (by decide +kernel)
theorem gL_isStep_X6_windowOf : GoodIn wsL_isStep (wsV RL 42 RX6 yX6_windowOf wsX6_windowOf) := goodIn_app (goodIn_of _ (by decide +kernel)) ggL_isStep_X6_windowOf
theorem ggL_isStep_X6_window : GoodIn wsL_isStep wsX6_window := goodIn_r _ [148, 11, 130, 18, 137, 138, 139, 22, 140, 30, 66, 67, 68, 56, 69, 70, 71, 58, 72, 73, 74, 75, 76, 77, 78, 79, 80, 81, 82, 83, 84, 24, 85, 86, 87, 88, 89, 90, 91, 92, 93, 94, 95, 96, 97, 98, 99, 100, 101, 102, 103, 104, 105, 106, 107, 108, 109, 110, 111, 112, 113, 114, 115, 116, 117, 118, 119, 120, 121, 122, 123, 124, 125, 149, 150, 151, 152, 153, 341, 342, 343, 344, 345, 346, 366, 367, 368, 369, 370, 371, 372, 347, 348, 349, 350, 351, 352, 353, 375, 376, 377, 378, 379, 354, 355, 356, 357, 358, 359, 360, 361, 362, 363, 364, 365] (by decide +kernel) (by decide +kernel)
theorem gL_isStep_X6_window : GoodIn wsL_isStep (wsV RL 45 RX6 yX6_window wsX6_window) := goodIn_app (goodIn_of _ (by decide +kernel)) ggL_isStep_X6_window
theorem ggL_isStep_X6_clerks : GoodIn wsL_isStep wsX6_clerks := goodIn_r _ [157, 11, 18, 131, 137, 138, 139, 22, 140, 30, 66, 67, 68, 56, 69, 70, 71, 58, 72, 73, 74, 75, 76, 77, 78, 79, 80, 81, 82, 83, 84, 24, 85, 86, 87, 88, 89, 90, 91, 92, 93, 94, 95, 96, 97, 98, 99, 100, 101, 102, 103, 104, 105, 106, 107, 108, 109, 110, 111, 112, 113, 114, 115, 116, 117, 118, 119, 120, 121, 122, 123, 124, 125, 341, 342, 343, 344, 345, 346, 366, 367, 368, 369, 370, 371, 372, 347, 348, 349, 350, 351, 352, 353, 375, 376, 377, 378, 379, 354, 355, 356, 357, 358, 359, 360, 361, 362, 363, 364, 365] (by decide +kernel) (by decide +kernel)
theorem gL_isStep_X6_clerks : GoodIn wsL_isStep (wsV RL 49 RX6 yX6_clerks wsX6_clerks) := goodIn_app (goodIn_of _ (by decide +kernel)) ggL_isStep_X6_clerks
theorem ggL_isStep_X6_bring : GoodIn wsL_isStep wsX6_bring := goodIn_r _ [161, 11, 18, 12, 132, 162, 163, 74, 164, 16, 137, 138, 139, 22, 140, 30, 66, 67, 68, 56, 69, 70, 71, 58, 72, 73, 75, 76, 77, 78, 79, 80, 81, 82, 83, 84, 24, 85, 86, 87, 88, 89, 90, 91, 92, 93, 94, 95, 96, 97, 98, 99, 100, 101, 102, 103, 104, 105, 106, 107, 108, 109, 110, 111, 112, 113, 114, 115, 116, 117, 118, 119, 120, 121, 122, 123, 124, 125, 341, 342, 343, 344, 345, 346, 347, 348, 349, 350, 351, 352, 353, 366, 367, 368, 369, 370, 371, 372, 375, 376, 377, 378, 379, 354, 355, 356, 357, 358, 359, 360, 361, 362, 363, 364, 365] (by decide +kernel) (by decide +kernel)
theorem gL_isStep_X6_bring : GoodIn wsL_isStep (wsV RL 52 RX6 yX6_bring wsX6_bring) := goodIn_app (goodIn_of _ (by decide +kernel)) ggL_isStep_X6_bring
theorem ggL_isStep_X6_person : GoodIn wsL_isStep wsX6_person := goodIn_r _ [168, 11, 169, 170, 171, 172, 173, 174, 175, 176, 177, 178, 22, 179, 85, 24, 180, 181, 182, 112, 183, 117, 118, 116, 114, 184, 185, 186, 187, 188, 189, 190, 191, 138, 139, 140, 30, 192, 193, 194, 104, 195, 108, 106, 341, 342, 343, 344, 345, 346, 354, 355, 356, 357, 358, 359, 360, 361, 362, 363, 364, 365, 347, 348, 349, 350, 351, 352, 353, 366, 367, 368, 369, 370, 371, 372, 378, 379] (by decide +kernel) (by decide +kernel)
theorem gL_isStep_X6_person : GoodIn wsL_isStep (wsV RL 36 RX6 yX6_person wsX6_person) := goodIn_app (goodIn_of _ (by decide +kernel)) ggL_isStep_X6_person
theorem ggL_isStep_X6_leave : GoodIn wsL_isStep wsX6_leave := goodIn_r _ [199, 11, 169, 18, 13, 171, 176, 177, 178, 22, 179, 85, 24, 66, 67, 68, 56, 69, 70, 71, 58, 72, 73, 74, 75, 76, 77, 78, 79, 80, 81, 82, 83, 84, 30, 86, 87, 88, 89, 90, 91, 92, 93, 94, 95, 96, 97, 98, 99, 100, 101, 102, 103, 104, 105, 106, 107, 108, 109, 110, 111, 112, 113, 114, 115, 116, 117, 118, 119, 120, 121, 122, 123, 124, 125, 200, 201, 202, 203, 188, 189, 36, 190, 181, 182, 183, 191, 138, 139, 140, 204, 205, 206, 207, 208, 193, 194, 195, 209, 210, 211, 212, 341, 342, 343, 344, 345, 346, 354, 355, 356, 357, 358, 359, 360, 361, 362, 363, 364, 365, 347, 348, 349, 350, 351, 352, 353, 375, 376, 377, 366, 367, 368, 369, 370, 371, 372, 378, 379] (by decide +kernel) (by decide +kernel)
theorem gL_isStep_X6_leave : GoodIn wsL_isStep (wsV RL 55 RX6 yX6_leave wsX6_leave) := goodIn_app (goodIn_of _ (by decide +kernel)) ggL_isStep_X6_leave
theorem ggL_isStep_X6_save : GoodIn wsL_isStep wsX6_save := goodIn_r _ [216, 217, 11, 218, 13, 219, 77, 78, 22, 79, 80, 81, 82, 83, 84, 30, 24, 85, 86, 87, 88, 89, 90, 91, 92, 93, 94, 95, 96, 97, 98, 99, 100, 101, 102, 103, 104, 105, 106, 107, 108, 109, 110, 111, 112, 113, 114, 115, 116, 117, 118, 119, 120, 121, 122, 123, 124, 125, 341, 342, 343, 344, 345, 346, 347, 348, 349, 350, 351, 352, 353, 366, 367, 368, 369, 370, 371, 372, 378, 379, 354, 355, 356, 357, 358, 359, 360, 361, 362, 363, 364, 365] (by decide +kernel) (by decide +kernel)
theorem gL_isStep_X6_save : GoodIn wsL_isStep (wsV RL 58 RX6 yX6_save wsX6_save) := goodIn_app (goodIn_of _ (by decide +kernel)) ggL_isStep_X6_save
theorem ggL_isStep_X6_restore : GoodIn wsL_isStep wsX6_restore := goodIn_r _ [223, 218, 18, 11, 217, 13, 66, 67, 68, 56, 69, 70, 71, 58, 72, 73, 74, 75, 76, 77, 78, 22, 79, 80, 81, 82, 83, 84, 30, 24, 85, 86, 87, 88, 89, 90, 91, 92, 93, 94, 95, 96, 97, 98, 99, 100, 101, 102, 103, 104, 105, 106, 107, 108, 109, 110, 111, 112, 113, 114, 115, 116, 117, 118, 119, 120, 121, 122, 123, 124, 125, 219, 341, 342, 343, 344, 345, 346, 347, 348, 349, 350, 351, 352, 353, 375, 376, 377, 366, 367, 368, 369, 370, 371, 372, 378, 379, 354, 355, 356, 357, 358, 359, 360, 361, 362, 363, 364, 365] (by decide +kernel) (by decide +kernel)
theorem gL_isStep_X6_restore : GoodIn wsL_isStep (wsV RL 61 RX6 yX6_restore wsX6_restore) := goodIn_app (goodIn_of _ (by decide +kernel)) ggL_isStep_X6_restore
theorem ggL_isStep_L_isRead : GoodIn wsL_isStep wsL_isRead := goodIn_r _ [226, 227, 228, 229, 230, 231, 9, 232, 17, 47, 48, 49, 50, 51, 52, 233, 234, 235, 236, 6, 7, 8, 10, 11, 12, 13, 14, 15, 16, 18, 19, 20, 21, 22, 23, 24, 25, 26, 27, 28, 29, 30, 31, 32, 33, 34, 35, 36, 37, 38, 39, 40, 41, 42, 43, 44, 45, 46, 53, 54, 55, 56, 57, 58, 1, 2, 3, 4, 5, 237, 238, 239, 240, 241, 242, 243, 244, 245, 246, 247, 248, 249, 250, 251, 252, 253, 254, 255, 256, 257, 258, 259, 260, 261, 262, 263, 264, 265, 266, 267, 268, 269, 270, 66, 67, 68, 69, 70, 71, 72, 73, 74, 75, 76, 77, 78, 79, 80, 81, 82, 83, 84, 85, 86, 87, 88, 89, 90, 91, 92, 93, 94, 95, 96, 97, 98, 99, 100, 101, 102, 103, 104, 105, 106, 107, 108, 109, 110, 111, 112, 113, 114, 115, 116, 117, 118, 119, 120, 121, 122, 123, 124, 125, 271, 272, 273, 274, 275, 276, 277, 278, 279, 280, 163, 164, 281, 282, 283, 284, 285, 286, 287, 288, 289, 290, 291, 292, 293, 294, 295, 296, 297, 188, 189, 190, 181, 182, 183, 191, 138, 139, 140, 298, 299, 300, 301, 165, 166, 167, 168, 169, 170, 171, 172, 173, 174, 175, 176, 177, 178, 179, 180, 184, 185, 186, 187, 192, 193, 194, 195, 341, 342, 343, 344, 345, 346, 373, 374, 347, 348, 349, 350, 351, 352, 353, 354, 355, 356, 357, 358, 359, 360, 361, 362, 363, 364, 365, 366, 367, 368, 369, 370, 371, 372, 375, 376, 377, 378, 379] (by decide +kernel) (by decide +kernel)
theorem gL_isStep_L_isRead : GoodIn wsL_isStep (va_wsS RL 64 yL_isRead wsL_isRead) := goodIn_app (goodIn_of _ (by decide +kernel)) ggL_isStep_L_isRead
theorem ggL_isStep_X6_pass : GoodIn wsL_isStep wsX6_pass := goodIn_r _ [305, 11, 13, 18, 66, 67, 68, 56, 69, 70, 71, 58, 72, 73, 74, 75, 76, 77, 78, 22, 79, 80, 81, 82, 83, 84, 30, 24, 85, 86, 87, 88, 89, 90, 91, 92, 93, 94, 95, 96, 97, 98, 99, 100, 101, 102, 103, 104, 105, 106, 107, 108, 109, 110, 111, 112, 113, 114, 115, 116, 117, 118, 119, 120, 121, 122, 123, 124, 125, 19, 20, 21, 23, 25, 306, 307, 308, 309, 310, 153, 311, 312, 313, 314, 315, 316, 189, 317, 142, 143, 144, 318, 319, 320, 321, 322, 177, 178, 179, 204, 205, 206, 207, 208, 193, 194, 195, 323, 324, 325, 326, 327, 328, 329, 31, 36, 46, 330, 209, 210, 211, 212, 293, 294, 295, 296, 297, 188, 190, 181, 182, 183, 191, 138, 139, 140, 298, 299, 300, 301, 331, 332, 333, 334, 335, 336, 337, 338, 339, 41, 340, 201, 202, 203, 341, 342, 343, 344, 345, 346, 347, 348, 349, 350, 351, 352, 353, 375, 376, 377, 366, 367, 368, 369, 370, 371, 372, 378, 379, 354, 355, 356, 357, 358, 359, 360, 361, 362, 363, 364, 365] (by decide +kernel) (by decide +kernel)
theorem gL_isStep_X6_pass : GoodIn wsL_isStep (wsV RL 68 RX6 yX6_pass wsX6_pass) := goodIn_app (goodIn_of _ (by decide +kernel)) ggL_isStep_X6_pass
