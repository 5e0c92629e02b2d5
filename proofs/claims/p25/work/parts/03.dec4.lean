theorem dL_routes_501 : decode cL_routes 501 = .ok (.if_icmp .ne 112, 3) := by decide +kernel
theorem dL_routes_504 : decode cL_routes 504 = .ok (.iload_n 2, 1) := by decide +kernel
theorem dL_routes_505 : decode cL_routes 505 = .ok (.iconst 4, 1) := by decide +kernel
theorem dL_routes_506 : decode cL_routes 506 = .ok (.invokestatic 85, 3) := by decide +kernel
theorem dL_routes_509 : decode cL_routes 509 = .ok (.istore 16, 2) := by decide +kernel
theorem dL_routes_511 : decode cL_routes 511 = .ok (.iload_n 3, 1) := by decide +kernel
theorem dL_routes_512 : decode cL_routes 512 = .ok (.bipush 6, 2) := by decide +kernel
theorem dL_routes_514 : decode cL_routes 514 = .ok (.iand, 1) := by decide +kernel
theorem dL_routes_515 : decode cL_routes 515 = .ok (.ifCond .le 7, 3) := by decide +kernel
theorem dL_routes_518 : decode cL_routes 518 = .ok (.iconst 1, 1) := by decide +kernel
theorem dL_routes_519 : decode cL_routes 519 = .ok (.goto 4, 3) := by decide +kernel
theorem dL_routes_522 : decode cL_routes 522 = .ok (.iconst 0, 1) := by decide +kernel
theorem dL_routes_523 : decode cL_routes 523 = .ok (.istore 17, 2) := by decide +kernel
theorem dL_routes_525 : decode cL_routes 525 = .ok (.aload 14, 2) := by decide +kernel
theorem dL_routes_527 : decode cL_routes 527 = .ok (.iconst 5, 1) := by decide +kernel
theorem dL_routes_528 : decode cL_routes 528 = .ok (.iaload, 1) := by decide +kernel
theorem dL_routes_529 : decode cL_routes 529 = .ok (.iload 16, 2) := by decide +kernel
theorem dL_routes_531 : decode cL_routes 531 = .ok (.ishr, 1) := by decide +kernel
theorem dL_routes_532 : decode cL_routes 532 = .ok (.iconst 1, 1) := by decide +kernel
theorem dL_routes_533 : decode cL_routes 533 = .ok (.iand, 1) := by decide +kernel
theorem dL_routes_534 : decode cL_routes 534 = .ok (.istore 18, 2) := by decide +kernel
theorem dL_routes_536 : decode cL_routes 536 = .ok (.aload 14, 2) := by decide +kernel
theorem dL_routes_538 : decode cL_routes 538 = .ok (.iconst 5, 1) := by decide +kernel
theorem dL_routes_539 : decode cL_routes 539 = .ok (.iload 17, 2) := by decide +kernel
theorem dL_routes_541 : decode cL_routes 541 = .ok (.ifCond .eq 17, 3) := by decide +kernel
theorem dL_routes_544 : decode cL_routes 544 = .ok (.aload 14, 2) := by decide +kernel
theorem dL_routes_546 : decode cL_routes 546 = .ok (.iconst 5, 1) := by decide +kernel
theorem dL_routes_547 : decode cL_routes 547 = .ok (.iaload, 1) := by decide +kernel
theorem dL_routes_548 : decode cL_routes 548 = .ok (.iconst 1, 1) := by decide +kernel
theorem dL_routes_549 : decode cL_routes 549 = .ok (.iload 16, 2) := by decide +kernel
theorem dL_routes_551 : decode cL_routes 551 = .ok (.ishl, 1) := by decide +kernel
theorem dL_routes_552 : decode cL_routes 552 = .ok (.iconst (-1), 1) := by decide +kernel
theorem dL_routes_553 : decode cL_routes 553 = .ok (.ixor, 1) := by decide +kernel
theorem dL_routes_554 : decode cL_routes 554 = .ok (.iand, 1) := by decide +kernel
theorem dL_routes_555 : decode cL_routes 555 = .ok (.goto 12, 3) := by decide +kernel
theorem dL_routes_558 : decode cL_routes 558 = .ok (.aload 14, 2) := by decide +kernel
theorem dL_routes_560 : decode cL_routes 560 = .ok (.iconst 5, 1) := by decide +kernel
theorem dL_routes_561 : decode cL_routes 561 = .ok (.iaload, 1) := by decide +kernel
theorem dL_routes_562 : decode cL_routes 562 = .ok (.iconst 1, 1) := by decide +kernel
theorem dL_routes_563 : decode cL_routes 563 = .ok (.iload 16, 2) := by decide +kernel
theorem dL_routes_565 : decode cL_routes 565 = .ok (.ishl, 1) := by decide +kernel
theorem dL_routes_566 : decode cL_routes 566 = .ok (.ior, 1) := by decide +kernel
theorem dL_routes_567 : decode cL_routes 567 = .ok (.iastore, 1) := by decide +kernel
theorem dL_routes_568 : decode cL_routes 568 = .ok (.aload_n 0, 1) := by decide +kernel
theorem dL_routes_569 : decode cL_routes 569 = .ok (.iconst 4, 1) := by decide +kernel
theorem dL_routes_570 : decode cL_routes 570 = .ok (.iload 17, 2) := by decide +kernel
theorem dL_routes_572 : decode cL_routes 572 = .ok (.invokestatic 144, 3) := by decide +kernel
theorem dL_routes_575 : decode cL_routes 575 = .ok (.bipush (-71), 2) := by decide +kernel
theorem dL_routes_577 : decode cL_routes 577 = .ok (.if_icmp .ne 34, 3) := by decide +kernel
theorem dL_routes_580 : decode cL_routes 580 = .ok (.aload_n 0, 1) := by decide +kernel
theorem dL_routes_581 : decode cL_routes 581 = .ok (.iconst (-1), 1) := by decide +kernel
theorem dL_routes_582 : decode cL_routes 582 = .ok (.iload 17, 2) := by decide +kernel
theorem dL_routes_584 : decode cL_routes 584 = .ok (.invokestatic 144, 3) := by decide +kernel
theorem dL_routes_587 : decode cL_routes 587 = .ok (.bipush (-71), 2) := by decide +kernel
theorem dL_routes_589 : decode cL_routes 589 = .ok (.if_icmp .ne 22, 3) := by decide +kernel
theorem dL_routes_592 : decode cL_routes 592 = .ok (.aload_n 0, 1) := by decide +kernel
theorem dL_routes_593 : decode cL_routes 593 = .ok (.iload 16, 2) := by decide +kernel
theorem dL_routes_595 : decode cL_routes 595 = .ok (.iload 17, 2) := by decide +kernel
theorem dL_routes_597 : decode cL_routes 597 = .ok (.invokestatic 144, 3) := by decide +kernel
theorem dL_routes_600 : decode cL_routes 600 = .ok (.iconst 1, 1) := by decide +kernel
theorem dL_routes_601 : decode cL_routes 601 = .ok (.iload 18, 2) := by decide +kernel
theorem dL_routes_603 : decode cL_routes 603 = .ok (.isub, 1) := by decide +kernel
theorem dL_routes_604 : decode cL_routes 604 = .ok (.if_icmp .ne 7, 3) := by decide +kernel
theorem dL_routes_607 : decode cL_routes 607 = .ok (.iconst 1, 1) := by decide +kernel
theorem dL_routes_608 : decode cL_routes 608 = .ok (.goto 4, 3) := by decide +kernel
theorem dL_routes_611 : decode cL_routes 611 = .ok (.iconst 0, 1) := by decide +kernel
theorem dL_routes_612 : decode cL_routes 612 = .ok (.ireturn, 1) := by decide +kernel
theorem dL_routes_613 : decode cL_routes 613 = .ok (.iload_n 1, 1) := by decide +kernel
theorem dL_routes_614 : decode cL_routes 614 = .ok (.bipush 16, 2) := by decide +kernel
theorem dL_routes_616 : decode cL_routes 616 = .ok (.if_icmp .ne 93, 3) := by decide +kernel
theorem dL_routes_619 : decode cL_routes 619 = .ok (.aload 14, 2) := by decide +kernel
theorem dL_routes_621 : decode cL_routes 621 = .ok (.iconst 1, 1) := by decide +kernel
theorem dL_routes_622 : decode cL_routes 622 = .ok (.iaload, 1) := by decide +kernel
theorem dL_routes_623 : decode cL_routes 623 = .ok (.istore 16, 2) := by decide +kernel
theorem dL_routes_625 : decode cL_routes 625 = .ok (.aload 14, 2) := by decide +kernel
theorem dL_routes_627 : decode cL_routes 627 = .ok (.iconst 1, 1) := by decide +kernel
theorem dL_routes_628 : decode cL_routes 628 = .ok (.iconst 1, 1) := by decide +kernel
theorem dL_routes_629 : decode cL_routes 629 = .ok (.iload_n 2, 1) := by decide +kernel
theorem dL_routes_630 : decode cL_routes 630 = .ok (.bipush 60, 2) := by decide +kernel
theorem dL_routes_632 : decode cL_routes 632 = .ok (.invokestatic 85, 3) := by decide +kernel
theorem dL_routes_635 : decode cL_routes 635 = .ok (.iadd, 1) := by decide +kernel
theorem dL_routes_636 : decode cL_routes 636 = .ok (.iastore, 1) := by decide +kernel
theorem dL_routes_637 : decode cL_routes 637 = .ok (.aload 14, 2) := by decide +kernel
theorem dL_routes_639 : decode cL_routes 639 = .ok (.iconst 2, 1) := by decide +kernel
theorem dL_routes_640 : decode cL_routes 640 = .ok (.iconst 1, 1) := by decide +kernel
theorem dL_routes_641 : decode cL_routes 641 = .ok (.iload_n 3, 1) := by decide +kernel
theorem dL_routes_642 : decode cL_routes 642 = .ok (.bipush 30, 2) := by decide +kernel
theorem dL_routes_644 : decode cL_routes 644 = .ok (.invokestatic 85, 3) := by decide +kernel
theorem dL_routes_647 : decode cL_routes 647 = .ok (.iadd, 1) := by decide +kernel
theorem dL_routes_648 : decode cL_routes 648 = .ok (.iastore, 1) := by decide +kernel
theorem dL_routes_649 : decode cL_routes 649 = .ok (.aload_n 0, 1) := by decide +kernel
theorem dL_routes_650 : decode cL_routes 650 = .ok (.iconst 0, 1) := by decide +kernel
theorem dL_routes_651 : decode cL_routes 651 = .ok (.iconst 1, 1) := by decide +kernel
theorem dL_routes_652 : decode cL_routes 652 = .ok (.invokestatic 147, 3) := by decide +kernel
theorem dL_routes_655 : decode cL_routes 655 = .ok (.bipush (-72), 2) := by decide +kernel
theorem dL_routes_657 : decode cL_routes 657 = .ok (.if_icmp .ne 50, 3) := by decide +kernel
theorem dL_routes_660 : decode cL_routes 660 = .ok (.aload_n 0, 1) := by decide +kernel
theorem dL_routes_661 : decode cL_routes 661 = .ok (.iconst 1, 1) := by decide +kernel
theorem dL_routes_662 : decode cL_routes 662 = .ok (.sipush 1001, 3) := by decide +kernel
theorem dL_routes_665 : decode cL_routes 665 = .ok (.invokestatic 147, 3) := by decide +kernel
theorem dL_routes_668 : decode cL_routes 668 = .ok (.bipush (-72), 2) := by decide +kernel
theorem dL_routes_670 : decode cL_routes 670 = .ok (.if_icmp .ne 37, 3) := by decide +kernel
theorem dL_routes_673 : decode cL_routes 673 = .ok (.aload_n 0, 1) := by decide +kernel
theorem dL_routes_674 : decode cL_routes 674 = .ok (.sipush 1001, 3) := by decide +kernel
theorem dL_routes_677 : decode cL_routes 677 = .ok (.iconst 1, 1) := by decide +kernel
theorem dL_routes_678 : decode cL_routes 678 = .ok (.invokestatic 147, 3) := by decide +kernel
theorem dL_routes_681 : decode cL_routes 681 = .ok (.bipush (-72), 2) := by decide +kernel
theorem dL_routes_683 : decode cL_routes 683 = .ok (.if_icmp .ne 24, 3) := by decide +kernel
theorem dL_routes_686 : decode cL_routes 686 = .ok (.aload_n 0, 1) := by decide +kernel
theorem dL_routes_687 : decode cL_routes 687 = .ok (.aload 14, 2) := by decide +kernel
theorem dL_routes_689 : decode cL_routes 689 = .ok (.iconst 1, 1) := by decide +kernel
theorem dL_routes_690 : decode cL_routes 690 = .ok (.iaload, 1) := by decide +kernel
theorem dL_routes_691 : decode cL_routes 691 = .ok (.aload 14, 2) := by decide +kernel
theorem dL_routes_693 : decode cL_routes 693 = .ok (.iconst 2, 1) := by decide +kernel
theorem dL_routes_694 : decode cL_routes 694 = .ok (.iaload, 1) := by decide +kernel
theorem dL_routes_695 : decode cL_routes 695 = .ok (.invokestatic 147, 3) := by decide +kernel
theorem dL_routes_698 : decode cL_routes 698 = .ok (.iload 16, 2) := by decide +kernel
theorem dL_routes_700 : decode cL_routes 700 = .ok (.if_icmp .ne 7, 3) := by decide +kernel
theorem dL_routes_703 : decode cL_routes 703 = .ok (.iconst 1, 1) := by decide +kernel
theorem dL_routes_704 : decode cL_routes 704 = .ok (.goto 4, 3) := by decide +kernel
theorem dL_routes_707 : decode cL_routes 707 = .ok (.iconst 0, 1) := by decide +kernel
theorem dL_routes_708 : decode cL_routes 708 = .ok (.ireturn, 1) := by decide +kernel
theorem dL_routes_709 : decode cL_routes 709 = .ok (.iconst 1, 1) := by decide +kernel
theorem dL_routes_710 : decode cL_routes 710 = .ok (.iload_n 3, 1) := by decide +kernel
theorem dL_routes_711 : decode cL_routes 711 = .ok (.iload_n 3, 1) := by decide +kernel
theorem dL_routes_712 : decode cL_routes 712 = .ok (.bipush 96, 2) := by decide +kernel
theorem dL_routes_714 : decode cL_routes 714 = .ok (.iand, 1) := by decide +kernel
theorem dL_routes_715 : decode cL_routes 715 = .ok (.ifCond .ne 8, 3) := by decide +kernel
theorem dL_routes_718 : decode cL_routes 718 = .ok (.bipush 90, 2) := by decide +kernel
theorem dL_routes_720 : decode cL_routes 720 = .ok (.goto 5, 3) := by decide +kernel
theorem dL_routes_723 : decode cL_routes 723 = .ok (.bipush 9, 2) := by decide +kernel
theorem dL_routes_725 : decode cL_routes 725 = .ok (.invokestatic 85, 3) := by decide +kernel
theorem dL_routes_728 : decode cL_routes 728 = .ok (.iadd, 1) := by decide +kernel
theorem dL_routes_729 : decode cL_routes 729 = .ok (.istore 16, 2) := by decide +kernel
theorem dL_routes_731 : decode cL_routes 731 = .ok (.aload 14, 2) := by decide +kernel
theorem dL_routes_733 : decode cL_routes 733 = .ok (.iconst 0, 1) := by decide +kernel
theorem dL_routes_734 : decode cL_routes 734 = .ok (.dup2, 1) := by decide +kernel
theorem dL_routes_735 : decode cL_routes 735 = .ok (.iaload, 1) := by decide +kernel
theorem dL_routes_736 : decode cL_routes 736 = .ok (.iload 16, 2) := by decide +kernel
theorem dL_routes_738 : decode cL_routes 738 = .ok (.iadd, 1) := by decide +kernel
theorem dL_routes_739 : decode cL_routes 739 = .ok (.iastore, 1) := by decide +kernel
theorem dL_routes_740 : decode cL_routes 740 = .ok (.aload_n 0, 1) := by decide +kernel
theorem dL_routes_741 : decode cL_routes 741 = .ok (.iconst 0, 1) := by decide +kernel
theorem dL_routes_742 : decode cL_routes 742 = .ok (.invokestatic 149, 3) := by decide +kernel
theorem dL_routes_745 : decode cL_routes 745 = .ok (.bipush (-72), 2) := by decide +kernel
theorem dL_routes_747 : decode cL_routes 747 = .ok (.if_icmp .ne 32, 3) := by decide +kernel
theorem dL_routes_750 : decode cL_routes 750 = .ok (.aload_n 0, 1) := by decide +kernel
theorem dL_routes_751 : decode cL_routes 751 = .ok (.sipush 1001, 3) := by decide +kernel
theorem dL_routes_754 : decode cL_routes 754 = .ok (.invokestatic 149, 3) := by decide +kernel
theorem dL_routes_757 : decode cL_routes 757 = .ok (.bipush (-72), 2) := by decide +kernel
theorem dL_routes_759 : decode cL_routes 759 = .ok (.if_icmp .ne 20, 3) := by decide +kernel
theorem dL_routes_762 : decode cL_routes 762 = .ok (.aload_n 0, 1) := by decide +kernel
theorem dL_routes_763 : decode cL_routes 763 = .ok (.iload 16, 2) := by decide +kernel
theorem dL_routes_765 : decode cL_routes 765 = .ok (.invokestatic 149, 3) := by decide +kernel
theorem dL_routes_768 : decode cL_routes 768 = .ok (.aload 14, 2) := by decide +kernel
theorem dL_routes_770 : decode cL_routes 770 = .ok (.iconst 0, 1) := by decide +kernel
theorem dL_routes_771 : decode cL_routes 771 = .ok (.iaload, 1) := by decide +kernel
theorem dL_routes_772 : decode cL_routes 772 = .ok (.if_icmp .ne 7, 3) := by decide +kernel
theorem dL_routes_775 : decode cL_routes 775 = .ok (.iconst 1, 1) := by decide +kernel
theorem dL_routes_776 : decode cL_routes 776 = .ok (.goto 4, 3) := by decide +kernel
theorem dL_routes_779 : decode cL_routes 779 = .ok (.iconst 0, 1) := by decide +kernel
theorem dL_routes_780 : decode cL_routes 780 = .ok (.ireturn, 1) := by decide +kernel
theorem dL_isTold_0 : decode cL_isTold 0 = .ok (.iconst 0, 1) := by decide +kernel
theorem dL_isTold_1 : decode cL_isTold 1 = .ok (.istore 11, 2) := by decide +kernel
theorem dL_isTold_3 : decode cL_isTold 3 = .ok (.iload 11, 2) := by decide +kernel
theorem dL_isTold_5 : decode cL_isTold 5 = .ok (.aload 10, 2) := by decide +kernel
theorem dL_isTold_7 : decode cL_isTold 7 = .ok (.iconst 3, 1) := by decide +kernel
theorem dL_isTold_8 : decode cL_isTold 8 = .ok (.iaload, 1) := by decide +kernel
theorem dL_isTold_9 : decode cL_isTold 9 = .ok (.if_icmp .ge 35, 3) := by decide +kernel
theorem dL_isTold_12 : decode cL_isTold 12 = .ok (.aload_n 0, 1) := by decide +kernel
theorem dL_isTold_13 : decode cL_isTold 13 = .ok (.iload 11, 2) := by decide +kernel
theorem dL_isTold_15 : decode cL_isTold 15 = .ok (.invokestatic 99, 3) := by decide +kernel
theorem dL_isTold_18 : decode cL_isTold 18 = .ok (.aload_n 3, 1) := by decide +kernel
theorem dL_isTold_19 : decode cL_isTold 19 = .ok (.iload 11, 2) := by decide +kernel
theorem dL_isTold_21 : decode cL_isTold 21 = .ok (.iaload, 1) := by decide +kernel
theorem dL_isTold_22 : decode cL_isTold 22 = .ok (.ifCond .ne 7, 3) := by decide +kernel
theorem dL_isTold_25 : decode cL_isTold 25 = .ok (.iconst (-1), 1) := by decide +kernel
theorem dL_isTold_26 : decode cL_isTold 26 = .ok (.goto 7, 3) := by decide +kernel
theorem dL_isTold_29 : decode cL_isTold 29 = .ok (.aload_n 3, 1) := by decide +kernel
theorem dL_isTold_30 : decode cL_isTold 30 = .ok (.iload 11, 2) := by decide +kernel
theorem dL_isTold_32 : decode cL_isTold 32 = .ok (.iaload, 1) := by decide +kernel
theorem dL_isTold_33 : decode cL_isTold 33 = .ok (.if_icmp .eq 5, 3) := by decide +kernel
theorem dL_isTold_36 : decode cL_isTold 36 = .ok (.iconst 0, 1) := by decide +kernel
theorem dL_isTold_37 : decode cL_isTold 37 = .ok (.ireturn, 1) := by decide +kernel
theorem dL_isTold_38 : decode cL_isTold 38 = .ok (.iinc 11 1, 3) := by decide +kernel
theorem dL_isTold_41 : decode cL_isTold 41 = .ok (.goto (-38), 3) := by decide +kernel
theorem dL_isTold_44 : decode cL_isTold 44 = .ok (.iconst 0, 1) := by decide +kernel
theorem dL_isTold_45 : decode cL_isTold 45 = .ok (.istore 11, 2) := by decide +kernel
theorem dL_isTold_47 : decode cL_isTold 47 = .ok (.iload 11, 2) := by decide +kernel
theorem dL_isTold_49 : decode cL_isTold 49 = .ok (.iconst 2, 1) := by decide +kernel
theorem dL_isTold_50 : decode cL_isTold 50 = .ok (.if_icmp .ge 382, 3) := by decide +kernel
theorem dL_isTold_53 : decode cL_isTold 53 = .ok (.iconst 0, 1) := by decide +kernel
theorem dL_isTold_54 : decode cL_isTold 54 = .ok (.istore 12, 2) := by decide +kernel
theorem dL_isTold_56 : decode cL_isTold 56 = .ok (.bipush 8, 2) := by decide +kernel
theorem dL_isTold_58 : decode cL_isTold 58 = .ok (.iload 11, 2) := by decide +kernel
theorem dL_isTold_60 : decode cL_isTold 60 = .ok (.imul, 1) := by decide +kernel
theorem dL_isTold_61 : decode cL_isTold 61 = .ok (.istore 13, 2) := by decide +kernel
theorem dL_isTold_63 : decode cL_isTold 63 = .ok (.iload 13, 2) := by decide +kernel
theorem dL_isTold_65 : decode cL_isTold 65 = .ok (.bipush 8, 2) := by decide +kernel
theorem dL_isTold_67 : decode cL_isTold 67 = .ok (.iload 11, 2) := by decide +kernel
theorem dL_isTold_69 : decode cL_isTold 69 = .ok (.imul, 1) := by decide +kernel
theorem dL_isTold_70 : decode cL_isTold 70 = .ok (.bipush 8, 2) := by decide +kernel
theorem dL_isTold_72 : decode cL_isTold 72 = .ok (.iadd, 1) := by decide +kernel
theorem dL_isTold_73 : decode cL_isTold 73 = .ok (.if_icmp .ge 27, 3) := by decide +kernel
theorem dL_isTold_76 : decode cL_isTold 76 = .ok (.iload 12, 2) := by decide +kernel
theorem dL_isTold_78 : decode cL_isTold 78 = .ok (.aload 5, 2) := by decide +kernel
theorem dL_isTold_80 : decode cL_isTold 80 = .ok (.iload 13, 2) := by decide +kernel
theorem dL_isTold_82 : decode cL_isTold 82 = .ok (.iaload, 1) := by decide +kernel
theorem dL_isTold_83 : decode cL_isTold 83 = .ok (.ifCond .lt 7, 3) := by decide +kernel
theorem dL_isTold_86 : decode cL_isTold 86 = .ok (.iconst 1, 1) := by decide +kernel
theorem dL_isTold_87 : decode cL_isTold 87 = .ok (.goto 4, 3) := by decide +kernel
theorem dL_isTold_90 : decode cL_isTold 90 = .ok (.iconst 0, 1) := by decide +kernel
theorem dL_isTold_91 : decode cL_isTold 91 = .ok (.iadd, 1) := by decide +kernel
theorem dL_isTold_92 : decode cL_isTold 92 = .ok (.istore 12, 2) := by decide +kernel
theorem dL_isTold_94 : decode cL_isTold 94 = .ok (.iinc 13 1, 3) := by decide +kernel
theorem dL_isTold_97 : decode cL_isTold 97 = .ok (.goto (-34), 3) := by decide +kernel
theorem dL_isTold_100 : decode cL_isTold 100 = .ok (.aload_n 0, 1) := by decide +kernel
theorem dL_isTold_101 : decode cL_isTold 101 = .ok (.iconst 2, 1) := by decide +kernel
theorem dL_isTold_102 : decode cL_isTold 102 = .ok (.iload 11, 2) := by decide +kernel
theorem dL_isTold_104 : decode cL_isTold 104 = .ok (.imul, 1) := by decide +kernel
theorem dL_isTold_105 : decode cL_isTold 105 = .ok (.invokevirtual 151, 3) := by decide +kernel
theorem dL_isTold_108 : decode cL_isTold 108 = .ok (.iload 12, 2) := by decide +kernel
theorem dL_isTold_110 : decode cL_isTold 110 = .ok (.if_icmp .ne 49, 3) := by decide +kernel
theorem dL_isTold_113 : decode cL_isTold 113 = .ok (.aload_n 0, 1) := by decide +kernel
theorem dL_isTold_114 : decode cL_isTold 114 = .ok (.iconst 2, 1) := by decide +kernel
theorem dL_isTold_115 : decode cL_isTold 115 = .ok (.iload 11, 2) := by decide +kernel
theorem dL_isTold_117 : decode cL_isTold 117 = .ok (.imul, 1) := by decide +kernel
theorem dL_isTold_118 : decode cL_isTold 118 = .ok (.iload 12, 2) := by decide +kernel
theorem dL_isTold_120 : decode cL_isTold 120 = .ok (.invokestatic 154, 3) := by decide +kernel
theorem dL_isTold_123 : decode cL_isTold 123 = .ok (.bipush (-71), 2) := by decide +kernel
theorem dL_isTold_125 : decode cL_isTold 125 = .ok (.if_icmp .ne 34, 3) := by decide +kernel
theorem dL_isTold_128 : decode cL_isTold 128 = .ok (.aload_n 0, 1) := by decide +kernel
theorem dL_isTold_129 : decode cL_isTold 129 = .ok (.iconst 2, 1) := by decide +kernel
theorem dL_isTold_130 : decode cL_isTold 130 = .ok (.iload 11, 2) := by decide +kernel
theorem dL_isTold_132 : decode cL_isTold 132 = .ok (.imul, 1) := by decide +kernel
theorem dL_isTold_133 : decode cL_isTold 133 = .ok (.iconst (-1), 1) := by decide +kernel
theorem dL_isTold_134 : decode cL_isTold 134 = .ok (.invokestatic 154, 3) := by decide +kernel
theorem dL_isTold_137 : decode cL_isTold 137 = .ok (.bipush (-71), 2) := by decide +kernel
theorem dL_isTold_139 : decode cL_isTold 139 = .ok (.if_icmp .ne 20, 3) := by decide +kernel
theorem dL_isTold_142 : decode cL_isTold 142 = .ok (.aload_n 0, 1) := by decide +kernel
theorem dL_isTold_143 : decode cL_isTold 143 = .ok (.iconst 2, 1) := by decide +kernel
theorem dL_isTold_144 : decode cL_isTold 144 = .ok (.iload 11, 2) := by decide +kernel
theorem dL_isTold_146 : decode cL_isTold 146 = .ok (.imul, 1) := by decide +kernel
theorem dL_isTold_147 : decode cL_isTold 147 = .ok (.iload 12, 2) := by decide +kernel
theorem dL_isTold_149 : decode cL_isTold 149 = .ok (.bipush 32, 2) := by decide +kernel
theorem dL_isTold_151 : decode cL_isTold 151 = .ok (.invokestatic 156, 3) := by decide +kernel
theorem dL_isTold_154 : decode cL_isTold 154 = .ok (.bipush (-71), 2) := by decide +kernel
theorem dL_isTold_156 : decode cL_isTold 156 = .ok (.if_icmp .eq 5, 3) := by decide +kernel
theorem dL_isTold_159 : decode cL_isTold 159 = .ok (.iconst 0, 1) := by decide +kernel
theorem dL_isTold_160 : decode cL_isTold 160 = .ok (.ireturn, 1) := by decide +kernel
theorem dL_isTold_161 : decode cL_isTold 161 = .ok (.iconst 0, 1) := by decide +kernel
theorem dL_isTold_162 : decode cL_isTold 162 = .ok (.istore 13, 2) := by decide +kernel
theorem dL_isTold_164 : decode cL_isTold 164 = .ok (.iload 13, 2) := by decide +kernel
theorem dL_isTold_166 : decode cL_isTold 166 = .ok (.iload 12, 2) := by decide +kernel
theorem dL_isTold_168 : decode cL_isTold 168 = .ok (.if_icmp .ge 258, 3) := by decide +kernel
theorem dL_isTold_171 : decode cL_isTold 171 = .ok (.aload 5, 2) := by decide +kernel
theorem dL_isTold_173 : decode cL_isTold 173 = .ok (.aload 8, 2) := by decide +kernel
theorem dL_isTold_175 : decode cL_isTold 175 = .ok (.iload 11, 2) := by decide +kernel
theorem dL_isTold_177 : decode cL_isTold 177 = .ok (.iload 13, 2) := by decide +kernel
theorem dL_isTold_179 : decode cL_isTold 179 = .ok (.invokestatic 129, 3) := by decide +kernel
theorem dL_isTold_182 : decode cL_isTold 182 = .ok (.istore 14, 2) := by decide +kernel
theorem dL_isTold_184 : decode cL_isTold 184 = .ok (.aload_n 0, 1) := by decide +kernel
theorem dL_isTold_185 : decode cL_isTold 185 = .ok (.iconst 2, 1) := by decide +kernel
theorem dL_isTold_186 : decode cL_isTold 186 = .ok (.iload 11, 2) := by decide +kernel
theorem dL_isTold_188 : decode cL_isTold 188 = .ok (.imul, 1) := by decide +kernel
theorem dL_isTold_189 : decode cL_isTold 189 = .ok (.iload 13, 2) := by decide +kernel
theorem dL_isTold_191 : decode cL_isTold 191 = .ok (.invokestatic 154, 3) := by decide +kernel
theorem dL_isTold_194 : decode cL_isTold 194 = .ok (.aload 5, 2) := by decide +kernel
theorem dL_isTold_196 : decode cL_isTold 196 = .ok (.iload 14, 2) := by decide +kernel
theorem dL_isTold_198 : decode cL_isTold 198 = .ok (.iaload, 1) := by decide +kernel
theorem dL_isTold_199 : decode cL_isTold 199 = .ok (.if_icmp .ne 119, 3) := by decide +kernel
theorem dL_isTold_202 : decode cL_isTold 202 = .ok (.aload_n 0, 1) := by decide +kernel
theorem dL_isTold_203 : decode cL_isTold 203 = .ok (.iconst 2, 1) := by decide +kernel
theorem dL_isTold_204 : decode cL_isTold 204 = .ok (.iload 11, 2) := by decide +kernel
theorem dL_isTold_206 : decode cL_isTold 206 = .ok (.imul, 1) := by decide +kernel
theorem dL_isTold_207 : decode cL_isTold 207 = .ok (.iload 13, 2) := by decide +kernel
theorem dL_isTold_209 : decode cL_isTold 209 = .ok (.invokevirtual 158, 3) := by decide +kernel
theorem dL_isTold_212 : decode cL_isTold 212 = .ok (.aload 6, 2) := by decide +kernel
theorem dL_isTold_214 : decode cL_isTold 214 = .ok (.iload 14, 2) := by decide +kernel
theorem dL_isTold_216 : decode cL_isTold 216 = .ok (.iaload, 1) := by decide +kernel
theorem dL_isTold_217 : decode cL_isTold 217 = .ok (.ifCond .ne 7, 3) := by decide +kernel
theorem dL_isTold_220 : decode cL_isTold 220 = .ok (.iconst (-1), 1) := by decide +kernel
theorem dL_isTold_221 : decode cL_isTold 221 = .ok (.goto 26, 3) := by decide +kernel
theorem dL_isTold_224 : decode cL_isTold 224 = .ok (.sipush 1000, 3) := by decide +kernel
theorem dL_isTold_227 : decode cL_isTold 227 = .ok (.aload 6, 2) := by decide +kernel
theorem dL_isTold_229 : decode cL_isTold 229 = .ok (.iload 14, 2) := by decide +kernel
theorem dL_isTold_231 : decode cL_isTold 231 = .ok (.iaload, 1) := by decide +kernel
theorem dL_isTold_232 : decode cL_isTold 232 = .ok (.bipush 32, 2) := by decide +kernel
theorem dL_isTold_234 : decode cL_isTold 234 = .ok (.idiv, 1) := by decide +kernel
theorem dL_isTold_235 : decode cL_isTold 235 = .ok (.imul, 1) := by decide +kernel
theorem dL_isTold_236 : decode cL_isTold 236 = .ok (.aload 6, 2) := by decide +kernel
theorem dL_isTold_238 : decode cL_isTold 238 = .ok (.iload 14, 2) := by decide +kernel
theorem dL_isTold_240 : decode cL_isTold 240 = .ok (.iaload, 1) := by decide +kernel
theorem dL_isTold_241 : decode cL_isTold 241 = .ok (.bipush 32, 2) := by decide +kernel
theorem dL_isTold_243 : decode cL_isTold 243 = .ok (.irem, 1) := by decide +kernel
theorem dL_isTold_244 : decode cL_isTold 244 = .ok (.iadd, 1) := by decide +kernel
theorem dL_isTold_245 : decode cL_isTold 245 = .ok (.iconst 1, 1) := by decide +kernel
theorem dL_isTold_246 : decode cL_isTold 246 = .ok (.isub, 1) := by decide +kernel
theorem dL_isTold_247 : decode cL_isTold 247 = .ok (.if_icmp .ne 71, 3) := by decide +kernel
theorem dL_isTold_250 : decode cL_isTold 250 = .ok (.aload_n 0, 1) := by decide +kernel
theorem dL_isTold_251 : decode cL_isTold 251 = .ok (.iconst 2, 1) := by decide +kernel
theorem dL_isTold_252 : decode cL_isTold 252 = .ok (.iload 11, 2) := by decide +kernel
theorem dL_isTold_254 : decode cL_isTold 254 = .ok (.imul, 1) := by decide +kernel
theorem dL_isTold_255 : decode cL_isTold 255 = .ok (.iload 13, 2) := by decide +kernel
theorem dL_isTold_257 : decode cL_isTold 257 = .ok (.invokevirtual 161, 3) := by decide +kernel
theorem dL_isTold_260 : decode cL_isTold 260 = .ok (.aload 7, 2) := by decide +kernel
theorem dL_isTold_262 : decode cL_isTold 262 = .ok (.iload 14, 2) := by decide +kernel
theorem dL_isTold_264 : decode cL_isTold 264 = .ok (.iaload, 1) := by decide +kernel
theorem dL_isTold_265 : decode cL_isTold 265 = .ok (.ifCond .ge 7, 3) := by decide +kernel
theorem dL_isTold_268 : decode cL_isTold 268 = .ok (.iconst (-1), 1) := by decide +kernel
theorem dL_isTold_269 : decode cL_isTold 269 = .ok (.goto 29, 3) := by decide +kernel
theorem dL_isTold_272 : decode cL_isTold 272 = .ok (.aload 7, 2) := by decide +kernel
theorem dL_isTold_274 : decode cL_isTold 274 = .ok (.iload 14, 2) := by decide +kernel
theorem dL_isTold_276 : decode cL_isTold 276 = .ok (.iaload, 1) := by decide +kernel
theorem dL_isTold_277 : decode cL_isTold 277 = .ok (.aload 10, 2) := by decide +kernel
theorem dL_isTold_279 : decode cL_isTold 279 = .ok (.iconst 0, 1) := by decide +kernel
theorem dL_isTold_280 : decode cL_isTold 280 = .ok (.iaload, 1) := by decide +kernel
theorem dL_isTold_281 : decode cL_isTold 281 = .ok (.if_icmp .le 16, 3) := by decide +kernel
theorem dL_isTold_284 : decode cL_isTold 284 = .ok (.aload 7, 2) := by decide +kernel
theorem dL_isTold_286 : decode cL_isTold 286 = .ok (.iload 14, 2) := by decide +kernel
theorem dL_isTold_288 : decode cL_isTold 288 = .ok (.iaload, 1) := by decide +kernel
theorem dL_isTold_289 : decode cL_isTold 289 = .ok (.aload 10, 2) := by decide +kernel
theorem dL_isTold_291 : decode cL_isTold 291 = .ok (.iconst 0, 1) := by decide +kernel
theorem dL_isTold_292 : decode cL_isTold 292 = .ok (.iaload, 1) := by decide +kernel
theorem dL_isTold_293 : decode cL_isTold 293 = .ok (.isub, 1) := by decide +kernel
theorem dL_isTold_294 : decode cL_isTold 294 = .ok (.goto 4, 3) := by decide +kernel
theorem dL_isTold_297 : decode cL_isTold 297 = .ok (.iconst 0, 1) := by decide +kernel
theorem dL_isTold_298 : decode cL_isTold 298 = .ok (.if_icmp .ne 20, 3) := by decide +kernel
theorem dL_isTold_301 : decode cL_isTold 301 = .ok (.aload_n 0, 1) := by decide +kernel
theorem dL_isTold_302 : decode cL_isTold 302 = .ok (.iconst 2, 1) := by decide +kernel
theorem dL_isTold_303 : decode cL_isTold 303 = .ok (.iload 11, 2) := by decide +kernel
theorem dL_isTold_305 : decode cL_isTold 305 = .ok (.imul, 1) := by decide +kernel
theorem dL_isTold_306 : decode cL_isTold 306 = .ok (.iload 13, 2) := by decide +kernel
theorem dL_isTold_308 : decode cL_isTold 308 = .ok (.bipush 32, 2) := by decide +kernel
theorem dL_isTold_310 : decode cL_isTold 310 = .ok (.invokestatic 156, 3) := by decide +kernel
theorem dL_isTold_313 : decode cL_isTold 313 = .ok (.bipush (-72), 2) := by decide +kernel
theorem dL_isTold_315 : decode cL_isTold 315 = .ok (.if_icmp .eq 5, 3) := by decide +kernel
theorem dL_isTold_318 : decode cL_isTold 318 = .ok (.iconst 0, 1) := by decide +kernel
theorem dL_isTold_319 : decode cL_isTold 319 = .ok (.ireturn, 1) := by decide +kernel
theorem dL_isTold_320 : decode cL_isTold 320 = .ok (.iconst 0, 1) := by decide +kernel
theorem dL_isTold_321 : decode cL_isTold 321 = .ok (.istore 15, 2) := by decide +kernel
theorem dL_isTold_323 : decode cL_isTold 323 = .ok (.iload 15, 2) := by decide +kernel
theorem dL_isTold_325 : decode cL_isTold 325 = .ok (.bipush 6, 2) := by decide +kernel
theorem dL_isTold_327 : decode cL_isTold 327 = .ok (.if_icmp .ge 93, 3) := by decide +kernel
theorem dL_isTold_330 : decode cL_isTold 330 = .ok (.iconst 0, 1) := by decide +kernel
theorem dL_isTold_331 : decode cL_isTold 331 = .ok (.istore 16, 2) := by decide +kernel
theorem dL_isTold_333 : decode cL_isTold 333 = .ok (.iconst 4, 1) := by decide +kernel
theorem dL_isTold_334 : decode cL_isTold 334 = .ok (.iload 14, 2) := by decide +kernel
theorem dL_isTold_336 : decode cL_isTold 336 = .ok (.imul, 1) := by decide +kernel
theorem dL_isTold_337 : decode cL_isTold 337 = .ok (.istore 17, 2) := by decide +kernel
theorem dL_isTold_339 : decode cL_isTold 339 = .ok (.iload 17, 2) := by decide +kernel
theorem dL_isTold_341 : decode cL_isTold 341 = .ok (.iconst 4, 1) := by decide +kernel
theorem dL_isTold_342 : decode cL_isTold 342 = .ok (.iload 14, 2) := by decide +kernel
theorem dL_isTold_344 : decode cL_isTold 344 = .ok (.imul, 1) := by decide +kernel
theorem dL_isTold_345 : decode cL_isTold 345 = .ok (.iconst 4, 1) := by decide +kernel
theorem dL_isTold_346 : decode cL_isTold 346 = .ok (.iadd, 1) := by decide +kernel
theorem dL_isTold_347 : decode cL_isTold 347 = .ok (.if_icmp .ge 48, 3) := by decide +kernel
theorem dL_isTold_350 : decode cL_isTold 350 = .ok (.iload 16, 2) := by decide +kernel
theorem dL_isTold_352 : decode cL_isTold 352 = .ok (.aload 9, 2) := by decide +kernel
theorem dL_isTold_354 : decode cL_isTold 354 = .ok (.iload 17, 2) := by decide +kernel
theorem dL_isTold_356 : decode cL_isTold 356 = .ok (.iaload, 1) := by decide +kernel
theorem dL_isTold_357 : decode cL_isTold 357 = .ok (.ifCond .le 28, 3) := by decide +kernel
theorem dL_isTold_360 : decode cL_isTold 360 = .ok (.aload 9, 2) := by decide +kernel
theorem dL_isTold_362 : decode cL_isTold 362 = .ok (.iload 17, 2) := by decide +kernel
theorem dL_isTold_364 : decode cL_isTold 364 = .ok (.iaload, 1) := by decide +kernel
theorem dL_isTold_365 : decode cL_isTold 365 = .ok (.bipush 32, 2) := by decide +kernel
theorem dL_isTold_367 : decode cL_isTold 367 = .ok (.irem, 1) := by decide +kernel
theorem dL_isTold_368 : decode cL_isTold 368 = .ok (.iload 15, 2) := by decide +kernel
theorem dL_isTold_370 : decode cL_isTold 370 = .ok (.if_icmp .ne 15, 3) := by decide +kernel
theorem dL_isTold_373 : decode cL_isTold 373 = .ok (.aload 9, 2) := by decide +kernel
theorem dL_isTold_375 : decode cL_isTold 375 = .ok (.iload 17, 2) := by decide +kernel
theorem dL_isTold_377 : decode cL_isTold 377 = .ok (.iaload, 1) := by decide +kernel
theorem dL_isTold_378 : decode cL_isTold 378 = .ok (.sipush 2048, 3) := by decide +kernel
theorem dL_isTold_381 : decode cL_isTold 381 = .ok (.idiv, 1) := by decide +kernel
theorem dL_isTold_382 : decode cL_isTold 382 = .ok (.goto 4, 3) := by decide +kernel
theorem dL_isTold_385 : decode cL_isTold 385 = .ok (.iconst 0, 1) := by decide +kernel
theorem dL_isTold_386 : decode cL_isTold 386 = .ok (.iadd, 1) := by decide +kernel
theorem dL_isTold_387 : decode cL_isTold 387 = .ok (.istore 16, 2) := by decide +kernel
theorem dL_isTold_389 : decode cL_isTold 389 = .ok (.iinc 17 1, 3) := by decide +kernel
theorem dL_isTold_392 : decode cL_isTold 392 = .ok (.goto (-53), 3) := by decide +kernel
theorem dL_isTold_395 : decode cL_isTold 395 = .ok (.aload_n 0, 1) := by decide +kernel
theorem dL_isTold_396 : decode cL_isTold 396 = .ok (.iconst 2, 1) := by decide +kernel
theorem dL_isTold_397 : decode cL_isTold 397 = .ok (.iload 11, 2) := by decide +kernel
theorem dL_isTold_399 : decode cL_isTold 399 = .ok (.imul, 1) := by decide +kernel
theorem dL_isTold_400 : decode cL_isTold 400 = .ok (.iload 13, 2) := by decide +kernel
theorem dL_isTold_402 : decode cL_isTold 402 = .ok (.iload 15, 2) := by decide +kernel
theorem dL_isTold_404 : decode cL_isTold 404 = .ok (.invokestatic 156, 3) := by decide +kernel
theorem dL_isTold_407 : decode cL_isTold 407 = .ok (.iload 16, 2) := by decide +kernel
theorem dL_isTold_409 : decode cL_isTold 409 = .ok (.if_icmp .eq 5, 3) := by decide +kernel
theorem dL_isTold_412 : decode cL_isTold 412 = .ok (.iconst 0, 1) := by decide +kernel
theorem dL_isTold_413 : decode cL_isTold 413 = .ok (.ireturn, 1) := by decide +kernel
theorem dL_isTold_414 : decode cL_isTold 414 = .ok (.iinc 15 1, 3) := by decide +kernel
theorem dL_isTold_417 : decode cL_isTold 417 = .ok (.goto (-94), 3) := by decide +kernel
theorem dL_isTold_420 : decode cL_isTold 420 = .ok (.iinc 13 1, 3) := by decide +kernel
theorem dL_isTold_423 : decode cL_isTold 423 = .ok (.goto (-259), 3) := by decide +kernel
theorem dL_isTold_426 : decode cL_isTold 426 = .ok (.iinc 11 1, 3) := by decide +kernel
theorem dL_isTold_429 : decode cL_isTold 429 = .ok (.goto (-382), 3) := by decide +kernel
theorem dL_isTold_432 : decode cL_isTold 432 = .ok (.iconst 0, 1) := by decide +kernel
theorem dL_isTold_433 : decode cL_isTold 433 = .ok (.istore 11, 2) := by decide +kernel
theorem dL_isTold_435 : decode cL_isTold 435 = .ok (.iload 11, 2) := by decide +kernel
theorem dL_isTold_437 : decode cL_isTold 437 = .ok (.iconst 4, 1) := by decide +kernel
theorem dL_isTold_438 : decode cL_isTold 438 = .ok (.if_icmp .ge 111, 3) := by decide +kernel
theorem dL_isTold_441 : decode cL_isTold 441 = .ok (.iload_n 1, 1) := by decide +kernel
theorem dL_isTold_442 : decode cL_isTold 442 = .ok (.iconst 2, 1) := by decide +kernel
theorem dL_isTold_443 : decode cL_isTold 443 = .ok (.iload 11, 2) := by decide +kernel
theorem dL_isTold_445 : decode cL_isTold 445 = .ok (.imul, 1) := by decide +kernel
theorem dL_isTold_446 : decode cL_isTold 446 = .ok (.ishr, 1) := by decide +kernel
theorem dL_isTold_447 : decode cL_isTold 447 = .ok (.invokestatic 89, 3) := by decide +kernel
theorem dL_isTold_450 : decode cL_isTold 450 = .ok (.istore 12, 2) := by decide +kernel
theorem dL_isTold_452 : decode cL_isTold 452 = .ok (.aload_n 2, 1) := by decide +kernel
theorem dL_isTold_453 : decode cL_isTold 453 = .ok (.aload_n 3, 1) := by decide +kernel
theorem dL_isTold_454 : decode cL_isTold 454 = .ok (.aload 10, 2) := by decide +kernel
theorem dL_isTold_456 : decode cL_isTold 456 = .ok (.iload 12, 2) := by decide +kernel
theorem dL_isTold_458 : decode cL_isTold 458 = .ok (.invokestatic 121, 3) := by decide +kernel
theorem dL_isTold_461 : decode cL_isTold 461 = .ok (.istore 13, 2) := by decide +kernel
theorem dL_isTold_463 : decode cL_isTold 463 = .ok (.aload_n 0, 1) := by decide +kernel
theorem dL_isTold_464 : decode cL_isTold 464 = .ok (.iload 12, 2) := by decide +kernel
theorem dL_isTold_466 : decode cL_isTold 466 = .ok (.invokestatic 164, 3) := by decide +kernel
theorem dL_isTold_469 : decode cL_isTold 469 = .ok (.iload 13, 2) := by decide +kernel
theorem dL_isTold_471 : decode cL_isTold 471 = .ok (.if_icmp .ne 70, 3) := by decide +kernel
theorem dL_isTold_474 : decode cL_isTold 474 = .ok (.aload_n 0, 1) := by decide +kernel
theorem dL_isTold_475 : decode cL_isTold 475 = .ok (.iload 12, 2) := by decide +kernel
theorem dL_isTold_477 : decode cL_isTold 477 = .ok (.invokestatic 166, 3) := by decide +kernel
theorem dL_isTold_480 : decode cL_isTold 480 = .ok (.aload_n 2, 1) := by decide +kernel
theorem dL_isTold_481 : decode cL_isTold 481 = .ok (.aload_n 3, 1) := by decide +kernel
theorem dL_isTold_482 : decode cL_isTold 482 = .ok (.aload 10, 2) := by decide +kernel
theorem dL_isTold_484 : decode cL_isTold 484 = .ok (.iload 12, 2) := by decide +kernel
theorem dL_isTold_486 : decode cL_isTold 486 = .ok (.iload 13, 2) := by decide +kernel
theorem dL_isTold_488 : decode cL_isTold 488 = .ok (.invokestatic 125, 3) := by decide +kernel
theorem dL_isTold_491 : decode cL_isTold 491 = .ok (.iload 13, 2) := by decide +kernel
theorem dL_isTold_493 : decode cL_isTold 493 = .ok (.ifCond .ge 8, 3) := by decide +kernel
theorem dL_isTold_496 : decode cL_isTold 496 = .ok (.bipush 17, 2) := by decide +kernel
theorem dL_isTold_498 : decode cL_isTold 498 = .ok (.goto 4, 3) := by decide +kernel
theorem dL_isTold_501 : decode cL_isTold 501 = .ok (.iconst 0, 1) := by decide +kernel
theorem dL_isTold_502 : decode cL_isTold 502 = .ok (.iadd, 1) := by decide +kernel
theorem dL_isTold_503 : decode cL_isTold 503 = .ok (.if_icmp .ne 38, 3) := by decide +kernel
theorem dL_isTold_506 : decode cL_isTold 506 = .ok (.aload_n 0, 1) := by decide +kernel
theorem dL_isTold_507 : decode cL_isTold 507 = .ok (.iload 12, 2) := by decide +kernel
theorem dL_isTold_509 : decode cL_isTold 509 = .ok (.invokestatic 168, 3) := by decide +kernel
theorem dL_isTold_512 : decode cL_isTold 512 = .ok (.aload 4, 2) := by decide +kernel
theorem dL_isTold_514 : decode cL_isTold 514 = .ok (.aload 10, 2) := by decide +kernel
theorem dL_isTold_516 : decode cL_isTold 516 = .ok (.iload 12, 2) := by decide +kernel
theorem dL_isTold_518 : decode cL_isTold 518 = .ok (.invokestatic 117, 3) := by decide +kernel
theorem dL_isTold_521 : decode cL_isTold 521 = .ok (.if_icmp .ne 20, 3) := by decide +kernel
theorem dL_isTold_524 : decode cL_isTold 524 = .ok (.aload_n 0, 1) := by decide +kernel
theorem dL_isTold_525 : decode cL_isTold 525 = .ok (.iload 11, 2) := by decide +kernel
theorem dL_isTold_527 : decode cL_isTold 527 = .ok (.invokevirtual 170, 3) := by decide +kernel
theorem dL_isTold_530 : decode cL_isTold 530 = .ok (.aload 10, 2) := by decide +kernel
theorem dL_isTold_532 : decode cL_isTold 532 = .ok (.bipush 8, 2) := by decide +kernel
theorem dL_isTold_534 : decode cL_isTold 534 = .ok (.iload 11, 2) := by decide +kernel
theorem dL_isTold_536 : decode cL_isTold 536 = .ok (.iadd, 1) := by decide +kernel
theorem dL_isTold_537 : decode cL_isTold 537 = .ok (.iaload, 1) := by decide +kernel
theorem dL_isTold_538 : decode cL_isTold 538 = .ok (.if_icmp .eq 5, 3) := by decide +kernel
theorem dL_isTold_541 : decode cL_isTold 541 = .ok (.iconst 0, 1) := by decide +kernel
theorem dL_isTold_542 : decode cL_isTold 542 = .ok (.ireturn, 1) := by decide +kernel
theorem dL_isTold_543 : decode cL_isTold 543 = .ok (.iinc 11 1, 3) := by decide +kernel
theorem dL_isTold_546 : decode cL_isTold 546 = .ok (.goto (-111), 3) := by decide +kernel
theorem dL_isTold_549 : decode cL_isTold 549 = .ok (.aload_n 0, 1) := by decide +kernel
theorem dL_isTold_550 : decode cL_isTold 550 = .ok (.invokevirtual 173, 3) := by decide +kernel
theorem dL_isTold_553 : decode cL_isTold 553 = .ok (.aload 10, 2) := by decide +kernel
theorem dL_isTold_555 : decode cL_isTold 555 = .ok (.bipush 6, 2) := by decide +kernel
theorem dL_isTold_557 : decode cL_isTold 557 = .ok (.iaload, 1) := by decide +kernel
theorem dL_isTold_558 : decode cL_isTold 558 = .ok (.if_icmp .ne 81, 3) := by decide +kernel
theorem dL_isTold_561 : decode cL_isTold 561 = .ok (.aload_n 0, 1) := by decide +kernel
theorem dL_isTold_562 : decode cL_isTold 562 = .ok (.iconst 1, 1) := by decide +kernel
theorem dL_isTold_563 : decode cL_isTold 563 = .ok (.invokevirtual 151, 3) := by decide +kernel
theorem dL_isTold_566 : decode cL_isTold 566 = .ok (.ifCond .ne 73, 3) := by decide +kernel
theorem dL_isTold_569 : decode cL_isTold 569 = .ok (.aload_n 0, 1) := by decide +kernel
theorem dL_isTold_570 : decode cL_isTold 570 = .ok (.aload 10, 2) := by decide +kernel
theorem dL_isTold_572 : decode cL_isTold 572 = .ok (.iconst 3, 1) := by decide +kernel
theorem dL_isTold_573 : decode cL_isTold 573 = .ok (.iaload, 1) := by decide +kernel
theorem dL_isTold_574 : decode cL_isTold 574 = .ok (.invokestatic 99, 3) := by decide +kernel
theorem dL_isTold_577 : decode cL_isTold 577 = .ok (.bipush (-71), 2) := by decide +kernel
theorem dL_isTold_579 : decode cL_isTold 579 = .ok (.if_icmp .ne 60, 3) := by decide +kernel
theorem dL_isTold_582 : decode cL_isTold 582 = .ok (.aload_n 0, 1) := by decide +kernel
theorem dL_isTold_583 : decode cL_isTold 583 = .ok (.iconst (-1), 1) := by decide +kernel
theorem dL_isTold_584 : decode cL_isTold 584 = .ok (.invokestatic 99, 3) := by decide +kernel
theorem dL_isTold_587 : decode cL_isTold 587 = .ok (.bipush (-71), 2) := by decide +kernel
theorem dL_isTold_589 : decode cL_isTold 589 = .ok (.if_icmp .ne 50, 3) := by decide +kernel
theorem dL_isTold_592 : decode cL_isTold 592 = .ok (.aload_n 0, 1) := by decide +kernel
theorem dL_isTold_593 : decode cL_isTold 593 = .ok (.ldc 88, 2) := by decide +kernel
theorem dL_isTold_595 : decode cL_isTold 595 = .ok (.invokestatic 164, 3) := by decide +kernel
theorem dL_isTold_598 : decode cL_isTold 598 = .ok (.bipush (-72), 2) := by decide +kernel
theorem dL_isTold_600 : decode cL_isTold 600 = .ok (.if_icmp .ne 39, 3) := by decide +kernel
theorem dL_isTold_603 : decode cL_isTold 603 = .ok (.aload_n 0, 1) := by decide +kernel
theorem dL_isTold_604 : decode cL_isTold 604 = .ok (.iconst (-1), 1) := by decide +kernel
theorem dL_isTold_605 : decode cL_isTold 605 = .ok (.invokestatic 166, 3) := by decide +kernel
theorem dL_isTold_608 : decode cL_isTold 608 = .ok (.bipush (-72), 2) := by decide +kernel
theorem dL_isTold_610 : decode cL_isTold 610 = .ok (.if_icmp .ne 29, 3) := by decide +kernel
theorem dL_isTold_613 : decode cL_isTold 613 = .ok (.aload_n 0, 1) := by decide +kernel
theorem dL_isTold_614 : decode cL_isTold 614 = .ok (.ldc 88, 2) := by decide +kernel
theorem dL_isTold_616 : decode cL_isTold 616 = .ok (.invokestatic 168, 3) := by decide +kernel
theorem dL_isTold_619 : decode cL_isTold 619 = .ok (.bipush (-72), 2) := by decide +kernel
theorem dL_isTold_621 : decode cL_isTold 621 = .ok (.if_icmp .ne 18, 3) := by decide +kernel
theorem dL_isTold_624 : decode cL_isTold 624 = .ok (.aload_n 0, 1) := by decide +kernel
theorem dL_isTold_625 : decode cL_isTold 625 = .ok (.iconst 3, 1) := by decide +kernel
theorem dL_isTold_626 : decode cL_isTold 626 = .ok (.iconst 0, 1) := by decide +kernel
theorem dL_isTold_627 : decode cL_isTold 627 = .ok (.invokestatic 154, 3) := by decide +kernel
theorem dL_isTold_630 : decode cL_isTold 630 = .ok (.bipush (-71), 2) := by decide +kernel
theorem dL_isTold_632 : decode cL_isTold 632 = .ok (.if_icmp .ne 7, 3) := by decide +kernel
theorem dL_isTold_635 : decode cL_isTold 635 = .ok (.iconst 1, 1) := by decide +kernel
theorem dL_isTold_636 : decode cL_isTold 636 = .ok (.goto 4, 3) := by decide +kernel
theorem dL_isTold_639 : decode cL_isTold 639 = .ok (.iconst 0, 1) := by decide +kernel
theorem dL_isTold_640 : decode cL_isTold 640 = .ok (.ireturn, 1) := by decide +kernel
theorem dL_law_0 : decode cL_law 0 = .ok (.new 9, 3) := by decide +kernel
theorem dL_law_3 : decode cL_law 3 = .ok (.dup, 1) := by decide +kernel
theorem dL_law_4 : decode cL_law 4 = .ok (.invokespecial 177, 3) := by decide +kernel
theorem dL_law_7 : decode cL_law 7 = .ok (.astore_n 1, 1) := by decide +kernel
theorem dL_law_8 : decode cL_law 8 = .ok (.bipush 16, 2) := by decide +kernel
theorem dL_law_10 : decode cL_law 10 = .ok (.newarray .int, 2) := by decide +kernel
theorem dL_law_12 : decode cL_law 12 = .ok (.astore_n 2, 1) := by decide +kernel
theorem dL_law_13 : decode cL_law 13 = .ok (.bipush 16, 2) := by decide +kernel
theorem dL_law_15 : decode cL_law 15 = .ok (.newarray .int, 2) := by decide +kernel
theorem dL_law_17 : decode cL_law 17 = .ok (.astore_n 3, 1) := by decide +kernel
theorem dL_law_18 : decode cL_law 18 = .ok (.bipush 64, 2) := by decide +kernel
theorem dL_law_20 : decode cL_law 20 = .ok (.newarray .int, 2) := by decide +kernel
theorem dL_law_22 : decode cL_law 22 = .ok (.astore 4, 2) := by decide +kernel
theorem dL_law_24 : decode cL_law 24 = .ok (.bipush 12, 2) := by decide +kernel
theorem dL_law_26 : decode cL_law 26 = .ok (.newarray .int, 2) := by decide +kernel
theorem dL_law_28 : decode cL_law 28 = .ok (.astore 5, 2) := by decide +kernel
theorem dL_law_30 : decode cL_law 30 = .ok (.bipush 16, 2) := by decide +kernel
theorem dL_law_32 : decode cL_law 32 = .ok (.newarray .int, 2) := by decide +kernel
theorem dL_law_34 : decode cL_law 34 = .ok (.astore 6, 2) := by decide +kernel
theorem dL_law_36 : decode cL_law 36 = .ok (.bipush 16, 2) := by decide +kernel
theorem dL_law_38 : decode cL_law 38 = .ok (.newarray .int, 2) := by decide +kernel
theorem dL_law_40 : decode cL_law 40 = .ok (.astore 7, 2) := by decide +kernel
theorem dL_law_42 : decode cL_law 42 = .ok (.bipush 16, 2) := by decide +kernel
theorem dL_law_44 : decode cL_law 44 = .ok (.newarray .int, 2) := by decide +kernel
theorem dL_law_46 : decode cL_law 46 = .ok (.astore 8, 2) := by decide +kernel
theorem dL_law_48 : decode cL_law 48 = .ok (.bipush 16, 2) := by decide +kernel
theorem dL_law_50 : decode cL_law 50 = .ok (.newarray .int, 2) := by decide +kernel
theorem dL_law_52 : decode cL_law 52 = .ok (.astore 9, 2) := by decide +kernel
theorem dL_law_54 : decode cL_law 54 = .ok (.bipush 64, 2) := by decide +kernel
theorem dL_law_56 : decode cL_law 56 = .ok (.newarray .int, 2) := by decide +kernel
theorem dL_law_58 : decode cL_law 58 = .ok (.astore 10, 2) := by decide +kernel
theorem dL_law_60 : decode cL_law 60 = .ok (.iconst 2, 1) := by decide +kernel
theorem dL_law_61 : decode cL_law 61 = .ok (.newarray .int, 2) := by decide +kernel
theorem dL_law_63 : decode cL_law 63 = .ok (.astore 11, 2) := by decide +kernel
theorem dL_law_65 : decode cL_law 65 = .ok (.bipush 12, 2) := by decide +kernel
theorem dL_law_67 : decode cL_law 67 = .ok (.newarray .int, 2) := by decide +kernel
theorem dL_law_69 : decode cL_law 69 = .ok (.astore 12, 2) := by decide +kernel
theorem dL_law_71 : decode cL_law 71 = .ok (.iconst 0, 1) := by decide +kernel
theorem dL_law_72 : decode cL_law 72 = .ok (.istore 13, 2) := by decide +kernel
theorem dL_law_74 : decode cL_law 74 = .ok (.iload 13, 2) := by decide +kernel
theorem dL_law_76 : decode cL_law 76 = .ok (.bipush 16, 2) := by decide +kernel
theorem dL_law_78 : decode cL_law 78 = .ok (.if_icmp .ge 15, 3) := by decide +kernel
theorem dL_law_81 : decode cL_law 81 = .ok (.aload 6, 2) := by decide +kernel
theorem dL_law_83 : decode cL_law 83 = .ok (.iload 13, 2) := by decide +kernel
theorem dL_law_85 : decode cL_law 85 = .ok (.iconst (-1), 1) := by decide +kernel
theorem dL_law_86 : decode cL_law 86 = .ok (.iastore, 1) := by decide +kernel
theorem dL_law_87 : decode cL_law 87 = .ok (.iinc 13 1, 3) := by decide +kernel
theorem dL_law_90 : decode cL_law 90 = .ok (.goto (-16), 3) := by decide +kernel
theorem dL_law_93 : decode cL_law 93 = .ok (.aload 12, 2) := by decide +kernel
theorem dL_law_95 : decode cL_law 95 = .ok (.iconst 1, 1) := by decide +kernel
theorem dL_law_96 : decode cL_law 96 = .ok (.bipush 100, 2) := by decide +kernel
theorem dL_law_98 : decode cL_law 98 = .ok (.iastore, 1) := by decide +kernel
theorem dL_law_99 : decode cL_law 99 = .ok (.aload 12, 2) := by decide +kernel
theorem dL_law_101 : decode cL_law 101 = .ok (.iconst 2, 1) := by decide +kernel
theorem dL_law_102 : decode cL_law 102 = .ok (.bipush 20, 2) := by decide +kernel
theorem dL_law_104 : decode cL_law 104 = .ok (.iastore, 1) := by decide +kernel
theorem dL_law_105 : decode cL_law 105 = .ok (.aload_n 1, 1) := by decide +kernel
theorem dL_law_106 : decode cL_law 106 = .ok (.iconst 0, 1) := by decide +kernel
theorem dL_law_107 : decode cL_law 107 = .ok (.aload_n 2, 1) := by decide +kernel
theorem dL_law_108 : decode cL_law 108 = .ok (.aload_n 3, 1) := by decide +kernel
theorem dL_law_109 : decode cL_law 109 = .ok (.aload 5, 2) := by decide +kernel
theorem dL_law_111 : decode cL_law 111 = .ok (.aload 6, 2) := by decide +kernel
theorem dL_law_113 : decode cL_law 113 = .ok (.aload 7, 2) := by decide +kernel
theorem dL_law_115 : decode cL_law 115 = .ok (.aload 8, 2) := by decide +kernel
theorem dL_law_117 : decode cL_law 117 = .ok (.aload 9, 2) := by decide +kernel
theorem dL_law_119 : decode cL_law 119 = .ok (.aload 10, 2) := by decide +kernel
theorem dL_law_121 : decode cL_law 121 = .ok (.aload 12, 2) := by decide +kernel
theorem dL_law_123 : decode cL_law 123 = .ok (.invokestatic 178, 3) := by decide +kernel
theorem dL_law_126 : decode cL_law 126 = .ok (.ifCond .ne 5, 3) := by decide +kernel
theorem dL_law_129 : decode cL_law 129 = .ok (.iconst 0, 1) := by decide +kernel
theorem dL_law_130 : decode cL_law 130 = .ok (.ireturn, 1) := by decide +kernel
theorem dL_law_131 : decode cL_law 131 = .ok (.iconst 0, 1) := by decide +kernel
theorem dL_law_132 : decode cL_law 132 = .ok (.istore 13, 2) := by decide +kernel
theorem dL_law_134 : decode cL_law 134 = .ok (.iload 13, 2) := by decide +kernel
theorem dL_law_136 : decode cL_law 136 = .ok (.bipush 120, 2) := by decide +kernel
theorem dL_law_138 : decode cL_law 138 = .ok (.if_icmp .ge 175, 3) := by decide +kernel
theorem dL_law_141 : decode cL_law 141 = .ok (.aload_n 0, 1) := by decide +kernel
theorem dL_law_142 : decode cL_law 142 = .ok (.iconst 3, 1) := by decide +kernel
theorem dL_law_143 : decode cL_law 143 = .ok (.iload 13, 2) := by decide +kernel
theorem dL_law_145 : decode cL_law 145 = .ok (.imul, 1) := by decide +kernel
theorem dL_law_146 : decode cL_law 146 = .ok (.invokestatic 182, 3) := by decide +kernel
theorem dL_law_149 : decode cL_law 149 = .ok (.istore 14, 2) := by decide +kernel
theorem dL_law_151 : decode cL_law 151 = .ok (.aload_n 0, 1) := by decide +kernel
theorem dL_law_152 : decode cL_law 152 = .ok (.iconst 3, 1) := by decide +kernel
theorem dL_law_153 : decode cL_law 153 = .ok (.iload 13, 2) := by decide +kernel
theorem dL_law_155 : decode cL_law 155 = .ok (.imul, 1) := by decide +kernel
theorem dL_law_156 : decode cL_law 156 = .ok (.iconst 1, 1) := by decide +kernel
theorem dL_law_157 : decode cL_law 157 = .ok (.iadd, 1) := by decide +kernel
theorem dL_law_158 : decode cL_law 158 = .ok (.invokestatic 182, 3) := by decide +kernel
theorem dL_law_161 : decode cL_law 161 = .ok (.istore 15, 2) := by decide +kernel
theorem dL_law_163 : decode cL_law 163 = .ok (.aload_n 0, 1) := by decide +kernel
theorem dL_law_164 : decode cL_law 164 = .ok (.iconst 3, 1) := by decide +kernel
theorem dL_law_165 : decode cL_law 165 = .ok (.iload 13, 2) := by decide +kernel
theorem dL_law_167 : decode cL_law 167 = .ok (.imul, 1) := by decide +kernel
theorem dL_law_168 : decode cL_law 168 = .ok (.iconst 2, 1) := by decide +kernel
theorem dL_law_169 : decode cL_law 169 = .ok (.iadd, 1) := by decide +kernel
theorem dL_law_170 : decode cL_law 170 = .ok (.invokestatic 182, 3) := by decide +kernel
theorem dL_law_173 : decode cL_law 173 = .ok (.istore 16, 2) := by decide +kernel
theorem dL_law_175 : decode cL_law 175 = .ok (.iload 13, 2) := by decide +kernel
theorem dL_law_177 : decode cL_law 177 = .ok (.iconst 3, 1) := by decide +kernel
theorem dL_law_178 : decode cL_law 178 = .ok (.if_icmp .ge 7, 3) := by decide +kernel
theorem dL_law_181 : decode cL_law 181 = .ok (.iconst 0, 1) := by decide +kernel
theorem dL_law_182 : decode cL_law 182 = .ok (.goto 22, 3) := by decide +kernel
theorem dL_law_185 : decode cL_law 185 = .ok (.iload 13, 2) := by decide +kernel
theorem dL_law_187 : decode cL_law 187 = .ok (.bipush 7, 2) := by decide +kernel
theorem dL_law_189 : decode cL_law 189 = .ok (.if_icmp .ge 8, 3) := by decide +kernel
theorem dL_law_192 : decode cL_law 192 = .ok (.bipush 6, 2) := by decide +kernel
theorem dL_law_194 : decode cL_law 194 = .ok (.goto 10, 3) := by decide +kernel
theorem dL_law_197 : decode cL_law 197 = .ok (.iload 14, 2) := by decide +kernel
theorem dL_law_199 : decode cL_law 199 = .ok (.bipush 32, 2) := by decide +kernel
theorem dL_law_201 : decode cL_law 201 = .ok (.invokestatic 85, 3) := by decide +kernel
theorem dL_law_204 : decode cL_law 204 = .ok (.istore 17, 2) := by decide +kernel
theorem dL_law_206 : decode cL_law 206 = .ok (.iload 17, 2) := by decide +kernel
theorem dL_law_208 : decode cL_law 208 = .ok (.bipush 12, 2) := by decide +kernel
theorem dL_law_210 : decode cL_law 210 = .ok (.if_icmp .ge 29, 3) := by decide +kernel
theorem dL_law_213 : decode cL_law 213 = .ok (.aload_n 1, 1) := by decide +kernel
theorem dL_law_214 : decode cL_law 214 = .ok (.iload 17, 2) := by decide +kernel
theorem dL_law_216 : decode cL_law 216 = .ok (.iload 15, 2) := by decide +kernel
theorem dL_law_218 : decode cL_law 218 = .ok (.iload 16, 2) := by decide +kernel
theorem dL_law_220 : decode cL_law 220 = .ok (.aload_n 2, 1) := by decide +kernel
theorem dL_law_221 : decode cL_law 221 = .ok (.aload_n 3, 1) := by decide +kernel
theorem dL_law_222 : decode cL_law 222 = .ok (.aload 4, 2) := by decide +kernel
theorem dL_law_224 : decode cL_law 224 = .ok (.aload 6, 2) := by decide +kernel
theorem dL_law_226 : decode cL_law 226 = .ok (.aload 8, 2) := by decide +kernel
theorem dL_law_228 : decode cL_law 228 = .ok (.aload 12, 2) := by decide +kernel
theorem dL_law_230 : decode cL_law 230 = .ok (.invokestatic 186, 3) := by decide +kernel
theorem dL_law_233 : decode cL_law 233 = .ok (.ifCond .eq 72, 3) := by decide +kernel
theorem dL_law_236 : decode cL_law 236 = .ok (.goto 39, 3) := by decide +kernel
theorem dL_law_239 : decode cL_law 239 = .ok (.aload_n 1, 1) := by decide +kernel
theorem dL_law_240 : decode cL_law 240 = .ok (.iload 17, 2) := by decide +kernel
theorem dL_law_242 : decode cL_law 242 = .ok (.bipush 12, 2) := by decide +kernel
theorem dL_law_244 : decode cL_law 244 = .ok (.isub, 1) := by decide +kernel
theorem dL_law_245 : decode cL_law 245 = .ok (.iload 15, 2) := by decide +kernel
theorem dL_law_247 : decode cL_law 247 = .ok (.iload 16, 2) := by decide +kernel
theorem dL_law_249 : decode cL_law 249 = .ok (.aload_n 2, 1) := by decide +kernel
theorem dL_law_250 : decode cL_law 250 = .ok (.aload_n 3, 1) := by decide +kernel
theorem dL_law_251 : decode cL_law 251 = .ok (.aload 4, 2) := by decide +kernel
theorem dL_law_253 : decode cL_law 253 = .ok (.aload 5, 2) := by decide +kernel
theorem dL_law_255 : decode cL_law 255 = .ok (.aload 6, 2) := by decide +kernel
theorem dL_law_257 : decode cL_law 257 = .ok (.aload 7, 2) := by decide +kernel
theorem dL_law_259 : decode cL_law 259 = .ok (.aload 8, 2) := by decide +kernel
theorem dL_law_261 : decode cL_law 261 = .ok (.aload 9, 2) := by decide +kernel
theorem dL_law_263 : decode cL_law 263 = .ok (.aload 10, 2) := by decide +kernel
theorem dL_law_265 : decode cL_law 265 = .ok (.aload 11, 2) := by decide +kernel
theorem dL_law_267 : decode cL_law 267 = .ok (.aload 12, 2) := by decide +kernel
theorem dL_law_269 : decode cL_law 269 = .ok (.invokestatic 190, 3) := by decide +kernel
theorem dL_law_272 : decode cL_law 272 = .ok (.ifCond .eq 33, 3) := by decide +kernel
theorem dL_law_275 : decode cL_law 275 = .ok (.aload_n 1, 1) := by decide +kernel
theorem dL_law_276 : decode cL_law 276 = .ok (.iload 14, 2) := by decide +kernel
theorem dL_law_278 : decode cL_law 278 = .ok (.iconst 5, 1) := by decide +kernel
theorem dL_law_279 : decode cL_law 279 = .ok (.ishr, 1) := by decide +kernel
theorem dL_law_280 : decode cL_law 280 = .ok (.iload 15, 2) := by decide +kernel
theorem dL_law_282 : decode cL_law 282 = .ok (.ixor, 1) := by decide +kernel
theorem dL_law_283 : decode cL_law 283 = .ok (.aload_n 2, 1) := by decide +kernel
theorem dL_law_284 : decode cL_law 284 = .ok (.aload_n 3, 1) := by decide +kernel
theorem dL_law_285 : decode cL_law 285 = .ok (.aload 5, 2) := by decide +kernel
theorem dL_law_287 : decode cL_law 287 = .ok (.aload 6, 2) := by decide +kernel
theorem dL_law_289 : decode cL_law 289 = .ok (.aload 7, 2) := by decide +kernel
theorem dL_law_291 : decode cL_law 291 = .ok (.aload 8, 2) := by decide +kernel
theorem dL_law_293 : decode cL_law 293 = .ok (.aload 9, 2) := by decide +kernel
theorem dL_law_295 : decode cL_law 295 = .ok (.aload 10, 2) := by decide +kernel
theorem dL_law_297 : decode cL_law 297 = .ok (.aload 12, 2) := by decide +kernel
theorem dL_law_299 : decode cL_law 299 = .ok (.invokestatic 178, 3) := by decide +kernel
theorem dL_law_302 : decode cL_law 302 = .ok (.ifCond .ne 5, 3) := by decide +kernel
theorem dL_law_305 : decode cL_law 305 = .ok (.iconst 0, 1) := by decide +kernel
theorem dL_law_306 : decode cL_law 306 = .ok (.ireturn, 1) := by decide +kernel
theorem dL_law_307 : decode cL_law 307 = .ok (.iinc 13 1, 3) := by decide +kernel
theorem dL_law_310 : decode cL_law 310 = .ok (.goto (-176), 3) := by decide +kernel
theorem dL_law_313 : decode cL_law 313 = .ok (.iconst 1, 1) := by decide +kernel
theorem dL_law_314 : decode cL_law 314 = .ok (.ireturn, 1) := by decide +kernel
