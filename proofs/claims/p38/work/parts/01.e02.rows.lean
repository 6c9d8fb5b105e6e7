theorem dL_refused_445 : decode cL_refused 445 = .ok (.iload_n 3, 1) := by decide +kernel
theorem dL_refused_446 : decode cL_refused 446 = .ok (.iconst 0, 1) := by decide +kernel
theorem dL_refused_447 : decode cL_refused 447 = .ok (.invokestatic 212, 3) := by decide +kernel
theorem dL_refused_450 : decode cL_refused 450 = .ok (.sipush (-1001), 3) := by decide +kernel
theorem dL_refused_453 : decode cL_refused 453 = .ok (.if_icmp .ne 301, 3) := by decide +kernel
theorem dL_refused_456 : decode cL_refused 456 = .ok (.aload_n 0, 1) := by decide +kernel
theorem dL_refused_457 : decode cL_refused 457 = .ok (.iconst 0, 1) := by decide +kernel
theorem dL_refused_458 : decode cL_refused 458 = .ok (.iconst 0, 1) := by decide +kernel
theorem dL_refused_459 : decode cL_refused 459 = .ok (.iload_n 3, 1) := by decide +kernel
theorem dL_refused_460 : decode cL_refused 460 = .ok (.invokestatic 212, 3) := by decide +kernel
theorem dL_refused_463 : decode cL_refused 463 = .ok (.sipush (-1001), 3) := by decide +kernel
theorem dL_refused_466 : decode cL_refused 466 = .ok (.if_icmp .ne 288, 3) := by decide +kernel
theorem dL_refused_469 : decode cL_refused 469 = .ok (.aload_n 0, 1) := by decide +kernel
theorem dL_refused_470 : decode cL_refused 470 = .ok (.iconst 0, 1) := by decide +kernel
theorem dL_refused_471 : decode cL_refused 471 = .ok (.iconst 0, 1) := by decide +kernel
theorem dL_refused_472 : decode cL_refused 472 = .ok (.iconst 0, 1) := by decide +kernel
theorem dL_refused_473 : decode cL_refused 473 = .ok (.invokestatic 212, 3) := by decide +kernel
theorem dL_refused_476 : decode cL_refused 476 = .ok (.sipush (-1002), 3) := by decide +kernel
theorem dL_refused_479 : decode cL_refused 479 = .ok (.if_icmp .ne 275, 3) := by decide +kernel
theorem dL_refused_482 : decode cL_refused 482 = .ok (.aload_n 0, 1) := by decide +kernel
theorem dL_refused_483 : decode cL_refused 483 = .ok (.iconst (-1), 1) := by decide +kernel
theorem dL_refused_484 : decode cL_refused 484 = .ok (.iconst 4, 1) := by decide +kernel
theorem dL_refused_485 : decode cL_refused 485 = .ok (.invokestatic 226, 3) := by decide +kernel
theorem dL_refused_488 : decode cL_refused 488 = .ok (.sipush (-1001), 3) := by decide +kernel
theorem dL_refused_491 : decode cL_refused 491 = .ok (.if_icmp .ne 263, 3) := by decide +kernel
theorem dL_refused_494 : decode cL_refused 494 = .ok (.aload_n 0, 1) := by decide +kernel
theorem dL_refused_495 : decode cL_refused 495 = .ok (.iconst 0, 1) := by decide +kernel
theorem dL_refused_496 : decode cL_refused 496 = .ok (.iconst (-1), 1) := by decide +kernel
theorem dL_refused_497 : decode cL_refused 497 = .ok (.invokestatic 226, 3) := by decide +kernel
theorem dL_refused_500 : decode cL_refused 500 = .ok (.sipush (-1001), 3) := by decide +kernel
theorem dL_refused_503 : decode cL_refused 503 = .ok (.if_icmp .ne 251, 3) := by decide +kernel
theorem dL_refused_506 : decode cL_refused 506 = .ok (.aload_n 0, 1) := by decide +kernel
theorem dL_refused_507 : decode cL_refused 507 = .ok (.iconst (-1), 1) := by decide +kernel
theorem dL_refused_508 : decode cL_refused 508 = .ok (.iconst 0, 1) := by decide +kernel
theorem dL_refused_509 : decode cL_refused 509 = .ok (.invokestatic 226, 3) := by decide +kernel
theorem dL_refused_512 : decode cL_refused 512 = .ok (.sipush (-1002), 3) := by decide +kernel
theorem dL_refused_515 : decode cL_refused 515 = .ok (.if_icmp .ne 239, 3) := by decide +kernel
theorem dL_refused_518 : decode cL_refused 518 = .ok (.aload_n 0, 1) := by decide +kernel
theorem dL_refused_519 : decode cL_refused 519 = .ok (.aload_n 0, 1) := by decide +kernel
theorem dL_refused_520 : decode cL_refused 520 = .ok (.iconst 3, 1) := by decide +kernel
theorem dL_refused_521 : decode cL_refused 521 = .ok (.invokestatic 194, 3) := by decide +kernel
theorem dL_refused_524 : decode cL_refused 524 = .ok (.iconst 0, 1) := by decide +kernel
theorem dL_refused_525 : decode cL_refused 525 = .ok (.invokestatic 226, 3) := by decide +kernel
theorem dL_refused_528 : decode cL_refused 528 = .ok (.sipush (-1002), 3) := by decide +kernel
theorem dL_refused_531 : decode cL_refused 531 = .ok (.if_icmp .ne 223, 3) := by decide +kernel
theorem dL_refused_534 : decode cL_refused 534 = .ok (.aload_n 0, 1) := by decide +kernel
theorem dL_refused_535 : decode cL_refused 535 = .ok (.iload_n 3, 1) := by decide +kernel
theorem dL_refused_536 : decode cL_refused 536 = .ok (.iconst 0, 1) := by decide +kernel
theorem dL_refused_537 : decode cL_refused 537 = .ok (.invokestatic 200, 3) := by decide +kernel
theorem dL_refused_540 : decode cL_refused 540 = .ok (.sipush (-1001), 3) := by decide +kernel
theorem dL_refused_543 : decode cL_refused 543 = .ok (.if_icmp .ne 211, 3) := by decide +kernel
theorem dL_refused_546 : decode cL_refused 546 = .ok (.aload_n 0, 1) := by decide +kernel
theorem dL_refused_547 : decode cL_refused 547 = .ok (.iconst 0, 1) := by decide +kernel
theorem dL_refused_548 : decode cL_refused 548 = .ok (.iload_n 3, 1) := by decide +kernel
theorem dL_refused_549 : decode cL_refused 549 = .ok (.invokestatic 202, 3) := by decide +kernel
theorem dL_refused_552 : decode cL_refused 552 = .ok (.sipush (-1001), 3) := by decide +kernel
theorem dL_refused_555 : decode cL_refused 555 = .ok (.if_icmp .ne 199, 3) := by decide +kernel
theorem dL_refused_558 : decode cL_refused 558 = .ok (.aload_n 0, 1) := by decide +kernel
theorem dL_refused_559 : decode cL_refused 559 = .ok (.iconst (-1), 1) := by decide +kernel
theorem dL_refused_560 : decode cL_refused 560 = .ok (.iconst 0, 1) := by decide +kernel
theorem dL_refused_561 : decode cL_refused 561 = .ok (.invokestatic 204, 3) := by decide +kernel
theorem dL_refused_564 : decode cL_refused 564 = .ok (.sipush (-1001), 3) := by decide +kernel
theorem dL_refused_567 : decode cL_refused 567 = .ok (.if_icmp .ne 187, 3) := by decide +kernel
theorem dL_refused_570 : decode cL_refused 570 = .ok (.aload_n 0, 1) := by decide +kernel
theorem dL_refused_571 : decode cL_refused 571 = .ok (.iconst 0, 1) := by decide +kernel
theorem dL_refused_572 : decode cL_refused 572 = .ok (.iconst 0, 1) := by decide +kernel
theorem dL_refused_573 : decode cL_refused 573 = .ok (.invokestatic 204, 3) := by decide +kernel
theorem dL_refused_576 : decode cL_refused 576 = .ok (.sipush (-1002), 3) := by decide +kernel
theorem dL_refused_579 : decode cL_refused 579 = .ok (.if_icmp .ne 175, 3) := by decide +kernel
theorem dL_refused_582 : decode cL_refused 582 = .ok (.aload_n 0, 1) := by decide +kernel
theorem dL_refused_583 : decode cL_refused 583 = .ok (.iload_n 3, 1) := by decide +kernel
theorem dL_refused_584 : decode cL_refused 584 = .ok (.invokestatic 214, 3) := by decide +kernel
theorem dL_refused_587 : decode cL_refused 587 = .ok (.sipush (-1001), 3) := by decide +kernel
theorem dL_refused_590 : decode cL_refused 590 = .ok (.if_icmp .ne 164, 3) := by decide +kernel
theorem dL_refused_593 : decode cL_refused 593 = .ok (.aload_n 0, 1) := by decide +kernel
theorem dL_refused_594 : decode cL_refused 594 = .ok (.iconst 0, 1) := by decide +kernel
theorem dL_refused_595 : decode cL_refused 595 = .ok (.iload_n 3, 1) := by decide +kernel
theorem dL_refused_596 : decode cL_refused 596 = .ok (.invokestatic 206, 3) := by decide +kernel
theorem dL_refused_599 : decode cL_refused 599 = .ok (.sipush (-1001), 3) := by decide +kernel
theorem dL_refused_602 : decode cL_refused 602 = .ok (.if_icmp .ne 152, 3) := by decide +kernel
theorem dL_refused_605 : decode cL_refused 605 = .ok (.aload_n 0, 1) := by decide +kernel
theorem dL_refused_606 : decode cL_refused 606 = .ok (.iload_n 3, 1) := by decide +kernel
theorem dL_refused_607 : decode cL_refused 607 = .ok (.iconst 0, 1) := by decide +kernel
theorem dL_refused_608 : decode cL_refused 608 = .ok (.invokestatic 208, 3) := by decide +kernel
theorem dL_refused_611 : decode cL_refused 611 = .ok (.sipush (-1001), 3) := by decide +kernel
theorem dL_refused_614 : decode cL_refused 614 = .ok (.if_icmp .ne 140, 3) := by decide +kernel
theorem dL_refused_617 : decode cL_refused 617 = .ok (.aload_n 0, 1) := by decide +kernel
theorem dL_refused_618 : decode cL_refused 618 = .ok (.iconst (-1), 1) := by decide +kernel
theorem dL_refused_619 : decode cL_refused 619 = .ok (.invokestatic 216, 3) := by decide +kernel
theorem dL_refused_622 : decode cL_refused 622 = .ok (.sipush (-1001), 3) := by decide +kernel
theorem dL_refused_625 : decode cL_refused 625 = .ok (.if_icmp .ne 129, 3) := by decide +kernel
theorem dL_refused_628 : decode cL_refused 628 = .ok (.aload_n 0, 1) := by decide +kernel
theorem dL_refused_629 : decode cL_refused 629 = .ok (.iconst 3, 1) := by decide +kernel
theorem dL_refused_630 : decode cL_refused 630 = .ok (.invokestatic 228, 3) := by decide +kernel
theorem dL_refused_633 : decode cL_refused 633 = .ok (.sipush (-1001), 3) := by decide +kernel
theorem dL_refused_636 : decode cL_refused 636 = .ok (.if_icmp .ne 118, 3) := by decide +kernel
theorem dL_refused_639 : decode cL_refused 639 = .ok (.aload_n 0, 1) := by decide +kernel
theorem dL_refused_640 : decode cL_refused 640 = .ok (.iconst (-1), 1) := by decide +kernel
theorem dL_refused_641 : decode cL_refused 641 = .ok (.invokestatic 230, 3) := by decide +kernel
theorem dL_refused_644 : decode cL_refused 644 = .ok (.sipush (-1001), 3) := by decide +kernel
theorem dL_refused_647 : decode cL_refused 647 = .ok (.if_icmp .ne 107, 3) := by decide +kernel
theorem dL_refused_650 : decode cL_refused 650 = .ok (.aload_n 0, 1) := by decide +kernel
theorem dL_refused_651 : decode cL_refused 651 = .ok (.iconst 3, 1) := by decide +kernel
theorem dL_refused_652 : decode cL_refused 652 = .ok (.invokestatic 232, 3) := by decide +kernel
theorem dL_refused_655 : decode cL_refused 655 = .ok (.sipush (-1001), 3) := by decide +kernel
theorem dL_refused_658 : decode cL_refused 658 = .ok (.if_icmp .ne 96, 3) := by decide +kernel
theorem dL_refused_661 : decode cL_refused 661 = .ok (.aload_n 0, 1) := by decide +kernel
theorem dL_refused_662 : decode cL_refused 662 = .ok (.iload_n 3, 1) := by decide +kernel
theorem dL_refused_663 : decode cL_refused 663 = .ok (.invokestatic 219, 3) := by decide +kernel
theorem dL_refused_666 : decode cL_refused 666 = .ok (.sipush (-1001), 3) := by decide +kernel
theorem dL_refused_669 : decode cL_refused 669 = .ok (.if_icmp .ne 85, 3) := by decide +kernel
theorem dL_refused_672 : decode cL_refused 672 = .ok (.aload_n 0, 1) := by decide +kernel
theorem dL_refused_673 : decode cL_refused 673 = .ok (.iconst (-1), 1) := by decide +kernel
theorem dL_refused_674 : decode cL_refused 674 = .ok (.invokestatic 219, 3) := by decide +kernel
theorem dL_refused_677 : decode cL_refused 677 = .ok (.sipush (-1001), 3) := by decide +kernel
theorem dL_refused_680 : decode cL_refused 680 = .ok (.if_icmp .ne 74, 3) := by decide +kernel
theorem dL_refused_683 : decode cL_refused 683 = .ok (.aload_n 0, 1) := by decide +kernel
theorem dL_refused_684 : decode cL_refused 684 = .ok (.iload_n 3, 1) := by decide +kernel
theorem dL_refused_685 : decode cL_refused 685 = .ok (.invokestatic 152, 3) := by decide +kernel
theorem dL_refused_688 : decode cL_refused 688 = .ok (.sipush (-1001), 3) := by decide +kernel
theorem dL_refused_691 : decode cL_refused 691 = .ok (.if_icmp .ne 63, 3) := by decide +kernel
theorem dL_refused_694 : decode cL_refused 694 = .ok (.aload_n 0, 1) := by decide +kernel
theorem dL_refused_695 : decode cL_refused 695 = .ok (.iconst (-1), 1) := by decide +kernel
theorem dL_refused_696 : decode cL_refused 696 = .ok (.invokestatic 155, 3) := by decide +kernel
theorem dL_refused_699 : decode cL_refused 699 = .ok (.sipush (-1001), 3) := by decide +kernel
theorem dL_refused_702 : decode cL_refused 702 = .ok (.if_icmp .ne 52, 3) := by decide +kernel
theorem dL_refused_705 : decode cL_refused 705 = .ok (.aload_n 0, 1) := by decide +kernel
theorem dL_refused_706 : decode cL_refused 706 = .ok (.sipush 240, 3) := by decide +kernel
theorem dL_refused_709 : decode cL_refused 709 = .ok (.invokestatic 155, 3) := by decide +kernel
theorem dL_refused_712 : decode cL_refused 712 = .ok (.sipush (-1001), 3) := by decide +kernel
theorem dL_refused_715 : decode cL_refused 715 = .ok (.if_icmp .ne 39, 3) := by decide +kernel
theorem dL_refused_718 : decode cL_refused 718 = .ok (.aload_n 0, 1) := by decide +kernel
theorem dL_refused_719 : decode cL_refused 719 = .ok (.bipush 11, 2) := by decide +kernel
theorem dL_refused_721 : decode cL_refused 721 = .ok (.invokestatic 194, 3) := by decide +kernel
theorem dL_refused_724 : decode cL_refused 724 = .ok (.sipush (-1001), 3) := by decide +kernel
theorem dL_refused_727 : decode cL_refused 727 = .ok (.if_icmp .ne 27, 3) := by decide +kernel
theorem dL_refused_730 : decode cL_refused 730 = .ok (.aload_n 0, 1) := by decide +kernel
theorem dL_refused_731 : decode cL_refused 731 = .ok (.iconst (-1), 1) := by decide +kernel
theorem dL_refused_732 : decode cL_refused 732 = .ok (.invokestatic 194, 3) := by decide +kernel
theorem dL_refused_735 : decode cL_refused 735 = .ok (.sipush (-1001), 3) := by decide +kernel
theorem dL_refused_738 : decode cL_refused 738 = .ok (.if_icmp .ne 16, 3) := by decide +kernel
theorem dL_refused_741 : decode cL_refused 741 = .ok (.aload_n 0, 1) := by decide +kernel
theorem dL_refused_742 : decode cL_refused 742 = .ok (.iconst 1, 1) := by decide +kernel
theorem dL_refused_743 : decode cL_refused 743 = .ok (.iconst 0, 1) := by decide +kernel
theorem dL_refused_744 : decode cL_refused 744 = .ok (.invokestatic 267, 3) := by decide +kernel
theorem dL_refused_747 : decode cL_refused 747 = .ok (.ifCond .eq 7, 3) := by decide +kernel
theorem dL_refused_750 : decode cL_refused 750 = .ok (.iconst 1, 1) := by decide +kernel
theorem dL_refused_751 : decode cL_refused 751 = .ok (.goto 4, 3) := by decide +kernel
theorem dL_refused_754 : decode cL_refused 754 = .ok (.iconst 0, 1) := by decide +kernel
theorem dL_refused_755 : decode cL_refused 755 = .ok (.istore 4, 2) := by decide +kernel
theorem dL_refused_757 : decode cL_refused 757 = .ok (.iload 4, 2) := by decide +kernel
theorem dL_refused_759 : decode cL_refused 759 = .ok (.ifCond .eq 91, 3) := by decide +kernel
theorem dL_refused_762 : decode cL_refused 762 = .ok (.aload_n 0, 1) := by decide +kernel
theorem dL_refused_763 : decode cL_refused 763 = .ok (.ldc_w 279, 3) := by decide +kernel
theorem dL_refused_766 : decode cL_refused 766 = .ok (.invokestatic 263, 3) := by decide +kernel
theorem dL_refused_769 : decode cL_refused 769 = .ok (.sipush (-1001), 3) := by decide +kernel
theorem dL_refused_772 : decode cL_refused 772 = .ok (.if_icmp .ne 78, 3) := by decide +kernel
theorem dL_refused_775 : decode cL_refused 775 = .ok (.aload_n 0, 1) := by decide +kernel
theorem dL_refused_776 : decode cL_refused 776 = .ok (.invokevirtual 281, 3) := by decide +kernel
theorem dL_refused_779 : decode cL_refused 779 = .ok (.ifCond .ne 71, 3) := by decide +kernel
theorem dL_refused_782 : decode cL_refused 782 = .ok (.aload_n 0, 1) := by decide +kernel
theorem dL_refused_783 : decode cL_refused 783 = .ok (.ldc_w 284, 3) := by decide +kernel
theorem dL_refused_786 : decode cL_refused 786 = .ok (.invokestatic 263, 3) := by decide +kernel
theorem dL_refused_789 : decode cL_refused 789 = .ok (.sipush (-1002), 3) := by decide +kernel
theorem dL_refused_792 : decode cL_refused 792 = .ok (.if_icmp .ne 58, 3) := by decide +kernel
theorem dL_refused_795 : decode cL_refused 795 = .ok (.aload_n 0, 1) := by decide +kernel
theorem dL_refused_796 : decode cL_refused 796 = .ok (.iconst 2, 1) := by decide +kernel
theorem dL_refused_797 : decode cL_refused 797 = .ok (.iconst 1, 1) := by decide +kernel
theorem dL_refused_798 : decode cL_refused 798 = .ok (.iconst 0, 1) := by decide +kernel
theorem dL_refused_799 : decode cL_refused 799 = .ok (.invokestatic 286, 3) := by decide +kernel
theorem dL_refused_802 : decode cL_refused 802 = .ok (.ifCond .eq 48, 3) := by decide +kernel
theorem dL_refused_805 : decode cL_refused 805 = .ok (.aload_n 0, 1) := by decide +kernel
theorem dL_refused_806 : decode cL_refused 806 = .ok (.invokevirtual 281, 3) := by decide +kernel
theorem dL_refused_809 : decode cL_refused 809 = .ok (.iconst (-1), 1) := by decide +kernel
theorem dL_refused_810 : decode cL_refused 810 = .ok (.if_icmp .ne 40, 3) := by decide +kernel
theorem dL_refused_813 : decode cL_refused 813 = .ok (.aload_n 0, 1) := by decide +kernel
theorem dL_refused_814 : decode cL_refused 814 = .ok (.ldc_w 290, 3) := by decide +kernel
theorem dL_refused_817 : decode cL_refused 817 = .ok (.invokestatic 263, 3) := by decide +kernel
theorem dL_refused_820 : decode cL_refused 820 = .ok (.sipush (-1002), 3) := by decide +kernel
theorem dL_refused_823 : decode cL_refused 823 = .ok (.if_icmp .ne 27, 3) := by decide +kernel
theorem dL_refused_826 : decode cL_refused 826 = .ok (.aload_n 0, 1) := by decide +kernel
theorem dL_refused_827 : decode cL_refused 827 = .ok (.iconst 1, 1) := by decide +kernel
theorem dL_refused_828 : decode cL_refused 828 = .ok (.iconst 3, 1) := by decide +kernel
theorem dL_refused_829 : decode cL_refused 829 = .ok (.bipush 9, 2) := by decide +kernel
theorem dL_refused_831 : decode cL_refused 831 = .ok (.invokestatic 286, 3) := by decide +kernel
theorem dL_refused_834 : decode cL_refused 834 = .ok (.ifCond .eq 16, 3) := by decide +kernel
theorem dL_refused_837 : decode cL_refused 837 = .ok (.aload_n 0, 1) := by decide +kernel
theorem dL_refused_838 : decode cL_refused 838 = .ok (.invokestatic 271, 3) := by decide +kernel
theorem dL_refused_841 : decode cL_refused 841 = .ok (.lload_n 1, 1) := by decide +kernel
theorem dL_refused_842 : decode cL_refused 842 = .ok (.lcmp, 1) := by decide +kernel
theorem dL_refused_843 : decode cL_refused 843 = .ok (.ifCond .ne 7, 3) := by decide +kernel
theorem dL_refused_846 : decode cL_refused 846 = .ok (.iconst 1, 1) := by decide +kernel
theorem dL_refused_847 : decode cL_refused 847 = .ok (.goto 4, 3) := by decide +kernel
theorem dL_refused_850 : decode cL_refused 850 = .ok (.iconst 0, 1) := by decide +kernel
theorem dL_refused_851 : decode cL_refused 851 = .ok (.ireturn, 1) := by decide +kernel
theorem dL_law_0 : decode cL_law 0 = .ok (.new 8, 3) := by decide +kernel
theorem dL_law_3 : decode cL_law 3 = .ok (.dup, 1) := by decide +kernel
theorem dL_law_4 : decode cL_law 4 = .ok (.invokespecial 292, 3) := by decide +kernel
theorem dL_law_7 : decode cL_law 7 = .ok (.astore_n 1, 1) := by decide +kernel
theorem dL_law_8 : decode cL_law 8 = .ok (.aload_n 1, 1) := by decide +kernel
theorem dL_law_9 : decode cL_law 9 = .ok (.invokestatic 293, 3) := by decide +kernel
theorem dL_law_12 : decode cL_law 12 = .ok (.sipush (-1001), 3) := by decide +kernel
theorem dL_law_15 : decode cL_law 15 = .ok (.if_icmp .ne 28, 3) := by decide +kernel
theorem dL_law_18 : decode cL_law 18 = .ok (.aload_n 1, 1) := by decide +kernel
theorem dL_law_19 : decode cL_law 19 = .ok (.invokestatic 295, 3) := by decide +kernel
theorem dL_law_22 : decode cL_law 22 = .ok (.sipush (-1001), 3) := by decide +kernel
theorem dL_law_25 : decode cL_law 25 = .ok (.if_icmp .ne 18, 3) := by decide +kernel
theorem dL_law_28 : decode cL_law 28 = .ok (.aload_n 1, 1) := by decide +kernel
theorem dL_law_29 : decode cL_law 29 = .ok (.invokevirtual 297, 3) := by decide +kernel
theorem dL_law_32 : decode cL_law 32 = .ok (.ifCond .ne 11, 3) := by decide +kernel
theorem dL_law_35 : decode cL_law 35 = .ok (.aload_n 1, 1) := by decide +kernel
theorem dL_law_36 : decode cL_law 36 = .ok (.iconst 5, 1) := by decide +kernel
theorem dL_law_37 : decode cL_law 37 = .ok (.invokestatic 169, 3) := by decide +kernel
theorem dL_law_40 : decode cL_law 40 = .ok (.ifCond .eq 5, 3) := by decide +kernel
theorem dL_law_43 : decode cL_law 43 = .ok (.iconst 0, 1) := by decide +kernel
theorem dL_law_44 : decode cL_law 44 = .ok (.ireturn, 1) := by decide +kernel
theorem dL_law_45 : decode cL_law 45 = .ok (.iconst 0, 1) := by decide +kernel
theorem dL_law_46 : decode cL_law 46 = .ok (.istore_n 2, 1) := by decide +kernel
theorem dL_law_47 : decode cL_law 47 = .ok (.iload_n 2, 1) := by decide +kernel
theorem dL_law_48 : decode cL_law 48 = .ok (.bipush 60, 2) := by decide +kernel
theorem dL_law_50 : decode cL_law 50 = .ok (.if_icmp .ge 26, 3) := by decide +kernel
theorem dL_law_53 : decode cL_law 53 = .ok (.aload_n 1, 1) := by decide +kernel
theorem dL_law_54 : decode cL_law 54 = .ok (.bipush 65, 2) := by decide +kernel
theorem dL_law_56 : decode cL_law 56 = .ok (.iload_n 2, 1) := by decide +kernel
theorem dL_law_57 : decode cL_law 57 = .ok (.iadd, 1) := by decide +kernel
theorem dL_law_58 : decode cL_law 58 = .ok (.i2c, 1) := by decide +kernel
theorem dL_law_59 : decode cL_law 59 = .ok (.invokestatic 141, 3) := by decide +kernel
theorem dL_law_62 : decode cL_law 62 = .ok (.iload_n 2, 1) := by decide +kernel
theorem dL_law_63 : decode cL_law 63 = .ok (.iconst 1, 1) := by decide +kernel
theorem dL_law_64 : decode cL_law 64 = .ok (.iadd, 1) := by decide +kernel
theorem dL_law_65 : decode cL_law 65 = .ok (.if_icmp .eq 5, 3) := by decide +kernel
theorem dL_law_68 : decode cL_law 68 = .ok (.iconst 0, 1) := by decide +kernel
theorem dL_law_69 : decode cL_law 69 = .ok (.ireturn, 1) := by decide +kernel
theorem dL_law_70 : decode cL_law 70 = .ok (.iinc 2 1, 3) := by decide +kernel
theorem dL_law_73 : decode cL_law 73 = .ok (.goto (-26), 3) := by decide +kernel
theorem dL_law_76 : decode cL_law 76 = .ok (.aload_n 1, 1) := by decide +kernel
theorem dL_law_77 : decode cL_law 77 = .ok (.bipush 116, 2) := by decide +kernel
theorem dL_law_79 : decode cL_law 79 = .ok (.invokestatic 141, 3) := by decide +kernel
theorem dL_law_82 : decode cL_law 82 = .ok (.sipush (-1001), 3) := by decide +kernel
theorem dL_law_85 : decode cL_law 85 = .ok (.if_icmp .ne 40, 3) := by decide +kernel
theorem dL_law_88 : decode cL_law 88 = .ok (.aload_n 1, 1) := by decide +kernel
theorem dL_law_89 : decode cL_law 89 = .ok (.bipush 10, 2) := by decide +kernel
theorem dL_law_91 : decode cL_law 91 = .ok (.invokestatic 194, 3) := by decide +kernel
theorem dL_law_94 : decode cL_law 94 = .ok (.bipush 60, 2) := by decide +kernel
theorem dL_law_96 : decode cL_law 96 = .ok (.if_icmp .ne 29, 3) := by decide +kernel
theorem dL_law_99 : decode cL_law 99 = .ok (.aload_n 1, 1) := by decide +kernel
theorem dL_law_100 : decode cL_law 100 = .ok (.invokestatic 146, 3) := by decide +kernel
theorem dL_law_103 : decode cL_law 103 = .ok (.sipush (-1001), 3) := by decide +kernel
theorem dL_law_106 : decode cL_law 106 = .ok (.if_icmp .ne 19, 3) := by decide +kernel
theorem dL_law_109 : decode cL_law 109 = .ok (.aload_n 1, 1) := by decide +kernel
theorem dL_law_110 : decode cL_law 110 = .ok (.invokevirtual 281, 3) := by decide +kernel
theorem dL_law_113 : decode cL_law 113 = .ok (.ifCond .ne 12, 3) := by decide +kernel
theorem dL_law_116 : decode cL_law 116 = .ok (.aload_n 1, 1) := by decide +kernel
theorem dL_law_117 : decode cL_law 117 = .ok (.bipush 10, 2) := by decide +kernel
theorem dL_law_119 : decode cL_law 119 = .ok (.invokestatic 194, 3) := by decide +kernel
theorem dL_law_122 : decode cL_law 122 = .ok (.ifCond .eq 5, 3) := by decide +kernel
theorem dL_law_125 : decode cL_law 125 = .ok (.iconst 0, 1) := by decide +kernel
theorem dL_law_126 : decode cL_law 126 = .ok (.ireturn, 1) := by decide +kernel
theorem dL_law_127 : decode cL_law 127 = .ok (.iconst 0, 1) := by decide +kernel
theorem dL_law_128 : decode cL_law 128 = .ok (.istore_n 2, 1) := by decide +kernel
theorem dL_law_129 : decode cL_law 129 = .ok (.iload_n 2, 1) := by decide +kernel
theorem dL_law_130 : decode cL_law 130 = .ok (.bipush 6, 2) := by decide +kernel
theorem dL_law_132 : decode cL_law 132 = .ok (.if_icmp .ge 19, 3) := by decide +kernel
theorem dL_law_135 : decode cL_law 135 = .ok (.aload_n 1, 1) := by decide +kernel
theorem dL_law_136 : decode cL_law 136 = .ok (.invokestatic 164, 3) := by decide +kernel
theorem dL_law_139 : decode cL_law 139 = .ok (.iload_n 2, 1) := by decide +kernel
theorem dL_law_140 : decode cL_law 140 = .ok (.if_icmp .eq 5, 3) := by decide +kernel
theorem dL_law_143 : decode cL_law 143 = .ok (.iconst 0, 1) := by decide +kernel
theorem dL_law_144 : decode cL_law 144 = .ok (.ireturn, 1) := by decide +kernel
theorem dL_law_145 : decode cL_law 145 = .ok (.iinc 2 1, 3) := by decide +kernel
theorem dL_law_148 : decode cL_law 148 = .ok (.goto (-19), 3) := by decide +kernel
theorem dL_law_151 : decode cL_law 151 = .ok (.aload_n 1, 1) := by decide +kernel
theorem dL_law_152 : decode cL_law 152 = .ok (.invokestatic 164, 3) := by decide +kernel
theorem dL_law_155 : decode cL_law 155 = .ok (.sipush (-1001), 3) := by decide +kernel
theorem dL_law_158 : decode cL_law 158 = .ok (.if_icmp .ne 24, 3) := by decide +kernel
theorem dL_law_161 : decode cL_law 161 = .ok (.aload_n 1, 1) := by decide +kernel
theorem dL_law_162 : decode cL_law 162 = .ok (.iconst 2, 1) := by decide +kernel
theorem dL_law_163 : decode cL_law 163 = .ok (.bipush 6, 2) := by decide +kernel
theorem dL_law_165 : decode cL_law 165 = .ok (.invokestatic 267, 3) := by decide +kernel
theorem dL_law_168 : decode cL_law 168 = .ok (.ifCond .eq 14, 3) := by decide +kernel
theorem dL_law_171 : decode cL_law 171 = .ok (.aload_n 1, 1) := by decide +kernel
theorem dL_law_172 : decode cL_law 172 = .ok (.bipush 9, 2) := by decide +kernel
theorem dL_law_174 : decode cL_law 174 = .ok (.invokestatic 194, 3) := by decide +kernel
theorem dL_law_177 : decode cL_law 177 = .ok (.bipush 7, 2) := by decide +kernel
theorem dL_law_179 : decode cL_law 179 = .ok (.if_icmp .eq 5, 3) := by decide +kernel
theorem dL_law_182 : decode cL_law 182 = .ok (.iconst 0, 1) := by decide +kernel
theorem dL_law_183 : decode cL_law 183 = .ok (.ireturn, 1) := by decide +kernel
theorem dL_law_184 : decode cL_law 184 = .ok (.iconst 0, 1) := by decide +kernel
theorem dL_law_185 : decode cL_law 185 = .ok (.istore_n 2, 1) := by decide +kernel
theorem dL_law_186 : decode cL_law 186 = .ok (.iload_n 2, 1) := by decide +kernel
theorem dL_law_187 : decode cL_law 187 = .ok (.bipush 6, 2) := by decide +kernel
theorem dL_law_189 : decode cL_law 189 = .ok (.if_icmp .ge 28, 3) := by decide +kernel
theorem dL_law_192 : decode cL_law 192 = .ok (.aload_n 1, 1) := by decide +kernel
theorem dL_law_193 : decode cL_law 193 = .ok (.iload_n 2, 1) := by decide +kernel
theorem dL_law_194 : decode cL_law 194 = .ok (.iload_n 2, 1) := by decide +kernel
theorem dL_law_195 : decode cL_law 195 = .ok (.iconst 1, 1) := by decide +kernel
theorem dL_law_196 : decode cL_law 196 = .ok (.iadd, 1) := by decide +kernel
theorem dL_law_197 : decode cL_law 197 = .ok (.bipush 6, 2) := by decide +kernel
theorem dL_law_199 : decode cL_law 199 = .ok (.irem, 1) := by decide +kernel
theorem dL_law_200 : decode cL_law 200 = .ok (.iconst 1, 1) := by decide +kernel
theorem dL_law_201 : decode cL_law 201 = .ok (.iload_n 2, 1) := by decide +kernel
theorem dL_law_202 : decode cL_law 202 = .ok (.iadd, 1) := by decide +kernel
theorem dL_law_203 : decode cL_law 203 = .ok (.invokestatic 166, 3) := by decide +kernel
theorem dL_law_206 : decode cL_law 206 = .ok (.ifCond .eq 5, 3) := by decide +kernel
theorem dL_law_209 : decode cL_law 209 = .ok (.iconst 0, 1) := by decide +kernel
theorem dL_law_210 : decode cL_law 210 = .ok (.ireturn, 1) := by decide +kernel
theorem dL_law_211 : decode cL_law 211 = .ok (.iinc 2 1, 3) := by decide +kernel
theorem dL_law_214 : decode cL_law 214 = .ok (.goto (-28), 3) := by decide +kernel
theorem dL_law_217 : decode cL_law 217 = .ok (.aload_n 1, 1) := by decide +kernel
theorem dL_law_218 : decode cL_law 218 = .ok (.bipush 7, 2) := by decide +kernel
theorem dL_law_220 : decode cL_law 220 = .ok (.invokestatic 194, 3) := by decide +kernel
theorem dL_law_223 : decode cL_law 223 = .ok (.bipush 18, 2) := by decide +kernel
theorem dL_law_225 : decode cL_law 225 = .ok (.if_icmp .ne 33, 3) := by decide +kernel
theorem dL_law_228 : decode cL_law 228 = .ok (.aload_n 1, 1) := by decide +kernel
theorem dL_law_229 : decode cL_law 229 = .ok (.bipush 9, 2) := by decide +kernel
theorem dL_law_231 : decode cL_law 231 = .ok (.invokestatic 194, 3) := by decide +kernel
theorem dL_law_234 : decode cL_law 234 = .ok (.bipush 8, 2) := by decide +kernel
theorem dL_law_236 : decode cL_law 236 = .ok (.if_icmp .ne 22, 3) := by decide +kernel
theorem dL_law_239 : decode cL_law 239 = .ok (.aload_n 1, 1) := by decide +kernel
theorem dL_law_240 : decode cL_law 240 = .ok (.bipush 99, 2) := by decide +kernel
theorem dL_law_242 : decode cL_law 242 = .ok (.invokestatic 169, 3) := by decide +kernel
theorem dL_law_245 : decode cL_law 245 = .ok (.ifCond .lt 13, 3) := by decide +kernel
theorem dL_law_248 : decode cL_law 248 = .ok (.aload_n 1, 1) := by decide +kernel
theorem dL_law_249 : decode cL_law 249 = .ok (.iconst 0, 1) := by decide +kernel
theorem dL_law_250 : decode cL_law 250 = .ok (.invokestatic 194, 3) := by decide +kernel
theorem dL_law_253 : decode cL_law 253 = .ok (.bipush 104, 2) := by decide +kernel
theorem dL_law_255 : decode cL_law 255 = .ok (.if_icmp .eq 5, 3) := by decide +kernel
theorem dL_law_258 : decode cL_law 258 = .ok (.iconst 0, 1) := by decide +kernel
theorem dL_law_259 : decode cL_law 259 = .ok (.ireturn, 1) := by decide +kernel
theorem dL_law_260 : decode cL_law 260 = .ok (.aload_n 1, 1) := by decide +kernel
theorem dL_law_261 : decode cL_law 261 = .ok (.iconst 0, 1) := by decide +kernel
theorem dL_law_262 : decode cL_law 262 = .ok (.invokestatic 194, 3) := by decide +kernel
theorem dL_law_265 : decode cL_law 265 = .ok (.istore_n 2, 1) := by decide +kernel
theorem dL_law_266 : decode cL_law 266 = .ok (.aload_n 1, 1) := by decide +kernel
theorem dL_law_267 : decode cL_law 267 = .ok (.invokestatic 293, 3) := by decide +kernel
theorem dL_law_270 : decode cL_law 270 = .ok (.bipush 7, 2) := by decide +kernel
theorem dL_law_272 : decode cL_law 272 = .ok (.if_icmp .ne 110, 3) := by decide +kernel
theorem dL_law_275 : decode cL_law 275 = .ok (.aload_n 1, 1) := by decide +kernel
theorem dL_law_276 : decode cL_law 276 = .ok (.iconst 0, 1) := by decide +kernel
theorem dL_law_277 : decode cL_law 277 = .ok (.invokestatic 194, 3) := by decide +kernel
theorem dL_law_280 : decode cL_law 280 = .ok (.iconst 5, 1) := by decide +kernel
theorem dL_law_281 : decode cL_law 281 = .ok (.if_icmp .ne 101, 3) := by decide +kernel
theorem dL_law_284 : decode cL_law 284 = .ok (.iload_n 2, 1) := by decide +kernel
theorem dL_law_285 : decode cL_law 285 = .ok (.bipush 104, 2) := by decide +kernel
theorem dL_law_287 : decode cL_law 287 = .ok (.if_icmp .ne 95, 3) := by decide +kernel
theorem dL_law_290 : decode cL_law 290 = .ok (.aload_n 1, 1) := by decide +kernel
theorem dL_law_291 : decode cL_law 291 = .ok (.invokestatic 293, 3) := by decide +kernel
theorem dL_law_294 : decode cL_law 294 = .ok (.bipush 6, 2) := by decide +kernel
theorem dL_law_296 : decode cL_law 296 = .ok (.if_icmp .ne 86, 3) := by decide +kernel
theorem dL_law_299 : decode cL_law 299 = .ok (.aload_n 1, 1) := by decide +kernel
theorem dL_law_300 : decode cL_law 300 = .ok (.iconst 2, 1) := by decide +kernel
theorem dL_law_301 : decode cL_law 301 = .ok (.invokestatic 194, 3) := by decide +kernel
theorem dL_law_304 : decode cL_law 304 = .ok (.iconst 5, 1) := by decide +kernel
theorem dL_law_305 : decode cL_law 305 = .ok (.if_icmp .ne 77, 3) := by decide +kernel
theorem dL_law_308 : decode cL_law 308 = .ok (.aload_n 1, 1) := by decide +kernel
theorem dL_law_309 : decode cL_law 309 = .ok (.invokestatic 293, 3) := by decide +kernel
theorem dL_law_312 : decode cL_law 312 = .ok (.iconst 5, 1) := by decide +kernel
theorem dL_law_313 : decode cL_law 313 = .ok (.if_icmp .ne 69, 3) := by decide +kernel
theorem dL_law_316 : decode cL_law 316 = .ok (.aload_n 1, 1) := by decide +kernel
theorem dL_law_317 : decode cL_law 317 = .ok (.invokestatic 293, 3) := by decide +kernel
theorem dL_law_320 : decode cL_law 320 = .ok (.iconst 4, 1) := by decide +kernel
theorem dL_law_321 : decode cL_law 321 = .ok (.if_icmp .ne 61, 3) := by decide +kernel
theorem dL_law_324 : decode cL_law 324 = .ok (.aload_n 1, 1) := by decide +kernel
theorem dL_law_325 : decode cL_law 325 = .ok (.invokestatic 293, 3) := by decide +kernel
theorem dL_law_328 : decode cL_law 328 = .ok (.iconst 3, 1) := by decide +kernel
theorem dL_law_329 : decode cL_law 329 = .ok (.if_icmp .ne 53, 3) := by decide +kernel
theorem dL_law_332 : decode cL_law 332 = .ok (.aload_n 1, 1) := by decide +kernel
theorem dL_law_333 : decode cL_law 333 = .ok (.invokestatic 293, 3) := by decide +kernel
theorem dL_law_336 : decode cL_law 336 = .ok (.iconst 2, 1) := by decide +kernel
theorem dL_law_337 : decode cL_law 337 = .ok (.if_icmp .ne 45, 3) := by decide +kernel
theorem dL_law_340 : decode cL_law 340 = .ok (.aload_n 1, 1) := by decide +kernel
theorem dL_law_341 : decode cL_law 341 = .ok (.invokestatic 293, 3) := by decide +kernel
theorem dL_law_344 : decode cL_law 344 = .ok (.iconst 1, 1) := by decide +kernel
theorem dL_law_345 : decode cL_law 345 = .ok (.if_icmp .ne 37, 3) := by decide +kernel
theorem dL_law_348 : decode cL_law 348 = .ok (.aload_n 1, 1) := by decide +kernel
theorem dL_law_349 : decode cL_law 349 = .ok (.iconst 2, 1) := by decide +kernel
theorem dL_law_350 : decode cL_law 350 = .ok (.invokestatic 194, 3) := by decide +kernel
theorem dL_law_353 : decode cL_law 353 = .ok (.ifCond .ne 29, 3) := by decide +kernel
theorem dL_law_356 : decode cL_law 356 = .ok (.aload_n 1, 1) := by decide +kernel
theorem dL_law_357 : decode cL_law 357 = .ok (.invokestatic 293, 3) := by decide +kernel
theorem dL_law_360 : decode cL_law 360 = .ok (.ifCond .ne 22, 3) := by decide +kernel
theorem dL_law_363 : decode cL_law 363 = .ok (.aload_n 1, 1) := by decide +kernel
theorem dL_law_364 : decode cL_law 364 = .ok (.iconst 1, 1) := by decide +kernel
theorem dL_law_365 : decode cL_law 365 = .ok (.invokestatic 194, 3) := by decide +kernel
theorem dL_law_368 : decode cL_law 368 = .ok (.iconst 5, 1) := by decide +kernel
theorem dL_law_369 : decode cL_law 369 = .ok (.if_icmp .ne 13, 3) := by decide +kernel
theorem dL_law_372 : decode cL_law 372 = .ok (.aload_n 1, 1) := by decide +kernel
theorem dL_law_373 : decode cL_law 373 = .ok (.invokestatic 293, 3) := by decide +kernel
theorem dL_law_376 : decode cL_law 376 = .ok (.sipush (-1001), 3) := by decide +kernel
theorem dL_law_379 : decode cL_law 379 = .ok (.if_icmp .eq 5, 3) := by decide +kernel
theorem dL_law_382 : decode cL_law 382 = .ok (.iconst 0, 1) := by decide +kernel
theorem dL_law_383 : decode cL_law 383 = .ok (.ireturn, 1) := by decide +kernel
theorem dL_law_384 : decode cL_law 384 = .ok (.aload_n 1, 1) := by decide +kernel
theorem dL_law_385 : decode cL_law 385 = .ok (.invokestatic 295, 3) := by decide +kernel
theorem dL_law_388 : decode cL_law 388 = .ok (.ifCond .ne 29, 3) := by decide +kernel
theorem dL_law_391 : decode cL_law 391 = .ok (.aload_n 1, 1) := by decide +kernel
theorem dL_law_392 : decode cL_law 392 = .ok (.iconst 1, 1) := by decide +kernel
theorem dL_law_393 : decode cL_law 393 = .ok (.invokestatic 194, 3) := by decide +kernel
theorem dL_law_396 : decode cL_law 396 = .ok (.ifCond .ne 21, 3) := by decide +kernel
theorem dL_law_399 : decode cL_law 399 = .ok (.aload_n 1, 1) := by decide +kernel
theorem dL_law_400 : decode cL_law 400 = .ok (.iconst 0, 1) := by decide +kernel
theorem dL_law_401 : decode cL_law 401 = .ok (.invokestatic 194, 3) := by decide +kernel
theorem dL_law_404 : decode cL_law 404 = .ok (.ifCond .ne 13, 3) := by decide +kernel
theorem dL_law_407 : decode cL_law 407 = .ok (.aload_n 1, 1) := by decide +kernel
theorem dL_law_408 : decode cL_law 408 = .ok (.invokestatic 293, 3) := by decide +kernel
theorem dL_law_411 : decode cL_law 411 = .ok (.sipush (-1001), 3) := by decide +kernel
theorem dL_law_414 : decode cL_law 414 = .ok (.if_icmp .eq 5, 3) := by decide +kernel
theorem dL_law_417 : decode cL_law 417 = .ok (.iconst 0, 1) := by decide +kernel
theorem dL_law_418 : decode cL_law 418 = .ok (.ireturn, 1) := by decide +kernel
theorem dL_law_419 : decode cL_law 419 = .ok (.new 8, 3) := by decide +kernel
theorem dL_law_422 : decode cL_law 422 = .ok (.dup, 1) := by decide +kernel
theorem dL_law_423 : decode cL_law 423 = .ok (.invokespecial 292, 3) := by decide +kernel
theorem dL_law_426 : decode cL_law 426 = .ok (.astore_n 3, 1) := by decide +kernel
theorem dL_law_427 : decode cL_law 427 = .ok (.aload_n 3, 1) := by decide +kernel
theorem dL_law_428 : decode cL_law 428 = .ok (.aload_n 0, 1) := by decide +kernel
theorem dL_law_429 : decode cL_law 429 = .ok (.invokestatic 300, 3) := by decide +kernel
theorem dL_law_432 : decode cL_law 432 = .ok (.ifCond .ne 5, 3) := by decide +kernel
theorem dL_law_435 : decode cL_law 435 = .ok (.iconst 0, 1) := by decide +kernel
theorem dL_law_436 : decode cL_law 436 = .ok (.ireturn, 1) := by decide +kernel
theorem dL_law_437 : decode cL_law 437 = .ok (.aload_n 3, 1) := by decide +kernel
theorem dL_law_438 : decode cL_law 438 = .ok (.invokestatic 271, 3) := by decide +kernel
theorem dL_law_441 : decode cL_law 441 = .ok (.lstore 4, 2) := by decide +kernel
theorem dL_law_443 : decode cL_law 443 = .ok (.aload_n 3, 1) := by decide +kernel
theorem dL_law_444 : decode cL_law 444 = .ok (.invokestatic 271, 3) := by decide +kernel
theorem dL_law_447 : decode cL_law 447 = .ok (.lload 4, 2) := by decide +kernel
theorem dL_law_449 : decode cL_law 449 = .ok (.lcmp, 1) := by decide +kernel
theorem dL_law_450 : decode cL_law 450 = .ok (.ifCond .ne 10, 3) := by decide +kernel
theorem dL_law_453 : decode cL_law 453 = .ok (.aload_n 3, 1) := by decide +kernel
theorem dL_law_454 : decode cL_law 454 = .ok (.invokestatic 304, 3) := by decide +kernel
theorem dL_law_457 : decode cL_law 457 = .ok (.ifCond .ne 5, 3) := by decide +kernel
theorem dL_law_460 : decode cL_law 460 = .ok (.iconst 0, 1) := by decide +kernel
theorem dL_law_461 : decode cL_law 461 = .ok (.ireturn, 1) := by decide +kernel
theorem dL_law_462 : decode cL_law 462 = .ok (.aload_n 3, 1) := by decide +kernel
theorem dL_law_463 : decode cL_law 463 = .ok (.invokevirtual 297, 3) := by decide +kernel
theorem dL_law_466 : decode cL_law 466 = .ok (.istore 6, 2) := by decide +kernel
theorem dL_law_468 : decode cL_law 468 = .ok (.iload 6, 2) := by decide +kernel
theorem dL_law_470 : decode cL_law 470 = .ok (.aload_n 3, 1) := by decide +kernel
theorem dL_law_471 : decode cL_law 471 = .ok (.iconst 1, 1) := by decide +kernel
theorem dL_law_472 : decode cL_law 472 = .ok (.invokestatic 194, 3) := by decide +kernel
theorem dL_law_475 : decode cL_law 475 = .ok (.if_icmp .ne 13, 3) := by decide +kernel
theorem dL_law_478 : decode cL_law 478 = .ok (.aload_n 3, 1) := by decide +kernel
theorem dL_law_479 : decode cL_law 479 = .ok (.invokestatic 271, 3) := by decide +kernel
theorem dL_law_482 : decode cL_law 482 = .ok (.lload 4, 2) := by decide +kernel
theorem dL_law_484 : decode cL_law 484 = .ok (.lcmp, 1) := by decide +kernel
theorem dL_law_485 : decode cL_law 485 = .ok (.ifCond .eq 5, 3) := by decide +kernel
theorem dL_law_488 : decode cL_law 488 = .ok (.iconst 0, 1) := by decide +kernel
theorem dL_law_489 : decode cL_law 489 = .ok (.ireturn, 1) := by decide +kernel
theorem dL_law_490 : decode cL_law 490 = .ok (.bipush 11, 2) := by decide +kernel
theorem dL_law_492 : decode cL_law 492 = .ok (.newarray .long, 2) := by decide +kernel
theorem dL_law_494 : decode cL_law 494 = .ok (.astore 7, 2) := by decide +kernel
theorem dL_law_496 : decode cL_law 496 = .ok (.iconst 0, 1) := by decide +kernel
theorem dL_law_497 : decode cL_law 497 = .ok (.istore 8, 2) := by decide +kernel
theorem dL_law_499 : decode cL_law 499 = .ok (.iconst 0, 1) := by decide +kernel
theorem dL_law_500 : decode cL_law 500 = .ok (.istore 9, 2) := by decide +kernel
theorem dL_law_502 : decode cL_law 502 = .ok (.iload 9, 2) := by decide +kernel
theorem dL_law_504 : decode cL_law 504 = .ok (.bipush 10, 2) := by decide +kernel
theorem dL_law_506 : decode cL_law 506 = .ok (.if_icmp .ge 63, 3) := by decide +kernel
theorem dL_law_509 : decode cL_law 509 = .ok (.aload_n 3, 1) := by decide +kernel
theorem dL_law_510 : decode cL_law 510 = .ok (.invokestatic 271, 3) := by decide +kernel
theorem dL_law_513 : decode cL_law 513 = .ok (.lstore 10, 2) := by decide +kernel
theorem dL_law_515 : decode cL_law 515 = .ok (.aload_n 3, 1) := by decide +kernel
theorem dL_law_516 : decode cL_law 516 = .ok (.aload_n 0, 1) := by decide +kernel
theorem dL_law_517 : decode cL_law 517 = .ok (.bipush 20, 2) := by decide +kernel
theorem dL_law_519 : decode cL_law 519 = .ok (.iload 9, 2) := by decide +kernel
theorem dL_law_521 : decode cL_law 521 = .ok (.iadd, 1) := by decide +kernel
theorem dL_law_522 : decode cL_law 522 = .ok (.invokestatic 157, 3) := by decide +kernel
theorem dL_law_525 : decode cL_law 525 = .ok (.iload 9, 2) := by decide +kernel
theorem dL_law_527 : decode cL_law 527 = .ok (.sipush 977, 3) := by decide +kernel
theorem dL_law_530 : decode cL_law 530 = .ok (.imul, 1) := by decide +kernel
theorem dL_law_531 : decode cL_law 531 = .ok (.ixor, 1) := by decide +kernel
theorem dL_law_532 : decode cL_law 532 = .ok (.invokestatic 308, 3) := by decide +kernel
theorem dL_law_535 : decode cL_law 535 = .ok (.ifCond .eq 16, 3) := by decide +kernel
theorem dL_law_538 : decode cL_law 538 = .ok (.aload 7, 2) := by decide +kernel
theorem dL_law_540 : decode cL_law 540 = .ok (.iload 8, 2) := by decide +kernel
theorem dL_law_542 : decode cL_law 542 = .ok (.iinc 8 1, 3) := by decide +kernel
theorem dL_law_545 : decode cL_law 545 = .ok (.lload 10, 2) := by decide +kernel
theorem dL_law_547 : decode cL_law 547 = .ok (.lastore, 1) := by decide +kernel
theorem dL_law_548 : decode cL_law 548 = .ok (.goto 15, 3) := by decide +kernel
theorem dL_law_551 : decode cL_law 551 = .ok (.aload_n 3, 1) := by decide +kernel
theorem dL_law_552 : decode cL_law 552 = .ok (.invokestatic 271, 3) := by decide +kernel
theorem dL_law_555 : decode cL_law 555 = .ok (.lload 10, 2) := by decide +kernel
theorem dL_law_557 : decode cL_law 557 = .ok (.lcmp, 1) := by decide +kernel
theorem dL_law_558 : decode cL_law 558 = .ok (.ifCond .eq 5, 3) := by decide +kernel
theorem dL_law_561 : decode cL_law 561 = .ok (.iconst 0, 1) := by decide +kernel
theorem dL_law_562 : decode cL_law 562 = .ok (.ireturn, 1) := by decide +kernel
theorem dL_law_563 : decode cL_law 563 = .ok (.iinc 9 1, 3) := by decide +kernel
theorem dL_law_566 : decode cL_law 566 = .ok (.goto (-64), 3) := by decide +kernel
theorem dL_law_569 : decode cL_law 569 = .ok (.bipush 8, 2) := by decide +kernel
theorem dL_law_571 : decode cL_law 571 = .ok (.iload 8, 2) := by decide +kernel
theorem dL_law_573 : decode cL_law 573 = .ok (.invokestatic 221, 3) := by decide +kernel
theorem dL_law_576 : decode cL_law 576 = .ok (.istore 9, 2) := by decide +kernel
theorem dL_law_578 : decode cL_law 578 = .ok (.iconst 1, 1) := by decide +kernel
theorem dL_law_579 : decode cL_law 579 = .ok (.istore 10, 2) := by decide +kernel
theorem dL_law_581 : decode cL_law 581 = .ok (.iload 10, 2) := by decide +kernel
theorem dL_law_583 : decode cL_law 583 = .ok (.iload 9, 2) := by decide +kernel
theorem dL_law_585 : decode cL_law 585 = .ok (.if_icmp .gt 53, 3) := by decide +kernel
theorem dL_law_588 : decode cL_law 588 = .ok (.aload_n 3, 1) := by decide +kernel
theorem dL_law_589 : decode cL_law 589 = .ok (.invokestatic 293, 3) := by decide +kernel
theorem dL_law_592 : decode cL_law 592 = .ok (.istore 11, 2) := by decide +kernel
theorem dL_law_594 : decode cL_law 594 = .ok (.iload 11, 2) := by decide +kernel
theorem dL_law_596 : decode cL_law 596 = .ok (.iload 9, 2) := by decide +kernel
theorem dL_law_598 : decode cL_law 598 = .ok (.iload 10, 2) := by decide +kernel
theorem dL_law_600 : decode cL_law 600 = .ok (.isub, 1) := by decide +kernel
theorem dL_law_601 : decode cL_law 601 = .ok (.if_icmp .lt 29, 3) := by decide +kernel
theorem dL_law_604 : decode cL_law 604 = .ok (.iload 11, 2) := by decide +kernel
theorem dL_law_606 : decode cL_law 606 = .ok (.bipush 8, 2) := by decide +kernel
theorem dL_law_608 : decode cL_law 608 = .ok (.iload 10, 2) := by decide +kernel
theorem dL_law_610 : decode cL_law 610 = .ok (.isub, 1) := by decide +kernel
theorem dL_law_611 : decode cL_law 611 = .ok (.if_icmp .gt 19, 3) := by decide +kernel
theorem dL_law_614 : decode cL_law 614 = .ok (.aload_n 3, 1) := by decide +kernel
theorem dL_law_615 : decode cL_law 615 = .ok (.invokestatic 271, 3) := by decide +kernel
theorem dL_law_618 : decode cL_law 618 = .ok (.aload 7, 2) := by decide +kernel
theorem dL_law_620 : decode cL_law 620 = .ok (.iload 8, 2) := by decide +kernel
theorem dL_law_622 : decode cL_law 622 = .ok (.iload 10, 2) := by decide +kernel
theorem dL_law_624 : decode cL_law 624 = .ok (.isub, 1) := by decide +kernel
theorem dL_law_625 : decode cL_law 625 = .ok (.laload, 1) := by decide +kernel
theorem dL_law_626 : decode cL_law 626 = .ok (.lcmp, 1) := by decide +kernel
theorem dL_law_627 : decode cL_law 627 = .ok (.ifCond .eq 5, 3) := by decide +kernel
theorem dL_law_630 : decode cL_law 630 = .ok (.iconst 0, 1) := by decide +kernel
theorem dL_law_631 : decode cL_law 631 = .ok (.ireturn, 1) := by decide +kernel
theorem dL_law_632 : decode cL_law 632 = .ok (.iinc 10 1, 3) := by decide +kernel
theorem dL_law_635 : decode cL_law 635 = .ok (.goto (-54), 3) := by decide +kernel
theorem dL_law_638 : decode cL_law 638 = .ok (.aload_n 3, 1) := by decide +kernel
theorem dL_law_639 : decode cL_law 639 = .ok (.invokestatic 295, 3) := by decide +kernel
theorem dL_law_642 : decode cL_law 642 = .ok (.iload 6, 2) := by decide +kernel
theorem dL_law_644 : decode cL_law 644 = .ok (.if_icmp .ne 46, 3) := by decide +kernel
theorem dL_law_647 : decode cL_law 647 = .ok (.aload_n 3, 1) := by decide +kernel
theorem dL_law_648 : decode cL_law 648 = .ok (.invokestatic 293, 3) := by decide +kernel
theorem dL_law_651 : decode cL_law 651 = .ok (.sipush (-1001), 3) := by decide +kernel
theorem dL_law_654 : decode cL_law 654 = .ok (.if_icmp .ne 36, 3) := by decide +kernel
theorem dL_law_657 : decode cL_law 657 = .ok (.aload_n 3, 1) := by decide +kernel
theorem dL_law_658 : decode cL_law 658 = .ok (.invokestatic 271, 3) := by decide +kernel
theorem dL_law_661 : decode cL_law 661 = .ok (.lload 4, 2) := by decide +kernel
theorem dL_law_663 : decode cL_law 663 = .ok (.lcmp, 1) := by decide +kernel
theorem dL_law_664 : decode cL_law 664 = .ok (.ifCond .ne 26, 3) := by decide +kernel
theorem dL_law_667 : decode cL_law 667 = .ok (.aload_n 3, 1) := by decide +kernel
theorem dL_law_668 : decode cL_law 668 = .ok (.invokestatic 295, 3) := by decide +kernel
theorem dL_law_671 : decode cL_law 671 = .ok (.iload 6, 2) := by decide +kernel
theorem dL_law_673 : decode cL_law 673 = .ok (.if_icmp .ne 17, 3) := by decide +kernel
theorem dL_law_676 : decode cL_law 676 = .ok (.aload_n 3, 1) := by decide +kernel
theorem dL_law_677 : decode cL_law 677 = .ok (.invokestatic 271, 3) := by decide +kernel
theorem dL_law_680 : decode cL_law 680 = .ok (.lload 4, 2) := by decide +kernel
theorem dL_law_682 : decode cL_law 682 = .ok (.lcmp, 1) := by decide +kernel
theorem dL_law_683 : decode cL_law 683 = .ok (.ifCond .ne 7, 3) := by decide +kernel
theorem dL_law_686 : decode cL_law 686 = .ok (.iconst 1, 1) := by decide +kernel
theorem dL_law_687 : decode cL_law 687 = .ok (.goto 4, 3) := by decide +kernel
theorem dL_law_690 : decode cL_law 690 = .ok (.iconst 0, 1) := by decide +kernel
theorem dL_law_691 : decode cL_law 691 = .ok (.ireturn, 1) := by decide +kernel
