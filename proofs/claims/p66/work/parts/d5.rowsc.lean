/-! what the bytes of the law say -/
theorem dL_law_538 : decode cL_law 538 = .ok (.iconst 4, 1) := by decide +kernel
theorem dL_law_539 : decode cL_law 539 = .ok (.invokevirtual 241, 3) := by decide +kernel
theorem dL_law_542 : decode cL_law 542 = .ok (.ldc2_w 268, 3) := by decide +kernel
theorem dL_law_545 : decode cL_law 545 = .ok (.lcmp, 1) := by decide +kernel
theorem dL_law_546 : decode cL_law 546 = .ok (.ifCond .ne 164, 3) := by decide +kernel
theorem dL_law_549 : decode cL_law 549 = .ok (.aload 6, 2) := by decide +kernel
theorem dL_law_551 : decode cL_law 551 = .ok (.iconst 5, 1) := by decide +kernel
theorem dL_law_552 : decode cL_law 552 = .ok (.invokevirtual 241, 3) := by decide +kernel
theorem dL_law_555 : decode cL_law 555 = .ok (.ldc2_w 270, 3) := by decide +kernel
theorem dL_law_558 : decode cL_law 558 = .ok (.lcmp, 1) := by decide +kernel
theorem dL_law_559 : decode cL_law 559 = .ok (.ifCond .ne 151, 3) := by decide +kernel
theorem dL_law_562 : decode cL_law 562 = .ok (.aload 6, 2) := by decide +kernel
theorem dL_law_564 : decode cL_law 564 = .ok (.invokevirtual 257, 3) := by decide +kernel
theorem dL_law_567 : decode cL_law 567 = .ok (.ldc2_w 272, 3) := by decide +kernel
theorem dL_law_570 : decode cL_law 570 = .ok (.lcmp, 1) := by decide +kernel
theorem dL_law_571 : decode cL_law 571 = .ok (.ifCond .ne 139, 3) := by decide +kernel
theorem dL_law_574 : decode cL_law 574 = .ok (.aload 6, 2) := by decide +kernel
theorem dL_law_576 : decode cL_law 576 = .ok (.invokevirtual 246, 3) := by decide +kernel
theorem dL_law_579 : decode cL_law 579 = .ok (.ldc2_w 274, 3) := by decide +kernel
theorem dL_law_582 : decode cL_law 582 = .ok (.lcmp, 1) := by decide +kernel
theorem dL_law_583 : decode cL_law 583 = .ok (.ifCond .ne 127, 3) := by decide +kernel
theorem dL_law_586 : decode cL_law 586 = .ok (.aload 6, 2) := by decide +kernel
theorem dL_law_588 : decode cL_law 588 = .ok (.invokevirtual 276, 3) := by decide +kernel
theorem dL_law_591 : decode cL_law 591 = .ok (.ldc2_w 274, 3) := by decide +kernel
theorem dL_law_594 : decode cL_law 594 = .ok (.lcmp, 1) := by decide +kernel
theorem dL_law_595 : decode cL_law 595 = .ok (.ifCond .ne 115, 3) := by decide +kernel
theorem dL_law_598 : decode cL_law 598 = .ok (.aload 6, 2) := by decide +kernel
theorem dL_law_600 : decode cL_law 600 = .ok (.invokevirtual 42, 3) := by decide +kernel
theorem dL_law_603 : decode cL_law 603 = .ok (.bipush 8, 2) := by decide +kernel
theorem dL_law_605 : decode cL_law 605 = .ok (.if_icmp .ne 105, 3) := by decide +kernel
theorem dL_law_608 : decode cL_law 608 = .ok (.aload 6, 2) := by decide +kernel
theorem dL_law_610 : decode cL_law 610 = .ok (.iconst 2, 1) := by decide +kernel
theorem dL_law_611 : decode cL_law 611 = .ok (.invokevirtual 157, 3) := by decide +kernel
theorem dL_law_614 : decode cL_law 614 = .ok (.ldc2_w 279, 3) := by decide +kernel
theorem dL_law_617 : decode cL_law 617 = .ok (.lcmp, 1) := by decide +kernel
theorem dL_law_618 : decode cL_law 618 = .ok (.ifCond .ne 92, 3) := by decide +kernel
theorem dL_law_621 : decode cL_law 621 = .ok (.aload 6, 2) := by decide +kernel
theorem dL_law_623 : decode cL_law 623 = .ok (.iconst 3, 1) := by decide +kernel
theorem dL_law_624 : decode cL_law 624 = .ok (.invokevirtual 157, 3) := by decide +kernel
theorem dL_law_627 : decode cL_law 627 = .ok (.ldc2_w 270, 3) := by decide +kernel
theorem dL_law_630 : decode cL_law 630 = .ok (.lcmp, 1) := by decide +kernel
theorem dL_law_631 : decode cL_law 631 = .ok (.ifCond .ne 79, 3) := by decide +kernel
theorem dL_law_634 : decode cL_law 634 = .ok (.aload 6, 2) := by decide +kernel
theorem dL_law_636 : decode cL_law 636 = .ok (.invokevirtual 141, 3) := by decide +kernel
theorem dL_law_639 : decode cL_law 639 = .ok (.iconst 1, 1) := by decide +kernel
theorem dL_law_640 : decode cL_law 640 = .ok (.if_icmp .ne 70, 3) := by decide +kernel
theorem dL_law_643 : decode cL_law 643 = .ok (.aload 6, 2) := by decide +kernel
theorem dL_law_645 : decode cL_law 645 = .ok (.iconst 2, 1) := by decide +kernel
theorem dL_law_646 : decode cL_law 646 = .ok (.invokevirtual 103, 3) := by decide +kernel
theorem dL_law_649 : decode cL_law 649 = .ok (.bipush 60, 2) := by decide +kernel
theorem dL_law_651 : decode cL_law 651 = .ok (.if_icmp .ne 59, 3) := by decide +kernel
theorem dL_law_654 : decode cL_law 654 = .ok (.aload 6, 2) := by decide +kernel
theorem dL_law_656 : decode cL_law 656 = .ok (.iconst 2, 1) := by decide +kernel
theorem dL_law_657 : decode cL_law 657 = .ok (.invokevirtual 106, 3) := by decide +kernel
theorem dL_law_660 : decode cL_law 660 = .ok (.bipush 60, 2) := by decide +kernel
theorem dL_law_662 : decode cL_law 662 = .ok (.if_icmp .ne 48, 3) := by decide +kernel
theorem dL_law_665 : decode cL_law 665 = .ok (.aload 6, 2) := by decide +kernel
theorem dL_law_667 : decode cL_law 667 = .ok (.bipush 14, 2) := by decide +kernel
theorem dL_law_669 : decode cL_law 669 = .ok (.iconst 3, 1) := by decide +kernel
theorem dL_law_670 : decode cL_law 670 = .ok (.iconst 0, 1) := by decide +kernel
theorem dL_law_671 : decode cL_law 671 = .ok (.invokestatic 33, 3) := by decide +kernel
theorem dL_law_674 : decode cL_law 674 = .ok (.ldc 68, 2) := by decide +kernel
theorem dL_law_676 : decode cL_law 676 = .ok (.if_icmp .ne 34, 3) := by decide +kernel
theorem dL_law_679 : decode cL_law 679 = .ok (.aload 6, 2) := by decide +kernel
theorem dL_law_681 : decode cL_law 681 = .ok (.invokevirtual 281, 3) := by decide +kernel
theorem dL_law_684 : decode cL_law 684 = .ok (.ldc2_w 285, 3) := by decide +kernel
theorem dL_law_687 : decode cL_law 687 = .ok (.dcmp .l, 1) := by decide +kernel
theorem dL_law_688 : decode cL_law 688 = .ok (.ifCond .ne 22, 3) := by decide +kernel
theorem dL_law_691 : decode cL_law 691 = .ok (.aload 6, 2) := by decide +kernel
theorem dL_law_693 : decode cL_law 693 = .ok (.invokevirtual 172, 3) := by decide +kernel
theorem dL_law_696 : decode cL_law 696 = .ok (.iconst 2, 1) := by decide +kernel
theorem dL_law_697 : decode cL_law 697 = .ok (.if_icmp .ne 13, 3) := by decide +kernel
theorem dL_law_700 : decode cL_law 700 = .ok (.aload 6, 2) := by decide +kernel
theorem dL_law_702 : decode cL_law 702 = .ok (.invokevirtual 287, 3) := by decide +kernel
theorem dL_law_705 : decode cL_law 705 = .ok (.bipush 50, 2) := by decide +kernel
theorem dL_law_707 : decode cL_law 707 = .ok (.if_icmp .eq 5, 3) := by decide +kernel
theorem dL_law_710 : decode cL_law 710 = .ok (.iconst 0, 1) := by decide +kernel
theorem dL_law_711 : decode cL_law 711 = .ok (.ireturn, 1) := by decide +kernel
theorem dL_law_712 : decode cL_law 712 = .ok (.aload 6, 2) := by decide +kernel
theorem dL_law_714 : decode cL_law 714 = .ok (.bipush 50, 2) := by decide +kernel
theorem dL_law_716 : decode cL_law 716 = .ok (.invokevirtual 290, 3) := by decide +kernel
theorem dL_law_719 : decode cL_law 719 = .ok (.ifCond .eq 134, 3) := by decide +kernel
theorem dL_law_722 : decode cL_law 722 = .ok (.aload 6, 2) := by decide +kernel
theorem dL_law_724 : decode cL_law 724 = .ok (.bipush 50, 2) := by decide +kernel
theorem dL_law_726 : decode cL_law 726 = .ok (.invokevirtual 293, 3) := by decide +kernel
theorem dL_law_729 : decode cL_law 729 = .ok (.ifCond .eq 124, 3) := by decide +kernel
theorem dL_law_732 : decode cL_law 732 = .ok (.aload 6, 2) := by decide +kernel
theorem dL_law_734 : decode cL_law 734 = .ok (.bipush 50, 2) := by decide +kernel
theorem dL_law_736 : decode cL_law 736 = .ok (.invokevirtual 109, 3) := by decide +kernel
theorem dL_law_739 : decode cL_law 739 = .ok (.iconst 2, 1) := by decide +kernel
theorem dL_law_740 : decode cL_law 740 = .ok (.if_icmp .ne 113, 3) := by decide +kernel
theorem dL_law_743 : decode cL_law 743 = .ok (.aload 6, 2) := by decide +kernel
theorem dL_law_745 : decode cL_law 745 = .ok (.iconst 0, 1) := by decide +kernel
theorem dL_law_746 : decode cL_law 746 = .ok (.bipush 50, 2) := by decide +kernel
theorem dL_law_748 : decode cL_law 748 = .ok (.invokevirtual 112, 3) := by decide +kernel
theorem dL_law_751 : decode cL_law 751 = .ok (.ifCond .eq 102, 3) := by decide +kernel
theorem dL_law_754 : decode cL_law 754 = .ok (.aload 6, 2) := by decide +kernel
theorem dL_law_756 : decode cL_law 756 = .ok (.iconst 0, 1) := by decide +kernel
theorem dL_law_757 : decode cL_law 757 = .ok (.bipush 20, 2) := by decide +kernel
theorem dL_law_759 : decode cL_law 759 = .ok (.invokevirtual 112, 3) := by decide +kernel
theorem dL_law_762 : decode cL_law 762 = .ok (.ifCond .ne 91, 3) := by decide +kernel
theorem dL_law_765 : decode cL_law 765 = .ok (.aload 6, 2) := by decide +kernel
theorem dL_law_767 : decode cL_law 767 = .ok (.bipush 16, 2) := by decide +kernel
theorem dL_law_769 : decode cL_law 769 = .ok (.iconst 2, 1) := by decide +kernel
theorem dL_law_770 : decode cL_law 770 = .ok (.bipush 20, 2) := by decide +kernel
theorem dL_law_772 : decode cL_law 772 = .ok (.invokestatic 33, 3) := by decide +kernel
theorem dL_law_775 : decode cL_law 775 = .ok (.ldc 131, 2) := by decide +kernel
theorem dL_law_777 : decode cL_law 777 = .ok (.if_icmp .ne 76, 3) := by decide +kernel
theorem dL_law_780 : decode cL_law 780 = .ok (.aload 6, 2) := by decide +kernel
theorem dL_law_782 : decode cL_law 782 = .ok (.bipush 40, 2) := by decide +kernel
theorem dL_law_784 : decode cL_law 784 = .ok (.invokevirtual 290, 3) := by decide +kernel
theorem dL_law_787 : decode cL_law 787 = .ok (.ifCond .ne 66, 3) := by decide +kernel
theorem dL_law_790 : decode cL_law 790 = .ok (.aload 6, 2) := by decide +kernel
theorem dL_law_792 : decode cL_law 792 = .ok (.bipush 40, 2) := by decide +kernel
theorem dL_law_794 : decode cL_law 794 = .ok (.invokevirtual 94, 3) := by decide +kernel
theorem dL_law_797 : decode cL_law 797 = .ok (.iconst 1, 1) := by decide +kernel
theorem dL_law_798 : decode cL_law 798 = .ok (.if_icmp .ne 55, 3) := by decide +kernel
theorem dL_law_801 : decode cL_law 801 = .ok (.aload 6, 2) := by decide +kernel
theorem dL_law_803 : decode cL_law 803 = .ok (.iconst 1, 1) := by decide +kernel
theorem dL_law_804 : decode cL_law 804 = .ok (.invokevirtual 116, 3) := by decide +kernel
theorem dL_law_807 : decode cL_law 807 = .ok (.bipush 10, 2) := by decide +kernel
theorem dL_law_809 : decode cL_law 809 = .ok (.if_icmp .ne 44, 3) := by decide +kernel
theorem dL_law_812 : decode cL_law 812 = .ok (.aload 6, 2) := by decide +kernel
theorem dL_law_814 : decode cL_law 814 = .ok (.bipush 17, 2) := by decide +kernel
theorem dL_law_816 : decode cL_law 816 = .ok (.iconst 0, 1) := by decide +kernel
theorem dL_law_817 : decode cL_law 817 = .ok (.iconst 0, 1) := by decide +kernel
theorem dL_law_818 : decode cL_law 818 = .ok (.invokestatic 33, 3) := by decide +kernel
theorem dL_law_821 : decode cL_law 821 = .ok (.ldc 131, 2) := by decide +kernel
theorem dL_law_823 : decode cL_law 823 = .ok (.if_icmp .ne 30, 3) := by decide +kernel
theorem dL_law_826 : decode cL_law 826 = .ok (.aload 6, 2) := by decide +kernel
