/-! decode rows of the law's methods -/
theorem dL_copies_577 : decode cL_copies 577 = .ok (.invokevirtual 19, 3) := by decide +kernel
theorem dL_copies_580 : decode cL_copies 580 = .ok (.aload_n 2, 1) := by decide +kernel
theorem dL_copies_581 : decode cL_copies 581 = .ok (.iload 6, 2) := by decide +kernel
theorem dL_copies_583 : decode cL_copies 583 = .ok (.iaload, 1) := by decide +kernel
theorem dL_copies_584 : decode cL_copies 584 = .ok (.if_icmp .ne 41, 3) := by decide +kernel
theorem dL_copies_587 : decode cL_copies 587 = .ok (.aload_n 0, 1) := by decide +kernel
theorem dL_copies_588 : decode cL_copies 588 = .ok (.iload 6, 2) := by decide +kernel
theorem dL_copies_590 : decode cL_copies 590 = .ok (.bipush 9, 2) := by decide +kernel
theorem dL_copies_592 : decode cL_copies 592 = .ok (.invokevirtual 19, 3) := by decide +kernel
theorem dL_copies_595 : decode cL_copies 595 = .ok (.aload_n 2, 1) := by decide +kernel
theorem dL_copies_596 : decode cL_copies 596 = .ok (.iload 6, 2) := by decide +kernel
theorem dL_copies_598 : decode cL_copies 598 = .ok (.iaload, 1) := by decide +kernel
theorem dL_copies_599 : decode cL_copies 599 = .ok (.if_icmp .gt 26, 3) := by decide +kernel
theorem dL_copies_602 : decode cL_copies 602 = .ok (.aload_n 0, 1) := by decide +kernel
theorem dL_copies_603 : decode cL_copies 603 = .ok (.iload 6, 2) := by decide +kernel
theorem dL_copies_605 : decode cL_copies 605 = .ok (.bipush 10, 2) := by decide +kernel
theorem dL_copies_607 : decode cL_copies 607 = .ok (.invokevirtual 19, 3) := by decide +kernel
theorem dL_copies_610 : decode cL_copies 610 = .ok (.aload_n 0, 1) := by decide +kernel
theorem dL_copies_611 : decode cL_copies 611 = .ok (.iload 6, 2) := by decide +kernel
theorem dL_copies_613 : decode cL_copies 613 = .ok (.bipush 9, 2) := by decide +kernel
theorem dL_copies_615 : decode cL_copies 615 = .ok (.invokevirtual 19, 3) := by decide +kernel
theorem dL_copies_618 : decode cL_copies 618 = .ok (.if_icmp .gt 7, 3) := by decide +kernel
theorem dL_copies_621 : decode cL_copies 621 = .ok (.iconst 1, 1) := by decide +kernel
theorem dL_copies_622 : decode cL_copies 622 = .ok (.goto 4, 3) := by decide +kernel
theorem dL_copies_625 : decode cL_copies 625 = .ok (.iconst 0, 1) := by decide +kernel
theorem dL_copies_626 : decode cL_copies 626 = .ok (.istore 5, 2) := by decide +kernel
theorem dL_copies_628 : decode cL_copies 628 = .ok (.iinc 6 1, 3) := by decide +kernel
theorem dL_copies_631 : decode cL_copies 631 = .ok (.goto (-74), 3) := by decide +kernel
theorem dL_copies_634 : decode cL_copies 634 = .ok (.iconst 0, 1) := by decide +kernel
theorem dL_copies_635 : decode cL_copies 635 = .ok (.istore 6, 2) := by decide +kernel
theorem dL_copies_637 : decode cL_copies 637 = .ok (.iload 6, 2) := by decide +kernel
theorem dL_copies_639 : decode cL_copies 639 = .ok (.aload_n 0, 1) := by decide +kernel
theorem dL_copies_640 : decode cL_copies 640 = .ok (.iconst 1, 1) := by decide +kernel
theorem dL_copies_641 : decode cL_copies 641 = .ok (.invokevirtual 26, 3) := by decide +kernel
theorem dL_copies_644 : decode cL_copies 644 = .ok (.if_icmp .ge 73, 3) := by decide +kernel
theorem dL_copies_647 : decode cL_copies 647 = .ok (.iload 5, 2) := by decide +kernel
theorem dL_copies_649 : decode cL_copies 649 = .ok (.ifCond .eq 68, 3) := by decide +kernel
theorem dL_copies_652 : decode cL_copies 652 = .ok (.aload_n 0, 1) := by decide +kernel
theorem dL_copies_653 : decode cL_copies 653 = .ok (.iload 6, 2) := by decide +kernel
theorem dL_copies_655 : decode cL_copies 655 = .ok (.bipush 9, 2) := by decide +kernel
theorem dL_copies_657 : decode cL_copies 657 = .ok (.invokevirtual 23, 3) := by decide +kernel
theorem dL_copies_660 : decode cL_copies 660 = .ok (.aload_n 3, 1) := by decide +kernel
theorem dL_copies_661 : decode cL_copies 661 = .ok (.iload 6, 2) := by decide +kernel
theorem dL_copies_663 : decode cL_copies 663 = .ok (.iaload, 1) := by decide +kernel
theorem dL_copies_664 : decode cL_copies 664 = .ok (.if_icmp .ne 44, 3) := by decide +kernel
theorem dL_copies_667 : decode cL_copies 667 = .ok (.aload_n 0, 1) := by decide +kernel
theorem dL_copies_668 : decode cL_copies 668 = .ok (.iload 6, 2) := by decide +kernel
theorem dL_copies_670 : decode cL_copies 670 = .ok (.bipush 7, 2) := by decide +kernel
theorem dL_copies_672 : decode cL_copies 672 = .ok (.invokevirtual 23, 3) := by decide +kernel
theorem dL_copies_675 : decode cL_copies 675 = .ok (.aload_n 0, 1) := by decide +kernel
theorem dL_copies_676 : decode cL_copies 676 = .ok (.iload 6, 2) := by decide +kernel
theorem dL_copies_678 : decode cL_copies 678 = .ok (.iconst 3, 1) := by decide +kernel
theorem dL_copies_679 : decode cL_copies 679 = .ok (.invokevirtual 23, 3) := by decide +kernel
theorem dL_copies_682 : decode cL_copies 682 = .ok (.if_icmp .gt 26, 3) := by decide +kernel
theorem dL_copies_685 : decode cL_copies 685 = .ok (.aload_n 0, 1) := by decide +kernel
theorem dL_copies_686 : decode cL_copies 686 = .ok (.iload 6, 2) := by decide +kernel
theorem dL_copies_688 : decode cL_copies 688 = .ok (.bipush 7, 2) := by decide +kernel
theorem dL_copies_690 : decode cL_copies 690 = .ok (.invokevirtual 23, 3) := by decide +kernel
theorem dL_copies_693 : decode cL_copies 693 = .ok (.aload_n 0, 1) := by decide +kernel
theorem dL_copies_694 : decode cL_copies 694 = .ok (.iload 6, 2) := by decide +kernel
theorem dL_copies_696 : decode cL_copies 696 = .ok (.bipush 8, 2) := by decide +kernel
theorem dL_copies_698 : decode cL_copies 698 = .ok (.invokevirtual 23, 3) := by decide +kernel
theorem dL_copies_701 : decode cL_copies 701 = .ok (.if_icmp .gt 7, 3) := by decide +kernel
theorem dL_copies_704 : decode cL_copies 704 = .ok (.iconst 1, 1) := by decide +kernel
theorem dL_copies_705 : decode cL_copies 705 = .ok (.goto 4, 3) := by decide +kernel
theorem dL_copies_708 : decode cL_copies 708 = .ok (.iconst 0, 1) := by decide +kernel
theorem dL_copies_709 : decode cL_copies 709 = .ok (.istore 5, 2) := by decide +kernel
theorem dL_copies_711 : decode cL_copies 711 = .ok (.iinc 6 1, 3) := by decide +kernel
theorem dL_copies_714 : decode cL_copies 714 = .ok (.goto (-77), 3) := by decide +kernel
theorem dL_copies_717 : decode cL_copies 717 = .ok (.iload 5, 2) := by decide +kernel
theorem dL_copies_719 : decode cL_copies 719 = .ok (.ifCond .eq 45, 3) := by decide +kernel
theorem dL_copies_722 : decode cL_copies 722 = .ok (.iload 4, 2) := by decide +kernel
theorem dL_copies_724 : decode cL_copies 724 = .ok (.aload_n 0, 1) := by decide +kernel
theorem dL_copies_725 : decode cL_copies 725 = .ok (.bipush 9, 2) := by decide +kernel
theorem dL_copies_727 : decode cL_copies 727 = .ok (.invokevirtual 26, 3) := by decide +kernel
theorem dL_copies_730 : decode cL_copies 730 = .ok (.if_icmp .ne 34, 3) := by decide +kernel
theorem dL_copies_733 : decode cL_copies 733 = .ok (.aload_n 0, 1) := by decide +kernel
theorem dL_copies_734 : decode cL_copies 734 = .ok (.iconst 3, 1) := by decide +kernel
theorem dL_copies_735 : decode cL_copies 735 = .ok (.invokevirtual 26, 3) := by decide +kernel
theorem dL_copies_738 : decode cL_copies 738 = .ok (.aload_n 1, 1) := by decide +kernel
theorem dL_copies_739 : decode cL_copies 739 = .ok (.iconst 0, 1) := by decide +kernel
theorem dL_copies_740 : decode cL_copies 740 = .ok (.iaload, 1) := by decide +kernel
theorem dL_copies_741 : decode cL_copies 741 = .ok (.aload_n 1, 1) := by decide +kernel
theorem dL_copies_742 : decode cL_copies 742 = .ok (.iconst 1, 1) := by decide +kernel
theorem dL_copies_743 : decode cL_copies 743 = .ok (.iaload, 1) := by decide +kernel
theorem dL_copies_744 : decode cL_copies 744 = .ok (.iadd, 1) := by decide +kernel
theorem dL_copies_745 : decode cL_copies 745 = .ok (.aload_n 1, 1) := by decide +kernel
theorem dL_copies_746 : decode cL_copies 746 = .ok (.iconst 2, 1) := by decide +kernel
theorem dL_copies_747 : decode cL_copies 747 = .ok (.iaload, 1) := by decide +kernel
theorem dL_copies_748 : decode cL_copies 748 = .ok (.iadd, 1) := by decide +kernel
theorem dL_copies_749 : decode cL_copies 749 = .ok (.aload_n 1, 1) := by decide +kernel
theorem dL_copies_750 : decode cL_copies 750 = .ok (.iconst 3, 1) := by decide +kernel
theorem dL_copies_751 : decode cL_copies 751 = .ok (.iaload, 1) := by decide +kernel
theorem dL_copies_752 : decode cL_copies 752 = .ok (.iadd, 1) := by decide +kernel
theorem dL_copies_753 : decode cL_copies 753 = .ok (.aload_n 1, 1) := by decide +kernel
theorem dL_copies_754 : decode cL_copies 754 = .ok (.iconst 4, 1) := by decide +kernel
theorem dL_copies_755 : decode cL_copies 755 = .ok (.iaload, 1) := by decide +kernel
theorem dL_copies_756 : decode cL_copies 756 = .ok (.iadd, 1) := by decide +kernel
theorem dL_copies_757 : decode cL_copies 757 = .ok (.if_icmp .ne 7, 3) := by decide +kernel
theorem dL_copies_760 : decode cL_copies 760 = .ok (.iconst 1, 1) := by decide +kernel
theorem dL_copies_761 : decode cL_copies 761 = .ok (.goto 4, 3) := by decide +kernel
theorem dL_copies_764 : decode cL_copies 764 = .ok (.iconst 0, 1) := by decide +kernel
theorem dL_copies_765 : decode cL_copies 765 = .ok (.ireturn, 1) := by decide +kernel
theorem dL_money_0 : decode cL_money 0 = .ok (.iconst 0, 1) := by decide +kernel
theorem dL_money_1 : decode cL_money 1 = .ok (.istore_n 2, 1) := by decide +kernel
theorem dL_money_2 : decode cL_money 2 = .ok (.iload_n 1, 1) := by decide +kernel
theorem dL_money_3 : decode cL_money 3 = .ok (.istore_n 3, 1) := by decide +kernel
theorem dL_money_4 : decode cL_money 4 = .ok (.iconst 0, 1) := by decide +kernel
theorem dL_money_5 : decode cL_money 5 = .ok (.istore 4, 2) := by decide +kernel
theorem dL_money_7 : decode cL_money 7 = .ok (.iconst 1, 1) := by decide +kernel
theorem dL_money_8 : decode cL_money 8 = .ok (.istore 5, 2) := by decide +kernel
theorem dL_money_10 : decode cL_money 10 = .ok (.iconst 0, 1) := by decide +kernel
theorem dL_money_11 : decode cL_money 11 = .ok (.istore 6, 2) := by decide +kernel
theorem dL_money_13 : decode cL_money 13 = .ok (.iload 6, 2) := by decide +kernel
theorem dL_money_15 : decode cL_money 15 = .ok (.bipush 10, 2) := by decide +kernel
theorem dL_money_17 : decode cL_money 17 = .ok (.if_icmp .ge 53, 3) := by decide +kernel
theorem dL_money_20 : decode cL_money 20 = .ok (.iload_n 2, 1) := by decide +kernel
theorem dL_money_21 : decode cL_money 21 = .ok (.aload_n 0, 1) := by decide +kernel
theorem dL_money_22 : decode cL_money 22 = .ok (.iload 6, 2) := by decide +kernel
theorem dL_money_24 : decode cL_money 24 = .ok (.iconst 0, 1) := by decide +kernel
theorem dL_money_25 : decode cL_money 25 = .ok (.invokevirtual 32, 3) := by decide +kernel
theorem dL_money_28 : decode cL_money 28 = .ok (.iadd, 1) := by decide +kernel
theorem dL_money_29 : decode cL_money 29 = .ok (.istore_n 2, 1) := by decide +kernel
theorem dL_money_30 : decode cL_money 30 = .ok (.iload 4, 2) := by decide +kernel
theorem dL_money_32 : decode cL_money 32 = .ok (.aload_n 0, 1) := by decide +kernel
theorem dL_money_33 : decode cL_money 33 = .ok (.iload 6, 2) := by decide +kernel
theorem dL_money_35 : decode cL_money 35 = .ok (.iconst 2, 1) := by decide +kernel
theorem dL_money_36 : decode cL_money 36 = .ok (.invokevirtual 32, 3) := by decide +kernel
theorem dL_money_39 : decode cL_money 39 = .ok (.iadd, 1) := by decide +kernel
theorem dL_money_40 : decode cL_money 40 = .ok (.istore 4, 2) := by decide +kernel
theorem dL_money_42 : decode cL_money 42 = .ok (.iload 5, 2) := by decide +kernel
theorem dL_money_44 : decode cL_money 44 = .ok (.ifCond .eq 17, 3) := by decide +kernel
theorem dL_money_47 : decode cL_money 47 = .ok (.aload_n 0, 1) := by decide +kernel
theorem dL_money_48 : decode cL_money 48 = .ok (.iload 6, 2) := by decide +kernel
theorem dL_money_50 : decode cL_money 50 = .ok (.iconst 1, 1) := by decide +kernel
theorem dL_money_51 : decode cL_money 51 = .ok (.invokevirtual 32, 3) := by decide +kernel
theorem dL_money_54 : decode cL_money 54 = .ok (.ifCond .ne 7, 3) := by decide +kernel
theorem dL_money_57 : decode cL_money 57 = .ok (.iconst 1, 1) := by decide +kernel
theorem dL_money_58 : decode cL_money 58 = .ok (.goto 4, 3) := by decide +kernel
theorem dL_money_61 : decode cL_money 61 = .ok (.iconst 0, 1) := by decide +kernel
theorem dL_money_62 : decode cL_money 62 = .ok (.istore 5, 2) := by decide +kernel
theorem dL_money_64 : decode cL_money 64 = .ok (.iinc 6 1, 3) := by decide +kernel
theorem dL_money_67 : decode cL_money 67 = .ok (.goto (-54), 3) := by decide +kernel
theorem dL_money_70 : decode cL_money 70 = .ok (.iconst 0, 1) := by decide +kernel
theorem dL_money_71 : decode cL_money 71 = .ok (.istore 6, 2) := by decide +kernel
theorem dL_money_73 : decode cL_money 73 = .ok (.iload 6, 2) := by decide +kernel
theorem dL_money_75 : decode cL_money 75 = .ok (.aload_n 0, 1) := by decide +kernel
theorem dL_money_76 : decode cL_money 76 = .ok (.iconst 1, 1) := by decide +kernel
theorem dL_money_77 : decode cL_money 77 = .ok (.invokevirtual 26, 3) := by decide +kernel
theorem dL_money_80 : decode cL_money 80 = .ok (.if_icmp .ge 43, 3) := by decide +kernel
theorem dL_money_83 : decode cL_money 83 = .ok (.iload_n 3, 1) := by decide +kernel
theorem dL_money_84 : decode cL_money 84 = .ok (.aload_n 0, 1) := by decide +kernel
theorem dL_money_85 : decode cL_money 85 = .ok (.iload 6, 2) := by decide +kernel
theorem dL_money_87 : decode cL_money 87 = .ok (.bipush 6, 2) := by decide +kernel
theorem dL_money_89 : decode cL_money 89 = .ok (.invokevirtual 23, 3) := by decide +kernel
theorem dL_money_92 : decode cL_money 92 = .ok (.iadd, 1) := by decide +kernel
theorem dL_money_93 : decode cL_money 93 = .ok (.istore_n 3, 1) := by decide +kernel
theorem dL_money_94 : decode cL_money 94 = .ok (.iload 5, 2) := by decide +kernel
theorem dL_money_96 : decode cL_money 96 = .ok (.ifCond .eq 18, 3) := by decide +kernel
theorem dL_money_99 : decode cL_money 99 = .ok (.aload_n 0, 1) := by decide +kernel
theorem dL_money_100 : decode cL_money 100 = .ok (.iload 6, 2) := by decide +kernel
theorem dL_money_102 : decode cL_money 102 = .ok (.bipush 10, 2) := by decide +kernel
theorem dL_money_104 : decode cL_money 104 = .ok (.invokevirtual 23, 3) := by decide +kernel
theorem dL_money_107 : decode cL_money 107 = .ok (.ifCond .ne 7, 3) := by decide +kernel
theorem dL_money_110 : decode cL_money 110 = .ok (.iconst 1, 1) := by decide +kernel
theorem dL_money_111 : decode cL_money 111 = .ok (.goto 4, 3) := by decide +kernel
theorem dL_money_114 : decode cL_money 114 = .ok (.iconst 0, 1) := by decide +kernel
theorem dL_money_115 : decode cL_money 115 = .ok (.istore 5, 2) := by decide +kernel
theorem dL_money_117 : decode cL_money 117 = .ok (.iinc 6 1, 3) := by decide +kernel
theorem dL_money_120 : decode cL_money 120 = .ok (.goto (-47), 3) := by decide +kernel
theorem dL_money_123 : decode cL_money 123 = .ok (.iconst 0, 1) := by decide +kernel
theorem dL_money_124 : decode cL_money 124 = .ok (.istore 6, 2) := by decide +kernel
theorem dL_money_126 : decode cL_money 126 = .ok (.iload 6, 2) := by decide +kernel
theorem dL_money_128 : decode cL_money 128 = .ok (.aload_n 0, 1) := by decide +kernel
theorem dL_money_129 : decode cL_money 129 = .ok (.iconst 2, 1) := by decide +kernel
theorem dL_money_130 : decode cL_money 130 = .ok (.invokevirtual 26, 3) := by decide +kernel
theorem dL_money_133 : decode cL_money 133 = .ok (.if_icmp .ge 21, 3) := by decide +kernel
theorem dL_money_136 : decode cL_money 136 = .ok (.iload 4, 2) := by decide +kernel
theorem dL_money_138 : decode cL_money 138 = .ok (.aload_n 0, 1) := by decide +kernel
theorem dL_money_139 : decode cL_money 139 = .ok (.iload 6, 2) := by decide +kernel
theorem dL_money_141 : decode cL_money 141 = .ok (.iconst 1, 1) := by decide +kernel
theorem dL_money_142 : decode cL_money 142 = .ok (.invokevirtual 19, 3) := by decide +kernel
theorem dL_money_145 : decode cL_money 145 = .ok (.isub, 1) := by decide +kernel
theorem dL_money_146 : decode cL_money 146 = .ok (.istore 4, 2) := by decide +kernel
theorem dL_money_148 : decode cL_money 148 = .ok (.iinc 6 1, 3) := by decide +kernel
theorem dL_money_151 : decode cL_money 151 = .ok (.goto (-25), 3) := by decide +kernel
theorem dL_money_154 : decode cL_money 154 = .ok (.iload 5, 2) := by decide +kernel
theorem dL_money_156 : decode cL_money 156 = .ok (.ifCond .eq 17, 3) := by decide +kernel
theorem dL_money_159 : decode cL_money 159 = .ok (.iload_n 2, 1) := by decide +kernel
theorem dL_money_160 : decode cL_money 160 = .ok (.iload_n 3, 1) := by decide +kernel
theorem dL_money_161 : decode cL_money 161 = .ok (.if_icmp .ne 12, 3) := by decide +kernel
theorem dL_money_164 : decode cL_money 164 = .ok (.iload 4, 2) := by decide +kernel
theorem dL_money_166 : decode cL_money 166 = .ok (.ifCond .ne 7, 3) := by decide +kernel
theorem dL_money_169 : decode cL_money 169 = .ok (.iconst 1, 1) := by decide +kernel
theorem dL_money_170 : decode cL_money 170 = .ok (.goto 4, 3) := by decide +kernel
theorem dL_money_173 : decode cL_money 173 = .ok (.iconst 0, 1) := by decide +kernel
theorem dL_money_174 : decode cL_money 174 = .ok (.ireturn, 1) := by decide +kernel
theorem dL_reads_0 : decode cL_reads 0 = .ok (.aload_n 0, 1) := by decide +kernel
theorem dL_reads_1 : decode cL_reads 1 = .ok (.invokevirtual 35, 3) := by decide +kernel
theorem dL_reads_4 : decode cL_reads 4 = .ok (.ifCond .lt 32, 3) := by decide +kernel
theorem dL_reads_7 : decode cL_reads 7 = .ok (.aload_n 0, 1) := by decide +kernel
theorem dL_reads_8 : decode cL_reads 8 = .ok (.bipush 48, 2) := by decide +kernel
theorem dL_reads_10 : decode cL_reads 10 = .ok (.iload_n 1, 1) := by decide +kernel
theorem dL_reads_11 : decode cL_reads 11 = .ok (.iconst 3, 1) := by decide +kernel
theorem dL_reads_12 : decode cL_reads 12 = .ok (.irem, 1) := by decide +kernel
theorem dL_reads_13 : decode cL_reads 13 = .ok (.iadd, 1) := by decide +kernel
theorem dL_reads_14 : decode cL_reads 14 = .ok (.i2c, 1) := by decide +kernel
theorem dL_reads_15 : decode cL_reads 15 = .ok (.invokevirtual 39, 3) := by decide +kernel
theorem dL_reads_18 : decode cL_reads 18 = .ok (.iconst 1, 1) := by decide +kernel
theorem dL_reads_19 : decode cL_reads 19 = .ok (.if_icmp .ne 17, 3) := by decide +kernel
theorem dL_reads_22 : decode cL_reads 22 = .ok (.aload_n 0, 1) := by decide +kernel
theorem dL_reads_23 : decode cL_reads 23 = .ok (.bipush 32, 2) := by decide +kernel
theorem dL_reads_25 : decode cL_reads 25 = .ok (.invokevirtual 39, 3) := by decide +kernel
theorem dL_reads_28 : decode cL_reads 28 = .ok (.iconst 2, 1) := by decide +kernel
theorem dL_reads_29 : decode cL_reads 29 = .ok (.if_icmp .ne 7, 3) := by decide +kernel
theorem dL_reads_32 : decode cL_reads 32 = .ok (.iconst 1, 1) := by decide +kernel
theorem dL_reads_33 : decode cL_reads 33 = .ok (.goto 4, 3) := by decide +kernel
theorem dL_reads_36 : decode cL_reads 36 = .ok (.iconst 0, 1) := by decide +kernel
theorem dL_reads_37 : decode cL_reads 37 = .ok (.istore_n 2, 1) := by decide +kernel
theorem dL_reads_38 : decode cL_reads 38 = .ok (.iload_n 1, 1) := by decide +kernel
theorem dL_reads_39 : decode cL_reads 39 = .ok (.iconst 2, 1) := by decide +kernel
theorem dL_reads_40 : decode cL_reads 40 = .ok (.ishr, 1) := by decide +kernel
theorem dL_reads_41 : decode cL_reads 41 = .ok (.bipush 10, 2) := by decide +kernel
theorem dL_reads_43 : decode cL_reads 43 = .ok (.irem, 1) := by decide +kernel
theorem dL_reads_44 : decode cL_reads 44 = .ok (.istore_n 3, 1) := by decide +kernel
theorem dL_reads_45 : decode cL_reads 45 = .ok (.iload_n 2, 1) := by decide +kernel
theorem dL_reads_46 : decode cL_reads 46 = .ok (.ifCond .eq 57, 3) := by decide +kernel
theorem dL_reads_49 : decode cL_reads 49 = .ok (.aload_n 0, 1) := by decide +kernel
theorem dL_reads_50 : decode cL_reads 50 = .ok (.bipush 48, 2) := by decide +kernel
theorem dL_reads_52 : decode cL_reads 52 = .ok (.iload_n 3, 1) := by decide +kernel
theorem dL_reads_53 : decode cL_reads 53 = .ok (.iadd, 1) := by decide +kernel
theorem dL_reads_54 : decode cL_reads 54 = .ok (.i2c, 1) := by decide +kernel
theorem dL_reads_55 : decode cL_reads 55 = .ok (.invokevirtual 39, 3) := by decide +kernel
theorem dL_reads_58 : decode cL_reads 58 = .ok (.iconst 3, 1) := by decide +kernel
theorem dL_reads_59 : decode cL_reads 59 = .ok (.if_icmp .ne 44, 3) := by decide +kernel
theorem dL_reads_62 : decode cL_reads 62 = .ok (.iload_n 1, 1) := by decide +kernel
theorem dL_reads_63 : decode cL_reads 63 = .ok (.bipush 6, 2) := by decide +kernel
theorem dL_reads_65 : decode cL_reads 65 = .ok (.ishr, 1) := by decide +kernel
theorem dL_reads_66 : decode cL_reads 66 = .ok (.iconst 1, 1) := by decide +kernel
theorem dL_reads_67 : decode cL_reads 67 = .ok (.iand, 1) := by decide +kernel
theorem dL_reads_68 : decode cL_reads 68 = .ok (.ifCond .eq 31, 3) := by decide +kernel
theorem dL_reads_71 : decode cL_reads 71 = .ok (.aload_n 0, 1) := by decide +kernel
theorem dL_reads_72 : decode cL_reads 72 = .ok (.bipush 44, 2) := by decide +kernel
theorem dL_reads_74 : decode cL_reads 74 = .ok (.invokevirtual 39, 3) := by decide +kernel
theorem dL_reads_77 : decode cL_reads 77 = .ok (.iconst 4, 1) := by decide +kernel
theorem dL_reads_78 : decode cL_reads 78 = .ok (.if_icmp .ne 25, 3) := by decide +kernel
theorem dL_reads_81 : decode cL_reads 81 = .ok (.aload_n 0, 1) := by decide +kernel
theorem dL_reads_82 : decode cL_reads 82 = .ok (.bipush 48, 2) := by decide +kernel
theorem dL_reads_84 : decode cL_reads 84 = .ok (.iload_n 3, 1) := by decide +kernel
theorem dL_reads_85 : decode cL_reads 85 = .ok (.iconst 3, 1) := by decide +kernel
theorem dL_reads_86 : decode cL_reads 86 = .ok (.iadd, 1) := by decide +kernel
theorem dL_reads_87 : decode cL_reads 87 = .ok (.bipush 10, 2) := by decide +kernel
theorem dL_reads_89 : decode cL_reads 89 = .ok (.irem, 1) := by decide +kernel
theorem dL_reads_90 : decode cL_reads 90 = .ok (.iadd, 1) := by decide +kernel
theorem dL_reads_91 : decode cL_reads 91 = .ok (.i2c, 1) := by decide +kernel
theorem dL_reads_92 : decode cL_reads 92 = .ok (.invokevirtual 39, 3) := by decide +kernel
theorem dL_reads_95 : decode cL_reads 95 = .ok (.iconst 5, 1) := by decide +kernel
theorem dL_reads_96 : decode cL_reads 96 = .ok (.if_icmp .ne 7, 3) := by decide +kernel
theorem dL_reads_99 : decode cL_reads 99 = .ok (.iconst 1, 1) := by decide +kernel
theorem dL_reads_100 : decode cL_reads 100 = .ok (.goto 4, 3) := by decide +kernel
theorem dL_reads_103 : decode cL_reads 103 = .ok (.iconst 0, 1) := by decide +kernel
theorem dL_reads_104 : decode cL_reads 104 = .ok (.istore_n 2, 1) := by decide +kernel
theorem dL_reads_105 : decode cL_reads 105 = .ok (.iload_n 1, 1) := by decide +kernel
theorem dL_reads_106 : decode cL_reads 106 = .ok (.bipush 7, 2) := by decide +kernel
theorem dL_reads_108 : decode cL_reads 108 = .ok (.ishr, 1) := by decide +kernel
theorem dL_reads_109 : decode cL_reads 109 = .ok (.bipush 90, 2) := by decide +kernel
theorem dL_reads_111 : decode cL_reads 111 = .ok (.irem, 1) := by decide +kernel
theorem dL_reads_112 : decode cL_reads 112 = .ok (.istore 4, 2) := by decide +kernel
theorem dL_reads_114 : decode cL_reads 114 = .ok (.iload_n 2, 1) := by decide +kernel
theorem dL_reads_115 : decode cL_reads 115 = .ok (.ifCond .eq 82, 3) := by decide +kernel
theorem dL_reads_118 : decode cL_reads 118 = .ok (.aload_n 0, 1) := by decide +kernel
theorem dL_reads_119 : decode cL_reads 119 = .ok (.bipush 32, 2) := by decide +kernel
theorem dL_reads_121 : decode cL_reads 121 = .ok (.invokevirtual 39, 3) := by decide +kernel
theorem dL_reads_124 : decode cL_reads 124 = .ok (.ifCond .le 73, 3) := by decide +kernel
theorem dL_reads_127 : decode cL_reads 127 = .ok (.aload_n 0, 1) := by decide +kernel
theorem dL_reads_128 : decode cL_reads 128 = .ok (.bipush 64, 2) := by decide +kernel
theorem dL_reads_130 : decode cL_reads 130 = .ok (.invokevirtual 39, 3) := by decide +kernel
theorem dL_reads_133 : decode cL_reads 133 = .ok (.ifCond .le 64, 3) := by decide +kernel
theorem dL_reads_136 : decode cL_reads 136 = .ok (.iload 4, 2) := by decide +kernel
theorem dL_reads_138 : decode cL_reads 138 = .ok (.bipush 10, 2) := by decide +kernel
theorem dL_reads_140 : decode cL_reads 140 = .ok (.if_icmp .lt 19, 3) := by decide +kernel
theorem dL_reads_143 : decode cL_reads 143 = .ok (.aload_n 0, 1) := by decide +kernel
theorem dL_reads_144 : decode cL_reads 144 = .ok (.bipush 48, 2) := by decide +kernel
theorem dL_reads_146 : decode cL_reads 146 = .ok (.iload 4, 2) := by decide +kernel
theorem dL_reads_148 : decode cL_reads 148 = .ok (.bipush 10, 2) := by decide +kernel
theorem dL_reads_150 : decode cL_reads 150 = .ok (.idiv, 1) := by decide +kernel
theorem dL_reads_151 : decode cL_reads 151 = .ok (.iadd, 1) := by decide +kernel
theorem dL_reads_152 : decode cL_reads 152 = .ok (.i2c, 1) := by decide +kernel
theorem dL_reads_153 : decode cL_reads 153 = .ok (.invokevirtual 39, 3) := by decide +kernel
theorem dL_reads_156 : decode cL_reads 156 = .ok (.ifCond .le 41, 3) := by decide +kernel
theorem dL_reads_159 : decode cL_reads 159 = .ok (.aload_n 0, 1) := by decide +kernel
theorem dL_reads_160 : decode cL_reads 160 = .ok (.bipush 48, 2) := by decide +kernel
theorem dL_reads_162 : decode cL_reads 162 = .ok (.iload 4, 2) := by decide +kernel
theorem dL_reads_164 : decode cL_reads 164 = .ok (.bipush 10, 2) := by decide +kernel
theorem dL_reads_166 : decode cL_reads 166 = .ok (.irem, 1) := by decide +kernel
theorem dL_reads_167 : decode cL_reads 167 = .ok (.iadd, 1) := by decide +kernel
theorem dL_reads_168 : decode cL_reads 168 = .ok (.i2c, 1) := by decide +kernel
theorem dL_reads_169 : decode cL_reads 169 = .ok (.invokevirtual 39, 3) := by decide +kernel
theorem dL_reads_172 : decode cL_reads 172 = .ok (.ifCond .le 25, 3) := by decide +kernel
theorem dL_reads_175 : decode cL_reads 175 = .ok (.aload_n 0, 1) := by decide +kernel
theorem dL_reads_176 : decode cL_reads 176 = .ok (.bipush 32, 2) := by decide +kernel
theorem dL_reads_178 : decode cL_reads 178 = .ok (.invokevirtual 39, 3) := by decide +kernel
theorem dL_reads_181 : decode cL_reads 181 = .ok (.ifCond .le 16, 3) := by decide +kernel
theorem dL_reads_184 : decode cL_reads 184 = .ok (.aload_n 0, 1) := by decide +kernel
theorem dL_reads_185 : decode cL_reads 185 = .ok (.bipush 110, 2) := by decide +kernel
theorem dL_reads_187 : decode cL_reads 187 = .ok (.invokevirtual 39, 3) := by decide +kernel
theorem dL_reads_190 : decode cL_reads 190 = .ok (.ifCond .le 7, 3) := by decide +kernel
theorem dL_reads_193 : decode cL_reads 193 = .ok (.iconst 1, 1) := by decide +kernel
theorem dL_reads_194 : decode cL_reads 194 = .ok (.goto 4, 3) := by decide +kernel
theorem dL_reads_197 : decode cL_reads 197 = .ok (.iconst 0, 1) := by decide +kernel
theorem dL_reads_198 : decode cL_reads 198 = .ok (.istore_n 2, 1) := by decide +kernel
theorem dL_reads_199 : decode cL_reads 199 = .ok (.aload_n 0, 1) := by decide +kernel
theorem dL_reads_200 : decode cL_reads 200 = .ok (.iconst 2, 1) := by decide +kernel
theorem dL_reads_201 : decode cL_reads 201 = .ok (.invokevirtual 26, 3) := by decide +kernel
theorem dL_reads_204 : decode cL_reads 204 = .ok (.istore 5, 2) := by decide +kernel
theorem dL_reads_206 : decode cL_reads 206 = .ok (.iload_n 2, 1) := by decide +kernel
theorem dL_reads_207 : decode cL_reads 207 = .ok (.ifCond .eq 99, 3) := by decide +kernel
theorem dL_reads_210 : decode cL_reads 210 = .ok (.iload 5, 2) := by decide +kernel
theorem dL_reads_212 : decode cL_reads 212 = .ok (.bipush 20, 2) := by decide +kernel
theorem dL_reads_214 : decode cL_reads 214 = .ok (.if_icmp .ne 15, 3) := by decide +kernel
