theorem dX5_isSame_613 : decode cX5_isSame 613 = .ok (.astore 4, 2) := by decide +kernel
theorem dX5_isSame_615 : decode cX5_isSame 615 = .ok (.aload 4, 2) := by decide +kernel
theorem dX5_isSame_617 : decode cX5_isSame 617 = .ok (.iconst 3, 1) := by decide +kernel
theorem dX5_isSame_618 : decode cX5_isSame 618 = .ok (.iaload, 1) := by decide +kernel
theorem dX5_isSame_619 : decode cX5_isSame 619 = .ok (.ifCond .le 10, 3) := by decide +kernel
theorem dX5_isSame_622 : decode cX5_isSame 622 = .ok (.aload 4, 2) := by decide +kernel
theorem dX5_isSame_624 : decode cX5_isSame 624 = .ok (.iconst 3, 1) := by decide +kernel
theorem dX5_isSame_625 : decode cX5_isSame 625 = .ok (.iaload, 1) := by decide +kernel
theorem dX5_isSame_626 : decode cX5_isSame 626 = .ok (.goto 30, 3) := by decide +kernel
theorem dX5_isSame_629 : decode cX5_isSame 629 = .ok (.aload 4, 2) := by decide +kernel
theorem dX5_isSame_631 : decode cX5_isSame 631 = .ok (.iconst 2, 1) := by decide +kernel
theorem dX5_isSame_632 : decode cX5_isSame 632 = .ok (.iaload, 1) := by decide +kernel
theorem dX5_isSame_633 : decode cX5_isSame 633 = .ok (.ifCond .ge 7, 3) := by decide +kernel
theorem dX5_isSame_636 : decode cX5_isSame 636 = .ok (.iconst 0, 1) := by decide +kernel
theorem dX5_isSame_637 : decode cX5_isSame 637 = .ok (.goto 19, 3) := by decide +kernel
theorem dX5_isSame_640 : decode cX5_isSame 640 = .ok (.aload 4, 2) := by decide +kernel
theorem dX5_isSame_642 : decode cX5_isSame 642 = .ok (.iconst 0, 1) := by decide +kernel
theorem dX5_isSame_643 : decode cX5_isSame 643 = .ok (.iaload, 1) := by decide +kernel
theorem dX5_isSame_644 : decode cX5_isSame 644 = .ok (.aload 4, 2) := by decide +kernel
theorem dX5_isSame_646 : decode cX5_isSame 646 = .ok (.iconst 2, 1) := by decide +kernel
theorem dX5_isSame_647 : decode cX5_isSame 647 = .ok (.iaload, 1) := by decide +kernel
theorem dX5_isSame_648 : decode cX5_isSame 648 = .ok (.if_icmp .ne 7, 3) := by decide +kernel
theorem dX5_isSame_651 : decode cX5_isSame 651 = .ok (.iconst 2, 1) := by decide +kernel
theorem dX5_isSame_652 : decode cX5_isSame 652 = .ok (.goto 4, 3) := by decide +kernel
theorem dX5_isSame_655 : decode cX5_isSame 655 = .ok (.iconst 1, 1) := by decide +kernel
theorem dX5_isSame_656 : decode cX5_isSame 656 = .ok (.istore 5, 2) := by decide +kernel
theorem dX5_isSame_658 : decode cX5_isSame 658 = .ok (.bipush 7, 2) := by decide +kernel
theorem dX5_isSame_660 : decode cX5_isSame 660 = .ok (.newarray .int, 2) := by decide +kernel
theorem dX5_isSame_662 : decode cX5_isSame 662 = .ok (.dup, 1) := by decide +kernel
theorem dX5_isSame_663 : decode cX5_isSame 663 = .ok (.iconst 0, 1) := by decide +kernel
theorem dX5_isSame_664 : decode cX5_isSame 664 = .ok (.aload 4, 2) := by decide +kernel
theorem dX5_isSame_666 : decode cX5_isSame 666 = .ok (.iconst 0, 1) := by decide +kernel
theorem dX5_isSame_667 : decode cX5_isSame 667 = .ok (.iaload, 1) := by decide +kernel
theorem dX5_isSame_668 : decode cX5_isSame 668 = .ok (.iastore, 1) := by decide +kernel
theorem dX5_isSame_669 : decode cX5_isSame 669 = .ok (.dup, 1) := by decide +kernel
theorem dX5_isSame_670 : decode cX5_isSame 670 = .ok (.iconst 1, 1) := by decide +kernel
theorem dX5_isSame_671 : decode cX5_isSame 671 = .ok (.aload 4, 2) := by decide +kernel
theorem dX5_isSame_673 : decode cX5_isSame 673 = .ok (.iconst 1, 1) := by decide +kernel
theorem dX5_isSame_674 : decode cX5_isSame 674 = .ok (.iaload, 1) := by decide +kernel
theorem dX5_isSame_675 : decode cX5_isSame 675 = .ok (.iastore, 1) := by decide +kernel
theorem dX5_isSame_676 : decode cX5_isSame 676 = .ok (.dup, 1) := by decide +kernel
theorem dX5_isSame_677 : decode cX5_isSame 677 = .ok (.iconst 2, 1) := by decide +kernel
theorem dX5_isSame_678 : decode cX5_isSame 678 = .ok (.aload 4, 2) := by decide +kernel
theorem dX5_isSame_680 : decode cX5_isSame 680 = .ok (.iconst 2, 1) := by decide +kernel
theorem dX5_isSame_681 : decode cX5_isSame 681 = .ok (.iaload, 1) := by decide +kernel
theorem dX5_isSame_682 : decode cX5_isSame 682 = .ok (.iastore, 1) := by decide +kernel
theorem dX5_isSame_683 : decode cX5_isSame 683 = .ok (.dup, 1) := by decide +kernel
theorem dX5_isSame_684 : decode cX5_isSame 684 = .ok (.iconst 3, 1) := by decide +kernel
theorem dX5_isSame_685 : decode cX5_isSame 685 = .ok (.iload 5, 2) := by decide +kernel
theorem dX5_isSame_687 : decode cX5_isSame 687 = .ok (.iastore, 1) := by decide +kernel
theorem dX5_isSame_688 : decode cX5_isSame 688 = .ok (.dup, 1) := by decide +kernel
theorem dX5_isSame_689 : decode cX5_isSame 689 = .ok (.iconst 4, 1) := by decide +kernel
theorem dX5_isSame_690 : decode cX5_isSame 690 = .ok (.aload 4, 2) := by decide +kernel
theorem dX5_isSame_692 : decode cX5_isSame 692 = .ok (.iconst 4, 1) := by decide +kernel
theorem dX5_isSame_693 : decode cX5_isSame 693 = .ok (.iaload, 1) := by decide +kernel
theorem dX5_isSame_694 : decode cX5_isSame 694 = .ok (.iastore, 1) := by decide +kernel
theorem dX5_isSame_695 : decode cX5_isSame 695 = .ok (.dup, 1) := by decide +kernel
theorem dX5_isSame_696 : decode cX5_isSame 696 = .ok (.iconst 5, 1) := by decide +kernel
theorem dX5_isSame_697 : decode cX5_isSame 697 = .ok (.aload 4, 2) := by decide +kernel
theorem dX5_isSame_699 : decode cX5_isSame 699 = .ok (.iconst 5, 1) := by decide +kernel
theorem dX5_isSame_700 : decode cX5_isSame 700 = .ok (.iaload, 1) := by decide +kernel
theorem dX5_isSame_701 : decode cX5_isSame 701 = .ok (.iastore, 1) := by decide +kernel
theorem dX5_isSame_702 : decode cX5_isSame 702 = .ok (.dup, 1) := by decide +kernel
theorem dX5_isSame_703 : decode cX5_isSame 703 = .ok (.bipush 6, 2) := by decide +kernel
theorem dX5_isSame_705 : decode cX5_isSame 705 = .ok (.aload 4, 2) := by decide +kernel
theorem dX5_isSame_707 : decode cX5_isSame 707 = .ok (.bipush 6, 2) := by decide +kernel
theorem dX5_isSame_709 : decode cX5_isSame 709 = .ok (.iaload, 1) := by decide +kernel
theorem dX5_isSame_710 : decode cX5_isSame 710 = .ok (.iastore, 1) := by decide +kernel
theorem dX5_isSame_711 : decode cX5_isSame 711 = .ok (.astore 6, 2) := by decide +kernel
theorem dX5_isSame_713 : decode cX5_isSame 713 = .ok (.iconst 0, 1) := by decide +kernel
theorem dX5_isSame_714 : decode cX5_isSame 714 = .ok (.istore 7, 2) := by decide +kernel
theorem dX5_isSame_716 : decode cX5_isSame 716 = .ok (.iload 7, 2) := by decide +kernel
theorem dX5_isSame_718 : decode cX5_isSame 718 = .ok (.bipush 7, 2) := by decide +kernel
theorem dX5_isSame_720 : decode cX5_isSame 720 = .ok (.if_icmp .ge 26, 3) := by decide +kernel
theorem dX5_isSame_723 : decode cX5_isSame 723 = .ok (.aload_n 1, 1) := by decide +kernel
theorem dX5_isSame_724 : decode cX5_isSame 724 = .ok (.iload_n 3, 1) := by decide +kernel
theorem dX5_isSame_725 : decode cX5_isSame 725 = .ok (.iload 7, 2) := by decide +kernel
theorem dX5_isSame_727 : decode cX5_isSame 727 = .ok (.invokevirtual 110, 3) := by decide +kernel
theorem dX5_isSame_730 : decode cX5_isSame 730 = .ok (.aload 6, 2) := by decide +kernel
theorem dX5_isSame_732 : decode cX5_isSame 732 = .ok (.iload 7, 2) := by decide +kernel
theorem dX5_isSame_734 : decode cX5_isSame 734 = .ok (.iaload, 1) := by decide +kernel
theorem dX5_isSame_735 : decode cX5_isSame 735 = .ok (.if_icmp .eq 5, 3) := by decide +kernel
theorem dX5_isSame_738 : decode cX5_isSame 738 = .ok (.iconst 0, 1) := by decide +kernel
theorem dX5_isSame_739 : decode cX5_isSame 739 = .ok (.ireturn, 1) := by decide +kernel
theorem dX5_isSame_740 : decode cX5_isSame 740 = .ok (.iinc 7 1, 3) := by decide +kernel
theorem dX5_isSame_743 : decode cX5_isSame 743 = .ok (.goto (-27), 3) := by decide +kernel
theorem dX5_isSame_746 : decode cX5_isSame 746 = .ok (.iload_n 2, 1) := by decide +kernel
theorem dX5_isSame_747 : decode cX5_isSame 747 = .ok (.aload 4, 2) := by decide +kernel
theorem dX5_isSame_749 : decode cX5_isSame 749 = .ok (.iconst 3, 1) := by decide +kernel
theorem dX5_isSame_750 : decode cX5_isSame 750 = .ok (.iaload, 1) := by decide +kernel
theorem dX5_isSame_751 : decode cX5_isSame 751 = .ok (.ifCond .ne 10, 3) := by decide +kernel
theorem dX5_isSame_754 : decode cX5_isSame 754 = .ok (.aload 4, 2) := by decide +kernel
theorem dX5_isSame_756 : decode cX5_isSame 756 = .ok (.iconst 1, 1) := by decide +kernel
theorem dX5_isSame_757 : decode cX5_isSame 757 = .ok (.iaload, 1) := by decide +kernel
theorem dX5_isSame_758 : decode cX5_isSame 758 = .ok (.goto 4, 3) := by decide +kernel
theorem dX5_isSame_761 : decode cX5_isSame 761 = .ok (.iconst 0, 1) := by decide +kernel
theorem dX5_isSame_762 : decode cX5_isSame 762 = .ok (.iadd, 1) := by decide +kernel
theorem dX5_isSame_763 : decode cX5_isSame 763 = .ok (.istore_n 2, 1) := by decide +kernel
theorem dX5_isSame_764 : decode cX5_isSame 764 = .ok (.iinc 3 1, 3) := by decide +kernel
theorem dX5_isSame_767 : decode cX5_isSame 767 = .ok (.goto (-169), 3) := by decide +kernel
theorem dX5_isSame_770 : decode cX5_isSame 770 = .ok (.aload_n 1, 1) := by decide +kernel
theorem dX5_isSame_771 : decode cX5_isSame 771 = .ok (.aload_n 0, 1) := by decide +kernel
theorem dX5_isSame_772 : decode cX5_isSame 772 = .ok (.getfield 40, 3) := by decide +kernel
theorem dX5_isSame_775 : decode cX5_isSame 775 = .ok (.bipush 10, 2) := by decide +kernel
theorem dX5_isSame_777 : decode cX5_isSame 777 = .ok (.idiv, 1) := by decide +kernel
theorem dX5_isSame_778 : decode cX5_isSame 778 = .ok (.invokevirtual 113, 3) := by decide +kernel
theorem dX5_isSame_781 : decode cX5_isSame 781 = .ok (.aload_n 0, 1) := by decide +kernel
theorem dX5_isSame_782 : decode cX5_isSame 782 = .ok (.invokevirtual 58, 3) := by decide +kernel
theorem dX5_isSame_785 : decode cX5_isSame 785 = .ok (.if_icmp .ne 36, 3) := by decide +kernel
theorem dX5_isSame_788 : decode cX5_isSame 788 = .ok (.aload_n 1, 1) := by decide +kernel
theorem dX5_isSame_789 : decode cX5_isSame 789 = .ok (.invokevirtual 115, 3) := by decide +kernel
theorem dX5_isSame_792 : decode cX5_isSame 792 = .ok (.aload_n 0, 1) := by decide +kernel
theorem dX5_isSame_793 : decode cX5_isSame 793 = .ok (.iconst 0, 1) := by decide +kernel
theorem dX5_isSame_794 : decode cX5_isSame 794 = .ok (.invokevirtual 81, 3) := by decide +kernel
theorem dX5_isSame_797 : decode cX5_isSame 797 = .ok (.ifCond .ne 7, 3) := by decide +kernel
theorem dX5_isSame_800 : decode cX5_isSame 800 = .ok (.dconst 0, 1) := by decide +kernel
theorem dX5_isSame_801 : decode cX5_isSame 801 = .ok (.goto 12, 3) := by decide +kernel
theorem dX5_isSame_804 : decode cX5_isSame 804 = .ok (.iload_n 2, 1) := by decide +kernel
theorem dX5_isSame_805 : decode cX5_isSame 805 = .ok (.i2d, 1) := by decide +kernel
theorem dX5_isSame_806 : decode cX5_isSame 806 = .ok (.aload_n 0, 1) := by decide +kernel
theorem dX5_isSame_807 : decode cX5_isSame 807 = .ok (.iconst 0, 1) := by decide +kernel
theorem dX5_isSame_808 : decode cX5_isSame 808 = .ok (.invokevirtual 81, 3) := by decide +kernel
theorem dX5_isSame_811 : decode cX5_isSame 811 = .ok (.i2d, 1) := by decide +kernel
theorem dX5_isSame_812 : decode cX5_isSame 812 = .ok (.ddiv, 1) := by decide +kernel
theorem dX5_isSame_813 : decode cX5_isSame 813 = .ok (.dcmp .l, 1) := by decide +kernel
theorem dX5_isSame_814 : decode cX5_isSame 814 = .ok (.ifCond .ne 7, 3) := by decide +kernel
theorem dX5_isSame_817 : decode cX5_isSame 817 = .ok (.iconst 1, 1) := by decide +kernel
theorem dX5_isSame_818 : decode cX5_isSame 818 = .ok (.goto 4, 3) := by decide +kernel
theorem dX5_isSame_821 : decode cX5_isSame 821 = .ok (.iconst 0, 1) := by decide +kernel
theorem dX5_isSame_822 : decode cX5_isSame 822 = .ok (.ireturn, 1) := by decide +kernel
theorem dJ9_floorMod_7cf53_0 : decode cJ9_floorMod_7cf53 0 = .ok (.iload_n 0, 1) := by decide +kernel
theorem dJ9_floorMod_7cf53_1 : decode cJ9_floorMod_7cf53 1 = .ok (.iload_n 1, 1) := by decide +kernel
theorem dJ9_floorMod_7cf53_2 : decode cJ9_floorMod_7cf53 2 = .ok (.irem, 1) := by decide +kernel
theorem dJ9_floorMod_7cf53_3 : decode cJ9_floorMod_7cf53 3 = .ok (.istore_n 2, 1) := by decide +kernel
theorem dJ9_floorMod_7cf53_4 : decode cJ9_floorMod_7cf53 4 = .ok (.iload_n 0, 1) := by decide +kernel
theorem dJ9_floorMod_7cf53_5 : decode cJ9_floorMod_7cf53 5 = .ok (.iload_n 1, 1) := by decide +kernel
theorem dJ9_floorMod_7cf53_6 : decode cJ9_floorMod_7cf53 6 = .ok (.ixor, 1) := by decide +kernel
theorem dJ9_floorMod_7cf53_7 : decode cJ9_floorMod_7cf53 7 = .ok (.ifCond .ge 11, 3) := by decide +kernel
theorem dJ9_floorMod_7cf53_10 : decode cJ9_floorMod_7cf53 10 = .ok (.iload_n 2, 1) := by decide +kernel
theorem dJ9_floorMod_7cf53_11 : decode cJ9_floorMod_7cf53 11 = .ok (.ifCond .eq 7, 3) := by decide +kernel
theorem dJ9_floorMod_7cf53_14 : decode cJ9_floorMod_7cf53 14 = .ok (.iload_n 2, 1) := by decide +kernel
theorem dJ9_floorMod_7cf53_15 : decode cJ9_floorMod_7cf53 15 = .ok (.iload_n 1, 1) := by decide +kernel
theorem dJ9_floorMod_7cf53_16 : decode cJ9_floorMod_7cf53 16 = .ok (.iadd, 1) := by decide +kernel
theorem dJ9_floorMod_7cf53_17 : decode cJ9_floorMod_7cf53 17 = .ok (.ireturn, 1) := by decide +kernel
theorem dJ9_floorMod_7cf53_18 : decode cJ9_floorMod_7cf53 18 = .ok (.iload_n 2, 1) := by decide +kernel
theorem dJ9_floorMod_7cf53_19 : decode cJ9_floorMod_7cf53 19 = .ok (.ireturn, 1) := by decide +kernel
theorem dJ9_abs_0f7a4_0 : decode cJ9_abs_0f7a4 0 = .ok (.iload_n 0, 1) := by decide +kernel
theorem dJ9_abs_0f7a4_1 : decode cJ9_abs_0f7a4 1 = .ok (.ifCond .ge 8, 3) := by decide +kernel
theorem dJ9_abs_0f7a4_4 : decode cJ9_abs_0f7a4 4 = .ok (.iload_n 0, 1) := by decide +kernel
theorem dJ9_abs_0f7a4_5 : decode cJ9_abs_0f7a4 5 = .ok (.ineg, 1) := by decide +kernel
theorem dJ9_abs_0f7a4_6 : decode cJ9_abs_0f7a4 6 = .ok (.goto 4, 3) := by decide +kernel
theorem dJ9_abs_0f7a4_9 : decode cJ9_abs_0f7a4 9 = .ok (.iload_n 0, 1) := by decide +kernel
theorem dJ9_abs_0f7a4_10 : decode cJ9_abs_0f7a4 10 = .ok (.ireturn, 1) := by decide +kernel
theorem dJ9_min_7cf53_0 : decode cJ9_min_7cf53 0 = .ok (.iload_n 0, 1) := by decide +kernel
theorem dJ9_min_7cf53_1 : decode cJ9_min_7cf53 1 = .ok (.iload_n 1, 1) := by decide +kernel
theorem dJ9_min_7cf53_2 : decode cJ9_min_7cf53 2 = .ok (.if_icmp .gt 7, 3) := by decide +kernel
theorem dJ9_min_7cf53_5 : decode cJ9_min_7cf53 5 = .ok (.iload_n 0, 1) := by decide +kernel
theorem dJ9_min_7cf53_6 : decode cJ9_min_7cf53 6 = .ok (.goto 4, 3) := by decide +kernel
theorem dJ9_min_7cf53_9 : decode cJ9_min_7cf53 9 = .ok (.iload_n 1, 1) := by decide +kernel
theorem dJ9_min_7cf53_10 : decode cJ9_min_7cf53 10 = .ok (.ireturn, 1) := by decide +kernel
theorem dL_below_0 : decode cL_below 0 = .ok (.iload_n 0, 1) := by decide +kernel
theorem dL_below_1 : decode cL_below 1 = .ok (.ldc 7, 2) := by decide +kernel
theorem dL_below_3 : decode cL_below 3 = .ok (.iand, 1) := by decide +kernel
theorem dL_below_4 : decode cL_below 4 = .ok (.iload_n 1, 1) := by decide +kernel
theorem dL_below_5 : decode cL_below 5 = .ok (.irem, 1) := by decide +kernel
theorem dL_below_6 : decode cL_below 6 = .ok (.ireturn, 1) := by decide +kernel
theorem dL_cell_0 : decode cL_cell 0 = .ok (.iload_n 1, 1) := by decide +kernel
theorem dL_cell_1 : decode cL_cell 1 = .ok (.aload_n 0, 1) := by decide +kernel
theorem dL_cell_2 : decode cL_cell 2 = .ok (.arraylength, 1) := by decide +kernel
theorem dL_cell_3 : decode cL_cell 3 = .ok (.if_icmp .ge 9, 3) := by decide +kernel
theorem dL_cell_6 : decode cL_cell 6 = .ok (.aload_n 0, 1) := by decide +kernel
theorem dL_cell_7 : decode cL_cell 7 = .ok (.iload_n 1, 1) := by decide +kernel
theorem dL_cell_8 : decode cL_cell 8 = .ok (.iaload, 1) := by decide +kernel
theorem dL_cell_9 : decode cL_cell 9 = .ok (.goto 9, 3) := by decide +kernel
theorem dL_cell_12 : decode cL_cell 12 = .ok (.ldc 8, 2) := by decide +kernel
theorem dL_cell_14 : decode cL_cell 14 = .ok (.iload_n 1, 1) := by decide +kernel
theorem dL_cell_15 : decode cL_cell 15 = .ok (.iconst 3, 1) := by decide +kernel
theorem dL_cell_16 : decode cL_cell 16 = .ok (.iadd, 1) := by decide +kernel
theorem dL_cell_17 : decode cL_cell 17 = .ok (.imul, 1) := by decide +kernel
theorem dL_cell_18 : decode cL_cell 18 = .ok (.ireturn, 1) := by decide +kernel
theorem dL_act_0 : decode cL_act 0 = .ok (.iload_n 2, 1) := by decide +kernel
theorem dL_act_1 : decode cL_act 1 = .ok (.iconst 4, 1) := by decide +kernel
theorem dL_act_2 : decode cL_act 2 = .ok (.ishr, 1) := by decide +kernel
theorem dL_act_3 : decode cL_act 3 = .ok (.bipush 16, 2) := by decide +kernel
theorem dL_act_5 : decode cL_act 5 = .ok (.invokestatic 9, 3) := by decide +kernel
theorem dL_act_8 : decode cL_act 8 = .ok (.istore_n 3, 1) := by decide +kernel
theorem dL_act_9 : decode cL_act 9 = .ok (.aload_n 1, 1) := by decide +kernel
theorem dL_act_10 : decode cL_act 10 = .ok (.getfield 15, 3) := by decide +kernel
theorem dL_act_13 : decode cL_act 13 = .ok (.arraylength, 1) := by decide +kernel
theorem dL_act_14 : decode cL_act 14 = .ok (.istore 4, 2) := by decide +kernel
theorem dL_act_16 : decode cL_act 16 = .ok (.aload_n 1, 1) := by decide +kernel
theorem dL_act_17 : decode cL_act 17 = .ok (.getfield 21, 3) := by decide +kernel
theorem dL_act_20 : decode cL_act 20 = .ok (.arraylength, 1) := by decide +kernel
theorem dL_act_21 : decode cL_act 21 = .ok (.istore 5, 2) := by decide +kernel
theorem dL_act_23 : decode cL_act 23 = .ok (.iload_n 2, 1) := by decide +kernel
theorem dL_act_24 : decode cL_act 24 = .ok (.bipush 16, 2) := by decide +kernel
theorem dL_act_26 : decode cL_act 26 = .ok (.invokestatic 9, 3) := by decide +kernel
theorem dL_act_29 : decode cL_act 29 = .ok (.tableswitch 869 0 11 #[63, 121, 121, 197, 374, 374, 374, 464, 580, 580, 689, 797], 63) := by decide +kernel
theorem dL_act_92 : decode cL_act 92 = .ok (.iload_n 2, 1) := by decide +kernel
theorem dL_act_93 : decode cL_act 93 = .ok (.bipush 8, 2) := by decide +kernel
theorem dL_act_95 : decode cL_act 95 = .ok (.ishr, 1) := by decide +kernel
theorem dL_act_96 : decode cL_act 96 = .ok (.bipush 31, 2) := by decide +kernel
theorem dL_act_98 : decode cL_act 98 = .ok (.invokestatic 9, 3) := by decide +kernel
theorem dL_act_101 : decode cL_act 101 = .ok (.istore 6, 2) := by decide +kernel
theorem dL_act_103 : decode cL_act 103 = .ok (.aload_n 1, 1) := by decide +kernel
theorem dL_act_104 : decode cL_act 104 = .ok (.getfield 24, 3) := by decide +kernel
theorem dL_act_107 : decode cL_act 107 = .ok (.iload_n 3, 1) := by decide +kernel
theorem dL_act_108 : decode cL_act 108 = .ok (.iaload, 1) := by decide +kernel
theorem dL_act_109 : decode cL_act 109 = .ok (.iload 6, 2) := by decide +kernel
theorem dL_act_111 : decode cL_act 111 = .ok (.if_icmp .le 5, 3) := by decide +kernel
theorem dL_act_114 : decode cL_act 114 = .ok (.iconst 1, 1) := by decide +kernel
theorem dL_act_115 : decode cL_act 115 = .ok (.ireturn, 1) := by decide +kernel
theorem dL_act_116 : decode cL_act 116 = .ok (.aload_n 1, 1) := by decide +kernel
theorem dL_act_117 : decode cL_act 117 = .ok (.getfield 28, 3) := by decide +kernel
theorem dL_act_120 : decode cL_act 120 = .ok (.iload_n 3, 1) := by decide +kernel
theorem dL_act_121 : decode cL_act 121 = .ok (.iaload, 1) := by decide +kernel
theorem dL_act_122 : decode cL_act 122 = .ok (.istore 7, 2) := by decide +kernel
theorem dL_act_124 : decode cL_act 124 = .ok (.aload_n 1, 1) := by decide +kernel
theorem dL_act_125 : decode cL_act 125 = .ok (.getfield 28, 3) := by decide +kernel
theorem dL_act_128 : decode cL_act 128 = .ok (.iload_n 3, 1) := by decide +kernel
theorem dL_act_129 : decode cL_act 129 = .ok (.iload 6, 2) := by decide +kernel
theorem dL_act_131 : decode cL_act 131 = .ok (.iastore, 1) := by decide +kernel
theorem dL_act_132 : decode cL_act 132 = .ok (.aload_n 0, 1) := by decide +kernel
theorem dL_act_133 : decode cL_act 133 = .ok (.iload_n 3, 1) := by decide +kernel
theorem dL_act_134 : decode cL_act 134 = .ok (.iload 6, 2) := by decide +kernel
theorem dL_act_136 : decode cL_act 136 = .ok (.invokevirtual 31, 3) := by decide +kernel
theorem dL_act_139 : decode cL_act 139 = .ok (.iload 7, 2) := by decide +kernel
theorem dL_act_141 : decode cL_act 141 = .ok (.if_icmp .ne 7, 3) := by decide +kernel
theorem dL_act_144 : decode cL_act 144 = .ok (.iconst 1, 1) := by decide +kernel
theorem dL_act_145 : decode cL_act 145 = .ok (.goto 4, 3) := by decide +kernel
theorem dL_act_148 : decode cL_act 148 = .ok (.iconst 0, 1) := by decide +kernel
theorem dL_act_149 : decode cL_act 149 = .ok (.ireturn, 1) := by decide +kernel
theorem dL_act_150 : decode cL_act 150 = .ok (.iconst 1, 1) := by decide +kernel
theorem dL_act_151 : decode cL_act 151 = .ok (.iload_n 2, 1) := by decide +kernel
theorem dL_act_152 : decode cL_act 152 = .ok (.bipush 8, 2) := by decide +kernel
theorem dL_act_154 : decode cL_act 154 = .ok (.ishr, 1) := by decide +kernel
theorem dL_act_155 : decode cL_act 155 = .ok (.bipush 7, 2) := by decide +kernel
theorem dL_act_157 : decode cL_act 157 = .ok (.invokestatic 9, 3) := by decide +kernel
theorem dL_act_160 : decode cL_act 160 = .ok (.iadd, 1) := by decide +kernel
theorem dL_act_161 : decode cL_act 161 = .ok (.istore 6, 2) := by decide +kernel
theorem dL_act_163 : decode cL_act 163 = .ok (.iload_n 2, 1) := by decide +kernel
theorem dL_act_164 : decode cL_act 164 = .ok (.bipush 11, 2) := by decide +kernel
theorem dL_act_166 : decode cL_act 166 = .ok (.ishr, 1) := by decide +kernel
theorem dL_act_167 : decode cL_act 167 = .ok (.iconst 5, 1) := by decide +kernel
theorem dL_act_168 : decode cL_act 168 = .ok (.invokestatic 9, 3) := by decide +kernel
theorem dL_act_171 : decode cL_act 171 = .ok (.ifCond .ne 7, 3) := by decide +kernel
theorem dL_act_174 : decode cL_act 174 = .ok (.iconst (-1), 1) := by decide +kernel
theorem dL_act_175 : decode cL_act 175 = .ok (.goto 4, 3) := by decide +kernel
theorem dL_act_178 : decode cL_act 178 = .ok (.iload_n 3, 1) := by decide +kernel
theorem dL_act_179 : decode cL_act 179 = .ok (.istore 7, 2) := by decide +kernel
theorem dL_act_181 : decode cL_act 181 = .ok (.aload_n 1, 1) := by decide +kernel
theorem dL_act_182 : decode cL_act 182 = .ok (.getfield 36, 3) := by decide +kernel
theorem dL_act_185 : decode cL_act 185 = .ok (.iload 6, 2) := by decide +kernel
theorem dL_act_187 : decode cL_act 187 = .ok (.iaload, 1) := by decide +kernel
theorem dL_act_188 : decode cL_act 188 = .ok (.istore 8, 2) := by decide +kernel
theorem dL_act_190 : decode cL_act 190 = .ok (.aload_n 1, 1) := by decide +kernel
theorem dL_act_191 : decode cL_act 191 = .ok (.getfield 36, 3) := by decide +kernel
theorem dL_act_194 : decode cL_act 194 = .ok (.iload 6, 2) := by decide +kernel
theorem dL_act_196 : decode cL_act 196 = .ok (.iload 7, 2) := by decide +kernel
theorem dL_act_198 : decode cL_act 198 = .ok (.iastore, 1) := by decide +kernel
theorem dL_act_199 : decode cL_act 199 = .ok (.aload_n 1, 1) := by decide +kernel
theorem dL_act_200 : decode cL_act 200 = .ok (.getfield 39, 3) := by decide +kernel
theorem dL_act_203 : decode cL_act 203 = .ok (.iload 6, 2) := by decide +kernel
theorem dL_act_205 : decode cL_act 205 = .ok (.iconst 0, 1) := by decide +kernel
theorem dL_act_206 : decode cL_act 206 = .ok (.iastore, 1) := by decide +kernel
theorem dL_act_207 : decode cL_act 207 = .ok (.aload_n 0, 1) := by decide +kernel
theorem dL_act_208 : decode cL_act 208 = .ok (.iload 6, 2) := by decide +kernel
theorem dL_act_210 : decode cL_act 210 = .ok (.iload 7, 2) := by decide +kernel
theorem dL_act_212 : decode cL_act 212 = .ok (.invokevirtual 42, 3) := by decide +kernel
theorem dL_act_215 : decode cL_act 215 = .ok (.iload 8, 2) := by decide +kernel
theorem dL_act_217 : decode cL_act 217 = .ok (.if_icmp .ne 7, 3) := by decide +kernel
theorem dL_act_220 : decode cL_act 220 = .ok (.iconst 1, 1) := by decide +kernel
theorem dL_act_221 : decode cL_act 221 = .ok (.goto 4, 3) := by decide +kernel
theorem dL_act_224 : decode cL_act 224 = .ok (.iconst 0, 1) := by decide +kernel
theorem dL_act_225 : decode cL_act 225 = .ok (.ireturn, 1) := by decide +kernel
theorem dL_act_226 : decode cL_act 226 = .ok (.iload 4, 2) := by decide +kernel
theorem dL_act_228 : decode cL_act 228 = .ok (.iconst 5, 1) := by decide +kernel
theorem dL_act_229 : decode cL_act 229 = .ok (.if_icmp .ge 7, 3) := by decide +kernel
theorem dL_act_232 : decode cL_act 232 = .ok (.iconst 1, 1) := by decide +kernel
theorem dL_act_233 : decode cL_act 233 = .ok (.goto 4, 3) := by decide +kernel
theorem dL_act_236 : decode cL_act 236 = .ok (.iconst 0, 1) := by decide +kernel
theorem dL_act_237 : decode cL_act 237 = .ok (.istore 6, 2) := by decide +kernel
theorem dL_act_239 : decode cL_act 239 = .ok (.aload_n 1, 1) := by decide +kernel
theorem dL_act_240 : decode cL_act 240 = .ok (.getfield 15, 3) := by decide +kernel
theorem dL_act_243 : decode cL_act 243 = .ok (.astore 7, 2) := by decide +kernel
theorem dL_act_245 : decode cL_act 245 = .ok (.aload 7, 2) := by decide +kernel
theorem dL_act_247 : decode cL_act 247 = .ok (.arraylength, 1) := by decide +kernel
theorem dL_act_248 : decode cL_act 248 = .ok (.istore 8, 2) := by decide +kernel
theorem dL_act_250 : decode cL_act 250 = .ok (.iconst 0, 1) := by decide +kernel
theorem dL_act_251 : decode cL_act 251 = .ok (.istore 9, 2) := by decide +kernel
theorem dL_act_253 : decode cL_act 253 = .ok (.iload 9, 2) := by decide +kernel
theorem dL_act_255 : decode cL_act 255 = .ok (.iload 8, 2) := by decide +kernel
theorem dL_act_257 : decode cL_act 257 = .ok (.if_icmp .ge 34, 3) := by decide +kernel
theorem dL_act_260 : decode cL_act 260 = .ok (.aload 7, 2) := by decide +kernel
theorem dL_act_262 : decode cL_act 262 = .ok (.iload 9, 2) := by decide +kernel
theorem dL_act_264 : decode cL_act 264 = .ok (.aaload, 1) := by decide +kernel
theorem dL_act_265 : decode cL_act 265 = .ok (.astore 10, 2) := by decide +kernel
theorem dL_act_267 : decode cL_act 267 = .ok (.iload 6, 2) := by decide +kernel
theorem dL_act_269 : decode cL_act 269 = .ok (.aload 10, 2) := by decide +kernel
theorem dL_act_271 : decode cL_act 271 = .ok (.iconst 0, 1) := by decide +kernel
theorem dL_act_272 : decode cL_act 272 = .ok (.iaload, 1) := by decide +kernel
theorem dL_act_273 : decode cL_act 273 = .ok (.iload_n 3, 1) := by decide +kernel
theorem dL_act_274 : decode cL_act 274 = .ok (.if_icmp .eq 7, 3) := by decide +kernel
theorem dL_act_277 : decode cL_act 277 = .ok (.iconst 1, 1) := by decide +kernel
theorem dL_act_278 : decode cL_act 278 = .ok (.goto 4, 3) := by decide +kernel
theorem dL_act_281 : decode cL_act 281 = .ok (.iconst 0, 1) := by decide +kernel
theorem dL_act_282 : decode cL_act 282 = .ok (.iand, 1) := by decide +kernel
theorem dL_act_283 : decode cL_act 283 = .ok (.istore 6, 2) := by decide +kernel
theorem dL_act_285 : decode cL_act 285 = .ok (.iinc 9 1, 3) := by decide +kernel
theorem dL_act_288 : decode cL_act 288 = .ok (.goto (-35), 3) := by decide +kernel
theorem dL_act_291 : decode cL_act 291 = .ok (.iload 6, 2) := by decide +kernel
theorem dL_act_293 : decode cL_act 293 = .ok (.ifCond .eq 72, 3) := by decide +kernel
theorem dL_act_296 : decode cL_act 296 = .ok (.aload_n 1, 1) := by decide +kernel
theorem dL_act_297 : decode cL_act 297 = .ok (.aload_n 1, 1) := by decide +kernel
theorem dL_act_298 : decode cL_act 298 = .ok (.getfield 15, 3) := by decide +kernel
theorem dL_act_301 : decode cL_act 301 = .ok (.bipush 12, 2) := by decide +kernel
theorem dL_act_303 : decode cL_act 303 = .ok (.newarray .int, 2) := by decide +kernel
theorem dL_act_305 : decode cL_act 305 = .ok (.dup, 1) := by decide +kernel
theorem dL_act_306 : decode cL_act 306 = .ok (.iconst 0, 1) := by decide +kernel
theorem dL_act_307 : decode cL_act 307 = .ok (.iload_n 3, 1) := by decide +kernel
theorem dL_act_308 : decode cL_act 308 = .ok (.iastore, 1) := by decide +kernel
theorem dL_act_309 : decode cL_act 309 = .ok (.dup, 1) := by decide +kernel
theorem dL_act_310 : decode cL_act 310 = .ok (.iconst 1, 1) := by decide +kernel
theorem dL_act_311 : decode cL_act 311 = .ok (.iconst 0, 1) := by decide +kernel
theorem dL_act_312 : decode cL_act 312 = .ok (.iastore, 1) := by decide +kernel
theorem dL_act_313 : decode cL_act 313 = .ok (.dup, 1) := by decide +kernel
theorem dL_act_314 : decode cL_act 314 = .ok (.iconst 2, 1) := by decide +kernel
theorem dL_act_315 : decode cL_act 315 = .ok (.iconst 0, 1) := by decide +kernel
theorem dL_act_316 : decode cL_act 316 = .ok (.iastore, 1) := by decide +kernel
theorem dL_act_317 : decode cL_act 317 = .ok (.dup, 1) := by decide +kernel
theorem dL_act_318 : decode cL_act 318 = .ok (.iconst 3, 1) := by decide +kernel
theorem dL_act_319 : decode cL_act 319 = .ok (.iconst 0, 1) := by decide +kernel
theorem dL_act_320 : decode cL_act 320 = .ok (.iastore, 1) := by decide +kernel
theorem dL_act_321 : decode cL_act 321 = .ok (.dup, 1) := by decide +kernel
theorem dL_act_322 : decode cL_act 322 = .ok (.iconst 4, 1) := by decide +kernel
theorem dL_act_323 : decode cL_act 323 = .ok (.iconst 0, 1) := by decide +kernel
theorem dL_act_324 : decode cL_act 324 = .ok (.iastore, 1) := by decide +kernel
theorem dL_act_325 : decode cL_act 325 = .ok (.dup, 1) := by decide +kernel
theorem dL_act_326 : decode cL_act 326 = .ok (.iconst 5, 1) := by decide +kernel
theorem dL_act_327 : decode cL_act 327 = .ok (.iconst 0, 1) := by decide +kernel
theorem dL_act_328 : decode cL_act 328 = .ok (.iastore, 1) := by decide +kernel
theorem dL_act_329 : decode cL_act 329 = .ok (.dup, 1) := by decide +kernel
theorem dL_act_330 : decode cL_act 330 = .ok (.bipush 6, 2) := by decide +kernel
theorem dL_act_332 : decode cL_act 332 = .ok (.iconst 0, 1) := by decide +kernel
theorem dL_act_333 : decode cL_act 333 = .ok (.iastore, 1) := by decide +kernel
theorem dL_act_334 : decode cL_act 334 = .ok (.dup, 1) := by decide +kernel
theorem dL_act_335 : decode cL_act 335 = .ok (.bipush 7, 2) := by decide +kernel
theorem dL_act_337 : decode cL_act 337 = .ok (.iconst 0, 1) := by decide +kernel
theorem dL_act_338 : decode cL_act 338 = .ok (.iastore, 1) := by decide +kernel
theorem dL_act_339 : decode cL_act 339 = .ok (.dup, 1) := by decide +kernel
theorem dL_act_340 : decode cL_act 340 = .ok (.bipush 8, 2) := by decide +kernel
theorem dL_act_342 : decode cL_act 342 = .ok (.iconst 0, 1) := by decide +kernel
theorem dL_act_343 : decode cL_act 343 = .ok (.iastore, 1) := by decide +kernel
theorem dL_act_344 : decode cL_act 344 = .ok (.dup, 1) := by decide +kernel
theorem dL_act_345 : decode cL_act 345 = .ok (.bipush 9, 2) := by decide +kernel
theorem dL_act_347 : decode cL_act 347 = .ok (.iconst 0, 1) := by decide +kernel
theorem dL_act_348 : decode cL_act 348 = .ok (.iastore, 1) := by decide +kernel
theorem dL_act_349 : decode cL_act 349 = .ok (.dup, 1) := by decide +kernel
theorem dL_act_350 : decode cL_act 350 = .ok (.bipush 10, 2) := by decide +kernel
theorem dL_act_352 : decode cL_act 352 = .ok (.iconst 0, 1) := by decide +kernel
theorem dL_act_353 : decode cL_act 353 = .ok (.iastore, 1) := by decide +kernel
theorem dL_act_354 : decode cL_act 354 = .ok (.dup, 1) := by decide +kernel
theorem dL_act_355 : decode cL_act 355 = .ok (.bipush 11, 2) := by decide +kernel
theorem dL_act_357 : decode cL_act 357 = .ok (.iconst 0, 1) := by decide +kernel
theorem dL_act_358 : decode cL_act 358 = .ok (.iastore, 1) := by decide +kernel
theorem dL_act_359 : decode cL_act 359 = .ok (.invokestatic 45, 3) := by decide +kernel
theorem dL_act_362 : decode cL_act 362 = .ok (.putfield 15, 3) := by decide +kernel
theorem dL_act_365 : decode cL_act 365 = .ok (.aload_n 0, 1) := by decide +kernel
theorem dL_act_366 : decode cL_act 366 = .ok (.iload_n 3, 1) := by decide +kernel
theorem dL_act_367 : decode cL_act 367 = .ok (.invokevirtual 49, 3) := by decide +kernel
theorem dL_act_370 : decode cL_act 370 = .ok (.istore 7, 2) := by decide +kernel
theorem dL_act_372 : decode cL_act 372 = .ok (.iload 6, 2) := by decide +kernel
theorem dL_act_374 : decode cL_act 374 = .ok (.ifCond .eq 14, 3) := by decide +kernel
theorem dL_act_377 : decode cL_act 377 = .ok (.iload 7, 2) := by decide +kernel
theorem dL_act_379 : decode cL_act 379 = .ok (.iload 4, 2) := by decide +kernel
theorem dL_act_381 : decode cL_act 381 = .ok (.if_icmp .ne 7, 3) := by decide +kernel
theorem dL_act_384 : decode cL_act 384 = .ok (.iconst 1, 1) := by decide +kernel
theorem dL_act_385 : decode cL_act 385 = .ok (.goto 4, 3) := by decide +kernel
theorem dL_act_388 : decode cL_act 388 = .ok (.iconst 0, 1) := by decide +kernel
theorem dL_act_389 : decode cL_act 389 = .ok (.ireturn, 1) := by decide +kernel
theorem dL_act_390 : decode cL_act 390 = .ok (.astore 7, 2) := by decide +kernel
theorem dL_act_392 : decode cL_act 392 = .ok (.iload 6, 2) := by decide +kernel
theorem dL_act_394 : decode cL_act 394 = .ok (.ifCond .ne 7, 3) := by decide +kernel
theorem dL_act_397 : decode cL_act 397 = .ok (.iconst 1, 1) := by decide +kernel
theorem dL_act_398 : decode cL_act 398 = .ok (.goto 4, 3) := by decide +kernel
theorem dL_act_401 : decode cL_act 401 = .ok (.iconst 0, 1) := by decide +kernel
theorem dL_act_402 : decode cL_act 402 = .ok (.ireturn, 1) := by decide +kernel
theorem dL_act_403 : decode cL_act 403 = .ok (.iload 4, 2) := by decide +kernel
theorem dL_act_405 : decode cL_act 405 = .ok (.ifCond .ne 5, 3) := by decide +kernel
theorem dL_act_408 : decode cL_act 408 = .ok (.iconst 1, 1) := by decide +kernel
theorem dL_act_409 : decode cL_act 409 = .ok (.ireturn, 1) := by decide +kernel
theorem dL_act_410 : decode cL_act 410 = .ok (.aload_n 1, 1) := by decide +kernel
theorem dL_act_411 : decode cL_act 411 = .ok (.getfield 15, 3) := by decide +kernel
theorem dL_act_414 : decode cL_act 414 = .ok (.iload_n 2, 1) := by decide +kernel
theorem dL_act_415 : decode cL_act 415 = .ok (.iconst 4, 1) := by decide +kernel
theorem dL_act_416 : decode cL_act 416 = .ok (.ishr, 1) := by decide +kernel
theorem dL_act_417 : decode cL_act 417 = .ok (.iload 4, 2) := by decide +kernel
theorem dL_act_419 : decode cL_act 419 = .ok (.invokestatic 9, 3) := by decide +kernel
theorem dL_act_422 : decode cL_act 422 = .ok (.aaload, 1) := by decide +kernel
theorem dL_act_423 : decode cL_act 423 = .ok (.astore 6, 2) := by decide +kernel
theorem dL_act_425 : decode cL_act 425 = .ok (.iload_n 2, 1) := by decide +kernel
theorem dL_act_426 : decode cL_act 426 = .ok (.bipush 7, 2) := by decide +kernel
theorem dL_act_428 : decode cL_act 428 = .ok (.ishr, 1) := by decide +kernel
theorem dL_act_429 : decode cL_act 429 = .ok (.bipush 10, 2) := by decide +kernel
theorem dL_act_431 : decode cL_act 431 = .ok (.invokestatic 9, 3) := by decide +kernel
theorem dL_act_434 : decode cL_act 434 = .ok (.istore 7, 2) := by decide +kernel
theorem dL_act_436 : decode cL_act 436 = .ok (.aload 6, 2) := by decide +kernel
theorem dL_act_438 : decode cL_act 438 = .ok (.iconst 1, 1) := by decide +kernel
theorem dL_act_439 : decode cL_act 439 = .ok (.iload 7, 2) := by decide +kernel
theorem dL_act_441 : decode cL_act 441 = .ok (.iadd, 1) := by decide +kernel
theorem dL_act_442 : decode cL_act 442 = .ok (.iaload, 1) := by decide +kernel
theorem dL_act_443 : decode cL_act 443 = .ok (.istore 8, 2) := by decide +kernel
theorem dL_act_445 : decode cL_act 445 = .ok (.aload 6, 2) := by decide +kernel
theorem dL_act_447 : decode cL_act 447 = .ok (.iconst 1, 1) := by decide +kernel
theorem dL_act_448 : decode cL_act 448 = .ok (.iload 7, 2) := by decide +kernel
theorem dL_act_450 : decode cL_act 450 = .ok (.iadd, 1) := by decide +kernel
theorem dL_act_451 : decode cL_act 451 = .ok (.iload_n 2, 1) := by decide +kernel
theorem dL_act_452 : decode cL_act 452 = .ok (.bipush 10, 2) := by decide +kernel
theorem dL_act_454 : decode cL_act 454 = .ok (.ishr, 1) := by decide +kernel
theorem dL_act_455 : decode cL_act 455 = .ok (.bipush 8, 2) := by decide +kernel
theorem dL_act_457 : decode cL_act 457 = .ok (.invokestatic 9, 3) := by decide +kernel
theorem dL_act_460 : decode cL_act 460 = .ok (.iastore, 1) := by decide +kernel
theorem dL_act_461 : decode cL_act 461 = .ok (.aload_n 0, 1) := by decide +kernel
theorem dL_act_462 : decode cL_act 462 = .ok (.iload_n 2, 1) := by decide +kernel
theorem dL_act_463 : decode cL_act 463 = .ok (.iconst 4, 1) := by decide +kernel
theorem dL_act_464 : decode cL_act 464 = .ok (.ishr, 1) := by decide +kernel
theorem dL_act_465 : decode cL_act 465 = .ok (.iload 4, 2) := by decide +kernel
theorem dL_act_467 : decode cL_act 467 = .ok (.invokestatic 9, 3) := by decide +kernel
theorem dL_act_470 : decode cL_act 470 = .ok (.iload 7, 2) := by decide +kernel
theorem dL_act_472 : decode cL_act 472 = .ok (.aload 6, 2) := by decide +kernel
theorem dL_act_474 : decode cL_act 474 = .ok (.iconst 1, 1) := by decide +kernel
theorem dL_act_475 : decode cL_act 475 = .ok (.iload 7, 2) := by decide +kernel
theorem dL_act_477 : decode cL_act 477 = .ok (.iadd, 1) := by decide +kernel
theorem dL_act_478 : decode cL_act 478 = .ok (.iaload, 1) := by decide +kernel
theorem dL_act_479 : decode cL_act 479 = .ok (.invokevirtual 55, 3) := by decide +kernel
theorem dL_act_482 : decode cL_act 482 = .ok (.iload 8, 2) := by decide +kernel
theorem dL_act_484 : decode cL_act 484 = .ok (.if_icmp .ne 7, 3) := by decide +kernel
theorem dL_act_487 : decode cL_act 487 = .ok (.iconst 1, 1) := by decide +kernel
theorem dL_act_488 : decode cL_act 488 = .ok (.goto 4, 3) := by decide +kernel
theorem dL_act_491 : decode cL_act 491 = .ok (.iconst 0, 1) := by decide +kernel
theorem dL_act_492 : decode cL_act 492 = .ok (.ireturn, 1) := by decide +kernel
theorem dL_act_493 : decode cL_act 493 = .ok (.bipush 15, 2) := by decide +kernel
theorem dL_act_495 : decode cL_act 495 = .ok (.iload_n 3, 1) := by decide +kernel
theorem dL_act_496 : decode cL_act 496 = .ok (.iload_n 2, 1) := by decide +kernel
theorem dL_act_497 : decode cL_act 497 = .ok (.bipush 8, 2) := by decide +kernel
theorem dL_act_499 : decode cL_act 499 = .ok (.ishr, 1) := by decide +kernel
theorem dL_act_500 : decode cL_act 500 = .ok (.bipush 6, 2) := by decide +kernel
theorem dL_act_502 : decode cL_act 502 = .ok (.invokestatic 9, 3) := by decide +kernel
theorem dL_act_505 : decode cL_act 505 = .ok (.iadd, 1) := by decide +kernel
theorem dL_act_506 : decode cL_act 506 = .ok (.invokestatic 59, 3) := by decide +kernel
theorem dL_act_509 : decode cL_act 509 = .ok (.istore 6, 2) := by decide +kernel
theorem dL_act_511 : decode cL_act 511 = .ok (.iload_n 2, 1) := by decide +kernel
theorem dL_act_512 : decode cL_act 512 = .ok (.bipush 10, 2) := by decide +kernel
theorem dL_act_514 : decode cL_act 514 = .ok (.ishr, 1) := by decide +kernel
theorem dL_act_515 : decode cL_act 515 = .ok (.iconst 4, 1) := by decide +kernel
theorem dL_act_516 : decode cL_act 516 = .ok (.invokestatic 9, 3) := by decide +kernel
theorem dL_act_519 : decode cL_act 519 = .ok (.istore 7, 2) := by decide +kernel
theorem dL_act_521 : decode cL_act 521 = .ok (.aload_n 1, 1) := by decide +kernel
theorem dL_act_522 : decode cL_act 522 = .ok (.getfield 64, 3) := by decide +kernel
theorem dL_act_525 : decode cL_act 525 = .ok (.arraylength, 1) := by decide +kernel
theorem dL_act_526 : decode cL_act 526 = .ok (.iconst 4, 1) := by decide +kernel
theorem dL_act_527 : decode cL_act 527 = .ok (.if_icmp .eq 14, 3) := by decide +kernel
theorem dL_act_530 : decode cL_act 530 = .ok (.iload_n 2, 1) := by decide +kernel
theorem dL_act_531 : decode cL_act 531 = .ok (.bipush 12, 2) := by decide +kernel
theorem dL_act_533 : decode cL_act 533 = .ok (.ishr, 1) := by decide +kernel
theorem dL_act_534 : decode cL_act 534 = .ok (.iconst 2, 1) := by decide +kernel
theorem dL_act_535 : decode cL_act 535 = .ok (.invokestatic 9, 3) := by decide +kernel
theorem dL_act_538 : decode cL_act 538 = .ok (.ifCond .ne 5, 3) := by decide +kernel
theorem dL_act_541 : decode cL_act 541 = .ok (.iconst 1, 1) := by decide +kernel
theorem dL_act_542 : decode cL_act 542 = .ok (.ireturn, 1) := by decide +kernel
theorem dL_act_543 : decode cL_act 543 = .ok (.aload_n 1, 1) := by decide +kernel
theorem dL_act_544 : decode cL_act 544 = .ok (.aload_n 1, 1) := by decide +kernel
theorem dL_act_545 : decode cL_act 545 = .ok (.getfield 64, 3) := by decide +kernel
theorem dL_act_548 : decode cL_act 548 = .ok (.bipush 6, 2) := by decide +kernel
theorem dL_act_550 : decode cL_act 550 = .ok (.newarray .int, 2) := by decide +kernel
theorem dL_act_552 : decode cL_act 552 = .ok (.dup, 1) := by decide +kernel
theorem dL_act_553 : decode cL_act 553 = .ok (.iconst 0, 1) := by decide +kernel
theorem dL_act_554 : decode cL_act 554 = .ok (.iload_n 3, 1) := by decide +kernel
theorem dL_act_555 : decode cL_act 555 = .ok (.iastore, 1) := by decide +kernel
theorem dL_act_556 : decode cL_act 556 = .ok (.dup, 1) := by decide +kernel
theorem dL_act_557 : decode cL_act 557 = .ok (.iconst 1, 1) := by decide +kernel
theorem dL_act_558 : decode cL_act 558 = .ok (.iload 6, 2) := by decide +kernel
theorem dL_act_560 : decode cL_act 560 = .ok (.iastore, 1) := by decide +kernel
theorem dL_act_561 : decode cL_act 561 = .ok (.dup, 1) := by decide +kernel
theorem dL_act_562 : decode cL_act 562 = .ok (.iconst 2, 1) := by decide +kernel
theorem dL_act_563 : decode cL_act 563 = .ok (.iload 7, 2) := by decide +kernel
theorem dL_act_565 : decode cL_act 565 = .ok (.iastore, 1) := by decide +kernel
theorem dL_act_566 : decode cL_act 566 = .ok (.dup, 1) := by decide +kernel
theorem dL_act_567 : decode cL_act 567 = .ok (.iconst 3, 1) := by decide +kernel
theorem dL_act_568 : decode cL_act 568 = .ok (.iload_n 3, 1) := by decide +kernel
theorem dL_act_569 : decode cL_act 569 = .ok (.iastore, 1) := by decide +kernel
theorem dL_act_570 : decode cL_act 570 = .ok (.dup, 1) := by decide +kernel
theorem dL_act_571 : decode cL_act 571 = .ok (.iconst 4, 1) := by decide +kernel
theorem dL_act_572 : decode cL_act 572 = .ok (.iconst 1, 1) := by decide +kernel
theorem dL_act_573 : decode cL_act 573 = .ok (.iastore, 1) := by decide +kernel
theorem dL_act_574 : decode cL_act 574 = .ok (.dup, 1) := by decide +kernel
theorem dL_act_575 : decode cL_act 575 = .ok (.iconst 5, 1) := by decide +kernel
theorem dL_act_576 : decode cL_act 576 = .ok (.iconst 0, 1) := by decide +kernel
theorem dL_act_577 : decode cL_act 577 = .ok (.iastore, 1) := by decide +kernel
theorem dL_act_578 : decode cL_act 578 = .ok (.invokestatic 45, 3) := by decide +kernel
theorem dL_act_581 : decode cL_act 581 = .ok (.putfield 64, 3) := by decide +kernel
theorem dL_act_584 : decode cL_act 584 = .ok (.aload_n 0, 1) := by decide +kernel
theorem dL_act_585 : decode cL_act 585 = .ok (.iload_n 3, 1) := by decide +kernel
theorem dL_act_586 : decode cL_act 586 = .ok (.iload 6, 2) := by decide +kernel
theorem dL_act_588 : decode cL_act 588 = .ok (.iload 7, 2) := by decide +kernel
theorem dL_act_590 : decode cL_act 590 = .ok (.invokevirtual 67, 3) := by decide +kernel
theorem dL_act_593 : decode cL_act 593 = .ok (.aload_n 1, 1) := by decide +kernel
theorem dL_act_594 : decode cL_act 594 = .ok (.getfield 64, 3) := by decide +kernel
theorem dL_act_597 : decode cL_act 597 = .ok (.arraylength, 1) := by decide +kernel
theorem dL_act_598 : decode cL_act 598 = .ok (.iconst 1, 1) := by decide +kernel
theorem dL_act_599 : decode cL_act 599 = .ok (.isub, 1) := by decide +kernel
theorem dL_act_600 : decode cL_act 600 = .ok (.if_icmp .ne 7, 3) := by decide +kernel
theorem dL_act_603 : decode cL_act 603 = .ok (.iconst 1, 1) := by decide +kernel
theorem dL_act_604 : decode cL_act 604 = .ok (.goto 4, 3) := by decide +kernel
theorem dL_act_607 : decode cL_act 607 = .ok (.iconst 0, 1) := by decide +kernel
theorem dL_act_608 : decode cL_act 608 = .ok (.ireturn, 1) := by decide +kernel
theorem dL_act_609 : decode cL_act 609 = .ok (.iconst 1, 1) := by decide +kernel
theorem dL_act_610 : decode cL_act 610 = .ok (.iload_n 2, 1) := by decide +kernel
theorem dL_act_611 : decode cL_act 611 = .ok (.bipush 8, 2) := by decide +kernel
theorem dL_act_613 : decode cL_act 613 = .ok (.ishr, 1) := by decide +kernel
theorem dL_act_614 : decode cL_act 614 = .ok (.bipush 20, 2) := by decide +kernel
theorem dL_act_616 : decode cL_act 616 = .ok (.invokestatic 9, 3) := by decide +kernel
theorem dL_act_619 : decode cL_act 619 = .ok (.iadd, 1) := by decide +kernel
theorem dL_act_620 : decode cL_act 620 = .ok (.istore 6, 2) := by decide +kernel
theorem dL_act_622 : decode cL_act 622 = .ok (.iload 5, 2) := by decide +kernel
theorem dL_act_624 : decode cL_act 624 = .ok (.bipush 6, 2) := by decide +kernel
theorem dL_act_626 : decode cL_act 626 = .ok (.if_icmp .ge 48, 3) := by decide +kernel
theorem dL_act_629 : decode cL_act 629 = .ok (.aload_n 1, 1) := by decide +kernel
theorem dL_act_630 : decode cL_act 630 = .ok (.aload_n 1, 1) := by decide +kernel
theorem dL_act_631 : decode cL_act 631 = .ok (.getfield 21, 3) := by decide +kernel
theorem dL_act_634 : decode cL_act 634 = .ok (.bipush 7, 2) := by decide +kernel
theorem dL_act_636 : decode cL_act 636 = .ok (.newarray .int, 2) := by decide +kernel
theorem dL_act_638 : decode cL_act 638 = .ok (.dup, 1) := by decide +kernel
theorem dL_act_639 : decode cL_act 639 = .ok (.iconst 0, 1) := by decide +kernel
theorem dL_act_640 : decode cL_act 640 = .ok (.iload_n 3, 1) := by decide +kernel
theorem dL_act_641 : decode cL_act 641 = .ok (.iastore, 1) := by decide +kernel
theorem dL_act_642 : decode cL_act 642 = .ok (.dup, 1) := by decide +kernel
theorem dL_act_643 : decode cL_act 643 = .ok (.iconst 1, 1) := by decide +kernel
theorem dL_act_644 : decode cL_act 644 = .ok (.iload 6, 2) := by decide +kernel
theorem dL_act_646 : decode cL_act 646 = .ok (.iastore, 1) := by decide +kernel
theorem dL_act_647 : decode cL_act 647 = .ok (.dup, 1) := by decide +kernel
theorem dL_act_648 : decode cL_act 648 = .ok (.iconst 2, 1) := by decide +kernel
theorem dL_act_649 : decode cL_act 649 = .ok (.iconst (-1), 1) := by decide +kernel
theorem dL_act_650 : decode cL_act 650 = .ok (.iastore, 1) := by decide +kernel
theorem dL_act_651 : decode cL_act 651 = .ok (.dup, 1) := by decide +kernel
theorem dL_act_652 : decode cL_act 652 = .ok (.iconst 3, 1) := by decide +kernel
theorem dL_act_653 : decode cL_act 653 = .ok (.iconst 0, 1) := by decide +kernel
theorem dL_act_654 : decode cL_act 654 = .ok (.iastore, 1) := by decide +kernel
theorem dL_act_655 : decode cL_act 655 = .ok (.dup, 1) := by decide +kernel
theorem dL_act_656 : decode cL_act 656 = .ok (.iconst 4, 1) := by decide +kernel
theorem dL_act_657 : decode cL_act 657 = .ok (.iconst 0, 1) := by decide +kernel
theorem dL_act_658 : decode cL_act 658 = .ok (.iastore, 1) := by decide +kernel
theorem dL_act_659 : decode cL_act 659 = .ok (.dup, 1) := by decide +kernel
theorem dL_act_660 : decode cL_act 660 = .ok (.iconst 5, 1) := by decide +kernel
theorem dL_act_661 : decode cL_act 661 = .ok (.iconst 0, 1) := by decide +kernel
theorem dL_act_662 : decode cL_act 662 = .ok (.iastore, 1) := by decide +kernel
theorem dL_act_663 : decode cL_act 663 = .ok (.dup, 1) := by decide +kernel
theorem dL_act_664 : decode cL_act 664 = .ok (.bipush 6, 2) := by decide +kernel
theorem dL_act_666 : decode cL_act 666 = .ok (.iconst 1, 1) := by decide +kernel
theorem dL_act_667 : decode cL_act 667 = .ok (.iastore, 1) := by decide +kernel
theorem dL_act_668 : decode cL_act 668 = .ok (.invokestatic 45, 3) := by decide +kernel
theorem dL_act_671 : decode cL_act 671 = .ok (.putfield 21, 3) := by decide +kernel
theorem dL_act_674 : decode cL_act 674 = .ok (.aload_n 0, 1) := by decide +kernel
theorem dL_act_675 : decode cL_act 675 = .ok (.iload_n 3, 1) := by decide +kernel
theorem dL_act_676 : decode cL_act 676 = .ok (.iload 6, 2) := by decide +kernel
theorem dL_act_678 : decode cL_act 678 = .ok (.invokevirtual 70, 3) := by decide +kernel
theorem dL_act_681 : decode cL_act 681 = .ok (.istore 7, 2) := by decide +kernel
theorem dL_act_683 : decode cL_act 683 = .ok (.iload 5, 2) := by decide +kernel
theorem dL_act_685 : decode cL_act 685 = .ok (.bipush 6, 2) := by decide +kernel
theorem dL_act_687 : decode cL_act 687 = .ok (.if_icmp .ge 14, 3) := by decide +kernel
theorem dL_act_690 : decode cL_act 690 = .ok (.iload 7, 2) := by decide +kernel
theorem dL_act_692 : decode cL_act 692 = .ok (.iload 5, 2) := by decide +kernel
theorem dL_act_694 : decode cL_act 694 = .ok (.if_icmp .ne 7, 3) := by decide +kernel
theorem dL_act_697 : decode cL_act 697 = .ok (.iconst 1, 1) := by decide +kernel
theorem dL_act_698 : decode cL_act 698 = .ok (.goto 4, 3) := by decide +kernel
theorem dL_act_701 : decode cL_act 701 = .ok (.iconst 0, 1) := by decide +kernel
theorem dL_act_702 : decode cL_act 702 = .ok (.ireturn, 1) := by decide +kernel
theorem dL_act_703 : decode cL_act 703 = .ok (.astore 7, 2) := by decide +kernel
theorem dL_act_705 : decode cL_act 705 = .ok (.iload 5, 2) := by decide +kernel
theorem dL_act_707 : decode cL_act 707 = .ok (.bipush 6, 2) := by decide +kernel
theorem dL_act_709 : decode cL_act 709 = .ok (.if_icmp .ne 7, 3) := by decide +kernel
theorem dL_act_712 : decode cL_act 712 = .ok (.iconst 1, 1) := by decide +kernel
theorem dL_act_713 : decode cL_act 713 = .ok (.goto 4, 3) := by decide +kernel
theorem dL_act_716 : decode cL_act 716 = .ok (.iconst 0, 1) := by decide +kernel
theorem dL_act_717 : decode cL_act 717 = .ok (.ireturn, 1) := by decide +kernel
theorem dL_act_718 : decode cL_act 718 = .ok (.iload 5, 2) := by decide +kernel
theorem dL_act_720 : decode cL_act 720 = .ok (.ifCond .ne 5, 3) := by decide +kernel
theorem dL_act_723 : decode cL_act 723 = .ok (.iconst 1, 1) := by decide +kernel
theorem dL_act_724 : decode cL_act 724 = .ok (.ireturn, 1) := by decide +kernel
theorem dL_act_725 : decode cL_act 725 = .ok (.aload_n 1, 1) := by decide +kernel
theorem dL_act_726 : decode cL_act 726 = .ok (.getfield 21, 3) := by decide +kernel
theorem dL_act_729 : decode cL_act 729 = .ok (.iload_n 2, 1) := by decide +kernel
theorem dL_act_730 : decode cL_act 730 = .ok (.bipush 8, 2) := by decide +kernel
theorem dL_act_732 : decode cL_act 732 = .ok (.ishr, 1) := by decide +kernel
theorem dL_act_733 : decode cL_act 733 = .ok (.iload 5, 2) := by decide +kernel
theorem dL_act_735 : decode cL_act 735 = .ok (.invokestatic 9, 3) := by decide +kernel
theorem dL_act_738 : decode cL_act 738 = .ok (.aaload, 1) := by decide +kernel
theorem dL_act_739 : decode cL_act 739 = .ok (.astore 6, 2) := by decide +kernel
theorem dL_act_741 : decode cL_act 741 = .ok (.iload_n 2, 1) := by decide +kernel
theorem dL_act_742 : decode cL_act 742 = .ok (.bipush 11, 2) := by decide +kernel
theorem dL_act_744 : decode cL_act 744 = .ok (.ishr, 1) := by decide +kernel
theorem dL_act_745 : decode cL_act 745 = .ok (.iconst 4, 1) := by decide +kernel
theorem dL_act_746 : decode cL_act 746 = .ok (.invokestatic 9, 3) := by decide +kernel
theorem dL_act_749 : decode cL_act 749 = .ok (.ifCond .ne 7, 3) := by decide +kernel
theorem dL_act_752 : decode cL_act 752 = .ok (.iconst (-1), 1) := by decide +kernel
theorem dL_act_753 : decode cL_act 753 = .ok (.goto 4, 3) := by decide +kernel
theorem dL_act_756 : decode cL_act 756 = .ok (.iload_n 3, 1) := by decide +kernel
theorem dL_act_757 : decode cL_act 757 = .ok (.istore 7, 2) := by decide +kernel
theorem dL_act_759 : decode cL_act 759 = .ok (.aload 6, 2) := by decide +kernel
theorem dL_act_761 : decode cL_act 761 = .ok (.iconst 2, 1) := by decide +kernel
theorem dL_act_762 : decode cL_act 762 = .ok (.iaload, 1) := by decide +kernel
theorem dL_act_763 : decode cL_act 763 = .ok (.istore 8, 2) := by decide +kernel
theorem dL_act_765 : decode cL_act 765 = .ok (.aload 6, 2) := by decide +kernel
theorem dL_act_767 : decode cL_act 767 = .ok (.iconst 3, 1) := by decide +kernel
theorem dL_act_768 : decode cL_act 768 = .ok (.iaload, 1) := by decide +kernel
theorem dL_act_769 : decode cL_act 769 = .ok (.ifCond .le 5, 3) := by decide +kernel
theorem dL_act_772 : decode cL_act 772 = .ok (.iconst 1, 1) := by decide +kernel
theorem dL_act_773 : decode cL_act 773 = .ok (.ireturn, 1) := by decide +kernel
theorem dL_act_774 : decode cL_act 774 = .ok (.aload 6, 2) := by decide +kernel
theorem dL_act_776 : decode cL_act 776 = .ok (.iconst 2, 1) := by decide +kernel
theorem dL_act_777 : decode cL_act 777 = .ok (.iload 7, 2) := by decide +kernel
theorem dL_act_779 : decode cL_act 779 = .ok (.iastore, 1) := by decide +kernel
theorem dL_act_780 : decode cL_act 780 = .ok (.aload 6, 2) := by decide +kernel
theorem dL_act_782 : decode cL_act 782 = .ok (.iconst 5, 1) := by decide +kernel
theorem dL_act_783 : decode cL_act 783 = .ok (.iconst 0, 1) := by decide +kernel
theorem dL_act_784 : decode cL_act 784 = .ok (.iastore, 1) := by decide +kernel
theorem dL_act_785 : decode cL_act 785 = .ok (.aload 6, 2) := by decide +kernel
theorem dL_act_787 : decode cL_act 787 = .ok (.bipush 6, 2) := by decide +kernel
theorem dL_act_789 : decode cL_act 789 = .ok (.iload 7, 2) := by decide +kernel
theorem dL_act_791 : decode cL_act 791 = .ok (.ifCond .ge 7, 3) := by decide +kernel
theorem dL_act_794 : decode cL_act 794 = .ok (.iconst 1, 1) := by decide +kernel
theorem dL_act_795 : decode cL_act 795 = .ok (.goto 4, 3) := by decide +kernel
theorem dL_act_798 : decode cL_act 798 = .ok (.iconst 0, 1) := by decide +kernel
theorem dL_act_799 : decode cL_act 799 = .ok (.iastore, 1) := by decide +kernel
theorem dL_act_800 : decode cL_act 800 = .ok (.aload_n 0, 1) := by decide +kernel
theorem dL_act_801 : decode cL_act 801 = .ok (.iload_n 2, 1) := by decide +kernel
theorem dL_act_802 : decode cL_act 802 = .ok (.bipush 8, 2) := by decide +kernel
theorem dL_act_804 : decode cL_act 804 = .ok (.ishr, 1) := by decide +kernel
theorem dL_act_805 : decode cL_act 805 = .ok (.iload 5, 2) := by decide +kernel
theorem dL_act_807 : decode cL_act 807 = .ok (.invokestatic 9, 3) := by decide +kernel
theorem dL_act_810 : decode cL_act 810 = .ok (.iload 7, 2) := by decide +kernel
theorem dL_act_812 : decode cL_act 812 = .ok (.invokevirtual 73, 3) := by decide +kernel
theorem dL_act_815 : decode cL_act 815 = .ok (.iload 8, 2) := by decide +kernel
theorem dL_act_817 : decode cL_act 817 = .ok (.if_icmp .ne 7, 3) := by decide +kernel
theorem dL_act_820 : decode cL_act 820 = .ok (.iconst 1, 1) := by decide +kernel
theorem dL_act_821 : decode cL_act 821 = .ok (.goto 4, 3) := by decide +kernel
theorem dL_act_824 : decode cL_act 824 = .ok (.iconst 0, 1) := by decide +kernel
theorem dL_act_825 : decode cL_act 825 = .ok (.ireturn, 1) := by decide +kernel
theorem dL_act_826 : decode cL_act 826 = .ok (.aload_n 1, 1) := by decide +kernel
theorem dL_act_827 : decode cL_act 827 = .ok (.getfield 24, 3) := by decide +kernel
theorem dL_act_830 : decode cL_act 830 = .ok (.iload_n 3, 1) := by decide +kernel
theorem dL_act_831 : decode cL_act 831 = .ok (.iaload, 1) := by decide +kernel
theorem dL_act_832 : decode cL_act 832 = .ok (.ifCond .ne 5, 3) := by decide +kernel
theorem dL_act_835 : decode cL_act 835 = .ok (.iconst 1, 1) := by decide +kernel
theorem dL_act_836 : decode cL_act 836 = .ok (.ireturn, 1) := by decide +kernel
theorem dL_act_837 : decode cL_act 837 = .ok (.iconst 1, 1) := by decide +kernel
theorem dL_act_838 : decode cL_act 838 = .ok (.iload_n 2, 1) := by decide +kernel
theorem dL_act_839 : decode cL_act 839 = .ok (.bipush 8, 2) := by decide +kernel
theorem dL_act_841 : decode cL_act 841 = .ok (.ishr, 1) := by decide +kernel
theorem dL_act_842 : decode cL_act 842 = .ok (.aload_n 1, 1) := by decide +kernel
theorem dL_act_843 : decode cL_act 843 = .ok (.getfield 24, 3) := by decide +kernel
theorem dL_act_846 : decode cL_act 846 = .ok (.iload_n 3, 1) := by decide +kernel
theorem dL_act_847 : decode cL_act 847 = .ok (.iaload, 1) := by decide +kernel
theorem dL_act_848 : decode cL_act 848 = .ok (.invokestatic 9, 3) := by decide +kernel
theorem dL_act_851 : decode cL_act 851 = .ok (.iadd, 1) := by decide +kernel
theorem dL_act_852 : decode cL_act 852 = .ok (.istore 6, 2) := by decide +kernel
theorem dL_act_854 : decode cL_act 854 = .ok (.aload_n 1, 1) := by decide +kernel
theorem dL_act_855 : decode cL_act 855 = .ok (.getfield 24, 3) := by decide +kernel
theorem dL_act_858 : decode cL_act 858 = .ok (.iload_n 3, 1) := by decide +kernel
theorem dL_act_859 : decode cL_act 859 = .ok (.dup2, 1) := by decide +kernel
theorem dL_act_860 : decode cL_act 860 = .ok (.iaload, 1) := by decide +kernel
theorem dL_act_861 : decode cL_act 861 = .ok (.iload 6, 2) := by decide +kernel
theorem dL_act_863 : decode cL_act 863 = .ok (.isub, 1) := by decide +kernel
theorem dL_act_864 : decode cL_act 864 = .ok (.iastore, 1) := by decide +kernel
theorem dL_act_865 : decode cL_act 865 = .ok (.aload_n 1, 1) := by decide +kernel
theorem dL_act_866 : decode cL_act 866 = .ok (.dup, 1) := by decide +kernel
theorem dL_act_867 : decode cL_act 867 = .ok (.getfield 76, 3) := by decide +kernel
theorem dL_act_870 : decode cL_act 870 = .ok (.iload 6, 2) := by decide +kernel
theorem dL_act_872 : decode cL_act 872 = .ok (.iadd, 1) := by decide +kernel
theorem dL_act_873 : decode cL_act 873 = .ok (.putfield 76, 3) := by decide +kernel
theorem dL_act_876 : decode cL_act 876 = .ok (.aload_n 0, 1) := by decide +kernel
theorem dL_act_877 : decode cL_act 877 = .ok (.iload_n 3, 1) := by decide +kernel
theorem dL_act_878 : decode cL_act 878 = .ok (.iload 6, 2) := by decide +kernel
theorem dL_act_880 : decode cL_act 880 = .ok (.invokevirtual 80, 3) := by decide +kernel
theorem dL_act_883 : decode cL_act 883 = .ok (.aload_n 1, 1) := by decide +kernel
theorem dL_act_884 : decode cL_act 884 = .ok (.getfield 24, 3) := by decide +kernel
theorem dL_act_887 : decode cL_act 887 = .ok (.iload_n 3, 1) := by decide +kernel
theorem dL_act_888 : decode cL_act 888 = .ok (.iaload, 1) := by decide +kernel
theorem dL_act_889 : decode cL_act 889 = .ok (.if_icmp .ne 7, 3) := by decide +kernel
theorem dL_act_892 : decode cL_act 892 = .ok (.iconst 1, 1) := by decide +kernel
theorem dL_act_893 : decode cL_act 893 = .ok (.goto 4, 3) := by decide +kernel
theorem dL_act_896 : decode cL_act 896 = .ok (.iconst 0, 1) := by decide +kernel
theorem dL_act_897 : decode cL_act 897 = .ok (.ireturn, 1) := by decide +kernel
theorem dL_act_898 : decode cL_act 898 = .ok (.iconst 1, 1) := by decide +kernel
theorem dL_act_899 : decode cL_act 899 = .ok (.iload_n 2, 1) := by decide +kernel
theorem dL_act_900 : decode cL_act 900 = .ok (.iconst 5, 1) := by decide +kernel
theorem dL_act_901 : decode cL_act 901 = .ok (.ishr, 1) := by decide +kernel
theorem dL_act_902 : decode cL_act 902 = .ok (.iload_n 2, 1) := by decide +kernel
theorem dL_act_903 : decode cL_act 903 = .ok (.bipush 9, 2) := by decide +kernel
theorem dL_act_905 : decode cL_act 905 = .ok (.ishr, 1) := by decide +kernel
theorem dL_act_906 : decode cL_act 906 = .ok (.iconst 5, 1) := by decide +kernel
theorem dL_act_907 : decode cL_act 907 = .ok (.invokestatic 9, 3) := by decide +kernel
theorem dL_act_910 : decode cL_act 910 = .ok (.ifCond .ne 8, 3) := by decide +kernel
theorem dL_act_913 : decode cL_act 913 = .ok (.bipush 40, 2) := by decide +kernel
theorem dL_act_915 : decode cL_act 915 = .ok (.goto 4, 3) := by decide +kernel
theorem dL_act_918 : decode cL_act 918 = .ok (.iconst 5, 1) := by decide +kernel
theorem dL_act_919 : decode cL_act 919 = .ok (.invokestatic 9, 3) := by decide +kernel
theorem dL_act_922 : decode cL_act 922 = .ok (.iadd, 1) := by decide +kernel
theorem dL_act_923 : decode cL_act 923 = .ok (.istore 6, 2) := by decide +kernel
theorem dL_act_925 : decode cL_act 925 = .ok (.iconst 0, 1) := by decide +kernel
theorem dL_act_926 : decode cL_act 926 = .ok (.istore 7, 2) := by decide +kernel
theorem dL_act_928 : decode cL_act 928 = .ok (.iconst 0, 1) := by decide +kernel
theorem dL_act_929 : decode cL_act 929 = .ok (.istore 8, 2) := by decide +kernel
theorem dL_act_931 : decode cL_act 931 = .ok (.iload 8, 2) := by decide +kernel
theorem dL_act_933 : decode cL_act 933 = .ok (.iload 6, 2) := by decide +kernel
theorem dL_act_935 : decode cL_act 935 = .ok (.if_icmp .ge 18, 3) := by decide +kernel
theorem dL_act_938 : decode cL_act 938 = .ok (.iload 7, 2) := by decide +kernel
theorem dL_act_940 : decode cL_act 940 = .ok (.aload_n 1, 1) := by decide +kernel
theorem dL_act_941 : decode cL_act 941 = .ok (.invokevirtual 83, 3) := by decide +kernel
theorem dL_act_944 : decode cL_act 944 = .ok (.iadd, 1) := by decide +kernel
theorem dL_act_945 : decode cL_act 945 = .ok (.istore 7, 2) := by decide +kernel
theorem dL_act_947 : decode cL_act 947 = .ok (.iinc 8 1, 3) := by decide +kernel
theorem dL_act_950 : decode cL_act 950 = .ok (.goto (-19), 3) := by decide +kernel
theorem dL_act_953 : decode cL_act 953 = .ok (.aload_n 0, 1) := by decide +kernel
theorem dL_act_954 : decode cL_act 954 = .ok (.iload 6, 2) := by decide +kernel
theorem dL_act_956 : decode cL_act 956 = .ok (.invokevirtual 87, 3) := by decide +kernel
theorem dL_act_959 : decode cL_act 959 = .ok (.iload 7, 2) := by decide +kernel
theorem dL_act_961 : decode cL_act 961 = .ok (.if_icmp .ne 7, 3) := by decide +kernel
theorem dL_act_964 : decode cL_act 964 = .ok (.iconst 1, 1) := by decide +kernel
theorem dL_act_965 : decode cL_act 965 = .ok (.goto 4, 3) := by decide +kernel
theorem dL_act_968 : decode cL_act 968 = .ok (.iconst 0, 1) := by decide +kernel
theorem dL_act_969 : decode cL_act 969 = .ok (.ireturn, 1) := by decide +kernel
theorem dL_build_0 : decode cL_build 0 = .ok (.new 16, 3) := by decide +kernel
theorem dL_build_3 : decode cL_build 3 = .ok (.dup, 1) := by decide +kernel
theorem dL_build_4 : decode cL_build 4 = .ok (.invokespecial 90, 3) := by decide +kernel
theorem dL_build_7 : decode cL_build 7 = .ok (.astore_n 2, 1) := by decide +kernel
theorem dL_build_8 : decode cL_build 8 = .ok (.iconst 0, 1) := by decide +kernel
theorem dL_build_9 : decode cL_build 9 = .ok (.istore_n 3, 1) := by decide +kernel
theorem dL_build_10 : decode cL_build 10 = .ok (.iload_n 3, 1) := by decide +kernel
theorem dL_build_11 : decode cL_build 11 = .ok (.bipush 16, 2) := by decide +kernel
theorem dL_build_13 : decode cL_build 13 = .ok (.if_icmp .ge 43, 3) := by decide +kernel
theorem dL_build_16 : decode cL_build 16 = .ok (.aload_n 1, 1) := by decide +kernel
theorem dL_build_17 : decode cL_build 17 = .ok (.iload_n 3, 1) := by decide +kernel
theorem dL_build_18 : decode cL_build 18 = .ok (.invokestatic 91, 3) := by decide +kernel
theorem dL_build_21 : decode cL_build 21 = .ok (.iconst 3, 1) := by decide +kernel
theorem dL_build_22 : decode cL_build 22 = .ok (.ishr, 1) := by decide +kernel
theorem dL_build_23 : decode cL_build 23 = .ok (.bipush 31, 2) := by decide +kernel
theorem dL_build_25 : decode cL_build 25 = .ok (.invokestatic 9, 3) := by decide +kernel
theorem dL_build_28 : decode cL_build 28 = .ok (.istore 4, 2) := by decide +kernel
theorem dL_build_30 : decode cL_build 30 = .ok (.aload_n 2, 1) := by decide +kernel
theorem dL_build_31 : decode cL_build 31 = .ok (.getfield 28, 3) := by decide +kernel
theorem dL_build_34 : decode cL_build 34 = .ok (.iload_n 3, 1) := by decide +kernel
theorem dL_build_35 : decode cL_build 35 = .ok (.iload 4, 2) := by decide +kernel
theorem dL_build_37 : decode cL_build 37 = .ok (.iastore, 1) := by decide +kernel
theorem dL_build_38 : decode cL_build 38 = .ok (.aload_n 0, 1) := by decide +kernel
theorem dL_build_39 : decode cL_build 39 = .ok (.iload_n 3, 1) := by decide +kernel
theorem dL_build_40 : decode cL_build 40 = .ok (.iload 4, 2) := by decide +kernel
theorem dL_build_42 : decode cL_build 42 = .ok (.invokevirtual 31, 3) := by decide +kernel
theorem dL_build_45 : decode cL_build 45 = .ok (.ifCond .eq 5, 3) := by decide +kernel
theorem dL_build_48 : decode cL_build 48 = .ok (.aconst_null, 1) := by decide +kernel
theorem dL_build_49 : decode cL_build 49 = .ok (.areturn, 1) := by decide +kernel
theorem dL_build_50 : decode cL_build 50 = .ok (.iinc 3 1, 3) := by decide +kernel
theorem dL_build_53 : decode cL_build 53 = .ok (.goto (-43), 3) := by decide +kernel
theorem dL_build_56 : decode cL_build 56 = .ok (.iconst 0, 1) := by decide +kernel
theorem dL_build_57 : decode cL_build 57 = .ok (.istore_n 3, 1) := by decide +kernel
theorem dL_build_58 : decode cL_build 58 = .ok (.iload_n 3, 1) := by decide +kernel
theorem dL_build_59 : decode cL_build 59 = .ok (.bipush 44, 2) := by decide +kernel
theorem dL_build_61 : decode cL_build 61 = .ok (.if_icmp .ge 182, 3) := by decide +kernel
theorem dL_build_64 : decode cL_build 64 = .ok (.aload_n 1, 1) := by decide +kernel
theorem dL_build_65 : decode cL_build 65 = .ok (.iload_n 3, 1) := by decide +kernel
theorem dL_build_66 : decode cL_build 66 = .ok (.bipush 16, 2) := by decide +kernel
theorem dL_build_68 : decode cL_build 68 = .ok (.irem, 1) := by decide +kernel
theorem dL_build_69 : decode cL_build 69 = .ok (.invokestatic 91, 3) := by decide +kernel
theorem dL_build_72 : decode cL_build 72 = .ok (.iload_n 3, 1) := by decide +kernel
theorem dL_build_73 : decode cL_build 73 = .ok (.bipush 16, 2) := by decide +kernel
theorem dL_build_75 : decode cL_build 75 = .ok (.idiv, 1) := by decide +kernel
theorem dL_build_76 : decode cL_build 76 = .ok (.iconst 5, 1) := by decide +kernel
theorem dL_build_77 : decode cL_build 77 = .ok (.imul, 1) := by decide +kernel
theorem dL_build_78 : decode cL_build 78 = .ok (.ishr, 1) := by decide +kernel
theorem dL_build_79 : decode cL_build 79 = .ok (.sipush 263, 3) := by decide +kernel
theorem dL_build_82 : decode cL_build 82 = .ok (.iload_n 3, 1) := by decide +kernel
theorem dL_build_83 : decode cL_build 83 = .ok (.imul, 1) := by decide +kernel
theorem dL_build_84 : decode cL_build 84 = .ok (.iadd, 1) := by decide +kernel
theorem dL_build_85 : decode cL_build 85 = .ok (.istore 4, 2) := by decide +kernel
theorem dL_build_87 : decode cL_build 87 = .ok (.bipush 22, 2) := by decide +kernel
theorem dL_build_89 : decode cL_build 89 = .ok (.newarray .int, 2) := by decide +kernel
theorem dL_build_91 : decode cL_build 91 = .ok (.dup, 1) := by decide +kernel
theorem dL_build_92 : decode cL_build 92 = .ok (.iconst 0, 1) := by decide +kernel
theorem dL_build_93 : decode cL_build 93 = .ok (.iconst 1, 1) := by decide +kernel
theorem dL_build_94 : decode cL_build 94 = .ok (.iastore, 1) := by decide +kernel
theorem dL_build_95 : decode cL_build 95 = .ok (.dup, 1) := by decide +kernel
theorem dL_build_96 : decode cL_build 96 = .ok (.iconst 1, 1) := by decide +kernel
theorem dL_build_97 : decode cL_build 97 = .ok (.iconst 1, 1) := by decide +kernel
theorem dL_build_98 : decode cL_build 98 = .ok (.iastore, 1) := by decide +kernel
theorem dL_build_99 : decode cL_build 99 = .ok (.dup, 1) := by decide +kernel
theorem dL_build_100 : decode cL_build 100 = .ok (.iconst 2, 1) := by decide +kernel
theorem dL_build_101 : decode cL_build 101 = .ok (.iconst 1, 1) := by decide +kernel
theorem dL_build_102 : decode cL_build 102 = .ok (.iastore, 1) := by decide +kernel
theorem dL_build_103 : decode cL_build 103 = .ok (.dup, 1) := by decide +kernel
theorem dL_build_104 : decode cL_build 104 = .ok (.iconst 3, 1) := by decide +kernel
theorem dL_build_105 : decode cL_build 105 = .ok (.iconst 1, 1) := by decide +kernel
theorem dL_build_106 : decode cL_build 106 = .ok (.iastore, 1) := by decide +kernel
theorem dL_build_107 : decode cL_build 107 = .ok (.dup, 1) := by decide +kernel
theorem dL_build_108 : decode cL_build 108 = .ok (.iconst 4, 1) := by decide +kernel
theorem dL_build_109 : decode cL_build 109 = .ok (.iconst 3, 1) := by decide +kernel
theorem dL_build_110 : decode cL_build 110 = .ok (.iastore, 1) := by decide +kernel
theorem dL_build_111 : decode cL_build 111 = .ok (.dup, 1) := by decide +kernel
theorem dL_build_112 : decode cL_build 112 = .ok (.iconst 5, 1) := by decide +kernel
theorem dL_build_113 : decode cL_build 113 = .ok (.iconst 3, 1) := by decide +kernel
theorem dL_build_114 : decode cL_build 114 = .ok (.iastore, 1) := by decide +kernel
theorem dL_build_115 : decode cL_build 115 = .ok (.dup, 1) := by decide +kernel
theorem dL_build_116 : decode cL_build 116 = .ok (.bipush 6, 2) := by decide +kernel
theorem dL_build_118 : decode cL_build 118 = .ok (.iconst 3, 1) := by decide +kernel
theorem dL_build_119 : decode cL_build 119 = .ok (.iastore, 1) := by decide +kernel
theorem dL_build_120 : decode cL_build 120 = .ok (.dup, 1) := by decide +kernel
theorem dL_build_121 : decode cL_build 121 = .ok (.bipush 7, 2) := by decide +kernel
theorem dL_build_123 : decode cL_build 123 = .ok (.iconst 4, 1) := by decide +kernel
theorem dL_build_124 : decode cL_build 124 = .ok (.iastore, 1) := by decide +kernel
theorem dL_build_125 : decode cL_build 125 = .ok (.dup, 1) := by decide +kernel
theorem dL_build_126 : decode cL_build 126 = .ok (.bipush 8, 2) := by decide +kernel
theorem dL_build_128 : decode cL_build 128 = .ok (.iconst 4, 1) := by decide +kernel
theorem dL_build_129 : decode cL_build 129 = .ok (.iastore, 1) := by decide +kernel
theorem dL_build_130 : decode cL_build 130 = .ok (.dup, 1) := by decide +kernel
theorem dL_build_131 : decode cL_build 131 = .ok (.bipush 9, 2) := by decide +kernel
theorem dL_build_133 : decode cL_build 133 = .ok (.iconst 4, 1) := by decide +kernel
theorem dL_build_134 : decode cL_build 134 = .ok (.iastore, 1) := by decide +kernel
theorem dL_build_135 : decode cL_build 135 = .ok (.dup, 1) := by decide +kernel
theorem dL_build_136 : decode cL_build 136 = .ok (.bipush 10, 2) := by decide +kernel
theorem dL_build_138 : decode cL_build 138 = .ok (.iconst 4, 1) := by decide +kernel
theorem dL_build_139 : decode cL_build 139 = .ok (.iastore, 1) := by decide +kernel
theorem dL_build_140 : decode cL_build 140 = .ok (.dup, 1) := by decide +kernel
theorem dL_build_141 : decode cL_build 141 = .ok (.bipush 11, 2) := by decide +kernel
theorem dL_build_143 : decode cL_build 143 = .ok (.iconst 4, 1) := by decide +kernel
theorem dL_build_144 : decode cL_build 144 = .ok (.iastore, 1) := by decide +kernel
theorem dL_build_145 : decode cL_build 145 = .ok (.dup, 1) := by decide +kernel
theorem dL_build_146 : decode cL_build 146 = .ok (.bipush 12, 2) := by decide +kernel
theorem dL_build_148 : decode cL_build 148 = .ok (.iconst 4, 1) := by decide +kernel
theorem dL_build_149 : decode cL_build 149 = .ok (.iastore, 1) := by decide +kernel
theorem dL_build_150 : decode cL_build 150 = .ok (.dup, 1) := by decide +kernel
theorem dL_build_151 : decode cL_build 151 = .ok (.bipush 13, 2) := by decide +kernel
theorem dL_build_153 : decode cL_build 153 = .ok (.iconst 4, 1) := by decide +kernel
theorem dL_build_154 : decode cL_build 154 = .ok (.iastore, 1) := by decide +kernel
theorem dL_build_155 : decode cL_build 155 = .ok (.dup, 1) := by decide +kernel
theorem dL_build_156 : decode cL_build 156 = .ok (.bipush 14, 2) := by decide +kernel
theorem dL_build_158 : decode cL_build 158 = .ok (.iconst 4, 1) := by decide +kernel
theorem dL_build_159 : decode cL_build 159 = .ok (.iastore, 1) := by decide +kernel
theorem dL_build_160 : decode cL_build 160 = .ok (.dup, 1) := by decide +kernel
theorem dL_build_161 : decode cL_build 161 = .ok (.bipush 15, 2) := by decide +kernel
theorem dL_build_163 : decode cL_build 163 = .ok (.iconst 4, 1) := by decide +kernel
theorem dL_build_164 : decode cL_build 164 = .ok (.iastore, 1) := by decide +kernel
theorem dL_build_165 : decode cL_build 165 = .ok (.dup, 1) := by decide +kernel
theorem dL_build_166 : decode cL_build 166 = .ok (.bipush 16, 2) := by decide +kernel
theorem dL_build_168 : decode cL_build 168 = .ok (.iconst 4, 1) := by decide +kernel
theorem dL_build_169 : decode cL_build 169 = .ok (.iastore, 1) := by decide +kernel
theorem dL_build_170 : decode cL_build 170 = .ok (.dup, 1) := by decide +kernel
theorem dL_build_171 : decode cL_build 171 = .ok (.bipush 17, 2) := by decide +kernel
theorem dL_build_173 : decode cL_build 173 = .ok (.bipush 7, 2) := by decide +kernel
theorem dL_build_175 : decode cL_build 175 = .ok (.iastore, 1) := by decide +kernel
theorem dL_build_176 : decode cL_build 176 = .ok (.dup, 1) := by decide +kernel
theorem dL_build_177 : decode cL_build 177 = .ok (.bipush 18, 2) := by decide +kernel
theorem dL_build_179 : decode cL_build 179 = .ok (.bipush 7, 2) := by decide +kernel
theorem dL_build_181 : decode cL_build 181 = .ok (.iastore, 1) := by decide +kernel
theorem dL_build_182 : decode cL_build 182 = .ok (.dup, 1) := by decide +kernel
theorem dL_build_183 : decode cL_build 183 = .ok (.bipush 19, 2) := by decide +kernel
theorem dL_build_185 : decode cL_build 185 = .ok (.bipush 8, 2) := by decide +kernel
theorem dL_build_187 : decode cL_build 187 = .ok (.iastore, 1) := by decide +kernel
theorem dL_build_188 : decode cL_build 188 = .ok (.dup, 1) := by decide +kernel
theorem dL_build_189 : decode cL_build 189 = .ok (.bipush 20, 2) := by decide +kernel
theorem dL_build_191 : decode cL_build 191 = .ok (.bipush 8, 2) := by decide +kernel
theorem dL_build_193 : decode cL_build 193 = .ok (.iastore, 1) := by decide +kernel
theorem dL_build_194 : decode cL_build 194 = .ok (.dup, 1) := by decide +kernel
theorem dL_build_195 : decode cL_build 195 = .ok (.bipush 21, 2) := by decide +kernel
theorem dL_build_197 : decode cL_build 197 = .ok (.bipush 8, 2) := by decide +kernel
theorem dL_build_199 : decode cL_build 199 = .ok (.iastore, 1) := by decide +kernel
theorem dL_build_200 : decode cL_build 200 = .ok (.astore 5, 2) := by decide +kernel
theorem dL_build_202 : decode cL_build 202 = .ok (.iload_n 3, 1) := by decide +kernel
theorem dL_build_203 : decode cL_build 203 = .ok (.bipush 22, 2) := by decide +kernel
theorem dL_build_205 : decode cL_build 205 = .ok (.if_icmp .ge 20, 3) := by decide +kernel
theorem dL_build_208 : decode cL_build 208 = .ok (.bipush 16, 2) := by decide +kernel
theorem dL_build_210 : decode cL_build 210 = .ok (.iload 4, 2) := by decide +kernel
theorem dL_build_212 : decode cL_build 212 = .ok (.ldc 95, 2) := by decide +kernel
theorem dL_build_214 : decode cL_build 214 = .ok (.invokestatic 9, 3) := by decide +kernel
theorem dL_build_217 : decode cL_build 217 = .ok (.imul, 1) := by decide +kernel
theorem dL_build_218 : decode cL_build 218 = .ok (.aload 5, 2) := by decide +kernel
theorem dL_build_220 : decode cL_build 220 = .ok (.iload_n 3, 1) := by decide +kernel
theorem dL_build_221 : decode cL_build 221 = .ok (.iaload, 1) := by decide +kernel
theorem dL_build_222 : decode cL_build 222 = .ok (.iadd, 1) := by decide +kernel
theorem dL_build_223 : decode cL_build 223 = .ok (.istore 4, 2) := by decide +kernel
theorem dL_build_225 : decode cL_build 225 = .ok (.aload_n 0, 1) := by decide +kernel
theorem dL_build_226 : decode cL_build 226 = .ok (.aload_n 2, 1) := by decide +kernel
theorem dL_build_227 : decode cL_build 227 = .ok (.iload 4, 2) := by decide +kernel
theorem dL_build_229 : decode cL_build 229 = .ok (.invokestatic 96, 3) := by decide +kernel
theorem dL_build_232 : decode cL_build 232 = .ok (.ifCond .ne 5, 3) := by decide +kernel
theorem dL_build_235 : decode cL_build 235 = .ok (.aconst_null, 1) := by decide +kernel
theorem dL_build_236 : decode cL_build 236 = .ok (.areturn, 1) := by decide +kernel
theorem dL_build_237 : decode cL_build 237 = .ok (.iinc 3 1, 3) := by decide +kernel
theorem dL_build_240 : decode cL_build 240 = .ok (.goto (-182), 3) := by decide +kernel
theorem dL_build_243 : decode cL_build 243 = .ok (.aload_n 2, 1) := by decide +kernel
theorem dL_build_244 : decode cL_build 244 = .ok (.areturn, 1) := by decide +kernel
theorem dL_law_0 : decode cL_law 0 = .ok (.new 32, 3) := by decide +kernel
theorem dL_law_3 : decode cL_law 3 = .ok (.dup, 1) := by decide +kernel
theorem dL_law_4 : decode cL_law 4 = .ok (.invokespecial 100, 3) := by decide +kernel
theorem dL_law_7 : decode cL_law 7 = .ok (.astore_n 1, 1) := by decide +kernel
theorem dL_law_8 : decode cL_law 8 = .ok (.aload_n 1, 1) := by decide +kernel
theorem dL_law_9 : decode cL_law 9 = .ok (.aload_n 0, 1) := by decide +kernel
theorem dL_law_10 : decode cL_law 10 = .ok (.invokestatic 101, 3) := by decide +kernel
theorem dL_law_13 : decode cL_law 13 = .ok (.astore_n 2, 1) := by decide +kernel
theorem dL_law_14 : decode cL_law 14 = .ok (.aload_n 2, 1) := by decide +kernel
theorem dL_law_15 : decode cL_law 15 = .ok (.ifnonnull 5, 3) := by decide +kernel
theorem dL_law_18 : decode cL_law 18 = .ok (.iconst 0, 1) := by decide +kernel
theorem dL_law_19 : decode cL_law 19 = .ok (.ireturn, 1) := by decide +kernel
theorem dL_law_20 : decode cL_law 20 = .ok (.iconst 0, 1) := by decide +kernel
theorem dL_law_21 : decode cL_law 21 = .ok (.istore_n 3, 1) := by decide +kernel
theorem dL_law_22 : decode cL_law 22 = .ok (.iload_n 3, 1) := by decide +kernel
theorem dL_law_23 : decode cL_law 23 = .ok (.bipush 12, 2) := by decide +kernel
theorem dL_law_25 : decode cL_law 25 = .ok (.if_icmp .ge 1189, 3) := by decide +kernel
theorem dL_law_28 : decode cL_law 28 = .ok (.aload_n 0, 1) := by decide +kernel
theorem dL_law_29 : decode cL_law 29 = .ok (.iconst 3, 1) := by decide +kernel
theorem dL_law_30 : decode cL_law 30 = .ok (.iload_n 3, 1) := by decide +kernel
theorem dL_law_31 : decode cL_law 31 = .ok (.iadd, 1) := by decide +kernel
theorem dL_law_32 : decode cL_law 32 = .ok (.invokestatic 91, 3) := by decide +kernel
theorem dL_law_35 : decode cL_law 35 = .ok (.iconst 1, 1) := by decide +kernel
theorem dL_law_36 : decode cL_law 36 = .ok (.ishr, 1) := by decide +kernel
theorem dL_law_37 : decode cL_law 37 = .ok (.sipush 263, 3) := by decide +kernel
theorem dL_law_40 : decode cL_law 40 = .ok (.iload_n 3, 1) := by decide +kernel
theorem dL_law_41 : decode cL_law 41 = .ok (.imul, 1) := by decide +kernel
theorem dL_law_42 : decode cL_law 42 = .ok (.iadd, 1) := by decide +kernel
theorem dL_law_43 : decode cL_law 43 = .ok (.istore 4, 2) := by decide +kernel
theorem dL_law_45 : decode cL_law 45 = .ok (.aload_n 1, 1) := by decide +kernel
theorem dL_law_46 : decode cL_law 46 = .ok (.aload_n 2, 1) := by decide +kernel
theorem dL_law_47 : decode cL_law 47 = .ok (.iload 4, 2) := by decide +kernel
theorem dL_law_49 : decode cL_law 49 = .ok (.invokestatic 96, 3) := by decide +kernel
theorem dL_law_52 : decode cL_law 52 = .ok (.ifCond .ne 5, 3) := by decide +kernel
theorem dL_law_55 : decode cL_law 55 = .ok (.iconst 0, 1) := by decide +kernel
theorem dL_law_56 : decode cL_law 56 = .ok (.ireturn, 1) := by decide +kernel
theorem dL_law_57 : decode cL_law 57 = .ok (.aload_n 1, 1) := by decide +kernel
theorem dL_law_58 : decode cL_law 58 = .ok (.invokevirtual 105, 3) := by decide +kernel
theorem dL_law_61 : decode cL_law 61 = .ok (.lstore 5, 2) := by decide +kernel
theorem dL_law_63 : decode cL_law 63 = .ok (.aload_n 1, 1) := by decide +kernel
theorem dL_law_64 : decode cL_law 64 = .ok (.iconst 3, 1) := by decide +kernel
theorem dL_law_65 : decode cL_law 65 = .ok (.invokevirtual 109, 3) := by decide +kernel
theorem dL_law_68 : decode cL_law 68 = .ok (.istore 7, 2) := by decide +kernel
theorem dL_law_70 : decode cL_law 70 = .ok (.iconst 0, 1) := by decide +kernel
theorem dL_law_71 : decode cL_law 71 = .ok (.istore 8, 2) := by decide +kernel
theorem dL_law_73 : decode cL_law 73 = .ok (.iconst 0, 1) := by decide +kernel
theorem dL_law_74 : decode cL_law 74 = .ok (.istore 9, 2) := by decide +kernel
theorem dL_law_76 : decode cL_law 76 = .ok (.iconst 0, 1) := by decide +kernel
theorem dL_law_77 : decode cL_law 77 = .ok (.istore 10, 2) := by decide +kernel
theorem dL_law_79 : decode cL_law 79 = .ok (.iconst 5, 1) := by decide +kernel
theorem dL_law_80 : decode cL_law 80 = .ok (.newarray .int, 2) := by decide +kernel
theorem dL_law_82 : decode cL_law 82 = .ok (.astore 11, 2) := by decide +kernel
theorem dL_law_84 : decode cL_law 84 = .ok (.iload 7, 2) := by decide +kernel
theorem dL_law_86 : decode cL_law 86 = .ok (.newarray .int, 2) := by decide +kernel
theorem dL_law_88 : decode cL_law 88 = .ok (.astore 12, 2) := by decide +kernel
theorem dL_law_90 : decode cL_law 90 = .ok (.iload 7, 2) := by decide +kernel
theorem dL_law_92 : decode cL_law 92 = .ok (.newarray .int, 2) := by decide +kernel
theorem dL_law_94 : decode cL_law 94 = .ok (.astore 13, 2) := by decide +kernel
theorem dL_law_96 : decode cL_law 96 = .ok (.iload 7, 2) := by decide +kernel
theorem dL_law_98 : decode cL_law 98 = .ok (.newarray .int, 2) := by decide +kernel
theorem dL_law_100 : decode cL_law 100 = .ok (.astore 14, 2) := by decide +kernel
theorem dL_law_102 : decode cL_law 102 = .ok (.iload 7, 2) := by decide +kernel
theorem dL_law_104 : decode cL_law 104 = .ok (.newarray .int, 2) := by decide +kernel
theorem dL_law_106 : decode cL_law 106 = .ok (.astore 15, 2) := by decide +kernel
theorem dL_law_108 : decode cL_law 108 = .ok (.iconst 0, 1) := by decide +kernel
theorem dL_law_109 : decode cL_law 109 = .ok (.istore 16, 2) := by decide +kernel
theorem dL_law_111 : decode cL_law 111 = .ok (.iload 16, 2) := by decide +kernel
theorem dL_law_113 : decode cL_law 113 = .ok (.iload 7, 2) := by decide +kernel
theorem dL_law_115 : decode cL_law 115 = .ok (.if_icmp .ge 297, 3) := by decide +kernel
theorem dL_law_118 : decode cL_law 118 = .ok (.aload 12, 2) := by decide +kernel
theorem dL_law_120 : decode cL_law 120 = .ok (.iload 16, 2) := by decide +kernel
theorem dL_law_122 : decode cL_law 122 = .ok (.aload_n 1, 1) := by decide +kernel
theorem dL_law_123 : decode cL_law 123 = .ok (.iload 16, 2) := by decide +kernel
theorem dL_law_125 : decode cL_law 125 = .ok (.iconst 0, 1) := by decide +kernel
theorem dL_law_126 : decode cL_law 126 = .ok (.invokevirtual 112, 3) := by decide +kernel
theorem dL_law_129 : decode cL_law 129 = .ok (.iastore, 1) := by decide +kernel
theorem dL_law_130 : decode cL_law 130 = .ok (.aload 13, 2) := by decide +kernel
theorem dL_law_132 : decode cL_law 132 = .ok (.iload 16, 2) := by decide +kernel
theorem dL_law_134 : decode cL_law 134 = .ok (.aload_n 1, 1) := by decide +kernel
theorem dL_law_135 : decode cL_law 135 = .ok (.iload 16, 2) := by decide +kernel
theorem dL_law_137 : decode cL_law 137 = .ok (.iconst 2, 1) := by decide +kernel
theorem dL_law_138 : decode cL_law 138 = .ok (.invokevirtual 112, 3) := by decide +kernel
theorem dL_law_141 : decode cL_law 141 = .ok (.iastore, 1) := by decide +kernel
theorem dL_law_142 : decode cL_law 142 = .ok (.aload 15, 2) := by decide +kernel
theorem dL_law_144 : decode cL_law 144 = .ok (.iload 16, 2) := by decide +kernel
theorem dL_law_146 : decode cL_law 146 = .ok (.aload_n 1, 1) := by decide +kernel
theorem dL_law_147 : decode cL_law 147 = .ok (.iload 16, 2) := by decide +kernel
theorem dL_law_149 : decode cL_law 149 = .ok (.iconst 3, 1) := by decide +kernel
theorem dL_law_150 : decode cL_law 150 = .ok (.invokevirtual 112, 3) := by decide +kernel
theorem dL_law_153 : decode cL_law 153 = .ok (.iastore, 1) := by decide +kernel
theorem dL_law_154 : decode cL_law 154 = .ok (.aload 11, 2) := by decide +kernel
theorem dL_law_156 : decode cL_law 156 = .ok (.aload 15, 2) := by decide +kernel
theorem dL_law_158 : decode cL_law 158 = .ok (.iload 16, 2) := by decide +kernel
theorem dL_law_160 : decode cL_law 160 = .ok (.iaload, 1) := by decide +kernel
theorem dL_law_161 : decode cL_law 161 = .ok (.dup2, 1) := by decide +kernel
theorem dL_law_162 : decode cL_law 162 = .ok (.iaload, 1) := by decide +kernel
theorem dL_law_163 : decode cL_law 163 = .ok (.iconst 1, 1) := by decide +kernel
theorem dL_law_164 : decode cL_law 164 = .ok (.iadd, 1) := by decide +kernel
theorem dL_law_165 : decode cL_law 165 = .ok (.iastore, 1) := by decide +kernel
theorem dL_law_166 : decode cL_law 166 = .ok (.iload 10, 2) := by decide +kernel
theorem dL_law_168 : decode cL_law 168 = .ok (.aload_n 1, 1) := by decide +kernel
theorem dL_law_169 : decode cL_law 169 = .ok (.iload 16, 2) := by decide +kernel
theorem dL_law_171 : decode cL_law 171 = .ok (.iconst 4, 1) := by decide +kernel
theorem dL_law_172 : decode cL_law 172 = .ok (.invokevirtual 112, 3) := by decide +kernel
theorem dL_law_175 : decode cL_law 175 = .ok (.iadd, 1) := by decide +kernel
theorem dL_law_176 : decode cL_law 176 = .ok (.istore 10, 2) := by decide +kernel
theorem dL_law_178 : decode cL_law 178 = .ok (.iload 9, 2) := by decide +kernel
theorem dL_law_180 : decode cL_law 180 = .ok (.aload 15, 2) := by decide +kernel
theorem dL_law_182 : decode cL_law 182 = .ok (.iload 16, 2) := by decide +kernel
theorem dL_law_184 : decode cL_law 184 = .ok (.iaload, 1) := by decide +kernel
theorem dL_law_185 : decode cL_law 185 = .ok (.iconst 3, 1) := by decide +kernel
theorem dL_law_186 : decode cL_law 186 = .ok (.if_icmp .ge 13, 3) := by decide +kernel
theorem dL_law_189 : decode cL_law 189 = .ok (.aload_n 1, 1) := by decide +kernel
theorem dL_law_190 : decode cL_law 190 = .ok (.iload 16, 2) := by decide +kernel
theorem dL_law_192 : decode cL_law 192 = .ok (.iconst 1, 1) := by decide +kernel
theorem dL_law_193 : decode cL_law 193 = .ok (.invokevirtual 112, 3) := by decide +kernel
theorem dL_law_196 : decode cL_law 196 = .ok (.goto 4, 3) := by decide +kernel
theorem dL_law_199 : decode cL_law 199 = .ok (.iconst 0, 1) := by decide +kernel
theorem dL_law_200 : decode cL_law 200 = .ok (.iadd, 1) := by decide +kernel
theorem dL_law_201 : decode cL_law 201 = .ok (.istore 9, 2) := by decide +kernel
theorem dL_law_203 : decode cL_law 203 = .ok (.aload 14, 2) := by decide +kernel
theorem dL_law_205 : decode cL_law 205 = .ok (.iload 16, 2) := by decide +kernel
theorem dL_law_207 : decode cL_law 207 = .ok (.aload_n 1, 1) := by decide +kernel
theorem dL_law_208 : decode cL_law 208 = .ok (.iload 16, 2) := by decide +kernel
theorem dL_law_210 : decode cL_law 210 = .ok (.invokevirtual 115, 3) := by decide +kernel
theorem dL_law_213 : decode cL_law 213 = .ok (.iastore, 1) := by decide +kernel
theorem dL_law_214 : decode cL_law 214 = .ok (.aload 15, 2) := by decide +kernel
theorem dL_law_216 : decode cL_law 216 = .ok (.iload 16, 2) := by decide +kernel
theorem dL_law_218 : decode cL_law 218 = .ok (.iaload, 1) := by decide +kernel
theorem dL_law_219 : decode cL_law 219 = .ok (.iconst 2, 1) := by decide +kernel
theorem dL_law_220 : decode cL_law 220 = .ok (.if_icmp .le 13, 3) := by decide +kernel
theorem dL_law_223 : decode cL_law 223 = .ok (.aload_n 1, 1) := by decide +kernel
theorem dL_law_224 : decode cL_law 224 = .ok (.iload 16, 2) := by decide +kernel
theorem dL_law_226 : decode cL_law 226 = .ok (.iconst 1, 1) := by decide +kernel
theorem dL_law_227 : decode cL_law 227 = .ok (.invokevirtual 112, 3) := by decide +kernel
theorem dL_law_230 : decode cL_law 230 = .ok (.ifCond .ne 174, 3) := by decide +kernel
theorem dL_law_233 : decode cL_law 233 = .ok (.aload 15, 2) := by decide +kernel
theorem dL_law_235 : decode cL_law 235 = .ok (.iload 16, 2) := by decide +kernel
theorem dL_law_237 : decode cL_law 237 = .ok (.iaload, 1) := by decide +kernel
theorem dL_law_238 : decode cL_law 238 = .ok (.iconst 3, 1) := by decide +kernel
theorem dL_law_239 : decode cL_law 239 = .ok (.if_icmp .ge 14, 3) := by decide +kernel
theorem dL_law_242 : decode cL_law 242 = .ok (.aload_n 1, 1) := by decide +kernel
theorem dL_law_243 : decode cL_law 243 = .ok (.iload 16, 2) := by decide +kernel
theorem dL_law_245 : decode cL_law 245 = .ok (.iconst 1, 1) := by decide +kernel
theorem dL_law_246 : decode cL_law 246 = .ok (.invokevirtual 112, 3) := by decide +kernel
theorem dL_law_249 : decode cL_law 249 = .ok (.iconst 1, 1) := by decide +kernel
theorem dL_law_250 : decode cL_law 250 = .ok (.if_icmp .lt 154, 3) := by decide +kernel
theorem dL_law_253 : decode cL_law 253 = .ok (.aload 15, 2) := by decide +kernel
theorem dL_law_255 : decode cL_law 255 = .ok (.iload 16, 2) := by decide +kernel
theorem dL_law_257 : decode cL_law 257 = .ok (.iaload, 1) := by decide +kernel
theorem dL_law_258 : decode cL_law 258 = .ok (.ifCond .ne 7, 3) := by decide +kernel
theorem dL_law_261 : decode cL_law 261 = .ok (.iconst 1, 1) := by decide +kernel
theorem dL_law_262 : decode cL_law 262 = .ok (.goto 4, 3) := by decide +kernel
theorem dL_law_265 : decode cL_law 265 = .ok (.iconst 0, 1) := by decide +kernel
theorem dL_law_266 : decode cL_law 266 = .ok (.aload 13, 2) := by decide +kernel
theorem dL_law_268 : decode cL_law 268 = .ok (.iload 16, 2) := by decide +kernel
theorem dL_law_270 : decode cL_law 270 = .ok (.iaload, 1) := by decide +kernel
theorem dL_law_271 : decode cL_law 271 = .ok (.ifCond .ge 16, 3) := by decide +kernel
theorem dL_law_274 : decode cL_law 274 = .ok (.aload 15, 2) := by decide +kernel
theorem dL_law_276 : decode cL_law 276 = .ok (.iload 16, 2) := by decide +kernel
theorem dL_law_278 : decode cL_law 278 = .ok (.iaload, 1) := by decide +kernel
theorem dL_law_279 : decode cL_law 279 = .ok (.iconst 3, 1) := by decide +kernel
theorem dL_law_280 : decode cL_law 280 = .ok (.if_icmp .ge 7, 3) := by decide +kernel
theorem dL_law_283 : decode cL_law 283 = .ok (.iconst 1, 1) := by decide +kernel
theorem dL_law_284 : decode cL_law 284 = .ok (.goto 4, 3) := by decide +kernel
theorem dL_law_287 : decode cL_law 287 = .ok (.iconst 0, 1) := by decide +kernel
theorem dL_law_288 : decode cL_law 288 = .ok (.if_icmp .ne 116, 3) := by decide +kernel
theorem dL_law_291 : decode cL_law 291 = .ok (.aload 15, 2) := by decide +kernel
theorem dL_law_293 : decode cL_law 293 = .ok (.iload 16, 2) := by decide +kernel
theorem dL_law_295 : decode cL_law 295 = .ok (.iaload, 1) := by decide +kernel
theorem dL_law_296 : decode cL_law 296 = .ok (.iconst 2, 1) := by decide +kernel
theorem dL_law_297 : decode cL_law 297 = .ok (.if_icmp .ne 7, 3) := by decide +kernel
theorem dL_law_300 : decode cL_law 300 = .ok (.iconst 1, 1) := by decide +kernel
theorem dL_law_301 : decode cL_law 301 = .ok (.goto 4, 3) := by decide +kernel
theorem dL_law_304 : decode cL_law 304 = .ok (.iconst 0, 1) := by decide +kernel
theorem dL_law_305 : decode cL_law 305 = .ok (.aload 13, 2) := by decide +kernel
theorem dL_law_307 : decode cL_law 307 = .ok (.iload 16, 2) := by decide +kernel
theorem dL_law_309 : decode cL_law 309 = .ok (.iaload, 1) := by decide +kernel
theorem dL_law_310 : decode cL_law 310 = .ok (.aload 12, 2) := by decide +kernel
theorem dL_law_312 : decode cL_law 312 = .ok (.iload 16, 2) := by decide +kernel
theorem dL_law_314 : decode cL_law 314 = .ok (.iaload, 1) := by decide +kernel
theorem dL_law_315 : decode cL_law 315 = .ok (.if_icmp .ne 16, 3) := by decide +kernel
theorem dL_law_318 : decode cL_law 318 = .ok (.aload 15, 2) := by decide +kernel
theorem dL_law_320 : decode cL_law 320 = .ok (.iload 16, 2) := by decide +kernel
theorem dL_law_322 : decode cL_law 322 = .ok (.iaload, 1) := by decide +kernel
theorem dL_law_323 : decode cL_law 323 = .ok (.iconst 3, 1) := by decide +kernel
theorem dL_law_324 : decode cL_law 324 = .ok (.if_icmp .ge 7, 3) := by decide +kernel
theorem dL_law_327 : decode cL_law 327 = .ok (.iconst 1, 1) := by decide +kernel
theorem dL_law_328 : decode cL_law 328 = .ok (.goto 4, 3) := by decide +kernel
theorem dL_law_331 : decode cL_law 331 = .ok (.iconst 0, 1) := by decide +kernel
theorem dL_law_332 : decode cL_law 332 = .ok (.if_icmp .ne 72, 3) := by decide +kernel
theorem dL_law_335 : decode cL_law 335 = .ok (.aload 15, 2) := by decide +kernel
theorem dL_law_337 : decode cL_law 337 = .ok (.iload 16, 2) := by decide +kernel
theorem dL_law_339 : decode cL_law 339 = .ok (.iaload, 1) := by decide +kernel
theorem dL_law_340 : decode cL_law 340 = .ok (.iconst 3, 1) := by decide +kernel
theorem dL_law_341 : decode cL_law 341 = .ok (.if_icmp .ne 7, 3) := by decide +kernel
theorem dL_law_344 : decode cL_law 344 = .ok (.iconst 1, 1) := by decide +kernel
theorem dL_law_345 : decode cL_law 345 = .ok (.goto 4, 3) := by decide +kernel
theorem dL_law_348 : decode cL_law 348 = .ok (.iconst 0, 1) := by decide +kernel
theorem dL_law_349 : decode cL_law 349 = .ok (.aload 14, 2) := by decide +kernel
theorem dL_law_351 : decode cL_law 351 = .ok (.iload 16, 2) := by decide +kernel
theorem dL_law_353 : decode cL_law 353 = .ok (.iaload, 1) := by decide +kernel
theorem dL_law_354 : decode cL_law 354 = .ok (.ifCond .ne 7, 3) := by decide +kernel
theorem dL_law_357 : decode cL_law 357 = .ok (.iconst 1, 1) := by decide +kernel
theorem dL_law_358 : decode cL_law 358 = .ok (.goto 4, 3) := by decide +kernel
theorem dL_law_361 : decode cL_law 361 = .ok (.iconst 0, 1) := by decide +kernel
theorem dL_law_362 : decode cL_law 362 = .ok (.if_icmp .ne 42, 3) := by decide +kernel
theorem dL_law_365 : decode cL_law 365 = .ok (.aload 15, 2) := by decide +kernel
theorem dL_law_367 : decode cL_law 367 = .ok (.iload 16, 2) := by decide +kernel
theorem dL_law_369 : decode cL_law 369 = .ok (.iaload, 1) := by decide +kernel
theorem dL_law_370 : decode cL_law 370 = .ok (.iconst 4, 1) := by decide +kernel
theorem dL_law_371 : decode cL_law 371 = .ok (.if_icmp .ne 12, 3) := by decide +kernel
theorem dL_law_374 : decode cL_law 374 = .ok (.aload 14, 2) := by decide +kernel
theorem dL_law_376 : decode cL_law 376 = .ok (.iload 16, 2) := by decide +kernel
theorem dL_law_378 : decode cL_law 378 = .ok (.iaload, 1) := by decide +kernel
theorem dL_law_379 : decode cL_law 379 = .ok (.iconst (-1), 1) := by decide +kernel
theorem dL_law_380 : decode cL_law 380 = .ok (.if_icmp .ne 24, 3) := by decide +kernel
theorem dL_law_383 : decode cL_law 383 = .ok (.aload_n 1, 1) := by decide +kernel
theorem dL_law_384 : decode cL_law 384 = .ok (.iload 16, 2) := by decide +kernel
theorem dL_law_386 : decode cL_law 386 = .ok (.iconst 5, 1) := by decide +kernel
theorem dL_law_387 : decode cL_law 387 = .ok (.invokevirtual 112, 3) := by decide +kernel
theorem dL_law_390 : decode cL_law 390 = .ok (.ifCond .le 16, 3) := by decide +kernel
theorem dL_law_393 : decode cL_law 393 = .ok (.aload_n 1, 1) := by decide +kernel
theorem dL_law_394 : decode cL_law 394 = .ok (.iload 16, 2) := by decide +kernel
theorem dL_law_396 : decode cL_law 396 = .ok (.bipush 6, 2) := by decide +kernel
theorem dL_law_398 : decode cL_law 398 = .ok (.invokevirtual 112, 3) := by decide +kernel
theorem dL_law_401 : decode cL_law 401 = .ok (.ifCond .ne 5, 3) := by decide +kernel
theorem dL_law_404 : decode cL_law 404 = .ok (.iconst 0, 1) := by decide +kernel
theorem dL_law_405 : decode cL_law 405 = .ok (.ireturn, 1) := by decide +kernel
theorem dL_law_406 : decode cL_law 406 = .ok (.iinc 16 1, 3) := by decide +kernel
theorem dL_law_409 : decode cL_law 409 = .ok (.goto (-298), 3) := by decide +kernel
theorem dL_law_412 : decode cL_law 412 = .ok (.iconst 0, 1) := by decide +kernel
theorem dL_law_413 : decode cL_law 413 = .ok (.istore 16, 2) := by decide +kernel
theorem dL_law_415 : decode cL_law 415 = .ok (.iconst 0, 1) := by decide +kernel
theorem dL_law_416 : decode cL_law 416 = .ok (.istore 17, 2) := by decide +kernel
theorem dL_law_418 : decode cL_law 418 = .ok (.iload 17, 2) := by decide +kernel
theorem dL_law_420 : decode cL_law 420 = .ok (.bipush 16, 2) := by decide +kernel
theorem dL_law_422 : decode cL_law 422 = .ok (.if_icmp .ge 67, 3) := by decide +kernel
theorem dL_law_425 : decode cL_law 425 = .ok (.iload 16, 2) := by decide +kernel
theorem dL_law_427 : decode cL_law 427 = .ok (.aload_n 1, 1) := by decide +kernel
theorem dL_law_428 : decode cL_law 428 = .ok (.iload 17, 2) := by decide +kernel
theorem dL_law_430 : decode cL_law 430 = .ok (.iconst 1, 1) := by decide +kernel
theorem dL_law_431 : decode cL_law 431 = .ok (.invokevirtual 118, 3) := by decide +kernel
theorem dL_law_434 : decode cL_law 434 = .ok (.iadd, 1) := by decide +kernel
theorem dL_law_435 : decode cL_law 435 = .ok (.istore 16, 2) := by decide +kernel
theorem dL_law_437 : decode cL_law 437 = .ok (.aload_n 1, 1) := by decide +kernel
theorem dL_law_438 : decode cL_law 438 = .ok (.iload 17, 2) := by decide +kernel
theorem dL_law_440 : decode cL_law 440 = .ok (.iconst 1, 1) := by decide +kernel
theorem dL_law_441 : decode cL_law 441 = .ok (.invokevirtual 118, 3) := by decide +kernel
theorem dL_law_444 : decode cL_law 444 = .ok (.aload_n 1, 1) := by decide +kernel
theorem dL_law_445 : decode cL_law 445 = .ok (.iload 17, 2) := by decide +kernel
theorem dL_law_447 : decode cL_law 447 = .ok (.iconst 0, 1) := by decide +kernel
theorem dL_law_448 : decode cL_law 448 = .ok (.invokevirtual 118, 3) := by decide +kernel
theorem dL_law_451 : decode cL_law 451 = .ok (.if_icmp .gt 30, 3) := by decide +kernel
theorem dL_law_454 : decode cL_law 454 = .ok (.aload_n 1, 1) := by decide +kernel
theorem dL_law_455 : decode cL_law 455 = .ok (.iload 17, 2) := by decide +kernel
theorem dL_law_457 : decode cL_law 457 = .ok (.iconst 1, 1) := by decide +kernel
theorem dL_law_458 : decode cL_law 458 = .ok (.invokevirtual 118, 3) := by decide +kernel
theorem dL_law_461 : decode cL_law 461 = .ok (.ifCond .lt 20, 3) := by decide +kernel
theorem dL_law_464 : decode cL_law 464 = .ok (.aload_n 1, 1) := by decide +kernel
theorem dL_law_465 : decode cL_law 465 = .ok (.iload 17, 2) := by decide +kernel
theorem dL_law_467 : decode cL_law 467 = .ok (.iconst 2, 1) := by decide +kernel
theorem dL_law_468 : decode cL_law 468 = .ok (.invokevirtual 118, 3) := by decide +kernel
theorem dL_law_471 : decode cL_law 471 = .ok (.aload_n 1, 1) := by decide +kernel
theorem dL_law_472 : decode cL_law 472 = .ok (.iload 17, 2) := by decide +kernel
theorem dL_law_474 : decode cL_law 474 = .ok (.iconst 4, 1) := by decide +kernel
theorem dL_law_475 : decode cL_law 475 = .ok (.invokevirtual 118, 3) := by decide +kernel
theorem dL_law_478 : decode cL_law 478 = .ok (.if_icmp .le 5, 3) := by decide +kernel
theorem dL_law_481 : decode cL_law 481 = .ok (.iconst 0, 1) := by decide +kernel
theorem dL_law_482 : decode cL_law 482 = .ok (.ireturn, 1) := by decide +kernel
theorem dL_law_483 : decode cL_law 483 = .ok (.iinc 17 1, 3) := by decide +kernel
theorem dL_law_486 : decode cL_law 486 = .ok (.goto (-68), 3) := by decide +kernel
theorem dL_law_489 : decode cL_law 489 = .ok (.iload 10, 2) := by decide +kernel
theorem dL_law_491 : decode cL_law 491 = .ok (.iload 9, 2) := by decide +kernel
theorem dL_law_493 : decode cL_law 493 = .ok (.iadd, 1) := by decide +kernel
theorem dL_law_494 : decode cL_law 494 = .ok (.aload_n 1, 1) := by decide +kernel
theorem dL_law_495 : decode cL_law 495 = .ok (.bipush 8, 2) := by decide +kernel
theorem dL_law_497 : decode cL_law 497 = .ok (.invokevirtual 109, 3) := by decide +kernel
theorem dL_law_500 : decode cL_law 500 = .ok (.iadd, 1) := by decide +kernel
theorem dL_law_501 : decode cL_law 501 = .ok (.istore 8, 2) := by decide +kernel
theorem dL_law_503 : decode cL_law 503 = .ok (.iload 10, 2) := by decide +kernel
theorem dL_law_505 : decode cL_law 505 = .ok (.iload 16, 2) := by decide +kernel
theorem dL_law_507 : decode cL_law 507 = .ok (.aload_n 1, 1) := by decide +kernel
theorem dL_law_508 : decode cL_law 508 = .ok (.bipush 9, 2) := by decide +kernel
theorem dL_law_510 : decode cL_law 510 = .ok (.invokevirtual 109, 3) := by decide +kernel
theorem dL_law_513 : decode cL_law 513 = .ok (.iadd, 1) := by decide +kernel
theorem dL_law_514 : decode cL_law 514 = .ok (.if_icmp .ne 91, 3) := by decide +kernel
theorem dL_law_517 : decode cL_law 517 = .ok (.aload 11, 2) := by decide +kernel
theorem dL_law_519 : decode cL_law 519 = .ok (.iconst 0, 1) := by decide +kernel
theorem dL_law_520 : decode cL_law 520 = .ok (.iaload, 1) := by decide +kernel
theorem dL_law_521 : decode cL_law 521 = .ok (.aload 11, 2) := by decide +kernel
theorem dL_law_523 : decode cL_law 523 = .ok (.iconst 1, 1) := by decide +kernel
theorem dL_law_524 : decode cL_law 524 = .ok (.iaload, 1) := by decide +kernel
theorem dL_law_525 : decode cL_law 525 = .ok (.iadd, 1) := by decide +kernel
theorem dL_law_526 : decode cL_law 526 = .ok (.aload 11, 2) := by decide +kernel
theorem dL_law_528 : decode cL_law 528 = .ok (.iconst 2, 1) := by decide +kernel
theorem dL_law_529 : decode cL_law 529 = .ok (.iaload, 1) := by decide +kernel
theorem dL_law_530 : decode cL_law 530 = .ok (.iadd, 1) := by decide +kernel
theorem dL_law_531 : decode cL_law 531 = .ok (.aload_n 1, 1) := by decide +kernel
theorem dL_law_532 : decode cL_law 532 = .ok (.iconst 4, 1) := by decide +kernel
theorem dL_law_533 : decode cL_law 533 = .ok (.invokevirtual 109, 3) := by decide +kernel
theorem dL_law_536 : decode cL_law 536 = .ok (.if_icmp .ne 69, 3) := by decide +kernel
theorem dL_law_539 : decode cL_law 539 = .ok (.aload 11, 2) := by decide +kernel
theorem dL_law_541 : decode cL_law 541 = .ok (.iconst 3, 1) := by decide +kernel
theorem dL_law_542 : decode cL_law 542 = .ok (.iaload, 1) := by decide +kernel
theorem dL_law_543 : decode cL_law 543 = .ok (.aload_n 1, 1) := by decide +kernel
theorem dL_law_544 : decode cL_law 544 = .ok (.iconst 5, 1) := by decide +kernel
theorem dL_law_545 : decode cL_law 545 = .ok (.invokevirtual 109, 3) := by decide +kernel
theorem dL_law_548 : decode cL_law 548 = .ok (.if_icmp .ne 57, 3) := by decide +kernel
theorem dL_law_551 : decode cL_law 551 = .ok (.aload 11, 2) := by decide +kernel
theorem dL_law_553 : decode cL_law 553 = .ok (.iconst 4, 1) := by decide +kernel
theorem dL_law_554 : decode cL_law 554 = .ok (.iaload, 1) := by decide +kernel
theorem dL_law_555 : decode cL_law 555 = .ok (.aload_n 1, 1) := by decide +kernel
theorem dL_law_556 : decode cL_law 556 = .ok (.bipush 6, 2) := by decide +kernel
theorem dL_law_558 : decode cL_law 558 = .ok (.invokevirtual 109, 3) := by decide +kernel
theorem dL_law_561 : decode cL_law 561 = .ok (.if_icmp .ne 44, 3) := by decide +kernel
theorem dL_law_564 : decode cL_law 564 = .ok (.iload 16, 2) := by decide +kernel
theorem dL_law_566 : decode cL_law 566 = .ok (.aload_n 1, 1) := by decide +kernel
theorem dL_law_567 : decode cL_law 567 = .ok (.bipush 7, 2) := by decide +kernel
theorem dL_law_569 : decode cL_law 569 = .ok (.invokevirtual 109, 3) := by decide +kernel
theorem dL_law_572 : decode cL_law 572 = .ok (.if_icmp .ne 33, 3) := by decide +kernel
theorem dL_law_575 : decode cL_law 575 = .ok (.aload_n 1, 1) := by decide +kernel
theorem dL_law_576 : decode cL_law 576 = .ok (.invokevirtual 121, 3) := by decide +kernel
theorem dL_law_579 : decode cL_law 579 = .ok (.aload_n 1, 1) := by decide +kernel
theorem dL_law_580 : decode cL_law 580 = .ok (.iconst 4, 1) := by decide +kernel
theorem dL_law_581 : decode cL_law 581 = .ok (.invokevirtual 109, 3) := by decide +kernel
theorem dL_law_584 : decode cL_law 584 = .ok (.ifCond .ne 7, 3) := by decide +kernel
theorem dL_law_587 : decode cL_law 587 = .ok (.dconst 0, 1) := by decide +kernel
theorem dL_law_588 : decode cL_law 588 = .ok (.goto 13, 3) := by decide +kernel
theorem dL_law_591 : decode cL_law 591 = .ok (.iload 9, 2) := by decide +kernel
theorem dL_law_593 : decode cL_law 593 = .ok (.i2d, 1) := by decide +kernel
theorem dL_law_594 : decode cL_law 594 = .ok (.aload_n 1, 1) := by decide +kernel
theorem dL_law_595 : decode cL_law 595 = .ok (.iconst 4, 1) := by decide +kernel
theorem dL_law_596 : decode cL_law 596 = .ok (.invokevirtual 109, 3) := by decide +kernel
theorem dL_law_599 : decode cL_law 599 = .ok (.i2d, 1) := by decide +kernel
theorem dL_law_600 : decode cL_law 600 = .ok (.ddiv, 1) := by decide +kernel
theorem dL_law_601 : decode cL_law 601 = .ok (.dcmp .l, 1) := by decide +kernel
theorem dL_law_602 : decode cL_law 602 = .ok (.ifCond .eq 5, 3) := by decide +kernel
theorem dL_law_605 : decode cL_law 605 = .ok (.iconst 0, 1) := by decide +kernel
theorem dL_law_606 : decode cL_law 606 = .ok (.ireturn, 1) := by decide +kernel
theorem dL_law_607 : decode cL_law 607 = .ok (.iconst 0, 1) := by decide +kernel
theorem dL_law_608 : decode cL_law 608 = .ok (.istore 17, 2) := by decide +kernel
theorem dL_law_610 : decode cL_law 610 = .ok (.iconst 1, 1) := by decide +kernel
theorem dL_law_611 : decode cL_law 611 = .ok (.istore 18, 2) := by decide +kernel
theorem dL_law_613 : decode cL_law 613 = .ok (.iload 18, 2) := by decide +kernel
theorem dL_law_615 : decode cL_law 615 = .ok (.bipush 8, 2) := by decide +kernel
theorem dL_law_617 : decode cL_law 617 = .ok (.if_icmp .ge 64, 3) := by decide +kernel
theorem dL_law_620 : decode cL_law 620 = .ok (.iload 17, 2) := by decide +kernel
theorem dL_law_622 : decode cL_law 622 = .ok (.aload_n 1, 1) := by decide +kernel
theorem dL_law_623 : decode cL_law 623 = .ok (.iload 18, 2) := by decide +kernel
theorem dL_law_625 : decode cL_law 625 = .ok (.iconst 2, 1) := by decide +kernel
theorem dL_law_626 : decode cL_law 626 = .ok (.invokevirtual 125, 3) := by decide +kernel
theorem dL_law_629 : decode cL_law 629 = .ok (.iadd, 1) := by decide +kernel
theorem dL_law_630 : decode cL_law 630 = .ok (.istore 17, 2) := by decide +kernel
theorem dL_law_632 : decode cL_law 632 = .ok (.aload_n 1, 1) := by decide +kernel
theorem dL_law_633 : decode cL_law 633 = .ok (.iload 18, 2) := by decide +kernel
theorem dL_law_635 : decode cL_law 635 = .ok (.iconst 2, 1) := by decide +kernel
theorem dL_law_636 : decode cL_law 636 = .ok (.invokevirtual 125, 3) := by decide +kernel
theorem dL_law_639 : decode cL_law 639 = .ok (.aload_n 1, 1) := by decide +kernel
theorem dL_law_640 : decode cL_law 640 = .ok (.iload 18, 2) := by decide +kernel
theorem dL_law_642 : decode cL_law 642 = .ok (.iconst 1, 1) := by decide +kernel
theorem dL_law_643 : decode cL_law 643 = .ok (.invokevirtual 125, 3) := by decide +kernel
theorem dL_law_646 : decode cL_law 646 = .ok (.iconst 3, 1) := by decide +kernel
theorem dL_law_647 : decode cL_law 647 = .ok (.if_icmp .ge 7, 3) := by decide +kernel
theorem dL_law_650 : decode cL_law 650 = .ok (.iconst 0, 1) := by decide +kernel
theorem dL_law_651 : decode cL_law 651 = .ok (.goto 4, 3) := by decide +kernel
theorem dL_law_654 : decode cL_law 654 = .ok (.iconst 1, 1) := by decide +kernel
theorem dL_law_655 : decode cL_law 655 = .ok (.if_icmp .ne 18, 3) := by decide +kernel
theorem dL_law_658 : decode cL_law 658 = .ok (.aload_n 1, 1) := by decide +kernel
theorem dL_law_659 : decode cL_law 659 = .ok (.iload 18, 2) := by decide +kernel
theorem dL_law_661 : decode cL_law 661 = .ok (.iconst 3, 1) := by decide +kernel
theorem dL_law_662 : decode cL_law 662 = .ok (.invokevirtual 125, 3) := by decide +kernel
theorem dL_law_665 : decode cL_law 665 = .ok (.aload_n 1, 1) := by decide +kernel
theorem dL_law_666 : decode cL_law 666 = .ok (.iconst 4, 1) := by decide +kernel
theorem dL_law_667 : decode cL_law 667 = .ok (.invokevirtual 109, 3) := by decide +kernel
theorem dL_law_670 : decode cL_law 670 = .ok (.if_icmp .le 5, 3) := by decide +kernel
theorem dL_law_673 : decode cL_law 673 = .ok (.iconst 0, 1) := by decide +kernel
theorem dL_law_674 : decode cL_law 674 = .ok (.ireturn, 1) := by decide +kernel
theorem dL_law_675 : decode cL_law 675 = .ok (.iinc 18 1, 3) := by decide +kernel
theorem dL_law_678 : decode cL_law 678 = .ok (.goto (-65), 3) := by decide +kernel
theorem dL_law_681 : decode cL_law 681 = .ok (.iload 17, 2) := by decide +kernel
theorem dL_law_683 : decode cL_law 683 = .ok (.aload_n 1, 1) := by decide +kernel
theorem dL_law_684 : decode cL_law 684 = .ok (.bipush 10, 2) := by decide +kernel
theorem dL_law_686 : decode cL_law 686 = .ok (.invokevirtual 109, 3) := by decide +kernel
theorem dL_law_689 : decode cL_law 689 = .ok (.if_icmp .eq 5, 3) := by decide +kernel
theorem dL_law_692 : decode cL_law 692 = .ok (.iconst 0, 1) := by decide +kernel
theorem dL_law_693 : decode cL_law 693 = .ok (.ireturn, 1) := by decide +kernel
theorem dL_law_694 : decode cL_law 694 = .ok (.iconst 0, 1) := by decide +kernel
theorem dL_law_695 : decode cL_law 695 = .ok (.istore 18, 2) := by decide +kernel
theorem dL_law_697 : decode cL_law 697 = .ok (.iconst 0, 1) := by decide +kernel
theorem dL_law_698 : decode cL_law 698 = .ok (.istore 19, 2) := by decide +kernel
theorem dL_law_700 : decode cL_law 700 = .ok (.iload 19, 2) := by decide +kernel
theorem dL_law_702 : decode cL_law 702 = .ok (.aload_n 1, 1) := by decide +kernel
theorem dL_law_703 : decode cL_law 703 = .ok (.iconst 2, 1) := by decide +kernel
theorem dL_law_704 : decode cL_law 704 = .ok (.invokevirtual 109, 3) := by decide +kernel
theorem dL_law_707 : decode cL_law 707 = .ok (.if_icmp .ge 73, 3) := by decide +kernel
theorem dL_law_710 : decode cL_law 710 = .ok (.iload 18, 2) := by decide +kernel
theorem dL_law_712 : decode cL_law 712 = .ok (.aload_n 1, 1) := by decide +kernel
theorem dL_law_713 : decode cL_law 713 = .ok (.iload 19, 2) := by decide +kernel
theorem dL_law_715 : decode cL_law 715 = .ok (.iconst 4, 1) := by decide +kernel
theorem dL_law_716 : decode cL_law 716 = .ok (.invokevirtual 128, 3) := by decide +kernel
theorem dL_law_719 : decode cL_law 719 = .ok (.iadd, 1) := by decide +kernel
theorem dL_law_720 : decode cL_law 720 = .ok (.istore 18, 2) := by decide +kernel
theorem dL_law_722 : decode cL_law 722 = .ok (.aload_n 1, 1) := by decide +kernel
theorem dL_law_723 : decode cL_law 723 = .ok (.iload 19, 2) := by decide +kernel
theorem dL_law_725 : decode cL_law 725 = .ok (.iconst 1, 1) := by decide +kernel
theorem dL_law_726 : decode cL_law 726 = .ok (.invokevirtual 128, 3) := by decide +kernel
theorem dL_law_729 : decode cL_law 729 = .ok (.invokestatic 131, 3) := by decide +kernel
theorem dL_law_732 : decode cL_law 732 = .ok (.iconst 1, 1) := by decide +kernel
theorem dL_law_733 : decode cL_law 733 = .ok (.if_icmp .ne 39, 3) := by decide +kernel
theorem dL_law_736 : decode cL_law 736 = .ok (.aload_n 1, 1) := by decide +kernel
theorem dL_law_737 : decode cL_law 737 = .ok (.iload 19, 2) := by decide +kernel
theorem dL_law_739 : decode cL_law 739 = .ok (.iconst 2, 1) := by decide +kernel
theorem dL_law_740 : decode cL_law 740 = .ok (.invokevirtual 128, 3) := by decide +kernel
theorem dL_law_743 : decode cL_law 743 = .ok (.ifCond .lt 29, 3) := by decide +kernel
theorem dL_law_746 : decode cL_law 746 = .ok (.aload_n 1, 1) := by decide +kernel
theorem dL_law_747 : decode cL_law 747 = .ok (.iload 19, 2) := by decide +kernel
theorem dL_law_749 : decode cL_law 749 = .ok (.iconst 3, 1) := by decide +kernel
theorem dL_law_750 : decode cL_law 750 = .ok (.invokevirtual 128, 3) := by decide +kernel
theorem dL_law_753 : decode cL_law 753 = .ok (.ifCond .lt 19, 3) := by decide +kernel
theorem dL_law_756 : decode cL_law 756 = .ok (.aload_n 1, 1) := by decide +kernel
theorem dL_law_757 : decode cL_law 757 = .ok (.aload_n 1, 1) := by decide +kernel
theorem dL_law_758 : decode cL_law 758 = .ok (.iload 19, 2) := by decide +kernel
theorem dL_law_760 : decode cL_law 760 = .ok (.iconst 0, 1) := by decide +kernel
theorem dL_law_761 : decode cL_law 761 = .ok (.invokevirtual 128, 3) := by decide +kernel
theorem dL_law_764 : decode cL_law 764 = .ok (.iconst 2, 1) := by decide +kernel
theorem dL_law_765 : decode cL_law 765 = .ok (.invokevirtual 118, 3) := by decide +kernel
theorem dL_law_768 : decode cL_law 768 = .ok (.iconst 1, 1) := by decide +kernel
theorem dL_law_769 : decode cL_law 769 = .ok (.if_icmp .ge 5, 3) := by decide +kernel
theorem dL_law_772 : decode cL_law 772 = .ok (.iconst 0, 1) := by decide +kernel
theorem dL_law_773 : decode cL_law 773 = .ok (.ireturn, 1) := by decide +kernel
theorem dL_law_774 : decode cL_law 774 = .ok (.iinc 19 1, 3) := by decide +kernel
theorem dL_law_777 : decode cL_law 777 = .ok (.goto (-77), 3) := by decide +kernel
theorem dL_law_780 : decode cL_law 780 = .ok (.iload 18, 2) := by decide +kernel
theorem dL_law_782 : decode cL_law 782 = .ok (.aload_n 1, 1) := by decide +kernel
theorem dL_law_783 : decode cL_law 783 = .ok (.bipush 6, 2) := by decide +kernel
theorem dL_law_785 : decode cL_law 785 = .ok (.invokevirtual 109, 3) := by decide +kernel
theorem dL_law_788 : decode cL_law 788 = .ok (.if_icmp .ne 13, 3) := by decide +kernel
theorem dL_law_791 : decode cL_law 791 = .ok (.aload_n 1, 1) := by decide +kernel
theorem dL_law_792 : decode cL_law 792 = .ok (.invokevirtual 105, 3) := by decide +kernel
theorem dL_law_795 : decode cL_law 795 = .ok (.lload 5, 2) := by decide +kernel
theorem dL_law_797 : decode cL_law 797 = .ok (.lcmp, 1) := by decide +kernel
theorem dL_law_798 : decode cL_law 798 = .ok (.ifCond .eq 5, 3) := by decide +kernel
theorem dL_law_801 : decode cL_law 801 = .ok (.iconst 0, 1) := by decide +kernel
theorem dL_law_802 : decode cL_law 802 = .ok (.ireturn, 1) := by decide +kernel
theorem dL_law_803 : decode cL_law 803 = .ok (.iconst 1, 1) := by decide +kernel
theorem dL_law_804 : decode cL_law 804 = .ok (.iload 4, 2) := by decide +kernel
theorem dL_law_806 : decode cL_law 806 = .ok (.iconst 4, 1) := by decide +kernel
theorem dL_law_807 : decode cL_law 807 = .ok (.ishr, 1) := by decide +kernel
theorem dL_law_808 : decode cL_law 808 = .ok (.iconst 3, 1) := by decide +kernel
theorem dL_law_809 : decode cL_law 809 = .ok (.invokestatic 9, 3) := by decide +kernel
theorem dL_law_812 : decode cL_law 812 = .ok (.iadd, 1) := by decide +kernel
theorem dL_law_813 : decode cL_law 813 = .ok (.istore 19, 2) := by decide +kernel
theorem dL_law_815 : decode cL_law 815 = .ok (.aload_n 1, 1) := by decide +kernel
theorem dL_law_816 : decode cL_law 816 = .ok (.iload 19, 2) := by decide +kernel
theorem dL_law_818 : decode cL_law 818 = .ok (.bipush 6, 2) := by decide +kernel
theorem dL_law_820 : decode cL_law 820 = .ok (.invokevirtual 134, 3) := by decide +kernel
theorem dL_law_823 : decode cL_law 823 = .ok (.istore 20, 2) := by decide +kernel
theorem dL_law_825 : decode cL_law 825 = .ok (.aload_n 1, 1) := by decide +kernel
theorem dL_law_826 : decode cL_law 826 = .ok (.iload 19, 2) := by decide +kernel
theorem dL_law_828 : decode cL_law 828 = .ok (.iconst 5, 1) := by decide +kernel
theorem dL_law_829 : decode cL_law 829 = .ok (.invokevirtual 134, 3) := by decide +kernel
theorem dL_law_832 : decode cL_law 832 = .ok (.istore 21, 2) := by decide +kernel
theorem dL_law_834 : decode cL_law 834 = .ok (.iconst 0, 1) := by decide +kernel
theorem dL_law_835 : decode cL_law 835 = .ok (.istore 22, 2) := by decide +kernel
theorem dL_law_837 : decode cL_law 837 = .ok (.iload 22, 2) := by decide +kernel
theorem dL_law_839 : decode cL_law 839 = .ok (.iload 19, 2) := by decide +kernel
theorem dL_law_841 : decode cL_law 841 = .ok (.if_icmp .ge 274, 3) := by decide +kernel
theorem dL_law_844 : decode cL_law 844 = .ok (.aload_n 1, 1) := by decide +kernel
theorem dL_law_845 : decode cL_law 845 = .ok (.iconst 1, 1) := by decide +kernel
theorem dL_law_846 : decode cL_law 846 = .ok (.invokevirtual 87, 3) := by decide +kernel
theorem dL_law_849 : decode cL_law 849 = .ok (.istore 23, 2) := by decide +kernel
theorem dL_law_851 : decode cL_law 851 = .ok (.aload_n 2, 1) := by decide +kernel
theorem dL_law_852 : decode cL_law 852 = .ok (.invokevirtual 83, 3) := by decide +kernel
theorem dL_law_855 : decode cL_law 855 = .ok (.iload 23, 2) := by decide +kernel
theorem dL_law_857 : decode cL_law 857 = .ok (.if_icmp .eq 5, 3) := by decide +kernel
theorem dL_law_860 : decode cL_law 860 = .ok (.iconst 0, 1) := by decide +kernel
theorem dL_law_861 : decode cL_law 861 = .ok (.ireturn, 1) := by decide +kernel
theorem dL_law_862 : decode cL_law 862 = .ok (.iconst 0, 1) := by decide +kernel
theorem dL_law_863 : decode cL_law 863 = .ok (.istore 24, 2) := by decide +kernel
theorem dL_law_865 : decode cL_law 865 = .ok (.iload 24, 2) := by decide +kernel
theorem dL_law_867 : decode cL_law 867 = .ok (.iload 7, 2) := by decide +kernel
theorem dL_law_869 : decode cL_law 869 = .ok (.if_icmp .ge 220, 3) := by decide +kernel
theorem dL_law_872 : decode cL_law 872 = .ok (.aload_n 1, 1) := by decide +kernel
theorem dL_law_873 : decode cL_law 873 = .ok (.iload 24, 2) := by decide +kernel
theorem dL_law_875 : decode cL_law 875 = .ok (.iconst 0, 1) := by decide +kernel
theorem dL_law_876 : decode cL_law 876 = .ok (.invokevirtual 112, 3) := by decide +kernel
theorem dL_law_879 : decode cL_law 879 = .ok (.istore 25, 2) := by decide +kernel
theorem dL_law_881 : decode cL_law 881 = .ok (.iload 25, 2) := by decide +kernel
theorem dL_law_883 : decode cL_law 883 = .ok (.aload 12, 2) := by decide +kernel
theorem dL_law_885 : decode cL_law 885 = .ok (.iload 24, 2) := by decide +kernel
theorem dL_law_887 : decode cL_law 887 = .ok (.iaload, 1) := by decide +kernel
theorem dL_law_888 : decode cL_law 888 = .ok (.isub, 1) := by decide +kernel
theorem dL_law_889 : decode cL_law 889 = .ok (.invokestatic 131, 3) := by decide +kernel
theorem dL_law_892 : decode cL_law 892 = .ok (.iconst 2, 1) := by decide +kernel
theorem dL_law_893 : decode cL_law 893 = .ok (.if_icmp .gt 53, 3) := by decide +kernel
theorem dL_law_896 : decode cL_law 896 = .ok (.aload 15, 2) := by decide +kernel
theorem dL_law_898 : decode cL_law 898 = .ok (.iload 24, 2) := by decide +kernel
theorem dL_law_900 : decode cL_law 900 = .ok (.iaload, 1) := by decide +kernel
theorem dL_law_901 : decode cL_law 901 = .ok (.iconst 1, 1) := by decide +kernel
theorem dL_law_902 : decode cL_law 902 = .ok (.if_icmp .le 13, 3) := by decide +kernel
theorem dL_law_905 : decode cL_law 905 = .ok (.iload 25, 2) := by decide +kernel
theorem dL_law_907 : decode cL_law 907 = .ok (.aload 12, 2) := by decide +kernel
theorem dL_law_909 : decode cL_law 909 = .ok (.iload 24, 2) := by decide +kernel
theorem dL_law_911 : decode cL_law 911 = .ok (.iaload, 1) := by decide +kernel
theorem dL_law_912 : decode cL_law 912 = .ok (.if_icmp .ne 34, 3) := by decide +kernel
theorem dL_law_915 : decode cL_law 915 = .ok (.aload_n 1, 1) := by decide +kernel
theorem dL_law_916 : decode cL_law 916 = .ok (.iload 24, 2) := by decide +kernel
theorem dL_law_918 : decode cL_law 918 = .ok (.iconst 3, 1) := by decide +kernel
theorem dL_law_919 : decode cL_law 919 = .ok (.invokevirtual 112, 3) := by decide +kernel
theorem dL_law_922 : decode cL_law 922 = .ok (.iconst 3, 1) := by decide +kernel
theorem dL_law_923 : decode cL_law 923 = .ok (.if_icmp .ge 25, 3) := by decide +kernel
theorem dL_law_926 : decode cL_law 926 = .ok (.aload_n 1, 1) := by decide +kernel
theorem dL_law_927 : decode cL_law 927 = .ok (.iload 24, 2) := by decide +kernel
theorem dL_law_929 : decode cL_law 929 = .ok (.iconst 2, 1) := by decide +kernel
theorem dL_law_930 : decode cL_law 930 = .ok (.invokevirtual 112, 3) := by decide +kernel
theorem dL_law_933 : decode cL_law 933 = .ok (.ifCond .ge 15, 3) := by decide +kernel
theorem dL_law_936 : decode cL_law 936 = .ok (.iload 25, 2) := by decide +kernel
theorem dL_law_938 : decode cL_law 938 = .ok (.aload 12, 2) := by decide +kernel
theorem dL_law_940 : decode cL_law 940 = .ok (.iload 24, 2) := by decide +kernel
theorem dL_law_942 : decode cL_law 942 = .ok (.iaload, 1) := by decide +kernel
theorem dL_law_943 : decode cL_law 943 = .ok (.if_icmp .eq 5, 3) := by decide +kernel
theorem dL_law_946 : decode cL_law 946 = .ok (.iconst 0, 1) := by decide +kernel
theorem dL_law_947 : decode cL_law 947 = .ok (.ireturn, 1) := by decide +kernel
theorem dL_law_948 : decode cL_law 948 = .ok (.aload_n 1, 1) := by decide +kernel
theorem dL_law_949 : decode cL_law 949 = .ok (.iload 24, 2) := by decide +kernel
theorem dL_law_951 : decode cL_law 951 = .ok (.iconst 2, 1) := by decide +kernel
theorem dL_law_952 : decode cL_law 952 = .ok (.invokevirtual 112, 3) := by decide +kernel
theorem dL_law_955 : decode cL_law 955 = .ok (.istore 26, 2) := by decide +kernel
theorem dL_law_957 : decode cL_law 957 = .ok (.iload 25, 2) := by decide +kernel
theorem dL_law_959 : decode cL_law 959 = .ok (.aload 12, 2) := by decide +kernel
theorem dL_law_961 : decode cL_law 961 = .ok (.iload 24, 2) := by decide +kernel
theorem dL_law_963 : decode cL_law 963 = .ok (.iaload, 1) := by decide +kernel
theorem dL_law_964 : decode cL_law 964 = .ok (.if_icmp .eq 27, 3) := by decide +kernel
theorem dL_law_967 : decode cL_law 967 = .ok (.iload 26, 2) := by decide +kernel
theorem dL_law_969 : decode cL_law 969 = .ok (.iload 25, 2) := by decide +kernel
theorem dL_law_971 : decode cL_law 971 = .ok (.isub, 1) := by decide +kernel
theorem dL_law_972 : decode cL_law 972 = .ok (.invokestatic 131, 3) := by decide +kernel
theorem dL_law_975 : decode cL_law 975 = .ok (.iload 26, 2) := by decide +kernel
theorem dL_law_977 : decode cL_law 977 = .ok (.aload 12, 2) := by decide +kernel
theorem dL_law_979 : decode cL_law 979 = .ok (.iload 24, 2) := by decide +kernel
theorem dL_law_981 : decode cL_law 981 = .ok (.iaload, 1) := by decide +kernel
theorem dL_law_982 : decode cL_law 982 = .ok (.isub, 1) := by decide +kernel
theorem dL_law_983 : decode cL_law 983 = .ok (.invokestatic 131, 3) := by decide +kernel
theorem dL_law_986 : decode cL_law 986 = .ok (.if_icmp .lt 5, 3) := by decide +kernel
theorem dL_law_989 : decode cL_law 989 = .ok (.iconst 0, 1) := by decide +kernel
theorem dL_law_990 : decode cL_law 990 = .ok (.ireturn, 1) := by decide +kernel
theorem dL_law_991 : decode cL_law 991 = .ok (.aload 12, 2) := by decide +kernel
theorem dL_law_993 : decode cL_law 993 = .ok (.iload 24, 2) := by decide +kernel
theorem dL_law_995 : decode cL_law 995 = .ok (.iload 25, 2) := by decide +kernel
theorem dL_law_997 : decode cL_law 997 = .ok (.iastore, 1) := by decide +kernel
theorem dL_law_998 : decode cL_law 998 = .ok (.aload 15, 2) := by decide +kernel
theorem dL_law_1000 : decode cL_law 1000 = .ok (.iload 24, 2) := by decide +kernel
theorem dL_law_1002 : decode cL_law 1002 = .ok (.iaload, 1) := by decide +kernel
theorem dL_law_1003 : decode cL_law 1003 = .ok (.iconst 3, 1) := by decide +kernel
theorem dL_law_1004 : decode cL_law 1004 = .ok (.if_icmp .ge 41, 3) := by decide +kernel
theorem dL_law_1007 : decode cL_law 1007 = .ok (.aload_n 1, 1) := by decide +kernel
theorem dL_law_1008 : decode cL_law 1008 = .ok (.iload 24, 2) := by decide +kernel
theorem dL_law_1010 : decode cL_law 1010 = .ok (.iconst 3, 1) := by decide +kernel
theorem dL_law_1011 : decode cL_law 1011 = .ok (.invokevirtual 112, 3) := by decide +kernel
theorem dL_law_1014 : decode cL_law 1014 = .ok (.iconst 3, 1) := by decide +kernel
theorem dL_law_1015 : decode cL_law 1015 = .ok (.if_icmp .ne 7, 3) := by decide +kernel
theorem dL_law_1018 : decode cL_law 1018 = .ok (.iconst 1, 1) := by decide +kernel
theorem dL_law_1019 : decode cL_law 1019 = .ok (.goto 4, 3) := by decide +kernel
theorem dL_law_1022 : decode cL_law 1022 = .ok (.iconst 0, 1) := by decide +kernel
theorem dL_law_1023 : decode cL_law 1023 = .ok (.aload 14, 2) := by decide +kernel
theorem dL_law_1025 : decode cL_law 1025 = .ok (.iload 24, 2) := by decide +kernel
theorem dL_law_1027 : decode cL_law 1027 = .ok (.iaload, 1) := by decide +kernel
theorem dL_law_1028 : decode cL_law 1028 = .ok (.iload 22, 2) := by decide +kernel
theorem dL_law_1030 : decode cL_law 1030 = .ok (.iconst 1, 1) := by decide +kernel
theorem dL_law_1031 : decode cL_law 1031 = .ok (.iadd, 1) := by decide +kernel
theorem dL_law_1032 : decode cL_law 1032 = .ok (.if_icmp .ne 7, 3) := by decide +kernel
theorem dL_law_1035 : decode cL_law 1035 = .ok (.iconst 1, 1) := by decide +kernel
theorem dL_law_1036 : decode cL_law 1036 = .ok (.goto 4, 3) := by decide +kernel
theorem dL_law_1039 : decode cL_law 1039 = .ok (.iconst 0, 1) := by decide +kernel
theorem dL_law_1040 : decode cL_law 1040 = .ok (.if_icmp .eq 5, 3) := by decide +kernel
theorem dL_law_1043 : decode cL_law 1043 = .ok (.iconst 0, 1) := by decide +kernel
theorem dL_law_1044 : decode cL_law 1044 = .ok (.ireturn, 1) := by decide +kernel
theorem dL_law_1045 : decode cL_law 1045 = .ok (.aload 15, 2) := by decide +kernel
theorem dL_law_1047 : decode cL_law 1047 = .ok (.iload 24, 2) := by decide +kernel
theorem dL_law_1049 : decode cL_law 1049 = .ok (.iaload, 1) := by decide +kernel
theorem dL_law_1050 : decode cL_law 1050 = .ok (.iconst 2, 1) := by decide +kernel
theorem dL_law_1051 : decode cL_law 1051 = .ok (.if_icmp .le 20, 3) := by decide +kernel
theorem dL_law_1054 : decode cL_law 1054 = .ok (.aload_n 1, 1) := by decide +kernel
theorem dL_law_1055 : decode cL_law 1055 = .ok (.iload 24, 2) := by decide +kernel
theorem dL_law_1057 : decode cL_law 1057 = .ok (.iconst 3, 1) := by decide +kernel
theorem dL_law_1058 : decode cL_law 1058 = .ok (.invokevirtual 112, 3) := by decide +kernel
theorem dL_law_1061 : decode cL_law 1061 = .ok (.aload 15, 2) := by decide +kernel
theorem dL_law_1063 : decode cL_law 1063 = .ok (.iload 24, 2) := by decide +kernel
theorem dL_law_1065 : decode cL_law 1065 = .ok (.iaload, 1) := by decide +kernel
theorem dL_law_1066 : decode cL_law 1066 = .ok (.if_icmp .eq 5, 3) := by decide +kernel
theorem dL_law_1069 : decode cL_law 1069 = .ok (.iconst 0, 1) := by decide +kernel
theorem dL_law_1070 : decode cL_law 1070 = .ok (.ireturn, 1) := by decide +kernel
theorem dL_law_1071 : decode cL_law 1071 = .ok (.aload 15, 2) := by decide +kernel
theorem dL_law_1073 : decode cL_law 1073 = .ok (.iload 24, 2) := by decide +kernel
theorem dL_law_1075 : decode cL_law 1075 = .ok (.aload_n 1, 1) := by decide +kernel
theorem dL_law_1076 : decode cL_law 1076 = .ok (.iload 24, 2) := by decide +kernel
theorem dL_law_1078 : decode cL_law 1078 = .ok (.iconst 3, 1) := by decide +kernel
theorem dL_law_1079 : decode cL_law 1079 = .ok (.invokevirtual 112, 3) := by decide +kernel
theorem dL_law_1082 : decode cL_law 1082 = .ok (.iastore, 1) := by decide +kernel
theorem dL_law_1083 : decode cL_law 1083 = .ok (.iinc 24 1, 3) := by decide +kernel
theorem dL_law_1086 : decode cL_law 1086 = .ok (.goto (-221), 3) := by decide +kernel
theorem dL_law_1089 : decode cL_law 1089 = .ok (.iload 16, 2) := by decide +kernel
theorem dL_law_1091 : decode cL_law 1091 = .ok (.iload 23, 2) := by decide +kernel
theorem dL_law_1093 : decode cL_law 1093 = .ok (.iadd, 1) := by decide +kernel
theorem dL_law_1094 : decode cL_law 1094 = .ok (.istore 16, 2) := by decide +kernel
theorem dL_law_1096 : decode cL_law 1096 = .ok (.aload_n 1, 1) := by decide +kernel
theorem dL_law_1097 : decode cL_law 1097 = .ok (.bipush 7, 2) := by decide +kernel
theorem dL_law_1099 : decode cL_law 1099 = .ok (.invokevirtual 109, 3) := by decide +kernel
theorem dL_law_1102 : decode cL_law 1102 = .ok (.iload 16, 2) := by decide +kernel
theorem dL_law_1104 : decode cL_law 1104 = .ok (.if_icmp .eq 5, 3) := by decide +kernel
theorem dL_law_1107 : decode cL_law 1107 = .ok (.iconst 0, 1) := by decide +kernel
theorem dL_law_1108 : decode cL_law 1108 = .ok (.ireturn, 1) := by decide +kernel
theorem dL_law_1109 : decode cL_law 1109 = .ok (.iinc 22 1, 3) := by decide +kernel
theorem dL_law_1112 : decode cL_law 1112 = .ok (.goto (-275), 3) := by decide +kernel
theorem dL_law_1115 : decode cL_law 1115 = .ok (.aload_n 1, 1) := by decide +kernel
theorem dL_law_1116 : decode cL_law 1116 = .ok (.bipush 6, 2) := by decide +kernel
theorem dL_law_1118 : decode cL_law 1118 = .ok (.invokevirtual 109, 3) := by decide +kernel
theorem dL_law_1121 : decode cL_law 1121 = .ok (.iload 20, 2) := by decide +kernel
theorem dL_law_1123 : decode cL_law 1123 = .ok (.if_icmp .ne 13, 3) := by decide +kernel
theorem dL_law_1126 : decode cL_law 1126 = .ok (.aload_n 1, 1) := by decide +kernel
theorem dL_law_1127 : decode cL_law 1127 = .ok (.iconst 5, 1) := by decide +kernel
theorem dL_law_1128 : decode cL_law 1128 = .ok (.invokevirtual 109, 3) := by decide +kernel
theorem dL_law_1131 : decode cL_law 1131 = .ok (.iload 21, 2) := by decide +kernel
theorem dL_law_1133 : decode cL_law 1133 = .ok (.if_icmp .eq 5, 3) := by decide +kernel
theorem dL_law_1136 : decode cL_law 1136 = .ok (.iconst 0, 1) := by decide +kernel
theorem dL_law_1137 : decode cL_law 1137 = .ok (.ireturn, 1) := by decide +kernel
theorem dL_law_1138 : decode cL_law 1138 = .ok (.iconst 0, 1) := by decide +kernel
theorem dL_law_1139 : decode cL_law 1139 = .ok (.istore 22, 2) := by decide +kernel
theorem dL_law_1141 : decode cL_law 1141 = .ok (.iconst 0, 1) := by decide +kernel
theorem dL_law_1142 : decode cL_law 1142 = .ok (.istore 23, 2) := by decide +kernel
theorem dL_law_1144 : decode cL_law 1144 = .ok (.iload 23, 2) := by decide +kernel
theorem dL_law_1146 : decode cL_law 1146 = .ok (.iload 7, 2) := by decide +kernel
theorem dL_law_1148 : decode cL_law 1148 = .ok (.if_icmp .ge 44, 3) := by decide +kernel
theorem dL_law_1151 : decode cL_law 1151 = .ok (.iload 22, 2) := by decide +kernel
theorem dL_law_1153 : decode cL_law 1153 = .ok (.aload_n 1, 1) := by decide +kernel
theorem dL_law_1154 : decode cL_law 1154 = .ok (.iload 23, 2) := by decide +kernel
theorem dL_law_1156 : decode cL_law 1156 = .ok (.iconst 4, 1) := by decide +kernel
theorem dL_law_1157 : decode cL_law 1157 = .ok (.invokevirtual 112, 3) := by decide +kernel
theorem dL_law_1160 : decode cL_law 1160 = .ok (.aload_n 1, 1) := by decide +kernel
theorem dL_law_1161 : decode cL_law 1161 = .ok (.iload 23, 2) := by decide +kernel
theorem dL_law_1163 : decode cL_law 1163 = .ok (.iconst 3, 1) := by decide +kernel
theorem dL_law_1164 : decode cL_law 1164 = .ok (.invokevirtual 112, 3) := by decide +kernel
theorem dL_law_1167 : decode cL_law 1167 = .ok (.iconst 3, 1) := by decide +kernel
theorem dL_law_1168 : decode cL_law 1168 = .ok (.if_icmp .ge 13, 3) := by decide +kernel
theorem dL_law_1171 : decode cL_law 1171 = .ok (.aload_n 1, 1) := by decide +kernel
theorem dL_law_1172 : decode cL_law 1172 = .ok (.iload 23, 2) := by decide +kernel
theorem dL_law_1174 : decode cL_law 1174 = .ok (.iconst 1, 1) := by decide +kernel
theorem dL_law_1175 : decode cL_law 1175 = .ok (.invokevirtual 112, 3) := by decide +kernel
theorem dL_law_1178 : decode cL_law 1178 = .ok (.goto 4, 3) := by decide +kernel
theorem dL_law_1181 : decode cL_law 1181 = .ok (.iconst 0, 1) := by decide +kernel
theorem dL_law_1182 : decode cL_law 1182 = .ok (.iadd, 1) := by decide +kernel
theorem dL_law_1183 : decode cL_law 1183 = .ok (.iadd, 1) := by decide +kernel
theorem dL_law_1184 : decode cL_law 1184 = .ok (.istore 22, 2) := by decide +kernel
theorem dL_law_1186 : decode cL_law 1186 = .ok (.iinc 23 1, 3) := by decide +kernel
theorem dL_law_1189 : decode cL_law 1189 = .ok (.goto (-45), 3) := by decide +kernel
theorem dL_law_1192 : decode cL_law 1192 = .ok (.iload 22, 2) := by decide +kernel
theorem dL_law_1194 : decode cL_law 1194 = .ok (.aload_n 1, 1) := by decide +kernel
theorem dL_law_1195 : decode cL_law 1195 = .ok (.bipush 8, 2) := by decide +kernel
theorem dL_law_1197 : decode cL_law 1197 = .ok (.invokevirtual 109, 3) := by decide +kernel
theorem dL_law_1200 : decode cL_law 1200 = .ok (.iadd, 1) := by decide +kernel
theorem dL_law_1201 : decode cL_law 1201 = .ok (.iload 8, 2) := by decide +kernel
theorem dL_law_1203 : decode cL_law 1203 = .ok (.if_icmp .eq 5, 3) := by decide +kernel
theorem dL_law_1206 : decode cL_law 1206 = .ok (.iconst 0, 1) := by decide +kernel
theorem dL_law_1207 : decode cL_law 1207 = .ok (.ireturn, 1) := by decide +kernel
theorem dL_law_1208 : decode cL_law 1208 = .ok (.iinc 3 1, 3) := by decide +kernel
theorem dL_law_1211 : decode cL_law 1211 = .ok (.goto (-1189), 3) := by decide +kernel
theorem dL_law_1214 : decode cL_law 1214 = .ok (.aload_n 2, 1) := by decide +kernel
theorem dL_law_1215 : decode cL_law 1215 = .ok (.aload_n 1, 1) := by decide +kernel
theorem dL_law_1216 : decode cL_law 1216 = .ok (.invokevirtual 137, 3) := by decide +kernel
theorem dL_law_1219 : decode cL_law 1219 = .ok (.ireturn, 1) := by decide +kernel
