/-! the law's instructions, 1 -/
def dTL_1_0 : List (Nat × (Instr × Nat)) := [(631, (.aload_n 0, 1)), (632, (.iload 5, 2)), (634, (.iconst 1, 1)), (635, (.iadd, 1)), (636, (.iaload, 1)), (637, (.aload_n 3, 1)), (638, (.invokestatic 183, 3)), (641, (.istore 6, 2)), (643, (.aload_n 2, 1)), (644, (.aload_n 0, 1)), (645, (.iload 5, 2)), (647, (.iconst 1, 1)), (648, (.iadd, 1)), (649, (.iaload, 1)), (650, (.invokevirtual 185, 3)), (653, (.istore 7, 2)), (655, (.aload_n 2, 1)), (656, (.invokevirtual 144, 3)), (659, (.iload 6, 2)), (661, (.if_icmp .eq 5, 3)), (666, (.iload 6, 2)), (668, (.ifCond .ne 15, 3)), (671, (.aload_n 3, 1)), (672, (.iconst 0, 1)), (673, (.laload, 1)), (674, (.iload 7, 2)), (676, (.i2l, 1)), (677, (.lcmp, 1)), (678, (.ifCond .eq 5, 3)), (683, (.goto 2225, 3)), (686, (.aload_n 1, 1)), (687, (.aload_n 0, 1)), (688, (.iload 5, 2)), (690, (.iconst 1, 1)), (691, (.iadd, 1)), (692, (.iaload, 1)), (693, (.aload_n 0, 1)), (694, (.iload 5, 2)), (696, (.iconst 2, 1)), (697, (.iadd, 1)), (698, (.iaload, 1)), (699, (.aload_n 3, 1)), (700, (.invokestatic 186, 3)), (703, (.istore 6, 2))]
theorem dTB_1_0 : dTL_1_0.all (fun q => decide (decode code q.1 = .ok q.2)) = true := by decide +kernel
set_option maxRecDepth 20000 in
theorem dW_631 : decode code 631 = .ok (.aload_n 0, 1) := dT_of dTB_1_0 0 rfl
set_option maxRecDepth 20000 in
theorem dW_632 : decode code 632 = .ok (.iload 5, 2) := dT_of dTB_1_0 1 rfl
set_option maxRecDepth 20000 in
theorem dW_634 : decode code 634 = .ok (.iconst 1, 1) := dT_of dTB_1_0 2 rfl
set_option maxRecDepth 20000 in
theorem dW_635 : decode code 635 = .ok (.iadd, 1) := dT_of dTB_1_0 3 rfl
set_option maxRecDepth 20000 in
theorem dW_636 : decode code 636 = .ok (.iaload, 1) := dT_of dTB_1_0 4 rfl
set_option maxRecDepth 20000 in
theorem dW_637 : decode code 637 = .ok (.aload_n 3, 1) := dT_of dTB_1_0 5 rfl
set_option maxRecDepth 20000 in
theorem dW_638 : decode code 638 = .ok (.invokestatic 183, 3) := dT_of dTB_1_0 6 rfl
set_option maxRecDepth 20000 in
theorem dW_641 : decode code 641 = .ok (.istore 6, 2) := dT_of dTB_1_0 7 rfl
set_option maxRecDepth 20000 in
theorem dW_643 : decode code 643 = .ok (.aload_n 2, 1) := dT_of dTB_1_0 8 rfl
set_option maxRecDepth 20000 in
theorem dW_644 : decode code 644 = .ok (.aload_n 0, 1) := dT_of dTB_1_0 9 rfl
set_option maxRecDepth 20000 in
theorem dW_645 : decode code 645 = .ok (.iload 5, 2) := dT_of dTB_1_0 10 rfl
set_option maxRecDepth 20000 in
theorem dW_647 : decode code 647 = .ok (.iconst 1, 1) := dT_of dTB_1_0 11 rfl
set_option maxRecDepth 20000 in
theorem dW_648 : decode code 648 = .ok (.iadd, 1) := dT_of dTB_1_0 12 rfl
set_option maxRecDepth 20000 in
theorem dW_649 : decode code 649 = .ok (.iaload, 1) := dT_of dTB_1_0 13 rfl
set_option maxRecDepth 20000 in
theorem dW_650 : decode code 650 = .ok (.invokevirtual 185, 3) := dT_of dTB_1_0 14 rfl
set_option maxRecDepth 20000 in
theorem dW_653 : decode code 653 = .ok (.istore 7, 2) := dT_of dTB_1_0 15 rfl
set_option maxRecDepth 20000 in
theorem dW_655 : decode code 655 = .ok (.aload_n 2, 1) := dT_of dTB_1_0 16 rfl
set_option maxRecDepth 20000 in
theorem dW_656 : decode code 656 = .ok (.invokevirtual 144, 3) := dT_of dTB_1_0 17 rfl
set_option maxRecDepth 20000 in
theorem dW_659 : decode code 659 = .ok (.iload 6, 2) := dT_of dTB_1_0 18 rfl
set_option maxRecDepth 20000 in
theorem dW_661 : decode code 661 = .ok (.if_icmp .eq 5, 3) := dT_of dTB_1_0 19 rfl
set_option maxRecDepth 20000 in
theorem dW_666 : decode code 666 = .ok (.iload 6, 2) := dT_of dTB_1_0 20 rfl
set_option maxRecDepth 20000 in
theorem dW_668 : decode code 668 = .ok (.ifCond .ne 15, 3) := dT_of dTB_1_0 21 rfl
set_option maxRecDepth 20000 in
theorem dW_671 : decode code 671 = .ok (.aload_n 3, 1) := dT_of dTB_1_0 22 rfl
set_option maxRecDepth 20000 in
theorem dW_672 : decode code 672 = .ok (.iconst 0, 1) := dT_of dTB_1_0 23 rfl
set_option maxRecDepth 20000 in
theorem dW_673 : decode code 673 = .ok (.laload, 1) := dT_of dTB_1_0 24 rfl
set_option maxRecDepth 20000 in
theorem dW_674 : decode code 674 = .ok (.iload 7, 2) := dT_of dTB_1_0 25 rfl
set_option maxRecDepth 20000 in
theorem dW_676 : decode code 676 = .ok (.i2l, 1) := dT_of dTB_1_0 26 rfl
set_option maxRecDepth 20000 in
theorem dW_677 : decode code 677 = .ok (.lcmp, 1) := dT_of dTB_1_0 27 rfl
set_option maxRecDepth 20000 in
theorem dW_678 : decode code 678 = .ok (.ifCond .eq 5, 3) := dT_of dTB_1_0 28 rfl
set_option maxRecDepth 20000 in
theorem dW_683 : decode code 683 = .ok (.goto 2225, 3) := dT_of dTB_1_0 29 rfl
set_option maxRecDepth 20000 in
theorem dW_686 : decode code 686 = .ok (.aload_n 1, 1) := dT_of dTB_1_0 30 rfl
set_option maxRecDepth 20000 in
theorem dW_687 : decode code 687 = .ok (.aload_n 0, 1) := dT_of dTB_1_0 31 rfl
set_option maxRecDepth 20000 in
theorem dW_688 : decode code 688 = .ok (.iload 5, 2) := dT_of dTB_1_0 32 rfl
set_option maxRecDepth 20000 in
theorem dW_690 : decode code 690 = .ok (.iconst 1, 1) := dT_of dTB_1_0 33 rfl
set_option maxRecDepth 20000 in
theorem dW_691 : decode code 691 = .ok (.iadd, 1) := dT_of dTB_1_0 34 rfl
set_option maxRecDepth 20000 in
theorem dW_692 : decode code 692 = .ok (.iaload, 1) := dT_of dTB_1_0 35 rfl
set_option maxRecDepth 20000 in
theorem dW_693 : decode code 693 = .ok (.aload_n 0, 1) := dT_of dTB_1_0 36 rfl
set_option maxRecDepth 20000 in
theorem dW_694 : decode code 694 = .ok (.iload 5, 2) := dT_of dTB_1_0 37 rfl
set_option maxRecDepth 20000 in
theorem dW_696 : decode code 696 = .ok (.iconst 2, 1) := dT_of dTB_1_0 38 rfl
set_option maxRecDepth 20000 in
theorem dW_697 : decode code 697 = .ok (.iadd, 1) := dT_of dTB_1_0 39 rfl
set_option maxRecDepth 20000 in
theorem dW_698 : decode code 698 = .ok (.iaload, 1) := dT_of dTB_1_0 40 rfl
set_option maxRecDepth 20000 in
theorem dW_699 : decode code 699 = .ok (.aload_n 3, 1) := dT_of dTB_1_0 41 rfl
set_option maxRecDepth 20000 in
theorem dW_700 : decode code 700 = .ok (.invokestatic 186, 3) := dT_of dTB_1_0 42 rfl
set_option maxRecDepth 20000 in
theorem dW_703 : decode code 703 = .ok (.istore 6, 2) := dT_of dTB_1_0 43 rfl
def dTL_1_1 : List (Nat × (Instr × Nat)) := [(705, (.aload_n 2, 1)), (706, (.aload_n 0, 1)), (707, (.iload 5, 2)), (709, (.iconst 1, 1)), (710, (.iadd, 1)), (711, (.iaload, 1)), (712, (.aload_n 0, 1)), (713, (.iload 5, 2)), (715, (.iconst 2, 1)), (716, (.iadd, 1)), (717, (.iaload, 1)), (718, (.invokevirtual 189, 3)), (721, (.istore 7, 2)), (723, (.aload_n 2, 1)), (724, (.invokevirtual 144, 3)), (727, (.iload 6, 2)), (729, (.if_icmp .eq 5, 3)), (734, (.iload 6, 2)), (736, (.ifCond .ne 15, 3)), (739, (.aload_n 3, 1)), (740, (.iconst 0, 1)), (741, (.laload, 1)), (742, (.iload 7, 2)), (744, (.i2l, 1)), (745, (.lcmp, 1)), (746, (.ifCond .eq 5, 3)), (751, (.goto 2157, 3)), (754, (.aload_n 1, 1)), (755, (.aload_n 0, 1)), (756, (.iload 5, 2)), (758, (.iconst 1, 1)), (759, (.iadd, 1)), (760, (.iaload, 1)), (761, (.aload_n 0, 1)), (762, (.iload 5, 2)), (764, (.iconst 2, 1)), (765, (.iadd, 1)), (766, (.iaload, 1)), (767, (.aload_n 0, 1)), (768, (.iload 5, 2)), (770, (.iconst 3, 1)), (771, (.iadd, 1)), (772, (.iaload, 1)), (773, (.aload_n 3, 1))]
theorem dTB_1_1 : dTL_1_1.all (fun q => decide (decode code q.1 = .ok q.2)) = true := by decide +kernel
set_option maxRecDepth 20000 in
theorem dW_705 : decode code 705 = .ok (.aload_n 2, 1) := dT_of dTB_1_1 0 rfl
set_option maxRecDepth 20000 in
theorem dW_706 : decode code 706 = .ok (.aload_n 0, 1) := dT_of dTB_1_1 1 rfl
set_option maxRecDepth 20000 in
theorem dW_707 : decode code 707 = .ok (.iload 5, 2) := dT_of dTB_1_1 2 rfl
set_option maxRecDepth 20000 in
theorem dW_709 : decode code 709 = .ok (.iconst 1, 1) := dT_of dTB_1_1 3 rfl
set_option maxRecDepth 20000 in
theorem dW_710 : decode code 710 = .ok (.iadd, 1) := dT_of dTB_1_1 4 rfl
set_option maxRecDepth 20000 in
theorem dW_711 : decode code 711 = .ok (.iaload, 1) := dT_of dTB_1_1 5 rfl
set_option maxRecDepth 20000 in
theorem dW_712 : decode code 712 = .ok (.aload_n 0, 1) := dT_of dTB_1_1 6 rfl
set_option maxRecDepth 20000 in
theorem dW_713 : decode code 713 = .ok (.iload 5, 2) := dT_of dTB_1_1 7 rfl
set_option maxRecDepth 20000 in
theorem dW_715 : decode code 715 = .ok (.iconst 2, 1) := dT_of dTB_1_1 8 rfl
set_option maxRecDepth 20000 in
theorem dW_716 : decode code 716 = .ok (.iadd, 1) := dT_of dTB_1_1 9 rfl
set_option maxRecDepth 20000 in
theorem dW_717 : decode code 717 = .ok (.iaload, 1) := dT_of dTB_1_1 10 rfl
set_option maxRecDepth 20000 in
theorem dW_718 : decode code 718 = .ok (.invokevirtual 189, 3) := dT_of dTB_1_1 11 rfl
set_option maxRecDepth 20000 in
theorem dW_721 : decode code 721 = .ok (.istore 7, 2) := dT_of dTB_1_1 12 rfl
set_option maxRecDepth 20000 in
theorem dW_723 : decode code 723 = .ok (.aload_n 2, 1) := dT_of dTB_1_1 13 rfl
set_option maxRecDepth 20000 in
theorem dW_724 : decode code 724 = .ok (.invokevirtual 144, 3) := dT_of dTB_1_1 14 rfl
set_option maxRecDepth 20000 in
theorem dW_727 : decode code 727 = .ok (.iload 6, 2) := dT_of dTB_1_1 15 rfl
set_option maxRecDepth 20000 in
theorem dW_729 : decode code 729 = .ok (.if_icmp .eq 5, 3) := dT_of dTB_1_1 16 rfl
set_option maxRecDepth 20000 in
theorem dW_734 : decode code 734 = .ok (.iload 6, 2) := dT_of dTB_1_1 17 rfl
set_option maxRecDepth 20000 in
theorem dW_736 : decode code 736 = .ok (.ifCond .ne 15, 3) := dT_of dTB_1_1 18 rfl
set_option maxRecDepth 20000 in
theorem dW_739 : decode code 739 = .ok (.aload_n 3, 1) := dT_of dTB_1_1 19 rfl
set_option maxRecDepth 20000 in
theorem dW_740 : decode code 740 = .ok (.iconst 0, 1) := dT_of dTB_1_1 20 rfl
set_option maxRecDepth 20000 in
theorem dW_741 : decode code 741 = .ok (.laload, 1) := dT_of dTB_1_1 21 rfl
set_option maxRecDepth 20000 in
theorem dW_742 : decode code 742 = .ok (.iload 7, 2) := dT_of dTB_1_1 22 rfl
set_option maxRecDepth 20000 in
theorem dW_744 : decode code 744 = .ok (.i2l, 1) := dT_of dTB_1_1 23 rfl
set_option maxRecDepth 20000 in
theorem dW_745 : decode code 745 = .ok (.lcmp, 1) := dT_of dTB_1_1 24 rfl
set_option maxRecDepth 20000 in
theorem dW_746 : decode code 746 = .ok (.ifCond .eq 5, 3) := dT_of dTB_1_1 25 rfl
set_option maxRecDepth 20000 in
theorem dW_751 : decode code 751 = .ok (.goto 2157, 3) := dT_of dTB_1_1 26 rfl
set_option maxRecDepth 20000 in
theorem dW_754 : decode code 754 = .ok (.aload_n 1, 1) := dT_of dTB_1_1 27 rfl
set_option maxRecDepth 20000 in
theorem dW_755 : decode code 755 = .ok (.aload_n 0, 1) := dT_of dTB_1_1 28 rfl
set_option maxRecDepth 20000 in
theorem dW_756 : decode code 756 = .ok (.iload 5, 2) := dT_of dTB_1_1 29 rfl
set_option maxRecDepth 20000 in
theorem dW_758 : decode code 758 = .ok (.iconst 1, 1) := dT_of dTB_1_1 30 rfl
set_option maxRecDepth 20000 in
theorem dW_759 : decode code 759 = .ok (.iadd, 1) := dT_of dTB_1_1 31 rfl
set_option maxRecDepth 20000 in
theorem dW_760 : decode code 760 = .ok (.iaload, 1) := dT_of dTB_1_1 32 rfl
set_option maxRecDepth 20000 in
theorem dW_761 : decode code 761 = .ok (.aload_n 0, 1) := dT_of dTB_1_1 33 rfl
set_option maxRecDepth 20000 in
theorem dW_762 : decode code 762 = .ok (.iload 5, 2) := dT_of dTB_1_1 34 rfl
set_option maxRecDepth 20000 in
theorem dW_764 : decode code 764 = .ok (.iconst 2, 1) := dT_of dTB_1_1 35 rfl
set_option maxRecDepth 20000 in
theorem dW_765 : decode code 765 = .ok (.iadd, 1) := dT_of dTB_1_1 36 rfl
set_option maxRecDepth 20000 in
theorem dW_766 : decode code 766 = .ok (.iaload, 1) := dT_of dTB_1_1 37 rfl
set_option maxRecDepth 20000 in
theorem dW_767 : decode code 767 = .ok (.aload_n 0, 1) := dT_of dTB_1_1 38 rfl
set_option maxRecDepth 20000 in
theorem dW_768 : decode code 768 = .ok (.iload 5, 2) := dT_of dTB_1_1 39 rfl
set_option maxRecDepth 20000 in
theorem dW_770 : decode code 770 = .ok (.iconst 3, 1) := dT_of dTB_1_1 40 rfl
set_option maxRecDepth 20000 in
theorem dW_771 : decode code 771 = .ok (.iadd, 1) := dT_of dTB_1_1 41 rfl
set_option maxRecDepth 20000 in
theorem dW_772 : decode code 772 = .ok (.iaload, 1) := dT_of dTB_1_1 42 rfl
set_option maxRecDepth 20000 in
theorem dW_773 : decode code 773 = .ok (.aload_n 3, 1) := dT_of dTB_1_1 43 rfl
def dTL_1_2 : List (Nat × (Instr × Nat)) := [(774, (.invokestatic 190, 3)), (777, (.istore 6, 2)), (779, (.aload_n 2, 1)), (780, (.aload_n 0, 1)), (781, (.iload 5, 2)), (783, (.iconst 1, 1)), (784, (.iadd, 1)), (785, (.iaload, 1)), (786, (.aload_n 0, 1)), (787, (.iload 5, 2)), (789, (.iconst 2, 1)), (790, (.iadd, 1)), (791, (.iaload, 1)), (792, (.aload_n 0, 1)), (793, (.iload 5, 2)), (795, (.iconst 3, 1)), (796, (.iadd, 1)), (797, (.iaload, 1)), (798, (.invokevirtual 192, 3)), (801, (.istore 7, 2)), (803, (.aload_n 2, 1)), (804, (.invokevirtual 144, 3)), (807, (.iload 6, 2)), (809, (.if_icmp .eq 5, 3)), (814, (.iload 6, 2)), (816, (.ifCond .ne 15, 3)), (819, (.aload_n 3, 1)), (820, (.iconst 0, 1)), (821, (.laload, 1)), (822, (.iload 7, 2)), (824, (.i2l, 1)), (825, (.lcmp, 1)), (826, (.ifCond .eq 5, 3)), (831, (.goto 2077, 3)), (834, (.aload_n 1, 1)), (835, (.aload_n 0, 1)), (836, (.iload 5, 2)), (838, (.iconst 1, 1)), (839, (.iadd, 1)), (840, (.iaload, 1)), (841, (.aload_n 3, 1)), (842, (.invokestatic 193, 3)), (845, (.istore 6, 2)), (847, (.aload_n 2, 1))]
theorem dTB_1_2 : dTL_1_2.all (fun q => decide (decode code q.1 = .ok q.2)) = true := by decide +kernel
set_option maxRecDepth 20000 in
theorem dW_774 : decode code 774 = .ok (.invokestatic 190, 3) := dT_of dTB_1_2 0 rfl
set_option maxRecDepth 20000 in
theorem dW_777 : decode code 777 = .ok (.istore 6, 2) := dT_of dTB_1_2 1 rfl
set_option maxRecDepth 20000 in
theorem dW_779 : decode code 779 = .ok (.aload_n 2, 1) := dT_of dTB_1_2 2 rfl
set_option maxRecDepth 20000 in
theorem dW_780 : decode code 780 = .ok (.aload_n 0, 1) := dT_of dTB_1_2 3 rfl
set_option maxRecDepth 20000 in
theorem dW_781 : decode code 781 = .ok (.iload 5, 2) := dT_of dTB_1_2 4 rfl
set_option maxRecDepth 20000 in
theorem dW_783 : decode code 783 = .ok (.iconst 1, 1) := dT_of dTB_1_2 5 rfl
set_option maxRecDepth 20000 in
theorem dW_784 : decode code 784 = .ok (.iadd, 1) := dT_of dTB_1_2 6 rfl
set_option maxRecDepth 20000 in
theorem dW_785 : decode code 785 = .ok (.iaload, 1) := dT_of dTB_1_2 7 rfl
set_option maxRecDepth 20000 in
theorem dW_786 : decode code 786 = .ok (.aload_n 0, 1) := dT_of dTB_1_2 8 rfl
set_option maxRecDepth 20000 in
theorem dW_787 : decode code 787 = .ok (.iload 5, 2) := dT_of dTB_1_2 9 rfl
set_option maxRecDepth 20000 in
theorem dW_789 : decode code 789 = .ok (.iconst 2, 1) := dT_of dTB_1_2 10 rfl
set_option maxRecDepth 20000 in
theorem dW_790 : decode code 790 = .ok (.iadd, 1) := dT_of dTB_1_2 11 rfl
set_option maxRecDepth 20000 in
theorem dW_791 : decode code 791 = .ok (.iaload, 1) := dT_of dTB_1_2 12 rfl
set_option maxRecDepth 20000 in
theorem dW_792 : decode code 792 = .ok (.aload_n 0, 1) := dT_of dTB_1_2 13 rfl
set_option maxRecDepth 20000 in
theorem dW_793 : decode code 793 = .ok (.iload 5, 2) := dT_of dTB_1_2 14 rfl
set_option maxRecDepth 20000 in
theorem dW_795 : decode code 795 = .ok (.iconst 3, 1) := dT_of dTB_1_2 15 rfl
set_option maxRecDepth 20000 in
theorem dW_796 : decode code 796 = .ok (.iadd, 1) := dT_of dTB_1_2 16 rfl
set_option maxRecDepth 20000 in
theorem dW_797 : decode code 797 = .ok (.iaload, 1) := dT_of dTB_1_2 17 rfl
set_option maxRecDepth 20000 in
theorem dW_798 : decode code 798 = .ok (.invokevirtual 192, 3) := dT_of dTB_1_2 18 rfl
set_option maxRecDepth 20000 in
theorem dW_801 : decode code 801 = .ok (.istore 7, 2) := dT_of dTB_1_2 19 rfl
set_option maxRecDepth 20000 in
theorem dW_803 : decode code 803 = .ok (.aload_n 2, 1) := dT_of dTB_1_2 20 rfl
set_option maxRecDepth 20000 in
theorem dW_804 : decode code 804 = .ok (.invokevirtual 144, 3) := dT_of dTB_1_2 21 rfl
set_option maxRecDepth 20000 in
theorem dW_807 : decode code 807 = .ok (.iload 6, 2) := dT_of dTB_1_2 22 rfl
set_option maxRecDepth 20000 in
theorem dW_809 : decode code 809 = .ok (.if_icmp .eq 5, 3) := dT_of dTB_1_2 23 rfl
set_option maxRecDepth 20000 in
theorem dW_814 : decode code 814 = .ok (.iload 6, 2) := dT_of dTB_1_2 24 rfl
set_option maxRecDepth 20000 in
theorem dW_816 : decode code 816 = .ok (.ifCond .ne 15, 3) := dT_of dTB_1_2 25 rfl
set_option maxRecDepth 20000 in
theorem dW_819 : decode code 819 = .ok (.aload_n 3, 1) := dT_of dTB_1_2 26 rfl
set_option maxRecDepth 20000 in
theorem dW_820 : decode code 820 = .ok (.iconst 0, 1) := dT_of dTB_1_2 27 rfl
set_option maxRecDepth 20000 in
theorem dW_821 : decode code 821 = .ok (.laload, 1) := dT_of dTB_1_2 28 rfl
set_option maxRecDepth 20000 in
theorem dW_822 : decode code 822 = .ok (.iload 7, 2) := dT_of dTB_1_2 29 rfl
set_option maxRecDepth 20000 in
theorem dW_824 : decode code 824 = .ok (.i2l, 1) := dT_of dTB_1_2 30 rfl
set_option maxRecDepth 20000 in
theorem dW_825 : decode code 825 = .ok (.lcmp, 1) := dT_of dTB_1_2 31 rfl
set_option maxRecDepth 20000 in
theorem dW_826 : decode code 826 = .ok (.ifCond .eq 5, 3) := dT_of dTB_1_2 32 rfl
set_option maxRecDepth 20000 in
theorem dW_831 : decode code 831 = .ok (.goto 2077, 3) := dT_of dTB_1_2 33 rfl
set_option maxRecDepth 20000 in
theorem dW_834 : decode code 834 = .ok (.aload_n 1, 1) := dT_of dTB_1_2 34 rfl
set_option maxRecDepth 20000 in
theorem dW_835 : decode code 835 = .ok (.aload_n 0, 1) := dT_of dTB_1_2 35 rfl
set_option maxRecDepth 20000 in
theorem dW_836 : decode code 836 = .ok (.iload 5, 2) := dT_of dTB_1_2 36 rfl
set_option maxRecDepth 20000 in
theorem dW_838 : decode code 838 = .ok (.iconst 1, 1) := dT_of dTB_1_2 37 rfl
set_option maxRecDepth 20000 in
theorem dW_839 : decode code 839 = .ok (.iadd, 1) := dT_of dTB_1_2 38 rfl
set_option maxRecDepth 20000 in
theorem dW_840 : decode code 840 = .ok (.iaload, 1) := dT_of dTB_1_2 39 rfl
set_option maxRecDepth 20000 in
theorem dW_841 : decode code 841 = .ok (.aload_n 3, 1) := dT_of dTB_1_2 40 rfl
set_option maxRecDepth 20000 in
theorem dW_842 : decode code 842 = .ok (.invokestatic 193, 3) := dT_of dTB_1_2 41 rfl
set_option maxRecDepth 20000 in
theorem dW_845 : decode code 845 = .ok (.istore 6, 2) := dT_of dTB_1_2 42 rfl
set_option maxRecDepth 20000 in
theorem dW_847 : decode code 847 = .ok (.aload_n 2, 1) := dT_of dTB_1_2 43 rfl
def dTL_1_3 : List (Nat × (Instr × Nat)) := [(848, (.aload_n 0, 1)), (849, (.iload 5, 2)), (851, (.iconst 1, 1)), (852, (.iadd, 1)), (853, (.iaload, 1)), (854, (.invokevirtual 195, 3)), (857, (.istore 7, 2)), (859, (.aload_n 2, 1)), (860, (.invokevirtual 144, 3)), (863, (.iload 6, 2)), (865, (.if_icmp .eq 5, 3)), (870, (.iload 6, 2)), (872, (.ifCond .ne 15, 3)), (875, (.aload_n 3, 1)), (876, (.iconst 0, 1)), (877, (.laload, 1)), (878, (.iload 7, 2)), (880, (.i2l, 1)), (881, (.lcmp, 1)), (882, (.ifCond .eq 5, 3)), (887, (.goto 2021, 3)), (890, (.aload_n 1, 1)), (891, (.aload_n 0, 1)), (892, (.iload 5, 2)), (894, (.iconst 1, 1)), (895, (.iadd, 1)), (896, (.iaload, 1)), (897, (.aload_n 3, 1)), (898, (.invokestatic 196, 3)), (901, (.istore 6, 2)), (903, (.aload_n 2, 1)), (904, (.aload_n 0, 1)), (905, (.iload 5, 2)), (907, (.iconst 1, 1)), (908, (.iadd, 1)), (909, (.iaload, 1)), (910, (.invokevirtual 198, 3)), (913, (.istore 7, 2)), (915, (.aload_n 2, 1)), (916, (.invokevirtual 144, 3)), (919, (.iload 6, 2)), (921, (.if_icmp .eq 5, 3)), (926, (.iload 6, 2)), (928, (.ifCond .ne 15, 3))]
theorem dTB_1_3 : dTL_1_3.all (fun q => decide (decode code q.1 = .ok q.2)) = true := by decide +kernel
set_option maxRecDepth 20000 in
theorem dW_848 : decode code 848 = .ok (.aload_n 0, 1) := dT_of dTB_1_3 0 rfl
set_option maxRecDepth 20000 in
theorem dW_849 : decode code 849 = .ok (.iload 5, 2) := dT_of dTB_1_3 1 rfl
set_option maxRecDepth 20000 in
theorem dW_851 : decode code 851 = .ok (.iconst 1, 1) := dT_of dTB_1_3 2 rfl
set_option maxRecDepth 20000 in
theorem dW_852 : decode code 852 = .ok (.iadd, 1) := dT_of dTB_1_3 3 rfl
set_option maxRecDepth 20000 in
theorem dW_853 : decode code 853 = .ok (.iaload, 1) := dT_of dTB_1_3 4 rfl
set_option maxRecDepth 20000 in
theorem dW_854 : decode code 854 = .ok (.invokevirtual 195, 3) := dT_of dTB_1_3 5 rfl
set_option maxRecDepth 20000 in
theorem dW_857 : decode code 857 = .ok (.istore 7, 2) := dT_of dTB_1_3 6 rfl
set_option maxRecDepth 20000 in
theorem dW_859 : decode code 859 = .ok (.aload_n 2, 1) := dT_of dTB_1_3 7 rfl
set_option maxRecDepth 20000 in
theorem dW_860 : decode code 860 = .ok (.invokevirtual 144, 3) := dT_of dTB_1_3 8 rfl
set_option maxRecDepth 20000 in
theorem dW_863 : decode code 863 = .ok (.iload 6, 2) := dT_of dTB_1_3 9 rfl
set_option maxRecDepth 20000 in
theorem dW_865 : decode code 865 = .ok (.if_icmp .eq 5, 3) := dT_of dTB_1_3 10 rfl
set_option maxRecDepth 20000 in
theorem dW_870 : decode code 870 = .ok (.iload 6, 2) := dT_of dTB_1_3 11 rfl
set_option maxRecDepth 20000 in
theorem dW_872 : decode code 872 = .ok (.ifCond .ne 15, 3) := dT_of dTB_1_3 12 rfl
set_option maxRecDepth 20000 in
theorem dW_875 : decode code 875 = .ok (.aload_n 3, 1) := dT_of dTB_1_3 13 rfl
set_option maxRecDepth 20000 in
theorem dW_876 : decode code 876 = .ok (.iconst 0, 1) := dT_of dTB_1_3 14 rfl
set_option maxRecDepth 20000 in
theorem dW_877 : decode code 877 = .ok (.laload, 1) := dT_of dTB_1_3 15 rfl
set_option maxRecDepth 20000 in
theorem dW_878 : decode code 878 = .ok (.iload 7, 2) := dT_of dTB_1_3 16 rfl
set_option maxRecDepth 20000 in
theorem dW_880 : decode code 880 = .ok (.i2l, 1) := dT_of dTB_1_3 17 rfl
set_option maxRecDepth 20000 in
theorem dW_881 : decode code 881 = .ok (.lcmp, 1) := dT_of dTB_1_3 18 rfl
set_option maxRecDepth 20000 in
theorem dW_882 : decode code 882 = .ok (.ifCond .eq 5, 3) := dT_of dTB_1_3 19 rfl
set_option maxRecDepth 20000 in
theorem dW_887 : decode code 887 = .ok (.goto 2021, 3) := dT_of dTB_1_3 20 rfl
set_option maxRecDepth 20000 in
theorem dW_890 : decode code 890 = .ok (.aload_n 1, 1) := dT_of dTB_1_3 21 rfl
set_option maxRecDepth 20000 in
theorem dW_891 : decode code 891 = .ok (.aload_n 0, 1) := dT_of dTB_1_3 22 rfl
set_option maxRecDepth 20000 in
theorem dW_892 : decode code 892 = .ok (.iload 5, 2) := dT_of dTB_1_3 23 rfl
set_option maxRecDepth 20000 in
theorem dW_894 : decode code 894 = .ok (.iconst 1, 1) := dT_of dTB_1_3 24 rfl
set_option maxRecDepth 20000 in
theorem dW_895 : decode code 895 = .ok (.iadd, 1) := dT_of dTB_1_3 25 rfl
set_option maxRecDepth 20000 in
theorem dW_896 : decode code 896 = .ok (.iaload, 1) := dT_of dTB_1_3 26 rfl
set_option maxRecDepth 20000 in
theorem dW_897 : decode code 897 = .ok (.aload_n 3, 1) := dT_of dTB_1_3 27 rfl
set_option maxRecDepth 20000 in
theorem dW_898 : decode code 898 = .ok (.invokestatic 196, 3) := dT_of dTB_1_3 28 rfl
set_option maxRecDepth 20000 in
theorem dW_901 : decode code 901 = .ok (.istore 6, 2) := dT_of dTB_1_3 29 rfl
set_option maxRecDepth 20000 in
theorem dW_903 : decode code 903 = .ok (.aload_n 2, 1) := dT_of dTB_1_3 30 rfl
set_option maxRecDepth 20000 in
theorem dW_904 : decode code 904 = .ok (.aload_n 0, 1) := dT_of dTB_1_3 31 rfl
set_option maxRecDepth 20000 in
theorem dW_905 : decode code 905 = .ok (.iload 5, 2) := dT_of dTB_1_3 32 rfl
set_option maxRecDepth 20000 in
theorem dW_907 : decode code 907 = .ok (.iconst 1, 1) := dT_of dTB_1_3 33 rfl
set_option maxRecDepth 20000 in
theorem dW_908 : decode code 908 = .ok (.iadd, 1) := dT_of dTB_1_3 34 rfl
set_option maxRecDepth 20000 in
theorem dW_909 : decode code 909 = .ok (.iaload, 1) := dT_of dTB_1_3 35 rfl
set_option maxRecDepth 20000 in
theorem dW_910 : decode code 910 = .ok (.invokevirtual 198, 3) := dT_of dTB_1_3 36 rfl
set_option maxRecDepth 20000 in
theorem dW_913 : decode code 913 = .ok (.istore 7, 2) := dT_of dTB_1_3 37 rfl
set_option maxRecDepth 20000 in
theorem dW_915 : decode code 915 = .ok (.aload_n 2, 1) := dT_of dTB_1_3 38 rfl
set_option maxRecDepth 20000 in
theorem dW_916 : decode code 916 = .ok (.invokevirtual 144, 3) := dT_of dTB_1_3 39 rfl
set_option maxRecDepth 20000 in
theorem dW_919 : decode code 919 = .ok (.iload 6, 2) := dT_of dTB_1_3 40 rfl
set_option maxRecDepth 20000 in
theorem dW_921 : decode code 921 = .ok (.if_icmp .eq 5, 3) := dT_of dTB_1_3 41 rfl
set_option maxRecDepth 20000 in
theorem dW_926 : decode code 926 = .ok (.iload 6, 2) := dT_of dTB_1_3 42 rfl
set_option maxRecDepth 20000 in
theorem dW_928 : decode code 928 = .ok (.ifCond .ne 15, 3) := dT_of dTB_1_3 43 rfl
def dTL_1_4 : List (Nat × (Instr × Nat)) := [(931, (.aload_n 3, 1)), (932, (.iconst 0, 1)), (933, (.laload, 1)), (934, (.iload 7, 2)), (936, (.i2l, 1)), (937, (.lcmp, 1)), (938, (.ifCond .eq 5, 3)), (943, (.goto 1965, 3)), (946, (.aload_n 1, 1)), (947, (.invokevirtual 199, 3)), (950, (.aload_n 2, 1)), (951, (.invokevirtual 202, 3)), (954, (.if_icmp .eq 1954, 3)), (959, (.aload_n 1, 1)), (960, (.aload_n 0, 1)), (961, (.iload 5, 2)), (963, (.iconst 1, 1)), (964, (.iadd, 1)), (965, (.iaload, 1)), (966, (.aload_n 3, 1)), (967, (.invokestatic 203, 3)), (970, (.istore 6, 2)), (972, (.aload_n 2, 1)), (973, (.aload_n 0, 1)), (974, (.iload 5, 2)), (976, (.iconst 1, 1)), (977, (.iadd, 1)), (978, (.iaload, 1)), (979, (.invokevirtual 205, 3)), (982, (.istore 7, 2)), (984, (.aload_n 2, 1)), (985, (.invokevirtual 144, 3)), (988, (.iload 6, 2)), (990, (.if_icmp .eq 5, 3)), (995, (.iload 6, 2)), (997, (.ifCond .ne 15, 3)), (1000, (.aload_n 3, 1)), (1001, (.iconst 0, 1)), (1002, (.laload, 1)), (1003, (.iload 7, 2)), (1005, (.i2l, 1)), (1006, (.lcmp, 1)), (1007, (.ifCond .eq 5, 3)), (1012, (.goto 1896, 3))]
theorem dTB_1_4 : dTL_1_4.all (fun q => decide (decode code q.1 = .ok q.2)) = true := by decide +kernel
set_option maxRecDepth 20000 in
theorem dW_931 : decode code 931 = .ok (.aload_n 3, 1) := dT_of dTB_1_4 0 rfl
set_option maxRecDepth 20000 in
theorem dW_932 : decode code 932 = .ok (.iconst 0, 1) := dT_of dTB_1_4 1 rfl
set_option maxRecDepth 20000 in
theorem dW_933 : decode code 933 = .ok (.laload, 1) := dT_of dTB_1_4 2 rfl
set_option maxRecDepth 20000 in
theorem dW_934 : decode code 934 = .ok (.iload 7, 2) := dT_of dTB_1_4 3 rfl
set_option maxRecDepth 20000 in
theorem dW_936 : decode code 936 = .ok (.i2l, 1) := dT_of dTB_1_4 4 rfl
set_option maxRecDepth 20000 in
theorem dW_937 : decode code 937 = .ok (.lcmp, 1) := dT_of dTB_1_4 5 rfl
set_option maxRecDepth 20000 in
theorem dW_938 : decode code 938 = .ok (.ifCond .eq 5, 3) := dT_of dTB_1_4 6 rfl
set_option maxRecDepth 20000 in
theorem dW_943 : decode code 943 = .ok (.goto 1965, 3) := dT_of dTB_1_4 7 rfl
set_option maxRecDepth 20000 in
theorem dW_946 : decode code 946 = .ok (.aload_n 1, 1) := dT_of dTB_1_4 8 rfl
set_option maxRecDepth 20000 in
theorem dW_947 : decode code 947 = .ok (.invokevirtual 199, 3) := dT_of dTB_1_4 9 rfl
set_option maxRecDepth 20000 in
theorem dW_950 : decode code 950 = .ok (.aload_n 2, 1) := dT_of dTB_1_4 10 rfl
set_option maxRecDepth 20000 in
theorem dW_951 : decode code 951 = .ok (.invokevirtual 202, 3) := dT_of dTB_1_4 11 rfl
set_option maxRecDepth 20000 in
theorem dW_954 : decode code 954 = .ok (.if_icmp .eq 1954, 3) := dT_of dTB_1_4 12 rfl
set_option maxRecDepth 20000 in
theorem dW_959 : decode code 959 = .ok (.aload_n 1, 1) := dT_of dTB_1_4 13 rfl
set_option maxRecDepth 20000 in
theorem dW_960 : decode code 960 = .ok (.aload_n 0, 1) := dT_of dTB_1_4 14 rfl
set_option maxRecDepth 20000 in
theorem dW_961 : decode code 961 = .ok (.iload 5, 2) := dT_of dTB_1_4 15 rfl
set_option maxRecDepth 20000 in
theorem dW_963 : decode code 963 = .ok (.iconst 1, 1) := dT_of dTB_1_4 16 rfl
set_option maxRecDepth 20000 in
theorem dW_964 : decode code 964 = .ok (.iadd, 1) := dT_of dTB_1_4 17 rfl
set_option maxRecDepth 20000 in
theorem dW_965 : decode code 965 = .ok (.iaload, 1) := dT_of dTB_1_4 18 rfl
set_option maxRecDepth 20000 in
theorem dW_966 : decode code 966 = .ok (.aload_n 3, 1) := dT_of dTB_1_4 19 rfl
set_option maxRecDepth 20000 in
theorem dW_967 : decode code 967 = .ok (.invokestatic 203, 3) := dT_of dTB_1_4 20 rfl
set_option maxRecDepth 20000 in
theorem dW_970 : decode code 970 = .ok (.istore 6, 2) := dT_of dTB_1_4 21 rfl
set_option maxRecDepth 20000 in
theorem dW_972 : decode code 972 = .ok (.aload_n 2, 1) := dT_of dTB_1_4 22 rfl
set_option maxRecDepth 20000 in
theorem dW_973 : decode code 973 = .ok (.aload_n 0, 1) := dT_of dTB_1_4 23 rfl
set_option maxRecDepth 20000 in
theorem dW_974 : decode code 974 = .ok (.iload 5, 2) := dT_of dTB_1_4 24 rfl
set_option maxRecDepth 20000 in
theorem dW_976 : decode code 976 = .ok (.iconst 1, 1) := dT_of dTB_1_4 25 rfl
set_option maxRecDepth 20000 in
theorem dW_977 : decode code 977 = .ok (.iadd, 1) := dT_of dTB_1_4 26 rfl
set_option maxRecDepth 20000 in
theorem dW_978 : decode code 978 = .ok (.iaload, 1) := dT_of dTB_1_4 27 rfl
set_option maxRecDepth 20000 in
theorem dW_979 : decode code 979 = .ok (.invokevirtual 205, 3) := dT_of dTB_1_4 28 rfl
set_option maxRecDepth 20000 in
theorem dW_982 : decode code 982 = .ok (.istore 7, 2) := dT_of dTB_1_4 29 rfl
set_option maxRecDepth 20000 in
theorem dW_984 : decode code 984 = .ok (.aload_n 2, 1) := dT_of dTB_1_4 30 rfl
set_option maxRecDepth 20000 in
theorem dW_985 : decode code 985 = .ok (.invokevirtual 144, 3) := dT_of dTB_1_4 31 rfl
set_option maxRecDepth 20000 in
theorem dW_988 : decode code 988 = .ok (.iload 6, 2) := dT_of dTB_1_4 32 rfl
set_option maxRecDepth 20000 in
theorem dW_990 : decode code 990 = .ok (.if_icmp .eq 5, 3) := dT_of dTB_1_4 33 rfl
set_option maxRecDepth 20000 in
theorem dW_995 : decode code 995 = .ok (.iload 6, 2) := dT_of dTB_1_4 34 rfl
set_option maxRecDepth 20000 in
theorem dW_997 : decode code 997 = .ok (.ifCond .ne 15, 3) := dT_of dTB_1_4 35 rfl
set_option maxRecDepth 20000 in
theorem dW_1000 : decode code 1000 = .ok (.aload_n 3, 1) := dT_of dTB_1_4 36 rfl
set_option maxRecDepth 20000 in
theorem dW_1001 : decode code 1001 = .ok (.iconst 0, 1) := dT_of dTB_1_4 37 rfl
set_option maxRecDepth 20000 in
theorem dW_1002 : decode code 1002 = .ok (.laload, 1) := dT_of dTB_1_4 38 rfl
set_option maxRecDepth 20000 in
theorem dW_1003 : decode code 1003 = .ok (.iload 7, 2) := dT_of dTB_1_4 39 rfl
set_option maxRecDepth 20000 in
theorem dW_1005 : decode code 1005 = .ok (.i2l, 1) := dT_of dTB_1_4 40 rfl
set_option maxRecDepth 20000 in
theorem dW_1006 : decode code 1006 = .ok (.lcmp, 1) := dT_of dTB_1_4 41 rfl
set_option maxRecDepth 20000 in
theorem dW_1007 : decode code 1007 = .ok (.ifCond .eq 5, 3) := dT_of dTB_1_4 42 rfl
set_option maxRecDepth 20000 in
theorem dW_1012 : decode code 1012 = .ok (.goto 1896, 3) := dT_of dTB_1_4 43 rfl
