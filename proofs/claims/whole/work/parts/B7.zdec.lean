/-! the law's instructions, 6 -/
def dTL_6_0 : List (Nat × (Instr × Nat)) := [(2650, (.istore 6, 2)), (2652, (.aload_n 2, 1)), (2653, (.aload_n 0, 1)), (2654, (.iload 5, 2)), (2656, (.iconst 1, 1)), (2657, (.iadd, 1)), (2658, (.iaload, 1)), (2659, (.aload_n 0, 1)), (2660, (.iload 5, 2)), (2662, (.iconst 2, 1)), (2663, (.iadd, 1)), (2664, (.iaload, 1)), (2665, (.invokevirtual 324, 3)), (2668, (.istore 7, 2)), (2670, (.aload_n 2, 1)), (2671, (.invokevirtual 144, 3)), (2674, (.iload 6, 2)), (2676, (.if_icmp .eq 5, 3)), (2681, (.iload 6, 2)), (2683, (.ifCond .ne 15, 3)), (2686, (.aload_n 3, 1)), (2687, (.iconst 0, 1)), (2688, (.laload, 1)), (2689, (.iload 7, 2)), (2691, (.i2l, 1)), (2692, (.lcmp, 1)), (2693, (.ifCond .eq 5, 3)), (2698, (.goto 210, 3)), (2701, (.aload_n 1, 1)), (2702, (.invokevirtual 325, 3)), (2705, (.aload_n 2, 1)), (2706, (.invokevirtual 328, 3)), (2709, (.if_icmp .eq 199, 3)), (2714, (.aload_n 1, 1)), (2715, (.aload_n 0, 1)), (2716, (.iload 5, 2)), (2718, (.iconst 1, 1)), (2719, (.iadd, 1)), (2720, (.iaload, 1)), (2721, (.invokevirtual 329, 3)), (2724, (.aload_n 2, 1)), (2725, (.aload_n 0, 1)), (2726, (.iload 5, 2)), (2728, (.iconst 1, 1))]
theorem dTB_6_0 : dTL_6_0.all (fun q => decide (decode code q.1 = .ok q.2)) = true := by decide +kernel
set_option maxRecDepth 20000 in
theorem dW_2650 : decode code 2650 = .ok (.istore 6, 2) := dT_of dTB_6_0 0 rfl
set_option maxRecDepth 20000 in
theorem dW_2652 : decode code 2652 = .ok (.aload_n 2, 1) := dT_of dTB_6_0 1 rfl
set_option maxRecDepth 20000 in
theorem dW_2653 : decode code 2653 = .ok (.aload_n 0, 1) := dT_of dTB_6_0 2 rfl
set_option maxRecDepth 20000 in
theorem dW_2654 : decode code 2654 = .ok (.iload 5, 2) := dT_of dTB_6_0 3 rfl
set_option maxRecDepth 20000 in
theorem dW_2656 : decode code 2656 = .ok (.iconst 1, 1) := dT_of dTB_6_0 4 rfl
set_option maxRecDepth 20000 in
theorem dW_2657 : decode code 2657 = .ok (.iadd, 1) := dT_of dTB_6_0 5 rfl
set_option maxRecDepth 20000 in
theorem dW_2658 : decode code 2658 = .ok (.iaload, 1) := dT_of dTB_6_0 6 rfl
set_option maxRecDepth 20000 in
theorem dW_2659 : decode code 2659 = .ok (.aload_n 0, 1) := dT_of dTB_6_0 7 rfl
set_option maxRecDepth 20000 in
theorem dW_2660 : decode code 2660 = .ok (.iload 5, 2) := dT_of dTB_6_0 8 rfl
set_option maxRecDepth 20000 in
theorem dW_2662 : decode code 2662 = .ok (.iconst 2, 1) := dT_of dTB_6_0 9 rfl
set_option maxRecDepth 20000 in
theorem dW_2663 : decode code 2663 = .ok (.iadd, 1) := dT_of dTB_6_0 10 rfl
set_option maxRecDepth 20000 in
theorem dW_2664 : decode code 2664 = .ok (.iaload, 1) := dT_of dTB_6_0 11 rfl
set_option maxRecDepth 20000 in
theorem dW_2665 : decode code 2665 = .ok (.invokevirtual 324, 3) := dT_of dTB_6_0 12 rfl
set_option maxRecDepth 20000 in
theorem dW_2668 : decode code 2668 = .ok (.istore 7, 2) := dT_of dTB_6_0 13 rfl
set_option maxRecDepth 20000 in
theorem dW_2670 : decode code 2670 = .ok (.aload_n 2, 1) := dT_of dTB_6_0 14 rfl
set_option maxRecDepth 20000 in
theorem dW_2671 : decode code 2671 = .ok (.invokevirtual 144, 3) := dT_of dTB_6_0 15 rfl
set_option maxRecDepth 20000 in
theorem dW_2674 : decode code 2674 = .ok (.iload 6, 2) := dT_of dTB_6_0 16 rfl
set_option maxRecDepth 20000 in
theorem dW_2676 : decode code 2676 = .ok (.if_icmp .eq 5, 3) := dT_of dTB_6_0 17 rfl
set_option maxRecDepth 20000 in
theorem dW_2681 : decode code 2681 = .ok (.iload 6, 2) := dT_of dTB_6_0 18 rfl
set_option maxRecDepth 20000 in
theorem dW_2683 : decode code 2683 = .ok (.ifCond .ne 15, 3) := dT_of dTB_6_0 19 rfl
set_option maxRecDepth 20000 in
theorem dW_2686 : decode code 2686 = .ok (.aload_n 3, 1) := dT_of dTB_6_0 20 rfl
set_option maxRecDepth 20000 in
theorem dW_2687 : decode code 2687 = .ok (.iconst 0, 1) := dT_of dTB_6_0 21 rfl
set_option maxRecDepth 20000 in
theorem dW_2688 : decode code 2688 = .ok (.laload, 1) := dT_of dTB_6_0 22 rfl
set_option maxRecDepth 20000 in
theorem dW_2689 : decode code 2689 = .ok (.iload 7, 2) := dT_of dTB_6_0 23 rfl
set_option maxRecDepth 20000 in
theorem dW_2691 : decode code 2691 = .ok (.i2l, 1) := dT_of dTB_6_0 24 rfl
set_option maxRecDepth 20000 in
theorem dW_2692 : decode code 2692 = .ok (.lcmp, 1) := dT_of dTB_6_0 25 rfl
set_option maxRecDepth 20000 in
theorem dW_2693 : decode code 2693 = .ok (.ifCond .eq 5, 3) := dT_of dTB_6_0 26 rfl
set_option maxRecDepth 20000 in
theorem dW_2698 : decode code 2698 = .ok (.goto 210, 3) := dT_of dTB_6_0 27 rfl
set_option maxRecDepth 20000 in
theorem dW_2701 : decode code 2701 = .ok (.aload_n 1, 1) := dT_of dTB_6_0 28 rfl
set_option maxRecDepth 20000 in
theorem dW_2702 : decode code 2702 = .ok (.invokevirtual 325, 3) := dT_of dTB_6_0 29 rfl
set_option maxRecDepth 20000 in
theorem dW_2705 : decode code 2705 = .ok (.aload_n 2, 1) := dT_of dTB_6_0 30 rfl
set_option maxRecDepth 20000 in
theorem dW_2706 : decode code 2706 = .ok (.invokevirtual 328, 3) := dT_of dTB_6_0 31 rfl
set_option maxRecDepth 20000 in
theorem dW_2709 : decode code 2709 = .ok (.if_icmp .eq 199, 3) := dT_of dTB_6_0 32 rfl
set_option maxRecDepth 20000 in
theorem dW_2714 : decode code 2714 = .ok (.aload_n 1, 1) := dT_of dTB_6_0 33 rfl
set_option maxRecDepth 20000 in
theorem dW_2715 : decode code 2715 = .ok (.aload_n 0, 1) := dT_of dTB_6_0 34 rfl
set_option maxRecDepth 20000 in
theorem dW_2716 : decode code 2716 = .ok (.iload 5, 2) := dT_of dTB_6_0 35 rfl
set_option maxRecDepth 20000 in
theorem dW_2718 : decode code 2718 = .ok (.iconst 1, 1) := dT_of dTB_6_0 36 rfl
set_option maxRecDepth 20000 in
theorem dW_2719 : decode code 2719 = .ok (.iadd, 1) := dT_of dTB_6_0 37 rfl
set_option maxRecDepth 20000 in
theorem dW_2720 : decode code 2720 = .ok (.iaload, 1) := dT_of dTB_6_0 38 rfl
set_option maxRecDepth 20000 in
theorem dW_2721 : decode code 2721 = .ok (.invokevirtual 329, 3) := dT_of dTB_6_0 39 rfl
set_option maxRecDepth 20000 in
theorem dW_2724 : decode code 2724 = .ok (.aload_n 2, 1) := dT_of dTB_6_0 40 rfl
set_option maxRecDepth 20000 in
theorem dW_2725 : decode code 2725 = .ok (.aload_n 0, 1) := dT_of dTB_6_0 41 rfl
set_option maxRecDepth 20000 in
theorem dW_2726 : decode code 2726 = .ok (.iload 5, 2) := dT_of dTB_6_0 42 rfl
set_option maxRecDepth 20000 in
theorem dW_2728 : decode code 2728 = .ok (.iconst 1, 1) := dT_of dTB_6_0 43 rfl
def dTL_6_1 : List (Nat × (Instr × Nat)) := [(2729, (.iadd, 1)), (2730, (.iaload, 1)), (2731, (.invokevirtual 332, 3)), (2734, (.if_icmp .eq 174, 3)), (2739, (.aload_n 1, 1)), (2740, (.invokevirtual 333, 3)), (2743, (.aload_n 2, 1)), (2744, (.invokevirtual 336, 3)), (2747, (.if_icmp .eq 161, 3)), (2752, (.aload_n 1, 1)), (2753, (.aload_n 3, 1)), (2754, (.invokestatic 337, 3)), (2757, (.istore 6, 2)), (2759, (.aload_n 2, 1)), (2760, (.invokevirtual 340, 3)), (2763, (.istore 7, 2)), (2765, (.aload_n 2, 1)), (2766, (.invokevirtual 144, 3)), (2769, (.iload 6, 2)), (2771, (.if_icmp .eq 5, 3)), (2776, (.iload 6, 2)), (2778, (.ifCond .ne 15, 3)), (2781, (.aload_n 3, 1)), (2782, (.iconst 0, 1)), (2783, (.laload, 1)), (2784, (.iload 7, 2)), (2786, (.i2l, 1)), (2787, (.lcmp, 1)), (2788, (.ifCond .eq 5, 3)), (2793, (.goto 115, 3)), (2796, (.aload_n 1, 1)), (2797, (.aload_n 0, 1)), (2798, (.iload 5, 2)), (2800, (.iconst 1, 1)), (2801, (.iadd, 1)), (2802, (.iaload, 1)), (2803, (.aload_n 3, 1)), (2804, (.invokestatic 341, 3)), (2807, (.istore 6, 2)), (2809, (.aload_n 2, 1)), (2810, (.aload_n 0, 1)), (2811, (.iload 5, 2)), (2813, (.iconst 1, 1)), (2814, (.iadd, 1))]
theorem dTB_6_1 : dTL_6_1.all (fun q => decide (decode code q.1 = .ok q.2)) = true := by decide +kernel
set_option maxRecDepth 20000 in
theorem dW_2729 : decode code 2729 = .ok (.iadd, 1) := dT_of dTB_6_1 0 rfl
set_option maxRecDepth 20000 in
theorem dW_2730 : decode code 2730 = .ok (.iaload, 1) := dT_of dTB_6_1 1 rfl
set_option maxRecDepth 20000 in
theorem dW_2731 : decode code 2731 = .ok (.invokevirtual 332, 3) := dT_of dTB_6_1 2 rfl
set_option maxRecDepth 20000 in
theorem dW_2734 : decode code 2734 = .ok (.if_icmp .eq 174, 3) := dT_of dTB_6_1 3 rfl
set_option maxRecDepth 20000 in
theorem dW_2739 : decode code 2739 = .ok (.aload_n 1, 1) := dT_of dTB_6_1 4 rfl
set_option maxRecDepth 20000 in
theorem dW_2740 : decode code 2740 = .ok (.invokevirtual 333, 3) := dT_of dTB_6_1 5 rfl
set_option maxRecDepth 20000 in
theorem dW_2743 : decode code 2743 = .ok (.aload_n 2, 1) := dT_of dTB_6_1 6 rfl
set_option maxRecDepth 20000 in
theorem dW_2744 : decode code 2744 = .ok (.invokevirtual 336, 3) := dT_of dTB_6_1 7 rfl
set_option maxRecDepth 20000 in
theorem dW_2747 : decode code 2747 = .ok (.if_icmp .eq 161, 3) := dT_of dTB_6_1 8 rfl
set_option maxRecDepth 20000 in
theorem dW_2752 : decode code 2752 = .ok (.aload_n 1, 1) := dT_of dTB_6_1 9 rfl
set_option maxRecDepth 20000 in
theorem dW_2753 : decode code 2753 = .ok (.aload_n 3, 1) := dT_of dTB_6_1 10 rfl
set_option maxRecDepth 20000 in
theorem dW_2754 : decode code 2754 = .ok (.invokestatic 337, 3) := dT_of dTB_6_1 11 rfl
set_option maxRecDepth 20000 in
theorem dW_2757 : decode code 2757 = .ok (.istore 6, 2) := dT_of dTB_6_1 12 rfl
set_option maxRecDepth 20000 in
theorem dW_2759 : decode code 2759 = .ok (.aload_n 2, 1) := dT_of dTB_6_1 13 rfl
set_option maxRecDepth 20000 in
theorem dW_2760 : decode code 2760 = .ok (.invokevirtual 340, 3) := dT_of dTB_6_1 14 rfl
set_option maxRecDepth 20000 in
theorem dW_2763 : decode code 2763 = .ok (.istore 7, 2) := dT_of dTB_6_1 15 rfl
set_option maxRecDepth 20000 in
theorem dW_2765 : decode code 2765 = .ok (.aload_n 2, 1) := dT_of dTB_6_1 16 rfl
set_option maxRecDepth 20000 in
theorem dW_2766 : decode code 2766 = .ok (.invokevirtual 144, 3) := dT_of dTB_6_1 17 rfl
set_option maxRecDepth 20000 in
theorem dW_2769 : decode code 2769 = .ok (.iload 6, 2) := dT_of dTB_6_1 18 rfl
set_option maxRecDepth 20000 in
theorem dW_2771 : decode code 2771 = .ok (.if_icmp .eq 5, 3) := dT_of dTB_6_1 19 rfl
set_option maxRecDepth 20000 in
theorem dW_2776 : decode code 2776 = .ok (.iload 6, 2) := dT_of dTB_6_1 20 rfl
set_option maxRecDepth 20000 in
theorem dW_2778 : decode code 2778 = .ok (.ifCond .ne 15, 3) := dT_of dTB_6_1 21 rfl
set_option maxRecDepth 20000 in
theorem dW_2781 : decode code 2781 = .ok (.aload_n 3, 1) := dT_of dTB_6_1 22 rfl
set_option maxRecDepth 20000 in
theorem dW_2782 : decode code 2782 = .ok (.iconst 0, 1) := dT_of dTB_6_1 23 rfl
set_option maxRecDepth 20000 in
theorem dW_2783 : decode code 2783 = .ok (.laload, 1) := dT_of dTB_6_1 24 rfl
set_option maxRecDepth 20000 in
theorem dW_2784 : decode code 2784 = .ok (.iload 7, 2) := dT_of dTB_6_1 25 rfl
set_option maxRecDepth 20000 in
theorem dW_2786 : decode code 2786 = .ok (.i2l, 1) := dT_of dTB_6_1 26 rfl
set_option maxRecDepth 20000 in
theorem dW_2787 : decode code 2787 = .ok (.lcmp, 1) := dT_of dTB_6_1 27 rfl
set_option maxRecDepth 20000 in
theorem dW_2788 : decode code 2788 = .ok (.ifCond .eq 5, 3) := dT_of dTB_6_1 28 rfl
set_option maxRecDepth 20000 in
theorem dW_2793 : decode code 2793 = .ok (.goto 115, 3) := dT_of dTB_6_1 29 rfl
set_option maxRecDepth 20000 in
theorem dW_2796 : decode code 2796 = .ok (.aload_n 1, 1) := dT_of dTB_6_1 30 rfl
set_option maxRecDepth 20000 in
theorem dW_2797 : decode code 2797 = .ok (.aload_n 0, 1) := dT_of dTB_6_1 31 rfl
set_option maxRecDepth 20000 in
theorem dW_2798 : decode code 2798 = .ok (.iload 5, 2) := dT_of dTB_6_1 32 rfl
set_option maxRecDepth 20000 in
theorem dW_2800 : decode code 2800 = .ok (.iconst 1, 1) := dT_of dTB_6_1 33 rfl
set_option maxRecDepth 20000 in
theorem dW_2801 : decode code 2801 = .ok (.iadd, 1) := dT_of dTB_6_1 34 rfl
set_option maxRecDepth 20000 in
theorem dW_2802 : decode code 2802 = .ok (.iaload, 1) := dT_of dTB_6_1 35 rfl
set_option maxRecDepth 20000 in
theorem dW_2803 : decode code 2803 = .ok (.aload_n 3, 1) := dT_of dTB_6_1 36 rfl
set_option maxRecDepth 20000 in
theorem dW_2804 : decode code 2804 = .ok (.invokestatic 341, 3) := dT_of dTB_6_1 37 rfl
set_option maxRecDepth 20000 in
theorem dW_2807 : decode code 2807 = .ok (.istore 6, 2) := dT_of dTB_6_1 38 rfl
set_option maxRecDepth 20000 in
theorem dW_2809 : decode code 2809 = .ok (.aload_n 2, 1) := dT_of dTB_6_1 39 rfl
set_option maxRecDepth 20000 in
theorem dW_2810 : decode code 2810 = .ok (.aload_n 0, 1) := dT_of dTB_6_1 40 rfl
set_option maxRecDepth 20000 in
theorem dW_2811 : decode code 2811 = .ok (.iload 5, 2) := dT_of dTB_6_1 41 rfl
set_option maxRecDepth 20000 in
theorem dW_2813 : decode code 2813 = .ok (.iconst 1, 1) := dT_of dTB_6_1 42 rfl
set_option maxRecDepth 20000 in
theorem dW_2814 : decode code 2814 = .ok (.iadd, 1) := dT_of dTB_6_1 43 rfl
def dTL_6_2 : List (Nat × (Instr × Nat)) := [(2815, (.iaload, 1)), (2816, (.invokevirtual 343, 3)), (2819, (.istore 7, 2)), (2821, (.aload_n 2, 1)), (2822, (.invokevirtual 144, 3)), (2825, (.iload 6, 2)), (2827, (.if_icmp .eq 5, 3)), (2832, (.iload 6, 2)), (2834, (.ifCond .ne 15, 3)), (2837, (.aload_n 3, 1)), (2838, (.iconst 0, 1)), (2839, (.laload, 1)), (2840, (.iload 7, 2)), (2842, (.i2l, 1)), (2843, (.lcmp, 1)), (2844, (.ifCond .eq 5, 3)), (2849, (.goto 59, 3)), (2852, (.aload_n 1, 1)), (2853, (.aload_n 0, 1)), (2854, (.iload 5, 2)), (2856, (.iconst 1, 1)), (2857, (.iadd, 1)), (2858, (.iaload, 1)), (2859, (.aload_n 3, 1)), (2860, (.invokestatic 344, 3)), (2863, (.istore 6, 2)), (2865, (.aload_n 2, 1)), (2866, (.aload_n 0, 1)), (2867, (.iload 5, 2)), (2869, (.iconst 1, 1)), (2870, (.iadd, 1)), (2871, (.iaload, 1)), (2872, (.invokevirtual 346, 3)), (2875, (.istore 7, 2)), (2877, (.aload_n 2, 1)), (2878, (.invokevirtual 144, 3)), (2881, (.iload 6, 2)), (2883, (.if_icmp .eq 5, 3)), (2888, (.iload 6, 2)), (2890, (.ifCond .ne 15, 3)), (2893, (.aload_n 3, 1)), (2894, (.iconst 0, 1)), (2895, (.laload, 1)), (2896, (.iload 7, 2))]
theorem dTB_6_2 : dTL_6_2.all (fun q => decide (decode code q.1 = .ok q.2)) = true := by decide +kernel
set_option maxRecDepth 20000 in
theorem dW_2815 : decode code 2815 = .ok (.iaload, 1) := dT_of dTB_6_2 0 rfl
set_option maxRecDepth 20000 in
theorem dW_2816 : decode code 2816 = .ok (.invokevirtual 343, 3) := dT_of dTB_6_2 1 rfl
set_option maxRecDepth 20000 in
theorem dW_2819 : decode code 2819 = .ok (.istore 7, 2) := dT_of dTB_6_2 2 rfl
set_option maxRecDepth 20000 in
theorem dW_2821 : decode code 2821 = .ok (.aload_n 2, 1) := dT_of dTB_6_2 3 rfl
set_option maxRecDepth 20000 in
theorem dW_2822 : decode code 2822 = .ok (.invokevirtual 144, 3) := dT_of dTB_6_2 4 rfl
set_option maxRecDepth 20000 in
theorem dW_2825 : decode code 2825 = .ok (.iload 6, 2) := dT_of dTB_6_2 5 rfl
set_option maxRecDepth 20000 in
theorem dW_2827 : decode code 2827 = .ok (.if_icmp .eq 5, 3) := dT_of dTB_6_2 6 rfl
set_option maxRecDepth 20000 in
theorem dW_2832 : decode code 2832 = .ok (.iload 6, 2) := dT_of dTB_6_2 7 rfl
set_option maxRecDepth 20000 in
theorem dW_2834 : decode code 2834 = .ok (.ifCond .ne 15, 3) := dT_of dTB_6_2 8 rfl
set_option maxRecDepth 20000 in
theorem dW_2837 : decode code 2837 = .ok (.aload_n 3, 1) := dT_of dTB_6_2 9 rfl
set_option maxRecDepth 20000 in
theorem dW_2838 : decode code 2838 = .ok (.iconst 0, 1) := dT_of dTB_6_2 10 rfl
set_option maxRecDepth 20000 in
theorem dW_2839 : decode code 2839 = .ok (.laload, 1) := dT_of dTB_6_2 11 rfl
set_option maxRecDepth 20000 in
theorem dW_2840 : decode code 2840 = .ok (.iload 7, 2) := dT_of dTB_6_2 12 rfl
set_option maxRecDepth 20000 in
theorem dW_2842 : decode code 2842 = .ok (.i2l, 1) := dT_of dTB_6_2 13 rfl
set_option maxRecDepth 20000 in
theorem dW_2843 : decode code 2843 = .ok (.lcmp, 1) := dT_of dTB_6_2 14 rfl
set_option maxRecDepth 20000 in
theorem dW_2844 : decode code 2844 = .ok (.ifCond .eq 5, 3) := dT_of dTB_6_2 15 rfl
set_option maxRecDepth 20000 in
theorem dW_2849 : decode code 2849 = .ok (.goto 59, 3) := dT_of dTB_6_2 16 rfl
set_option maxRecDepth 20000 in
theorem dW_2852 : decode code 2852 = .ok (.aload_n 1, 1) := dT_of dTB_6_2 17 rfl
set_option maxRecDepth 20000 in
theorem dW_2853 : decode code 2853 = .ok (.aload_n 0, 1) := dT_of dTB_6_2 18 rfl
set_option maxRecDepth 20000 in
theorem dW_2854 : decode code 2854 = .ok (.iload 5, 2) := dT_of dTB_6_2 19 rfl
set_option maxRecDepth 20000 in
theorem dW_2856 : decode code 2856 = .ok (.iconst 1, 1) := dT_of dTB_6_2 20 rfl
set_option maxRecDepth 20000 in
theorem dW_2857 : decode code 2857 = .ok (.iadd, 1) := dT_of dTB_6_2 21 rfl
set_option maxRecDepth 20000 in
theorem dW_2858 : decode code 2858 = .ok (.iaload, 1) := dT_of dTB_6_2 22 rfl
set_option maxRecDepth 20000 in
theorem dW_2859 : decode code 2859 = .ok (.aload_n 3, 1) := dT_of dTB_6_2 23 rfl
set_option maxRecDepth 20000 in
theorem dW_2860 : decode code 2860 = .ok (.invokestatic 344, 3) := dT_of dTB_6_2 24 rfl
set_option maxRecDepth 20000 in
theorem dW_2863 : decode code 2863 = .ok (.istore 6, 2) := dT_of dTB_6_2 25 rfl
set_option maxRecDepth 20000 in
theorem dW_2865 : decode code 2865 = .ok (.aload_n 2, 1) := dT_of dTB_6_2 26 rfl
set_option maxRecDepth 20000 in
theorem dW_2866 : decode code 2866 = .ok (.aload_n 0, 1) := dT_of dTB_6_2 27 rfl
set_option maxRecDepth 20000 in
theorem dW_2867 : decode code 2867 = .ok (.iload 5, 2) := dT_of dTB_6_2 28 rfl
set_option maxRecDepth 20000 in
theorem dW_2869 : decode code 2869 = .ok (.iconst 1, 1) := dT_of dTB_6_2 29 rfl
set_option maxRecDepth 20000 in
theorem dW_2870 : decode code 2870 = .ok (.iadd, 1) := dT_of dTB_6_2 30 rfl
set_option maxRecDepth 20000 in
theorem dW_2871 : decode code 2871 = .ok (.iaload, 1) := dT_of dTB_6_2 31 rfl
set_option maxRecDepth 20000 in
theorem dW_2872 : decode code 2872 = .ok (.invokevirtual 346, 3) := dT_of dTB_6_2 32 rfl
set_option maxRecDepth 20000 in
theorem dW_2875 : decode code 2875 = .ok (.istore 7, 2) := dT_of dTB_6_2 33 rfl
set_option maxRecDepth 20000 in
theorem dW_2877 : decode code 2877 = .ok (.aload_n 2, 1) := dT_of dTB_6_2 34 rfl
set_option maxRecDepth 20000 in
theorem dW_2878 : decode code 2878 = .ok (.invokevirtual 144, 3) := dT_of dTB_6_2 35 rfl
set_option maxRecDepth 20000 in
theorem dW_2881 : decode code 2881 = .ok (.iload 6, 2) := dT_of dTB_6_2 36 rfl
set_option maxRecDepth 20000 in
theorem dW_2883 : decode code 2883 = .ok (.if_icmp .eq 5, 3) := dT_of dTB_6_2 37 rfl
set_option maxRecDepth 20000 in
theorem dW_2888 : decode code 2888 = .ok (.iload 6, 2) := dT_of dTB_6_2 38 rfl
set_option maxRecDepth 20000 in
theorem dW_2890 : decode code 2890 = .ok (.ifCond .ne 15, 3) := dT_of dTB_6_2 39 rfl
set_option maxRecDepth 20000 in
theorem dW_2893 : decode code 2893 = .ok (.aload_n 3, 1) := dT_of dTB_6_2 40 rfl
set_option maxRecDepth 20000 in
theorem dW_2894 : decode code 2894 = .ok (.iconst 0, 1) := dT_of dTB_6_2 41 rfl
set_option maxRecDepth 20000 in
theorem dW_2895 : decode code 2895 = .ok (.laload, 1) := dT_of dTB_6_2 42 rfl
set_option maxRecDepth 20000 in
theorem dW_2896 : decode code 2896 = .ok (.iload 7, 2) := dT_of dTB_6_2 43 rfl
def dTL_6_3 : List (Nat × (Instr × Nat)) := [(2898, (.i2l, 1)), (2899, (.lcmp, 1)), (2900, (.ifCond .eq 5, 3)), (2905, (.goto 3, 3)), (2908, (.iinc 5 6, 3)), (2911, (.goto (-2883), 3)), (2914, (.iconst 1, 1)), (2915, (.ireturn, 1))]
theorem dTB_6_3 : dTL_6_3.all (fun q => decide (decode code q.1 = .ok q.2)) = true := by decide +kernel
set_option maxRecDepth 20000 in
theorem dW_2898 : decode code 2898 = .ok (.i2l, 1) := dT_of dTB_6_3 0 rfl
set_option maxRecDepth 20000 in
theorem dW_2899 : decode code 2899 = .ok (.lcmp, 1) := dT_of dTB_6_3 1 rfl
set_option maxRecDepth 20000 in
theorem dW_2900 : decode code 2900 = .ok (.ifCond .eq 5, 3) := dT_of dTB_6_3 2 rfl
set_option maxRecDepth 20000 in
theorem dW_2905 : decode code 2905 = .ok (.goto 3, 3) := dT_of dTB_6_3 3 rfl
set_option maxRecDepth 20000 in
theorem dW_2908 : decode code 2908 = .ok (.iinc 5 6, 3) := dT_of dTB_6_3 4 rfl
set_option maxRecDepth 20000 in
theorem dW_2911 : decode code 2911 = .ok (.goto (-2883), 3) := dT_of dTB_6_3 5 rfl
set_option maxRecDepth 20000 in
theorem dW_2914 : decode code 2914 = .ok (.iconst 1, 1) := dT_of dTB_6_3 6 rfl
set_option maxRecDepth 20000 in
theorem dW_2915 : decode code 2915 = .ok (.ireturn, 1) := dT_of dTB_6_3 7 rfl
