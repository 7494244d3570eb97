/-! the law's instructions, 6 -/
theorem dW_2650 : decode code 2650 = .ok (.istore 6, 2) := by decide +kernel
theorem dW_2652 : decode code 2652 = .ok (.aload_n 2, 1) := by decide +kernel
theorem dW_2653 : decode code 2653 = .ok (.aload_n 0, 1) := by decide +kernel
theorem dW_2654 : decode code 2654 = .ok (.iload 5, 2) := by decide +kernel
theorem dW_2656 : decode code 2656 = .ok (.iconst 1, 1) := by decide +kernel
theorem dW_2657 : decode code 2657 = .ok (.iadd, 1) := by decide +kernel
theorem dW_2658 : decode code 2658 = .ok (.iaload, 1) := by decide +kernel
theorem dW_2659 : decode code 2659 = .ok (.aload_n 0, 1) := by decide +kernel
theorem dW_2660 : decode code 2660 = .ok (.iload 5, 2) := by decide +kernel
theorem dW_2662 : decode code 2662 = .ok (.iconst 2, 1) := by decide +kernel
theorem dW_2663 : decode code 2663 = .ok (.iadd, 1) := by decide +kernel
theorem dW_2664 : decode code 2664 = .ok (.iaload, 1) := by decide +kernel
theorem dW_2665 : decode code 2665 = .ok (.invokevirtual 324, 3) := by decide +kernel
theorem dW_2668 : decode code 2668 = .ok (.istore 7, 2) := by decide +kernel
theorem dW_2670 : decode code 2670 = .ok (.aload_n 2, 1) := by decide +kernel
theorem dW_2671 : decode code 2671 = .ok (.invokevirtual 144, 3) := by decide +kernel
theorem dW_2674 : decode code 2674 = .ok (.iload 6, 2) := by decide +kernel
theorem dW_2676 : decode code 2676 = .ok (.if_icmp .eq 5, 3) := by decide +kernel
theorem dW_2681 : decode code 2681 = .ok (.iload 6, 2) := by decide +kernel
theorem dW_2683 : decode code 2683 = .ok (.ifCond .ne 15, 3) := by decide +kernel
theorem dW_2686 : decode code 2686 = .ok (.aload_n 3, 1) := by decide +kernel
theorem dW_2687 : decode code 2687 = .ok (.iconst 0, 1) := by decide +kernel
theorem dW_2688 : decode code 2688 = .ok (.laload, 1) := by decide +kernel
theorem dW_2689 : decode code 2689 = .ok (.iload 7, 2) := by decide +kernel
theorem dW_2691 : decode code 2691 = .ok (.i2l, 1) := by decide +kernel
theorem dW_2692 : decode code 2692 = .ok (.lcmp, 1) := by decide +kernel
theorem dW_2693 : decode code 2693 = .ok (.ifCond .eq 5, 3) := by decide +kernel
theorem dW_2698 : decode code 2698 = .ok (.goto 210, 3) := by decide +kernel
theorem dW_2701 : decode code 2701 = .ok (.aload_n 1, 1) := by decide +kernel
theorem dW_2702 : decode code 2702 = .ok (.invokevirtual 325, 3) := by decide +kernel
theorem dW_2705 : decode code 2705 = .ok (.aload_n 2, 1) := by decide +kernel
theorem dW_2706 : decode code 2706 = .ok (.invokevirtual 328, 3) := by decide +kernel
theorem dW_2709 : decode code 2709 = .ok (.if_icmp .eq 199, 3) := by decide +kernel
theorem dW_2714 : decode code 2714 = .ok (.aload_n 1, 1) := by decide +kernel
theorem dW_2715 : decode code 2715 = .ok (.aload_n 0, 1) := by decide +kernel
theorem dW_2716 : decode code 2716 = .ok (.iload 5, 2) := by decide +kernel
theorem dW_2718 : decode code 2718 = .ok (.iconst 1, 1) := by decide +kernel
theorem dW_2719 : decode code 2719 = .ok (.iadd, 1) := by decide +kernel
theorem dW_2720 : decode code 2720 = .ok (.iaload, 1) := by decide +kernel
theorem dW_2721 : decode code 2721 = .ok (.invokevirtual 329, 3) := by decide +kernel
theorem dW_2724 : decode code 2724 = .ok (.aload_n 2, 1) := by decide +kernel
theorem dW_2725 : decode code 2725 = .ok (.aload_n 0, 1) := by decide +kernel
theorem dW_2726 : decode code 2726 = .ok (.iload 5, 2) := by decide +kernel
theorem dW_2728 : decode code 2728 = .ok (.iconst 1, 1) := by decide +kernel
theorem dW_2729 : decode code 2729 = .ok (.iadd, 1) := by decide +kernel
theorem dW_2730 : decode code 2730 = .ok (.iaload, 1) := by decide +kernel
theorem dW_2731 : decode code 2731 = .ok (.invokevirtual 332, 3) := by decide +kernel
theorem dW_2734 : decode code 2734 = .ok (.if_icmp .eq 174, 3) := by decide +kernel
theorem dW_2739 : decode code 2739 = .ok (.aload_n 1, 1) := by decide +kernel
theorem dW_2740 : decode code 2740 = .ok (.invokevirtual 333, 3) := by decide +kernel
theorem dW_2743 : decode code 2743 = .ok (.aload_n 2, 1) := by decide +kernel
theorem dW_2744 : decode code 2744 = .ok (.invokevirtual 336, 3) := by decide +kernel
theorem dW_2747 : decode code 2747 = .ok (.if_icmp .eq 161, 3) := by decide +kernel
theorem dW_2752 : decode code 2752 = .ok (.aload_n 1, 1) := by decide +kernel
theorem dW_2753 : decode code 2753 = .ok (.aload_n 3, 1) := by decide +kernel
theorem dW_2754 : decode code 2754 = .ok (.invokestatic 337, 3) := by decide +kernel
theorem dW_2757 : decode code 2757 = .ok (.istore 6, 2) := by decide +kernel
theorem dW_2759 : decode code 2759 = .ok (.aload_n 2, 1) := by decide +kernel
theorem dW_2760 : decode code 2760 = .ok (.invokevirtual 340, 3) := by decide +kernel
theorem dW_2763 : decode code 2763 = .ok (.istore 7, 2) := by decide +kernel
theorem dW_2765 : decode code 2765 = .ok (.aload_n 2, 1) := by decide +kernel
theorem dW_2766 : decode code 2766 = .ok (.invokevirtual 144, 3) := by decide +kernel
theorem dW_2769 : decode code 2769 = .ok (.iload 6, 2) := by decide +kernel
theorem dW_2771 : decode code 2771 = .ok (.if_icmp .eq 5, 3) := by decide +kernel
theorem dW_2776 : decode code 2776 = .ok (.iload 6, 2) := by decide +kernel
theorem dW_2778 : decode code 2778 = .ok (.ifCond .ne 15, 3) := by decide +kernel
theorem dW_2781 : decode code 2781 = .ok (.aload_n 3, 1) := by decide +kernel
theorem dW_2782 : decode code 2782 = .ok (.iconst 0, 1) := by decide +kernel
theorem dW_2783 : decode code 2783 = .ok (.laload, 1) := by decide +kernel
theorem dW_2784 : decode code 2784 = .ok (.iload 7, 2) := by decide +kernel
theorem dW_2786 : decode code 2786 = .ok (.i2l, 1) := by decide +kernel
theorem dW_2787 : decode code 2787 = .ok (.lcmp, 1) := by decide +kernel
theorem dW_2788 : decode code 2788 = .ok (.ifCond .eq 5, 3) := by decide +kernel
theorem dW_2793 : decode code 2793 = .ok (.goto 115, 3) := by decide +kernel
theorem dW_2796 : decode code 2796 = .ok (.aload_n 1, 1) := by decide +kernel
theorem dW_2797 : decode code 2797 = .ok (.aload_n 0, 1) := by decide +kernel
theorem dW_2798 : decode code 2798 = .ok (.iload 5, 2) := by decide +kernel
theorem dW_2800 : decode code 2800 = .ok (.iconst 1, 1) := by decide +kernel
theorem dW_2801 : decode code 2801 = .ok (.iadd, 1) := by decide +kernel
theorem dW_2802 : decode code 2802 = .ok (.iaload, 1) := by decide +kernel
theorem dW_2803 : decode code 2803 = .ok (.aload_n 3, 1) := by decide +kernel
theorem dW_2804 : decode code 2804 = .ok (.invokestatic 341, 3) := by decide +kernel
theorem dW_2807 : decode code 2807 = .ok (.istore 6, 2) := by decide +kernel
theorem dW_2809 : decode code 2809 = .ok (.aload_n 2, 1) := by decide +kernel
theorem dW_2810 : decode code 2810 = .ok (.aload_n 0, 1) := by decide +kernel
theorem dW_2811 : decode code 2811 = .ok (.iload 5, 2) := by decide +kernel
theorem dW_2813 : decode code 2813 = .ok (.iconst 1, 1) := by decide +kernel
theorem dW_2814 : decode code 2814 = .ok (.iadd, 1) := by decide +kernel
theorem dW_2815 : decode code 2815 = .ok (.iaload, 1) := by decide +kernel
theorem dW_2816 : decode code 2816 = .ok (.invokevirtual 343, 3) := by decide +kernel
theorem dW_2819 : decode code 2819 = .ok (.istore 7, 2) := by decide +kernel
theorem dW_2821 : decode code 2821 = .ok (.aload_n 2, 1) := by decide +kernel
theorem dW_2822 : decode code 2822 = .ok (.invokevirtual 144, 3) := by decide +kernel
theorem dW_2825 : decode code 2825 = .ok (.iload 6, 2) := by decide +kernel
theorem dW_2827 : decode code 2827 = .ok (.if_icmp .eq 5, 3) := by decide +kernel
theorem dW_2832 : decode code 2832 = .ok (.iload 6, 2) := by decide +kernel
theorem dW_2834 : decode code 2834 = .ok (.ifCond .ne 15, 3) := by decide +kernel
theorem dW_2837 : decode code 2837 = .ok (.aload_n 3, 1) := by decide +kernel
theorem dW_2838 : decode code 2838 = .ok (.iconst 0, 1) := by decide +kernel
theorem dW_2839 : decode code 2839 = .ok (.laload, 1) := by decide +kernel
theorem dW_2840 : decode code 2840 = .ok (.iload 7, 2) := by decide +kernel
theorem dW_2842 : decode code 2842 = .ok (.i2l, 1) := by decide +kernel
theorem dW_2843 : decode code 2843 = .ok (.lcmp, 1) := by decide +kernel
theorem dW_2844 : decode code 2844 = .ok (.ifCond .eq 5, 3) := by decide +kernel
theorem dW_2849 : decode code 2849 = .ok (.goto 59, 3) := by decide +kernel
theorem dW_2852 : decode code 2852 = .ok (.aload_n 1, 1) := by decide +kernel
theorem dW_2853 : decode code 2853 = .ok (.aload_n 0, 1) := by decide +kernel
theorem dW_2854 : decode code 2854 = .ok (.iload 5, 2) := by decide +kernel
theorem dW_2856 : decode code 2856 = .ok (.iconst 1, 1) := by decide +kernel
theorem dW_2857 : decode code 2857 = .ok (.iadd, 1) := by decide +kernel
theorem dW_2858 : decode code 2858 = .ok (.iaload, 1) := by decide +kernel
theorem dW_2859 : decode code 2859 = .ok (.aload_n 3, 1) := by decide +kernel
theorem dW_2860 : decode code 2860 = .ok (.invokestatic 344, 3) := by decide +kernel
theorem dW_2863 : decode code 2863 = .ok (.istore 6, 2) := by decide +kernel
theorem dW_2865 : decode code 2865 = .ok (.aload_n 2, 1) := by decide +kernel
theorem dW_2866 : decode code 2866 = .ok (.aload_n 0, 1) := by decide +kernel
theorem dW_2867 : decode code 2867 = .ok (.iload 5, 2) := by decide +kernel
theorem dW_2869 : decode code 2869 = .ok (.iconst 1, 1) := by decide +kernel
theorem dW_2870 : decode code 2870 = .ok (.iadd, 1) := by decide +kernel
theorem dW_2871 : decode code 2871 = .ok (.iaload, 1) := by decide +kernel
theorem dW_2872 : decode code 2872 = .ok (.invokevirtual 346, 3) := by decide +kernel
theorem dW_2875 : decode code 2875 = .ok (.istore 7, 2) := by decide +kernel
theorem dW_2877 : decode code 2877 = .ok (.aload_n 2, 1) := by decide +kernel
theorem dW_2878 : decode code 2878 = .ok (.invokevirtual 144, 3) := by decide +kernel
theorem dW_2881 : decode code 2881 = .ok (.iload 6, 2) := by decide +kernel
theorem dW_2883 : decode code 2883 = .ok (.if_icmp .eq 5, 3) := by decide +kernel
theorem dW_2888 : decode code 2888 = .ok (.iload 6, 2) := by decide +kernel
theorem dW_2890 : decode code 2890 = .ok (.ifCond .ne 15, 3) := by decide +kernel
theorem dW_2893 : decode code 2893 = .ok (.aload_n 3, 1) := by decide +kernel
theorem dW_2894 : decode code 2894 = .ok (.iconst 0, 1) := by decide +kernel
theorem dW_2895 : decode code 2895 = .ok (.laload, 1) := by decide +kernel
theorem dW_2896 : decode code 2896 = .ok (.iload 7, 2) := by decide +kernel
theorem dW_2898 : decode code 2898 = .ok (.i2l, 1) := by decide +kernel
theorem dW_2899 : decode code 2899 = .ok (.lcmp, 1) := by decide +kernel
theorem dW_2900 : decode code 2900 = .ok (.ifCond .eq 5, 3) := by decide +kernel
theorem dW_2905 : decode code 2905 = .ok (.goto 3, 3) := by decide +kernel
theorem dW_2908 : decode code 2908 = .ok (.iinc 5 6, 3) := by decide +kernel
theorem dW_2911 : decode code 2911 = .ok (.goto (-2883), 3) := by decide +kernel
theorem dW_2914 : decode code 2914 = .ok (.iconst 1, 1) := by decide +kernel
theorem dW_2915 : decode code 2915 = .ok (.ireturn, 1) := by decide +kernel
