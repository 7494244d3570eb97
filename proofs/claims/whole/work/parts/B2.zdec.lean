/-! the law's instructions, 1 -/
theorem dW_631 : decode code 631 = .ok (.aload_n 0, 1) := by decide +kernel
theorem dW_632 : decode code 632 = .ok (.iload 5, 2) := by decide +kernel
theorem dW_634 : decode code 634 = .ok (.iconst 1, 1) := by decide +kernel
theorem dW_635 : decode code 635 = .ok (.iadd, 1) := by decide +kernel
theorem dW_636 : decode code 636 = .ok (.iaload, 1) := by decide +kernel
theorem dW_637 : decode code 637 = .ok (.aload_n 3, 1) := by decide +kernel
theorem dW_638 : decode code 638 = .ok (.invokestatic 183, 3) := by decide +kernel
theorem dW_641 : decode code 641 = .ok (.istore 6, 2) := by decide +kernel
theorem dW_643 : decode code 643 = .ok (.aload_n 2, 1) := by decide +kernel
theorem dW_644 : decode code 644 = .ok (.aload_n 0, 1) := by decide +kernel
theorem dW_645 : decode code 645 = .ok (.iload 5, 2) := by decide +kernel
theorem dW_647 : decode code 647 = .ok (.iconst 1, 1) := by decide +kernel
theorem dW_648 : decode code 648 = .ok (.iadd, 1) := by decide +kernel
theorem dW_649 : decode code 649 = .ok (.iaload, 1) := by decide +kernel
theorem dW_650 : decode code 650 = .ok (.invokevirtual 185, 3) := by decide +kernel
theorem dW_653 : decode code 653 = .ok (.istore 7, 2) := by decide +kernel
theorem dW_655 : decode code 655 = .ok (.aload_n 2, 1) := by decide +kernel
theorem dW_656 : decode code 656 = .ok (.invokevirtual 144, 3) := by decide +kernel
theorem dW_659 : decode code 659 = .ok (.iload 6, 2) := by decide +kernel
theorem dW_661 : decode code 661 = .ok (.if_icmp .eq 5, 3) := by decide +kernel
theorem dW_666 : decode code 666 = .ok (.iload 6, 2) := by decide +kernel
theorem dW_668 : decode code 668 = .ok (.ifCond .ne 15, 3) := by decide +kernel
theorem dW_671 : decode code 671 = .ok (.aload_n 3, 1) := by decide +kernel
theorem dW_672 : decode code 672 = .ok (.iconst 0, 1) := by decide +kernel
theorem dW_673 : decode code 673 = .ok (.laload, 1) := by decide +kernel
theorem dW_674 : decode code 674 = .ok (.iload 7, 2) := by decide +kernel
theorem dW_676 : decode code 676 = .ok (.i2l, 1) := by decide +kernel
theorem dW_677 : decode code 677 = .ok (.lcmp, 1) := by decide +kernel
theorem dW_678 : decode code 678 = .ok (.ifCond .eq 5, 3) := by decide +kernel
theorem dW_683 : decode code 683 = .ok (.goto 2225, 3) := by decide +kernel
theorem dW_686 : decode code 686 = .ok (.aload_n 1, 1) := by decide +kernel
theorem dW_687 : decode code 687 = .ok (.aload_n 0, 1) := by decide +kernel
theorem dW_688 : decode code 688 = .ok (.iload 5, 2) := by decide +kernel
theorem dW_690 : decode code 690 = .ok (.iconst 1, 1) := by decide +kernel
theorem dW_691 : decode code 691 = .ok (.iadd, 1) := by decide +kernel
theorem dW_692 : decode code 692 = .ok (.iaload, 1) := by decide +kernel
theorem dW_693 : decode code 693 = .ok (.aload_n 0, 1) := by decide +kernel
theorem dW_694 : decode code 694 = .ok (.iload 5, 2) := by decide +kernel
theorem dW_696 : decode code 696 = .ok (.iconst 2, 1) := by decide +kernel
theorem dW_697 : decode code 697 = .ok (.iadd, 1) := by decide +kernel
theorem dW_698 : decode code 698 = .ok (.iaload, 1) := by decide +kernel
theorem dW_699 : decode code 699 = .ok (.aload_n 3, 1) := by decide +kernel
theorem dW_700 : decode code 700 = .ok (.invokestatic 186, 3) := by decide +kernel
theorem dW_703 : decode code 703 = .ok (.istore 6, 2) := by decide +kernel
theorem dW_705 : decode code 705 = .ok (.aload_n 2, 1) := by decide +kernel
theorem dW_706 : decode code 706 = .ok (.aload_n 0, 1) := by decide +kernel
theorem dW_707 : decode code 707 = .ok (.iload 5, 2) := by decide +kernel
theorem dW_709 : decode code 709 = .ok (.iconst 1, 1) := by decide +kernel
theorem dW_710 : decode code 710 = .ok (.iadd, 1) := by decide +kernel
theorem dW_711 : decode code 711 = .ok (.iaload, 1) := by decide +kernel
theorem dW_712 : decode code 712 = .ok (.aload_n 0, 1) := by decide +kernel
theorem dW_713 : decode code 713 = .ok (.iload 5, 2) := by decide +kernel
theorem dW_715 : decode code 715 = .ok (.iconst 2, 1) := by decide +kernel
theorem dW_716 : decode code 716 = .ok (.iadd, 1) := by decide +kernel
theorem dW_717 : decode code 717 = .ok (.iaload, 1) := by decide +kernel
theorem dW_718 : decode code 718 = .ok (.invokevirtual 189, 3) := by decide +kernel
theorem dW_721 : decode code 721 = .ok (.istore 7, 2) := by decide +kernel
theorem dW_723 : decode code 723 = .ok (.aload_n 2, 1) := by decide +kernel
theorem dW_724 : decode code 724 = .ok (.invokevirtual 144, 3) := by decide +kernel
theorem dW_727 : decode code 727 = .ok (.iload 6, 2) := by decide +kernel
theorem dW_729 : decode code 729 = .ok (.if_icmp .eq 5, 3) := by decide +kernel
theorem dW_734 : decode code 734 = .ok (.iload 6, 2) := by decide +kernel
theorem dW_736 : decode code 736 = .ok (.ifCond .ne 15, 3) := by decide +kernel
theorem dW_739 : decode code 739 = .ok (.aload_n 3, 1) := by decide +kernel
theorem dW_740 : decode code 740 = .ok (.iconst 0, 1) := by decide +kernel
theorem dW_741 : decode code 741 = .ok (.laload, 1) := by decide +kernel
theorem dW_742 : decode code 742 = .ok (.iload 7, 2) := by decide +kernel
theorem dW_744 : decode code 744 = .ok (.i2l, 1) := by decide +kernel
theorem dW_745 : decode code 745 = .ok (.lcmp, 1) := by decide +kernel
theorem dW_746 : decode code 746 = .ok (.ifCond .eq 5, 3) := by decide +kernel
theorem dW_751 : decode code 751 = .ok (.goto 2157, 3) := by decide +kernel
theorem dW_754 : decode code 754 = .ok (.aload_n 1, 1) := by decide +kernel
theorem dW_755 : decode code 755 = .ok (.aload_n 0, 1) := by decide +kernel
theorem dW_756 : decode code 756 = .ok (.iload 5, 2) := by decide +kernel
theorem dW_758 : decode code 758 = .ok (.iconst 1, 1) := by decide +kernel
theorem dW_759 : decode code 759 = .ok (.iadd, 1) := by decide +kernel
theorem dW_760 : decode code 760 = .ok (.iaload, 1) := by decide +kernel
theorem dW_761 : decode code 761 = .ok (.aload_n 0, 1) := by decide +kernel
theorem dW_762 : decode code 762 = .ok (.iload 5, 2) := by decide +kernel
theorem dW_764 : decode code 764 = .ok (.iconst 2, 1) := by decide +kernel
theorem dW_765 : decode code 765 = .ok (.iadd, 1) := by decide +kernel
theorem dW_766 : decode code 766 = .ok (.iaload, 1) := by decide +kernel
theorem dW_767 : decode code 767 = .ok (.aload_n 0, 1) := by decide +kernel
theorem dW_768 : decode code 768 = .ok (.iload 5, 2) := by decide +kernel
theorem dW_770 : decode code 770 = .ok (.iconst 3, 1) := by decide +kernel
theorem dW_771 : decode code 771 = .ok (.iadd, 1) := by decide +kernel
theorem dW_772 : decode code 772 = .ok (.iaload, 1) := by decide +kernel
theorem dW_773 : decode code 773 = .ok (.aload_n 3, 1) := by decide +kernel
theorem dW_774 : decode code 774 = .ok (.invokestatic 190, 3) := by decide +kernel
theorem dW_777 : decode code 777 = .ok (.istore 6, 2) := by decide +kernel
theorem dW_779 : decode code 779 = .ok (.aload_n 2, 1) := by decide +kernel
theorem dW_780 : decode code 780 = .ok (.aload_n 0, 1) := by decide +kernel
theorem dW_781 : decode code 781 = .ok (.iload 5, 2) := by decide +kernel
theorem dW_783 : decode code 783 = .ok (.iconst 1, 1) := by decide +kernel
theorem dW_784 : decode code 784 = .ok (.iadd, 1) := by decide +kernel
theorem dW_785 : decode code 785 = .ok (.iaload, 1) := by decide +kernel
theorem dW_786 : decode code 786 = .ok (.aload_n 0, 1) := by decide +kernel
theorem dW_787 : decode code 787 = .ok (.iload 5, 2) := by decide +kernel
theorem dW_789 : decode code 789 = .ok (.iconst 2, 1) := by decide +kernel
theorem dW_790 : decode code 790 = .ok (.iadd, 1) := by decide +kernel
theorem dW_791 : decode code 791 = .ok (.iaload, 1) := by decide +kernel
theorem dW_792 : decode code 792 = .ok (.aload_n 0, 1) := by decide +kernel
theorem dW_793 : decode code 793 = .ok (.iload 5, 2) := by decide +kernel
theorem dW_795 : decode code 795 = .ok (.iconst 3, 1) := by decide +kernel
theorem dW_796 : decode code 796 = .ok (.iadd, 1) := by decide +kernel
theorem dW_797 : decode code 797 = .ok (.iaload, 1) := by decide +kernel
theorem dW_798 : decode code 798 = .ok (.invokevirtual 192, 3) := by decide +kernel
theorem dW_801 : decode code 801 = .ok (.istore 7, 2) := by decide +kernel
theorem dW_803 : decode code 803 = .ok (.aload_n 2, 1) := by decide +kernel
theorem dW_804 : decode code 804 = .ok (.invokevirtual 144, 3) := by decide +kernel
theorem dW_807 : decode code 807 = .ok (.iload 6, 2) := by decide +kernel
theorem dW_809 : decode code 809 = .ok (.if_icmp .eq 5, 3) := by decide +kernel
theorem dW_814 : decode code 814 = .ok (.iload 6, 2) := by decide +kernel
theorem dW_816 : decode code 816 = .ok (.ifCond .ne 15, 3) := by decide +kernel
theorem dW_819 : decode code 819 = .ok (.aload_n 3, 1) := by decide +kernel
theorem dW_820 : decode code 820 = .ok (.iconst 0, 1) := by decide +kernel
theorem dW_821 : decode code 821 = .ok (.laload, 1) := by decide +kernel
theorem dW_822 : decode code 822 = .ok (.iload 7, 2) := by decide +kernel
theorem dW_824 : decode code 824 = .ok (.i2l, 1) := by decide +kernel
theorem dW_825 : decode code 825 = .ok (.lcmp, 1) := by decide +kernel
theorem dW_826 : decode code 826 = .ok (.ifCond .eq 5, 3) := by decide +kernel
theorem dW_831 : decode code 831 = .ok (.goto 2077, 3) := by decide +kernel
theorem dW_834 : decode code 834 = .ok (.aload_n 1, 1) := by decide +kernel
theorem dW_835 : decode code 835 = .ok (.aload_n 0, 1) := by decide +kernel
theorem dW_836 : decode code 836 = .ok (.iload 5, 2) := by decide +kernel
theorem dW_838 : decode code 838 = .ok (.iconst 1, 1) := by decide +kernel
theorem dW_839 : decode code 839 = .ok (.iadd, 1) := by decide +kernel
theorem dW_840 : decode code 840 = .ok (.iaload, 1) := by decide +kernel
theorem dW_841 : decode code 841 = .ok (.aload_n 3, 1) := by decide +kernel
theorem dW_842 : decode code 842 = .ok (.invokestatic 193, 3) := by decide +kernel
theorem dW_845 : decode code 845 = .ok (.istore 6, 2) := by decide +kernel
theorem dW_847 : decode code 847 = .ok (.aload_n 2, 1) := by decide +kernel
theorem dW_848 : decode code 848 = .ok (.aload_n 0, 1) := by decide +kernel
theorem dW_849 : decode code 849 = .ok (.iload 5, 2) := by decide +kernel
theorem dW_851 : decode code 851 = .ok (.iconst 1, 1) := by decide +kernel
theorem dW_852 : decode code 852 = .ok (.iadd, 1) := by decide +kernel
theorem dW_853 : decode code 853 = .ok (.iaload, 1) := by decide +kernel
theorem dW_854 : decode code 854 = .ok (.invokevirtual 195, 3) := by decide +kernel
theorem dW_857 : decode code 857 = .ok (.istore 7, 2) := by decide +kernel
theorem dW_859 : decode code 859 = .ok (.aload_n 2, 1) := by decide +kernel
theorem dW_860 : decode code 860 = .ok (.invokevirtual 144, 3) := by decide +kernel
theorem dW_863 : decode code 863 = .ok (.iload 6, 2) := by decide +kernel
theorem dW_865 : decode code 865 = .ok (.if_icmp .eq 5, 3) := by decide +kernel
theorem dW_870 : decode code 870 = .ok (.iload 6, 2) := by decide +kernel
theorem dW_872 : decode code 872 = .ok (.ifCond .ne 15, 3) := by decide +kernel
theorem dW_875 : decode code 875 = .ok (.aload_n 3, 1) := by decide +kernel
theorem dW_876 : decode code 876 = .ok (.iconst 0, 1) := by decide +kernel
theorem dW_877 : decode code 877 = .ok (.laload, 1) := by decide +kernel
theorem dW_878 : decode code 878 = .ok (.iload 7, 2) := by decide +kernel
theorem dW_880 : decode code 880 = .ok (.i2l, 1) := by decide +kernel
theorem dW_881 : decode code 881 = .ok (.lcmp, 1) := by decide +kernel
theorem dW_882 : decode code 882 = .ok (.ifCond .eq 5, 3) := by decide +kernel
theorem dW_887 : decode code 887 = .ok (.goto 2021, 3) := by decide +kernel
theorem dW_890 : decode code 890 = .ok (.aload_n 1, 1) := by decide +kernel
theorem dW_891 : decode code 891 = .ok (.aload_n 0, 1) := by decide +kernel
theorem dW_892 : decode code 892 = .ok (.iload 5, 2) := by decide +kernel
theorem dW_894 : decode code 894 = .ok (.iconst 1, 1) := by decide +kernel
theorem dW_895 : decode code 895 = .ok (.iadd, 1) := by decide +kernel
theorem dW_896 : decode code 896 = .ok (.iaload, 1) := by decide +kernel
theorem dW_897 : decode code 897 = .ok (.aload_n 3, 1) := by decide +kernel
theorem dW_898 : decode code 898 = .ok (.invokestatic 196, 3) := by decide +kernel
theorem dW_901 : decode code 901 = .ok (.istore 6, 2) := by decide +kernel
theorem dW_903 : decode code 903 = .ok (.aload_n 2, 1) := by decide +kernel
theorem dW_904 : decode code 904 = .ok (.aload_n 0, 1) := by decide +kernel
theorem dW_905 : decode code 905 = .ok (.iload 5, 2) := by decide +kernel
theorem dW_907 : decode code 907 = .ok (.iconst 1, 1) := by decide +kernel
theorem dW_908 : decode code 908 = .ok (.iadd, 1) := by decide +kernel
theorem dW_909 : decode code 909 = .ok (.iaload, 1) := by decide +kernel
theorem dW_910 : decode code 910 = .ok (.invokevirtual 198, 3) := by decide +kernel
theorem dW_913 : decode code 913 = .ok (.istore 7, 2) := by decide +kernel
theorem dW_915 : decode code 915 = .ok (.aload_n 2, 1) := by decide +kernel
theorem dW_916 : decode code 916 = .ok (.invokevirtual 144, 3) := by decide +kernel
theorem dW_919 : decode code 919 = .ok (.iload 6, 2) := by decide +kernel
theorem dW_921 : decode code 921 = .ok (.if_icmp .eq 5, 3) := by decide +kernel
theorem dW_926 : decode code 926 = .ok (.iload 6, 2) := by decide +kernel
theorem dW_928 : decode code 928 = .ok (.ifCond .ne 15, 3) := by decide +kernel
theorem dW_931 : decode code 931 = .ok (.aload_n 3, 1) := by decide +kernel
theorem dW_932 : decode code 932 = .ok (.iconst 0, 1) := by decide +kernel
theorem dW_933 : decode code 933 = .ok (.laload, 1) := by decide +kernel
theorem dW_934 : decode code 934 = .ok (.iload 7, 2) := by decide +kernel
theorem dW_936 : decode code 936 = .ok (.i2l, 1) := by decide +kernel
theorem dW_937 : decode code 937 = .ok (.lcmp, 1) := by decide +kernel
theorem dW_938 : decode code 938 = .ok (.ifCond .eq 5, 3) := by decide +kernel
theorem dW_943 : decode code 943 = .ok (.goto 1965, 3) := by decide +kernel
theorem dW_946 : decode code 946 = .ok (.aload_n 1, 1) := by decide +kernel
theorem dW_947 : decode code 947 = .ok (.invokevirtual 199, 3) := by decide +kernel
theorem dW_950 : decode code 950 = .ok (.aload_n 2, 1) := by decide +kernel
theorem dW_951 : decode code 951 = .ok (.invokevirtual 202, 3) := by decide +kernel
theorem dW_954 : decode code 954 = .ok (.if_icmp .eq 1954, 3) := by decide +kernel
theorem dW_959 : decode code 959 = .ok (.aload_n 1, 1) := by decide +kernel
theorem dW_960 : decode code 960 = .ok (.aload_n 0, 1) := by decide +kernel
theorem dW_961 : decode code 961 = .ok (.iload 5, 2) := by decide +kernel
theorem dW_963 : decode code 963 = .ok (.iconst 1, 1) := by decide +kernel
theorem dW_964 : decode code 964 = .ok (.iadd, 1) := by decide +kernel
theorem dW_965 : decode code 965 = .ok (.iaload, 1) := by decide +kernel
theorem dW_966 : decode code 966 = .ok (.aload_n 3, 1) := by decide +kernel
theorem dW_967 : decode code 967 = .ok (.invokestatic 203, 3) := by decide +kernel
theorem dW_970 : decode code 970 = .ok (.istore 6, 2) := by decide +kernel
theorem dW_972 : decode code 972 = .ok (.aload_n 2, 1) := by decide +kernel
theorem dW_973 : decode code 973 = .ok (.aload_n 0, 1) := by decide +kernel
theorem dW_974 : decode code 974 = .ok (.iload 5, 2) := by decide +kernel
theorem dW_976 : decode code 976 = .ok (.iconst 1, 1) := by decide +kernel
theorem dW_977 : decode code 977 = .ok (.iadd, 1) := by decide +kernel
theorem dW_978 : decode code 978 = .ok (.iaload, 1) := by decide +kernel
theorem dW_979 : decode code 979 = .ok (.invokevirtual 205, 3) := by decide +kernel
theorem dW_982 : decode code 982 = .ok (.istore 7, 2) := by decide +kernel
theorem dW_984 : decode code 984 = .ok (.aload_n 2, 1) := by decide +kernel
theorem dW_985 : decode code 985 = .ok (.invokevirtual 144, 3) := by decide +kernel
theorem dW_988 : decode code 988 = .ok (.iload 6, 2) := by decide +kernel
theorem dW_990 : decode code 990 = .ok (.if_icmp .eq 5, 3) := by decide +kernel
theorem dW_995 : decode code 995 = .ok (.iload 6, 2) := by decide +kernel
theorem dW_997 : decode code 997 = .ok (.ifCond .ne 15, 3) := by decide +kernel
theorem dW_1000 : decode code 1000 = .ok (.aload_n 3, 1) := by decide +kernel
theorem dW_1001 : decode code 1001 = .ok (.iconst 0, 1) := by decide +kernel
theorem dW_1002 : decode code 1002 = .ok (.laload, 1) := by decide +kernel
theorem dW_1003 : decode code 1003 = .ok (.iload 7, 2) := by decide +kernel
theorem dW_1005 : decode code 1005 = .ok (.i2l, 1) := by decide +kernel
theorem dW_1006 : decode code 1006 = .ok (.lcmp, 1) := by decide +kernel
theorem dW_1007 : decode code 1007 = .ok (.ifCond .eq 5, 3) := by decide +kernel
theorem dW_1012 : decode code 1012 = .ok (.goto 1896, 3) := by decide +kernel
