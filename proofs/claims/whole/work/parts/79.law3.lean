/-! the law decoded, 3 -/
theorem dw_762 : decode code 762 = .ok (.aload_n 0, 1) := by decide +kernel
theorem dw_763 : decode code 763 = .ok (.iload 4, 2) := by decide +kernel
theorem dw_765 : decode code 765 = .ok (.iconst 1, 1) := by decide +kernel
theorem dw_766 : decode code 766 = .ok (.iadd, 1) := by decide +kernel
theorem dw_767 : decode code 767 = .ok (.iaload, 1) := by decide +kernel
theorem dw_768 : decode code 768 = .ok (.aload_n 0, 1) := by decide +kernel
theorem dw_769 : decode code 769 = .ok (.iload 4, 2) := by decide +kernel
theorem dw_771 : decode code 771 = .ok (.iconst 2, 1) := by decide +kernel
theorem dw_772 : decode code 772 = .ok (.iadd, 1) := by decide +kernel
theorem dw_773 : decode code 773 = .ok (.iaload, 1) := by decide +kernel
theorem dw_774 : decode code 774 = .ok (.invokevirtual 134, 3) := by decide +kernel
theorem dw_777 : decode code 777 = .ok (.lstore 6, 2) := by decide +kernel
theorem dw_779 : decode code 779 = .ok (.aload_n 2, 1) := by decide +kernel
theorem dw_780 : decode code 780 = .ok (.invokevirtual 105, 3) := by decide +kernel
theorem dw_783 : decode code 783 = .ok (.iload 5, 2) := by decide +kernel
theorem dw_785 : decode code 785 = .ok (.if_icmp .eq 5, 3) := by decide +kernel
theorem dw_788 : decode code 788 = .ok (.iconst 0, 1) := by decide +kernel
theorem dw_789 : decode code 789 = .ok (.ireturn, 1) := by decide +kernel
theorem dw_790 : decode code 790 = .ok (.iload 5, 2) := by decide +kernel
theorem dw_792 : decode code 792 = .ok (.ifCond .ne 14, 3) := by decide +kernel
theorem dw_795 : decode code 795 = .ok (.aload_n 3, 1) := by decide +kernel
theorem dw_796 : decode code 796 = .ok (.iconst 0, 1) := by decide +kernel
theorem dw_797 : decode code 797 = .ok (.laload, 1) := by decide +kernel
theorem dw_798 : decode code 798 = .ok (.lload 6, 2) := by decide +kernel
theorem dw_800 : decode code 800 = .ok (.lcmp, 1) := by decide +kernel
theorem dw_801 : decode code 801 = .ok (.ifCond .eq 5, 3) := by decide +kernel
theorem dw_804 : decode code 804 = .ok (.iconst 0, 1) := by decide +kernel
theorem dw_805 : decode code 805 = .ok (.ireturn, 1) := by decide +kernel
theorem dw_806 : decode code 806 = .ok (.goto 916, 3) := by decide +kernel
theorem dw_809 : decode code 809 = .ok (.aload_n 1, 1) := by decide +kernel
theorem dw_810 : decode code 810 = .ok (.invokevirtual 135, 3) := by decide +kernel
theorem dw_813 : decode code 813 = .ok (.aload_n 2, 1) := by decide +kernel
theorem dw_814 : decode code 814 = .ok (.invokevirtual 138, 3) := by decide +kernel
theorem dw_817 : decode code 817 = .ok (.if_icmp .eq 905, 3) := by decide +kernel
theorem dw_820 : decode code 820 = .ok (.iconst 0, 1) := by decide +kernel
theorem dw_821 : decode code 821 = .ok (.ireturn, 1) := by decide +kernel
theorem dw_822 : decode code 822 = .ok (.aload_n 1, 1) := by decide +kernel
theorem dw_823 : decode code 823 = .ok (.aload_n 0, 1) := by decide +kernel
theorem dw_824 : decode code 824 = .ok (.iload 4, 2) := by decide +kernel
theorem dw_826 : decode code 826 = .ok (.iconst 1, 1) := by decide +kernel
theorem dw_827 : decode code 827 = .ok (.iadd, 1) := by decide +kernel
theorem dw_828 : decode code 828 = .ok (.iaload, 1) := by decide +kernel
theorem dw_829 : decode code 829 = .ok (.aload_n 0, 1) := by decide +kernel
theorem dw_830 : decode code 830 = .ok (.iload 4, 2) := by decide +kernel
theorem dw_832 : decode code 832 = .ok (.iconst 2, 1) := by decide +kernel
theorem dw_833 : decode code 833 = .ok (.iadd, 1) := by decide +kernel
theorem dw_834 : decode code 834 = .ok (.iaload, 1) := by decide +kernel
theorem dw_835 : decode code 835 = .ok (.aload_n 3, 1) := by decide +kernel
theorem dw_836 : decode code 836 = .ok (.invokestatic 139, 3) := by decide +kernel
theorem dw_839 : decode code 839 = .ok (.istore 5, 2) := by decide +kernel
theorem dw_841 : decode code 841 = .ok (.aload_n 2, 1) := by decide +kernel
theorem dw_842 : decode code 842 = .ok (.aload_n 0, 1) := by decide +kernel
theorem dw_843 : decode code 843 = .ok (.iload 4, 2) := by decide +kernel
theorem dw_845 : decode code 845 = .ok (.iconst 1, 1) := by decide +kernel
theorem dw_846 : decode code 846 = .ok (.iadd, 1) := by decide +kernel
theorem dw_847 : decode code 847 = .ok (.iaload, 1) := by decide +kernel
theorem dw_848 : decode code 848 = .ok (.aload_n 0, 1) := by decide +kernel
theorem dw_849 : decode code 849 = .ok (.iload 4, 2) := by decide +kernel
theorem dw_851 : decode code 851 = .ok (.iconst 2, 1) := by decide +kernel
theorem dw_852 : decode code 852 = .ok (.iadd, 1) := by decide +kernel
theorem dw_853 : decode code 853 = .ok (.iaload, 1) := by decide +kernel
theorem dw_854 : decode code 854 = .ok (.invokevirtual 141, 3) := by decide +kernel
theorem dw_857 : decode code 857 = .ok (.lstore 6, 2) := by decide +kernel
theorem dw_859 : decode code 859 = .ok (.aload_n 2, 1) := by decide +kernel
theorem dw_860 : decode code 860 = .ok (.invokevirtual 105, 3) := by decide +kernel
theorem dw_863 : decode code 863 = .ok (.iload 5, 2) := by decide +kernel
theorem dw_865 : decode code 865 = .ok (.if_icmp .eq 5, 3) := by decide +kernel
theorem dw_868 : decode code 868 = .ok (.iconst 0, 1) := by decide +kernel
theorem dw_869 : decode code 869 = .ok (.ireturn, 1) := by decide +kernel
theorem dw_870 : decode code 870 = .ok (.iload 5, 2) := by decide +kernel
theorem dw_872 : decode code 872 = .ok (.ifCond .ne 14, 3) := by decide +kernel
theorem dw_875 : decode code 875 = .ok (.aload_n 3, 1) := by decide +kernel
theorem dw_876 : decode code 876 = .ok (.iconst 0, 1) := by decide +kernel
theorem dw_877 : decode code 877 = .ok (.laload, 1) := by decide +kernel
theorem dw_878 : decode code 878 = .ok (.lload 6, 2) := by decide +kernel
theorem dw_880 : decode code 880 = .ok (.lcmp, 1) := by decide +kernel
theorem dw_881 : decode code 881 = .ok (.ifCond .eq 5, 3) := by decide +kernel
theorem dw_884 : decode code 884 = .ok (.iconst 0, 1) := by decide +kernel
theorem dw_885 : decode code 885 = .ok (.ireturn, 1) := by decide +kernel
theorem dw_886 : decode code 886 = .ok (.goto 836, 3) := by decide +kernel
theorem dw_889 : decode code 889 = .ok (.aload_n 1, 1) := by decide +kernel
theorem dw_890 : decode code 890 = .ok (.aload_n 0, 1) := by decide +kernel
theorem dw_891 : decode code 891 = .ok (.iload 4, 2) := by decide +kernel
theorem dw_893 : decode code 893 = .ok (.iconst 1, 1) := by decide +kernel
theorem dw_894 : decode code 894 = .ok (.iadd, 1) := by decide +kernel
theorem dw_895 : decode code 895 = .ok (.iaload, 1) := by decide +kernel
theorem dw_896 : decode code 896 = .ok (.invokevirtual 142, 3) := by decide +kernel
theorem dw_899 : decode code 899 = .ok (.aload_n 2, 1) := by decide +kernel
theorem dw_900 : decode code 900 = .ok (.aload_n 0, 1) := by decide +kernel
theorem dw_901 : decode code 901 = .ok (.iload 4, 2) := by decide +kernel
theorem dw_903 : decode code 903 = .ok (.iconst 1, 1) := by decide +kernel
theorem dw_904 : decode code 904 = .ok (.iadd, 1) := by decide +kernel
theorem dw_905 : decode code 905 = .ok (.iaload, 1) := by decide +kernel
theorem dw_906 : decode code 906 = .ok (.invokevirtual 145, 3) := by decide +kernel
theorem dw_909 : decode code 909 = .ok (.if_icmp .eq 813, 3) := by decide +kernel
theorem dw_912 : decode code 912 = .ok (.iconst 0, 1) := by decide +kernel
theorem dw_913 : decode code 913 = .ok (.ireturn, 1) := by decide +kernel
theorem dw_914 : decode code 914 = .ok (.aload_n 1, 1) := by decide +kernel
theorem dw_915 : decode code 915 = .ok (.aload_n 0, 1) := by decide +kernel
theorem dw_916 : decode code 916 = .ok (.iload 4, 2) := by decide +kernel
theorem dw_918 : decode code 918 = .ok (.iconst 1, 1) := by decide +kernel
theorem dw_919 : decode code 919 = .ok (.iadd, 1) := by decide +kernel
theorem dw_920 : decode code 920 = .ok (.iaload, 1) := by decide +kernel
theorem dw_921 : decode code 921 = .ok (.invokevirtual 146, 3) := by decide +kernel
theorem dw_924 : decode code 924 = .ok (.aload_n 2, 1) := by decide +kernel
theorem dw_925 : decode code 925 = .ok (.aload_n 0, 1) := by decide +kernel
theorem dw_926 : decode code 926 = .ok (.iload 4, 2) := by decide +kernel
theorem dw_928 : decode code 928 = .ok (.iconst 1, 1) := by decide +kernel
theorem dw_929 : decode code 929 = .ok (.iadd, 1) := by decide +kernel
theorem dw_930 : decode code 930 = .ok (.iaload, 1) := by decide +kernel
theorem dw_931 : decode code 931 = .ok (.invokevirtual 149, 3) := by decide +kernel
theorem dw_934 : decode code 934 = .ok (.if_icmp .eq 788, 3) := by decide +kernel
theorem dw_937 : decode code 937 = .ok (.iconst 0, 1) := by decide +kernel
theorem dw_938 : decode code 938 = .ok (.ireturn, 1) := by decide +kernel
theorem dw_939 : decode code 939 = .ok (.aload_n 1, 1) := by decide +kernel
theorem dw_940 : decode code 940 = .ok (.aload_n 0, 1) := by decide +kernel
theorem dw_941 : decode code 941 = .ok (.iload 4, 2) := by decide +kernel
theorem dw_943 : decode code 943 = .ok (.iconst 1, 1) := by decide +kernel
theorem dw_944 : decode code 944 = .ok (.iadd, 1) := by decide +kernel
theorem dw_945 : decode code 945 = .ok (.iaload, 1) := by decide +kernel
theorem dw_946 : decode code 946 = .ok (.invokevirtual 150, 3) := by decide +kernel
theorem dw_949 : decode code 949 = .ok (.aload_n 2, 1) := by decide +kernel
theorem dw_950 : decode code 950 = .ok (.aload_n 0, 1) := by decide +kernel
theorem dw_951 : decode code 951 = .ok (.iload 4, 2) := by decide +kernel
theorem dw_953 : decode code 953 = .ok (.iconst 1, 1) := by decide +kernel
theorem dw_954 : decode code 954 = .ok (.iadd, 1) := by decide +kernel
theorem dw_955 : decode code 955 = .ok (.iaload, 1) := by decide +kernel
theorem dw_956 : decode code 956 = .ok (.invokevirtual 153, 3) := by decide +kernel
theorem dw_959 : decode code 959 = .ok (.if_icmp .eq 763, 3) := by decide +kernel
theorem dw_962 : decode code 962 = .ok (.iconst 0, 1) := by decide +kernel
theorem dw_963 : decode code 963 = .ok (.ireturn, 1) := by decide +kernel
theorem dw_964 : decode code 964 = .ok (.aload_n 1, 1) := by decide +kernel
theorem dw_965 : decode code 965 = .ok (.invokevirtual 154, 3) := by decide +kernel
theorem dw_968 : decode code 968 = .ok (.aload_n 2, 1) := by decide +kernel
theorem dw_969 : decode code 969 = .ok (.invokevirtual 157, 3) := by decide +kernel
theorem dw_972 : decode code 972 = .ok (.if_icmp .eq 750, 3) := by decide +kernel
theorem dw_975 : decode code 975 = .ok (.iconst 0, 1) := by decide +kernel
theorem dw_976 : decode code 976 = .ok (.ireturn, 1) := by decide +kernel
theorem dw_977 : decode code 977 = .ok (.aload_n 1, 1) := by decide +kernel
theorem dw_978 : decode code 978 = .ok (.aload_n 0, 1) := by decide +kernel
theorem dw_979 : decode code 979 = .ok (.iload 4, 2) := by decide +kernel
theorem dw_981 : decode code 981 = .ok (.iconst 1, 1) := by decide +kernel
theorem dw_982 : decode code 982 = .ok (.iadd, 1) := by decide +kernel
theorem dw_983 : decode code 983 = .ok (.iaload, 1) := by decide +kernel
theorem dw_984 : decode code 984 = .ok (.aload_n 3, 1) := by decide +kernel
theorem dw_985 : decode code 985 = .ok (.invokestatic 158, 3) := by decide +kernel
theorem dw_988 : decode code 988 = .ok (.istore 5, 2) := by decide +kernel
theorem dw_990 : decode code 990 = .ok (.aload_n 2, 1) := by decide +kernel
theorem dw_991 : decode code 991 = .ok (.aload_n 0, 1) := by decide +kernel
theorem dw_992 : decode code 992 = .ok (.iload 4, 2) := by decide +kernel
theorem dw_994 : decode code 994 = .ok (.iconst 1, 1) := by decide +kernel
theorem dw_995 : decode code 995 = .ok (.iadd, 1) := by decide +kernel
theorem dw_996 : decode code 996 = .ok (.iaload, 1) := by decide +kernel
theorem dw_997 : decode code 997 = .ok (.invokevirtual 160, 3) := by decide +kernel
theorem dw_1000 : decode code 1000 = .ok (.lstore 6, 2) := by decide +kernel
theorem dw_1002 : decode code 1002 = .ok (.aload_n 2, 1) := by decide +kernel
theorem dw_1003 : decode code 1003 = .ok (.invokevirtual 105, 3) := by decide +kernel
theorem dw_1006 : decode code 1006 = .ok (.iload 5, 2) := by decide +kernel
theorem dw_1008 : decode code 1008 = .ok (.if_icmp .eq 5, 3) := by decide +kernel
theorem dw_1011 : decode code 1011 = .ok (.iconst 0, 1) := by decide +kernel
theorem dw_1012 : decode code 1012 = .ok (.ireturn, 1) := by decide +kernel
theorem dw_1013 : decode code 1013 = .ok (.iload 5, 2) := by decide +kernel
theorem dw_1015 : decode code 1015 = .ok (.ifCond .ne 14, 3) := by decide +kernel
theorem dw_1018 : decode code 1018 = .ok (.aload_n 3, 1) := by decide +kernel
theorem dw_1019 : decode code 1019 = .ok (.iconst 0, 1) := by decide +kernel
theorem dw_1020 : decode code 1020 = .ok (.laload, 1) := by decide +kernel
theorem dw_1021 : decode code 1021 = .ok (.lload 6, 2) := by decide +kernel
theorem dw_1023 : decode code 1023 = .ok (.lcmp, 1) := by decide +kernel
theorem dw_1024 : decode code 1024 = .ok (.ifCond .eq 5, 3) := by decide +kernel
theorem dw_1027 : decode code 1027 = .ok (.iconst 0, 1) := by decide +kernel
theorem dw_1028 : decode code 1028 = .ok (.ireturn, 1) := by decide +kernel
theorem dw_1029 : decode code 1029 = .ok (.goto 693, 3) := by decide +kernel
theorem dw_1032 : decode code 1032 = .ok (.aload_n 1, 1) := by decide +kernel
theorem dw_1033 : decode code 1033 = .ok (.invokevirtual 161, 3) := by decide +kernel
theorem dw_1036 : decode code 1036 = .ok (.aload_n 2, 1) := by decide +kernel
theorem dw_1037 : decode code 1037 = .ok (.invokevirtual 164, 3) := by decide +kernel
theorem dw_1040 : decode code 1040 = .ok (.if_icmp .eq 682, 3) := by decide +kernel
theorem dw_1043 : decode code 1043 = .ok (.iconst 0, 1) := by decide +kernel
theorem dw_1044 : decode code 1044 = .ok (.ireturn, 1) := by decide +kernel
theorem dw_1045 : decode code 1045 = .ok (.aload_n 1, 1) := by decide +kernel
theorem dw_1046 : decode code 1046 = .ok (.aload_n 0, 1) := by decide +kernel
theorem dw_1047 : decode code 1047 = .ok (.iload 4, 2) := by decide +kernel
theorem dw_1049 : decode code 1049 = .ok (.iconst 1, 1) := by decide +kernel
theorem dw_1050 : decode code 1050 = .ok (.iadd, 1) := by decide +kernel
theorem dw_1051 : decode code 1051 = .ok (.iaload, 1) := by decide +kernel
theorem dw_1052 : decode code 1052 = .ok (.aload_n 0, 1) := by decide +kernel
theorem dw_1053 : decode code 1053 = .ok (.iload 4, 2) := by decide +kernel
theorem dw_1055 : decode code 1055 = .ok (.iconst 2, 1) := by decide +kernel
theorem dw_1056 : decode code 1056 = .ok (.iadd, 1) := by decide +kernel
theorem dw_1057 : decode code 1057 = .ok (.iaload, 1) := by decide +kernel
