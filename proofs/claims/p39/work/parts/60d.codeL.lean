theorem dL_law_706 : decode cL_law 706 = .ok (.iconst 3, 1) := by decide +kernel
theorem dL_law_707 : decode cL_law 707 = .ok (.iload 21, 2) := by decide +kernel
theorem dL_law_709 : decode cL_law 709 = .ok (.imul, 1) := by decide +kernel
theorem dL_law_710 : decode cL_law 710 = .ok (.iconst 1, 1) := by decide +kernel
theorem dL_law_711 : decode cL_law 711 = .ok (.iadd, 1) := by decide +kernel
theorem dL_law_712 : decode cL_law 712 = .ok (.iaload, 1) := by decide +kernel
theorem dL_law_713 : decode cL_law 713 = .ok (.iaload, 1) := by decide +kernel
theorem dL_law_714 : decode cL_law 714 = .ok (.iload 16, 2) := by decide +kernel
theorem dL_law_716 : decode cL_law 716 = .ok (.if_icmp .ne 7, 3) := by decide +kernel
theorem dL_law_719 : decode cL_law 719 = .ok (.iconst 1, 1) := by decide +kernel
theorem dL_law_720 : decode cL_law 720 = .ok (.goto 4, 3) := by decide +kernel
theorem dL_law_723 : decode cL_law 723 = .ok (.iconst 0, 1) := by decide +kernel
theorem dL_law_724 : decode cL_law 724 = .ok (.iadd, 1) := by decide +kernel
theorem dL_law_725 : decode cL_law 725 = .ok (.istore 20, 2) := by decide +kernel
theorem dL_law_727 : decode cL_law 727 = .ok (.iinc 21 1, 3) := by decide +kernel
theorem dL_law_730 : decode cL_law 730 = .ok (.goto (-52), 3) := by decide +kernel
theorem dL_law_733 : decode cL_law 733 = .ok (.aload_n 1, 1) := by decide +kernel
theorem dL_law_734 : decode cL_law 734 = .ok (.iload 16, 2) := by decide +kernel
theorem dL_law_736 : decode cL_law 736 = .ok (.invokestatic 90, 3) := by decide +kernel
theorem dL_law_739 : decode cL_law 739 = .ok (.iload 19, 2) := by decide +kernel
theorem dL_law_741 : decode cL_law 741 = .ok (.ifCond .ge 13, 3) := by decide +kernel
theorem dL_law_744 : decode cL_law 744 = .ok (.iload 20, 2) := by decide +kernel
theorem dL_law_746 : decode cL_law 746 = .ok (.ifCond .le 8, 3) := by decide +kernel
theorem dL_law_749 : decode cL_law 749 = .ok (.bipush (-2), 2) := by decide +kernel
theorem dL_law_751 : decode cL_law 751 = .ok (.goto 5, 3) := by decide +kernel
theorem dL_law_754 : decode cL_law 754 = .ok (.iload 20, 2) := by decide +kernel
theorem dL_law_756 : decode cL_law 756 = .ok (.if_icmp .eq 5, 3) := by decide +kernel
theorem dL_law_759 : decode cL_law 759 = .ok (.iconst 0, 1) := by decide +kernel
theorem dL_law_760 : decode cL_law 760 = .ok (.ireturn, 1) := by decide +kernel
theorem dL_law_761 : decode cL_law 761 = .ok (.iload 19, 2) := by decide +kernel
theorem dL_law_763 : decode cL_law 763 = .ok (.ifCond .ge 11, 3) := by decide +kernel
theorem dL_law_766 : decode cL_law 766 = .ok (.iload 20, 2) := by decide +kernel
theorem dL_law_768 : decode cL_law 768 = .ok (.ifCond .le 6, 3) := by decide +kernel
theorem dL_law_771 : decode cL_law 771 = .ok (.goto 251, 3) := by decide +kernel
theorem dL_law_774 : decode cL_law 774 = .ok (.aload 4, 2) := by decide +kernel
theorem dL_law_776 : decode cL_law 776 = .ok (.iload 12, 2) := by decide +kernel
theorem dL_law_778 : decode cL_law 778 = .ok (.aaload, 1) := by decide +kernel
theorem dL_law_779 : decode cL_law 779 = .ok (.iload 17, 2) := by decide +kernel
theorem dL_law_781 : decode cL_law 781 = .ok (.iload 18, 2) := by decide +kernel
theorem dL_law_783 : decode cL_law 783 = .ok (.iload 19, 2) := by decide +kernel
theorem dL_law_785 : decode cL_law 785 = .ok (.invokestatic 14, 3) := by decide +kernel
theorem dL_law_788 : decode cL_law 788 = .ok (.goto 165, 3) := by decide +kernel
theorem dL_law_791 : decode cL_law 791 = .ok (.iconst 0, 1) := by decide +kernel
theorem dL_law_792 : decode cL_law 792 = .ok (.istore 16, 2) := by decide +kernel
theorem dL_law_794 : decode cL_law 794 = .ok (.iconst 1, 1) := by decide +kernel
theorem dL_law_795 : decode cL_law 795 = .ok (.istore 17, 2) := by decide +kernel
theorem dL_law_797 : decode cL_law 797 = .ok (.iload 17, 2) := by decide +kernel
theorem dL_law_799 : decode cL_law 799 = .ok (.sipush 1000, 3) := by decide +kernel
theorem dL_law_802 : decode cL_law 802 = .ok (.if_icmp .ge 138, 3) := by decide +kernel
theorem dL_law_805 : decode cL_law 805 = .ok (.aload 4, 2) := by decide +kernel
theorem dL_law_807 : decode cL_law 807 = .ok (.iload 12, 2) := by decide +kernel
theorem dL_law_809 : decode cL_law 809 = .ok (.aaload, 1) := by decide +kernel
theorem dL_law_810 : decode cL_law 810 = .ok (.iload 17, 2) := by decide +kernel
theorem dL_law_812 : decode cL_law 812 = .ok (.iconst 1, 1) := by decide +kernel
theorem dL_law_813 : decode cL_law 813 = .ok (.isub, 1) := by decide +kernel
theorem dL_law_814 : decode cL_law 814 = .ok (.iaload, 1) := by decide +kernel
theorem dL_law_815 : decode cL_law 815 = .ok (.istore 18, 2) := by decide +kernel
theorem dL_law_817 : decode cL_law 817 = .ok (.aload 4, 2) := by decide +kernel
theorem dL_law_819 : decode cL_law 819 = .ok (.iload 12, 2) := by decide +kernel
theorem dL_law_821 : decode cL_law 821 = .ok (.aaload, 1) := by decide +kernel
theorem dL_law_822 : decode cL_law 822 = .ok (.iload 17, 2) := by decide +kernel
theorem dL_law_824 : decode cL_law 824 = .ok (.iaload, 1) := by decide +kernel
theorem dL_law_825 : decode cL_law 825 = .ok (.istore 19, 2) := by decide +kernel
theorem dL_law_827 : decode cL_law 827 = .ok (.iload 18, 2) := by decide +kernel
theorem dL_law_829 : decode cL_law 829 = .ok (.ifCond .lt 105, 3) := by decide +kernel
theorem dL_law_832 : decode cL_law 832 = .ok (.iload 19, 2) := by decide +kernel
theorem dL_law_834 : decode cL_law 834 = .ok (.ifCond .lt 100, 3) := by decide +kernel
theorem dL_law_837 : decode cL_law 837 = .ok (.iload 18, 2) := by decide +kernel
theorem dL_law_839 : decode cL_law 839 = .ok (.iload 19, 2) := by decide +kernel
theorem dL_law_841 : decode cL_law 841 = .ok (.if_icmp .eq 93, 3) := by decide +kernel
theorem dL_law_844 : decode cL_law 844 = .ok (.aload 5, 2) := by decide +kernel
theorem dL_law_846 : decode cL_law 846 = .ok (.iconst 3, 1) := by decide +kernel
theorem dL_law_847 : decode cL_law 847 = .ok (.iload 18, 2) := by decide +kernel
theorem dL_law_849 : decode cL_law 849 = .ok (.imul, 1) := by decide +kernel
theorem dL_law_850 : decode cL_law 850 = .ok (.iconst 1, 1) := by decide +kernel
theorem dL_law_851 : decode cL_law 851 = .ok (.iadd, 1) := by decide +kernel
theorem dL_law_852 : decode cL_law 852 = .ok (.iaload, 1) := by decide +kernel
theorem dL_law_853 : decode cL_law 853 = .ok (.iconst 1, 1) := by decide +kernel
theorem dL_law_854 : decode cL_law 854 = .ok (.if_icmp .eq 80, 3) := by decide +kernel
theorem dL_law_857 : decode cL_law 857 = .ok (.aload 5, 2) := by decide +kernel
theorem dL_law_859 : decode cL_law 859 = .ok (.iconst 3, 1) := by decide +kernel
theorem dL_law_860 : decode cL_law 860 = .ok (.iload 19, 2) := by decide +kernel
theorem dL_law_862 : decode cL_law 862 = .ok (.imul, 1) := by decide +kernel
theorem dL_law_863 : decode cL_law 863 = .ok (.iconst 1, 1) := by decide +kernel
theorem dL_law_864 : decode cL_law 864 = .ok (.iadd, 1) := by decide +kernel
theorem dL_law_865 : decode cL_law 865 = .ok (.iaload, 1) := by decide +kernel
theorem dL_law_866 : decode cL_law 866 = .ok (.iconst 1, 1) := by decide +kernel
theorem dL_law_867 : decode cL_law 867 = .ok (.if_icmp .eq 67, 3) := by decide +kernel
theorem dL_law_870 : decode cL_law 870 = .ok (.aload 5, 2) := by decide +kernel
theorem dL_law_872 : decode cL_law 872 = .ok (.iconst 3, 1) := by decide +kernel
theorem dL_law_873 : decode cL_law 873 = .ok (.iload 18, 2) := by decide +kernel
theorem dL_law_875 : decode cL_law 875 = .ok (.imul, 1) := by decide +kernel
theorem dL_law_876 : decode cL_law 876 = .ok (.iaload, 1) := by decide +kernel
theorem dL_law_877 : decode cL_law 877 = .ok (.aload 5, 2) := by decide +kernel
theorem dL_law_879 : decode cL_law 879 = .ok (.iconst 3, 1) := by decide +kernel
theorem dL_law_880 : decode cL_law 880 = .ok (.iload 19, 2) := by decide +kernel
theorem dL_law_882 : decode cL_law 882 = .ok (.imul, 1) := by decide +kernel
theorem dL_law_883 : decode cL_law 883 = .ok (.iaload, 1) := by decide +kernel
theorem dL_law_884 : decode cL_law 884 = .ok (.if_icmp .eq 6, 3) := by decide +kernel
theorem dL_law_887 : decode cL_law 887 = .ok (.goto 47, 3) := by decide +kernel
theorem dL_law_890 : decode cL_law 890 = .ok (.iload 17, 2) := by decide +kernel
theorem dL_law_892 : decode cL_law 892 = .ok (.istore 20, 2) := by decide +kernel
theorem dL_law_894 : decode cL_law 894 = .ok (.iload 20, 2) := by decide +kernel
theorem dL_law_896 : decode cL_law 896 = .ok (.sipush 1000, 3) := by decide +kernel
theorem dL_law_899 : decode cL_law 899 = .ok (.if_icmp .ge 32, 3) := by decide +kernel
theorem dL_law_902 : decode cL_law 902 = .ok (.aload 4, 2) := by decide +kernel
theorem dL_law_904 : decode cL_law 904 = .ok (.iload 12, 2) := by decide +kernel
theorem dL_law_906 : decode cL_law 906 = .ok (.aaload, 1) := by decide +kernel
theorem dL_law_907 : decode cL_law 907 = .ok (.iload 20, 2) := by decide +kernel
theorem dL_law_909 : decode cL_law 909 = .ok (.iaload, 1) := by decide +kernel
theorem dL_law_910 : decode cL_law 910 = .ok (.iload 19, 2) := by decide +kernel
theorem dL_law_912 : decode cL_law 912 = .ok (.if_icmp .ne 19, 3) := by decide +kernel
theorem dL_law_915 : decode cL_law 915 = .ok (.aload 4, 2) := by decide +kernel
theorem dL_law_917 : decode cL_law 917 = .ok (.iload 12, 2) := by decide +kernel
theorem dL_law_919 : decode cL_law 919 = .ok (.aaload, 1) := by decide +kernel
theorem dL_law_920 : decode cL_law 920 = .ok (.iload 20, 2) := by decide +kernel
theorem dL_law_922 : decode cL_law 922 = .ok (.iload 18, 2) := by decide +kernel
theorem dL_law_924 : decode cL_law 924 = .ok (.iastore, 1) := by decide +kernel
theorem dL_law_925 : decode cL_law 925 = .ok (.iinc 20 1, 3) := by decide +kernel
theorem dL_law_928 : decode cL_law 928 = .ok (.goto (-34), 3) := by decide +kernel
theorem dL_law_931 : decode cL_law 931 = .ok (.iinc 16 1, 3) := by decide +kernel
theorem dL_law_934 : decode cL_law 934 = .ok (.iinc 17 1, 3) := by decide +kernel
theorem dL_law_937 : decode cL_law 937 = .ok (.goto (-140), 3) := by decide +kernel
theorem dL_law_940 : decode cL_law 940 = .ok (.aload_n 1, 1) := by decide +kernel
theorem dL_law_941 : decode cL_law 941 = .ok (.iload 12, 2) := by decide +kernel
theorem dL_law_943 : decode cL_law 943 = .ok (.invokevirtual 93, 3) := by decide +kernel
theorem dL_law_946 : decode cL_law 946 = .ok (.iload 16, 2) := by decide +kernel
theorem dL_law_948 : decode cL_law 948 = .ok (.if_icmp .eq 5, 3) := by decide +kernel
theorem dL_law_951 : decode cL_law 951 = .ok (.iconst 0, 1) := by decide +kernel
theorem dL_law_952 : decode cL_law 952 = .ok (.ireturn, 1) := by decide +kernel
theorem dL_law_953 : decode cL_law 953 = .ok (.iconst 0, 1) := by decide +kernel
theorem dL_law_954 : decode cL_law 954 = .ok (.istore 16, 2) := by decide +kernel
theorem dL_law_956 : decode cL_law 956 = .ok (.iconst 0, 1) := by decide +kernel
theorem dL_law_957 : decode cL_law 957 = .ok (.istore 17, 2) := by decide +kernel
theorem dL_law_959 : decode cL_law 959 = .ok (.iload 17, 2) := by decide +kernel
theorem dL_law_961 : decode cL_law 961 = .ok (.aload 15, 2) := by decide +kernel
theorem dL_law_963 : decode cL_law 963 = .ok (.arraylength, 1) := by decide +kernel
theorem dL_law_964 : decode cL_law 964 = .ok (.if_icmp .ge 47, 3) := by decide +kernel
theorem dL_law_967 : decode cL_law 967 = .ok (.iload 16, 2) := by decide +kernel
theorem dL_law_969 : decode cL_law 969 = .ok (.aload 15, 2) := by decide +kernel
theorem dL_law_971 : decode cL_law 971 = .ok (.iload 17, 2) := by decide +kernel
theorem dL_law_973 : decode cL_law 973 = .ok (.iaload, 1) := by decide +kernel
theorem dL_law_974 : decode cL_law 974 = .ok (.aload 4, 2) := by decide +kernel
theorem dL_law_976 : decode cL_law 976 = .ok (.aload 6, 2) := by decide +kernel
theorem dL_law_978 : decode cL_law 978 = .ok (.iconst 3, 1) := by decide +kernel
theorem dL_law_979 : decode cL_law 979 = .ok (.iload 17, 2) := by decide +kernel
theorem dL_law_981 : decode cL_law 981 = .ok (.imul, 1) := by decide +kernel
theorem dL_law_982 : decode cL_law 982 = .ok (.iaload, 1) := by decide +kernel
theorem dL_law_983 : decode cL_law 983 = .ok (.aaload, 1) := by decide +kernel
theorem dL_law_984 : decode cL_law 984 = .ok (.aload 6, 2) := by decide +kernel
theorem dL_law_986 : decode cL_law 986 = .ok (.iconst 3, 1) := by decide +kernel
theorem dL_law_987 : decode cL_law 987 = .ok (.iload 17, 2) := by decide +kernel
theorem dL_law_989 : decode cL_law 989 = .ok (.imul, 1) := by decide +kernel
theorem dL_law_990 : decode cL_law 990 = .ok (.iconst 1, 1) := by decide +kernel
theorem dL_law_991 : decode cL_law 991 = .ok (.iadd, 1) := by decide +kernel
theorem dL_law_992 : decode cL_law 992 = .ok (.iaload, 1) := by decide +kernel
theorem dL_law_993 : decode cL_law 993 = .ok (.iaload, 1) := by decide +kernel
theorem dL_law_994 : decode cL_law 994 = .ok (.if_icmp .ne 7, 3) := by decide +kernel
theorem dL_law_997 : decode cL_law 997 = .ok (.iconst 0, 1) := by decide +kernel
theorem dL_law_998 : decode cL_law 998 = .ok (.goto 4, 3) := by decide +kernel
theorem dL_law_1001 : decode cL_law 1001 = .ok (.iconst 1, 1) := by decide +kernel
theorem dL_law_1002 : decode cL_law 1002 = .ok (.iadd, 1) := by decide +kernel
theorem dL_law_1003 : decode cL_law 1003 = .ok (.istore 16, 2) := by decide +kernel
theorem dL_law_1005 : decode cL_law 1005 = .ok (.iinc 17 1, 3) := by decide +kernel
theorem dL_law_1008 : decode cL_law 1008 = .ok (.goto (-49), 3) := by decide +kernel
theorem dL_law_1011 : decode cL_law 1011 = .ok (.aload_n 1, 1) := by decide +kernel
theorem dL_law_1012 : decode cL_law 1012 = .ok (.invokevirtual 96, 3) := by decide +kernel
theorem dL_law_1015 : decode cL_law 1015 = .ok (.iload 16, 2) := by decide +kernel
theorem dL_law_1017 : decode cL_law 1017 = .ok (.if_icmp .eq 5, 3) := by decide +kernel
theorem dL_law_1020 : decode cL_law 1020 = .ok (.iconst 0, 1) := by decide +kernel
theorem dL_law_1021 : decode cL_law 1021 = .ok (.ireturn, 1) := by decide +kernel
theorem dL_law_1022 : decode cL_law 1022 = .ok (.iinc 10 1, 3) := by decide +kernel
theorem dL_law_1025 : decode cL_law 1025 = .ok (.goto (-918), 3) := by decide +kernel
theorem dL_law_1028 : decode cL_law 1028 = .ok (.iconst 0, 1) := by decide +kernel
theorem dL_law_1029 : decode cL_law 1029 = .ok (.istore 10, 2) := by decide +kernel
theorem dL_law_1031 : decode cL_law 1031 = .ok (.iconst 0, 1) := by decide +kernel
theorem dL_law_1032 : decode cL_law 1032 = .ok (.istore 11, 2) := by decide +kernel
theorem dL_law_1034 : decode cL_law 1034 = .ok (.iload 11, 2) := by decide +kernel
theorem dL_law_1036 : decode cL_law 1036 = .ok (.iload_n 2, 1) := by decide +kernel
theorem dL_law_1037 : decode cL_law 1037 = .ok (.if_icmp .ge 38, 3) := by decide +kernel
theorem dL_law_1040 : decode cL_law 1040 = .ok (.aload_n 1, 1) := by decide +kernel
theorem dL_law_1041 : decode cL_law 1041 = .ok (.iload 11, 2) := by decide +kernel
theorem dL_law_1043 : decode cL_law 1043 = .ok (.aload 4, 2) := by decide +kernel
theorem dL_law_1045 : decode cL_law 1045 = .ok (.iload 11, 2) := by decide +kernel
theorem dL_law_1047 : decode cL_law 1047 = .ok (.aaload, 1) := by decide +kernel
theorem dL_law_1048 : decode cL_law 1048 = .ok (.aload 5, 2) := by decide +kernel
theorem dL_law_1050 : decode cL_law 1050 = .ok (.invokestatic 100, 3) := by decide +kernel
theorem dL_law_1053 : decode cL_law 1053 = .ok (.istore 12, 2) := by decide +kernel
theorem dL_law_1055 : decode cL_law 1055 = .ok (.iload 12, 2) := by decide +kernel
theorem dL_law_1057 : decode cL_law 1057 = .ok (.ifCond .ge 5, 3) := by decide +kernel
theorem dL_law_1060 : decode cL_law 1060 = .ok (.iconst 0, 1) := by decide +kernel
theorem dL_law_1061 : decode cL_law 1061 = .ok (.ireturn, 1) := by decide +kernel
theorem dL_law_1062 : decode cL_law 1062 = .ok (.iload 10, 2) := by decide +kernel
theorem dL_law_1064 : decode cL_law 1064 = .ok (.iload 12, 2) := by decide +kernel
theorem dL_law_1066 : decode cL_law 1066 = .ok (.iadd, 1) := by decide +kernel
theorem dL_law_1067 : decode cL_law 1067 = .ok (.istore 10, 2) := by decide +kernel
theorem dL_law_1069 : decode cL_law 1069 = .ok (.iinc 11 1, 3) := by decide +kernel
theorem dL_law_1072 : decode cL_law 1072 = .ok (.goto (-38), 3) := by decide +kernel
theorem dL_law_1075 : decode cL_law 1075 = .ok (.bipush 60, 2) := by decide +kernel
theorem dL_law_1077 : decode cL_law 1077 = .ok (.newarray .long, 2) := by decide +kernel
theorem dL_law_1079 : decode cL_law 1079 = .ok (.astore 11, 2) := by decide +kernel
theorem dL_law_1081 : decode cL_law 1081 = .ok (.bipush 60, 2) := by decide +kernel
theorem dL_law_1083 : decode cL_law 1083 = .ok (.newarray .int, 2) := by decide +kernel
theorem dL_law_1085 : decode cL_law 1085 = .ok (.astore 12, 2) := by decide +kernel
theorem dL_law_1087 : decode cL_law 1087 = .ok (.iconst 0, 1) := by decide +kernel
theorem dL_law_1088 : decode cL_law 1088 = .ok (.istore 13, 2) := by decide +kernel
theorem dL_law_1090 : decode cL_law 1090 = .ok (.iload 13, 2) := by decide +kernel
theorem dL_law_1092 : decode cL_law 1092 = .ok (.iload 8, 2) := by decide +kernel
theorem dL_law_1094 : decode cL_law 1094 = .ok (.if_icmp .ge 144, 3) := by decide +kernel
theorem dL_law_1097 : decode cL_law 1097 = .ok (.aload 4, 2) := by decide +kernel
theorem dL_law_1099 : decode cL_law 1099 = .ok (.aload 6, 2) := by decide +kernel
theorem dL_law_1101 : decode cL_law 1101 = .ok (.iconst 3, 1) := by decide +kernel
theorem dL_law_1102 : decode cL_law 1102 = .ok (.iload 13, 2) := by decide +kernel
theorem dL_law_1104 : decode cL_law 1104 = .ok (.imul, 1) := by decide +kernel
theorem dL_law_1105 : decode cL_law 1105 = .ok (.iaload, 1) := by decide +kernel
theorem dL_law_1106 : decode cL_law 1106 = .ok (.aaload, 1) := by decide +kernel
theorem dL_law_1107 : decode cL_law 1107 = .ok (.aload 6, 2) := by decide +kernel
theorem dL_law_1109 : decode cL_law 1109 = .ok (.iconst 3, 1) := by decide +kernel
theorem dL_law_1110 : decode cL_law 1110 = .ok (.iload 13, 2) := by decide +kernel
theorem dL_law_1112 : decode cL_law 1112 = .ok (.imul, 1) := by decide +kernel
theorem dL_law_1113 : decode cL_law 1113 = .ok (.iconst 1, 1) := by decide +kernel
theorem dL_law_1114 : decode cL_law 1114 = .ok (.iadd, 1) := by decide +kernel
theorem dL_law_1115 : decode cL_law 1115 = .ok (.iaload, 1) := by decide +kernel
theorem dL_law_1116 : decode cL_law 1116 = .ok (.iaload, 1) := by decide +kernel
theorem dL_law_1117 : decode cL_law 1117 = .ok (.istore 14, 2) := by decide +kernel
theorem dL_law_1119 : decode cL_law 1119 = .ok (.aload 11, 2) := by decide +kernel
theorem dL_law_1121 : decode cL_law 1121 = .ok (.iload 14, 2) := by decide +kernel
theorem dL_law_1123 : decode cL_law 1123 = .ok (.dup2, 1) := by decide +kernel
theorem dL_law_1124 : decode cL_law 1124 = .ok (.laload, 1) := by decide +kernel
theorem dL_law_1125 : decode cL_law 1125 = .ok (.aload 6, 2) := by decide +kernel
theorem dL_law_1127 : decode cL_law 1127 = .ok (.iconst 3, 1) := by decide +kernel
theorem dL_law_1128 : decode cL_law 1128 = .ok (.iload 13, 2) := by decide +kernel
theorem dL_law_1130 : decode cL_law 1130 = .ok (.imul, 1) := by decide +kernel
theorem dL_law_1131 : decode cL_law 1131 = .ok (.iconst 2, 1) := by decide +kernel
theorem dL_law_1132 : decode cL_law 1132 = .ok (.iadd, 1) := by decide +kernel
theorem dL_law_1133 : decode cL_law 1133 = .ok (.iaload, 1) := by decide +kernel
theorem dL_law_1134 : decode cL_law 1134 = .ok (.i2l, 1) := by decide +kernel
theorem dL_law_1135 : decode cL_law 1135 = .ok (.ladd, 1) := by decide +kernel
theorem dL_law_1136 : decode cL_law 1136 = .ok (.lastore, 1) := by decide +kernel
theorem dL_law_1137 : decode cL_law 1137 = .ok (.aload 12, 2) := by decide +kernel
theorem dL_law_1139 : decode cL_law 1139 = .ok (.iload 14, 2) := by decide +kernel
theorem dL_law_1141 : decode cL_law 1141 = .ok (.dup2, 1) := by decide +kernel
theorem dL_law_1142 : decode cL_law 1142 = .ok (.iaload, 1) := by decide +kernel
theorem dL_law_1143 : decode cL_law 1143 = .ok (.iconst 1, 1) := by decide +kernel
theorem dL_law_1144 : decode cL_law 1144 = .ok (.iadd, 1) := by decide +kernel
theorem dL_law_1145 : decode cL_law 1145 = .ok (.iastore, 1) := by decide +kernel
theorem dL_law_1146 : decode cL_law 1146 = .ok (.aload_n 1, 1) := by decide +kernel
theorem dL_law_1147 : decode cL_law 1147 = .ok (.iload 13, 2) := by decide +kernel
theorem dL_law_1149 : decode cL_law 1149 = .ok (.iconst 0, 1) := by decide +kernel
theorem dL_law_1150 : decode cL_law 1150 = .ok (.invokevirtual 104, 3) := by decide +kernel
theorem dL_law_1153 : decode cL_law 1153 = .ok (.aload 6, 2) := by decide +kernel
theorem dL_law_1155 : decode cL_law 1155 = .ok (.iconst 3, 1) := by decide +kernel
theorem dL_law_1156 : decode cL_law 1156 = .ok (.iload 13, 2) := by decide +kernel
theorem dL_law_1158 : decode cL_law 1158 = .ok (.imul, 1) := by decide +kernel
theorem dL_law_1159 : decode cL_law 1159 = .ok (.iaload, 1) := by decide +kernel
theorem dL_law_1160 : decode cL_law 1160 = .ok (.if_icmp .ne 70, 3) := by decide +kernel
theorem dL_law_1163 : decode cL_law 1163 = .ok (.aload_n 1, 1) := by decide +kernel
theorem dL_law_1164 : decode cL_law 1164 = .ok (.iload 13, 2) := by decide +kernel
theorem dL_law_1166 : decode cL_law 1166 = .ok (.iconst 1, 1) := by decide +kernel
theorem dL_law_1167 : decode cL_law 1167 = .ok (.invokevirtual 104, 3) := by decide +kernel
theorem dL_law_1170 : decode cL_law 1170 = .ok (.aload 6, 2) := by decide +kernel
theorem dL_law_1172 : decode cL_law 1172 = .ok (.iconst 3, 1) := by decide +kernel
theorem dL_law_1173 : decode cL_law 1173 = .ok (.iload 13, 2) := by decide +kernel
theorem dL_law_1175 : decode cL_law 1175 = .ok (.imul, 1) := by decide +kernel
theorem dL_law_1176 : decode cL_law 1176 = .ok (.iconst 1, 1) := by decide +kernel
theorem dL_law_1177 : decode cL_law 1177 = .ok (.iadd, 1) := by decide +kernel
theorem dL_law_1178 : decode cL_law 1178 = .ok (.iaload, 1) := by decide +kernel
theorem dL_law_1179 : decode cL_law 1179 = .ok (.if_icmp .ne 51, 3) := by decide +kernel
theorem dL_law_1182 : decode cL_law 1182 = .ok (.aload_n 1, 1) := by decide +kernel
theorem dL_law_1183 : decode cL_law 1183 = .ok (.iload 13, 2) := by decide +kernel
theorem dL_law_1185 : decode cL_law 1185 = .ok (.iconst 2, 1) := by decide +kernel
theorem dL_law_1186 : decode cL_law 1186 = .ok (.invokevirtual 104, 3) := by decide +kernel
theorem dL_law_1189 : decode cL_law 1189 = .ok (.aload 6, 2) := by decide +kernel
theorem dL_law_1191 : decode cL_law 1191 = .ok (.iconst 3, 1) := by decide +kernel
theorem dL_law_1192 : decode cL_law 1192 = .ok (.iload 13, 2) := by decide +kernel
theorem dL_law_1194 : decode cL_law 1194 = .ok (.imul, 1) := by decide +kernel
theorem dL_law_1195 : decode cL_law 1195 = .ok (.iconst 2, 1) := by decide +kernel
theorem dL_law_1196 : decode cL_law 1196 = .ok (.iadd, 1) := by decide +kernel
theorem dL_law_1197 : decode cL_law 1197 = .ok (.iaload, 1) := by decide +kernel
theorem dL_law_1198 : decode cL_law 1198 = .ok (.if_icmp .ne 32, 3) := by decide +kernel
theorem dL_law_1201 : decode cL_law 1201 = .ok (.aload_n 1, 1) := by decide +kernel
theorem dL_law_1202 : decode cL_law 1202 = .ok (.iload 13, 2) := by decide +kernel
theorem dL_law_1204 : decode cL_law 1204 = .ok (.iconst 3, 1) := by decide +kernel
theorem dL_law_1205 : decode cL_law 1205 = .ok (.invokevirtual 104, 3) := by decide +kernel
theorem dL_law_1208 : decode cL_law 1208 = .ok (.iload 14, 2) := by decide +kernel
theorem dL_law_1210 : decode cL_law 1210 = .ok (.if_icmp .ne 20, 3) := by decide +kernel
theorem dL_law_1213 : decode cL_law 1213 = .ok (.aload_n 1, 1) := by decide +kernel
theorem dL_law_1214 : decode cL_law 1214 = .ok (.iload 13, 2) := by decide +kernel
theorem dL_law_1216 : decode cL_law 1216 = .ok (.iconst 4, 1) := by decide +kernel
theorem dL_law_1217 : decode cL_law 1217 = .ok (.invokevirtual 104, 3) := by decide +kernel
theorem dL_law_1220 : decode cL_law 1220 = .ok (.aload 5, 2) := by decide +kernel
theorem dL_law_1222 : decode cL_law 1222 = .ok (.iconst 3, 1) := by decide +kernel
theorem dL_law_1223 : decode cL_law 1223 = .ok (.iload 14, 2) := by decide +kernel
theorem dL_law_1225 : decode cL_law 1225 = .ok (.imul, 1) := by decide +kernel
theorem dL_law_1226 : decode cL_law 1226 = .ok (.iaload, 1) := by decide +kernel
theorem dL_law_1227 : decode cL_law 1227 = .ok (.if_icmp .eq 5, 3) := by decide +kernel
theorem dL_law_1230 : decode cL_law 1230 = .ok (.iconst 0, 1) := by decide +kernel
theorem dL_law_1231 : decode cL_law 1231 = .ok (.ireturn, 1) := by decide +kernel
theorem dL_law_1232 : decode cL_law 1232 = .ok (.iinc 13 1, 3) := by decide +kernel
theorem dL_law_1235 : decode cL_law 1235 = .ok (.goto (-145), 3) := by decide +kernel
theorem dL_law_1238 : decode cL_law 1238 = .ok (.iconst 0, 1) := by decide +kernel
theorem dL_law_1239 : decode cL_law 1239 = .ok (.istore 13, 2) := by decide +kernel
theorem dL_law_1241 : decode cL_law 1241 = .ok (.iload 13, 2) := by decide +kernel
theorem dL_law_1243 : decode cL_law 1243 = .ok (.iload_n 2, 1) := by decide +kernel
theorem dL_law_1244 : decode cL_law 1244 = .ok (.if_icmp .ge 85, 3) := by decide +kernel
theorem dL_law_1247 : decode cL_law 1247 = .ok (.iconst 0, 1) := by decide +kernel
theorem dL_law_1248 : decode cL_law 1248 = .ok (.istore 14, 2) := by decide +kernel
theorem dL_law_1250 : decode cL_law 1250 = .ok (.iload 14, 2) := by decide +kernel
theorem dL_law_1252 : decode cL_law 1252 = .ok (.aload_n 1, 1) := by decide +kernel
theorem dL_law_1253 : decode cL_law 1253 = .ok (.iload 13, 2) := by decide +kernel
theorem dL_law_1255 : decode cL_law 1255 = .ok (.invokevirtual 56, 3) := by decide +kernel
theorem dL_law_1258 : decode cL_law 1258 = .ok (.if_icmp .ge 65, 3) := by decide +kernel
theorem dL_law_1261 : decode cL_law 1261 = .ok (.aload_n 1, 1) := by decide +kernel
theorem dL_law_1262 : decode cL_law 1262 = .ok (.aload_n 1, 1) := by decide +kernel
theorem dL_law_1263 : decode cL_law 1263 = .ok (.iload 13, 2) := by decide +kernel
theorem dL_law_1265 : decode cL_law 1265 = .ok (.iload 14, 2) := by decide +kernel
theorem dL_law_1267 : decode cL_law 1267 = .ok (.invokevirtual 39, 3) := by decide +kernel
theorem dL_law_1270 : decode cL_law 1270 = .ok (.invokevirtual 106, 3) := by decide +kernel
theorem dL_law_1273 : decode cL_law 1273 = .ok (.aload 11, 2) := by decide +kernel
theorem dL_law_1275 : decode cL_law 1275 = .ok (.aload_n 1, 1) := by decide +kernel
theorem dL_law_1276 : decode cL_law 1276 = .ok (.iload 13, 2) := by decide +kernel
theorem dL_law_1278 : decode cL_law 1278 = .ok (.iload 14, 2) := by decide +kernel
theorem dL_law_1280 : decode cL_law 1280 = .ok (.invokevirtual 39, 3) := by decide +kernel
theorem dL_law_1283 : decode cL_law 1283 = .ok (.laload, 1) := by decide +kernel
theorem dL_law_1284 : decode cL_law 1284 = .ok (.lcmp, 1) := by decide +kernel
theorem dL_law_1285 : decode cL_law 1285 = .ok (.ifCond .ne 30, 3) := by decide +kernel
theorem dL_law_1288 : decode cL_law 1288 = .ok (.aload_n 1, 1) := by decide +kernel
theorem dL_law_1289 : decode cL_law 1289 = .ok (.aload_n 1, 1) := by decide +kernel
theorem dL_law_1290 : decode cL_law 1290 = .ok (.iload 13, 2) := by decide +kernel
theorem dL_law_1292 : decode cL_law 1292 = .ok (.iload 14, 2) := by decide +kernel
