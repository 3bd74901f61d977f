/-! ===== the law, decoded ===== -/
theorem xr_786 : xd5 786 1 := by decide +kernel
theorem xr_791 : xd5 791 2 := by decide +kernel
theorem xd_796 : decode code 796 = .ok (.invokevirtual 105, 3) := by decide +kernel
theorem xd_799 : decode code 799 = .ok (.if_icmp .eq 381, 3) := by decide +kernel
theorem xd_802 : decode code 802 = .ok (.iconst 0, 1) := by decide +kernel
theorem xd_803 : decode code 803 = .ok (.ireturn, 1) := by decide +kernel
theorem xd_804 : decode code 804 = .ok (.aload_n 1, 1) := by decide +kernel
theorem xd_805 : decode code 805 = .ok (.invokevirtual 106, 3) := by decide +kernel
theorem xd_808 : decode code 808 = .ok (.aload_n 2, 1) := by decide +kernel
theorem xd_809 : decode code 809 = .ok (.invokevirtual 109, 3) := by decide +kernel
theorem xd_812 : decode code 812 = .ok (.if_icmp .eq 368, 3) := by decide +kernel
theorem xd_815 : decode code 815 = .ok (.iconst 0, 1) := by decide +kernel
theorem xd_816 : decode code 816 = .ok (.ireturn, 1) := by decide +kernel
theorem xd_817 : decode code 817 = .ok (.aload_n 1, 1) := by decide +kernel
theorem xd_818 : decode code 818 = .ok (.invokevirtual 110, 3) := by decide +kernel
theorem xd_821 : decode code 821 = .ok (.aload_n 2, 1) := by decide +kernel
theorem xd_822 : decode code 822 = .ok (.invokevirtual 113, 3) := by decide +kernel
theorem xd_825 : decode code 825 = .ok (.if_icmp .eq 355, 3) := by decide +kernel
theorem xd_828 : decode code 828 = .ok (.iconst 0, 1) := by decide +kernel
theorem xd_829 : decode code 829 = .ok (.ireturn, 1) := by decide +kernel
theorem xd_830 : decode code 830 = .ok (.aload_n 1, 1) := by decide +kernel
theorem xr_831 : xd5 831 1 := by decide +kernel
theorem xr_836 : xd5 836 2 := by decide +kernel
theorem xr_841 : xd5 841 3 := by decide +kernel
theorem xr_846 : xd5 846 4 := by decide +kernel
theorem xr_851 : xd5 851 5 := by decide +kernel
theorem xr_856 : xd6 856 6 := by decide +kernel
theorem xd_862 : decode code 862 = .ok (.invokevirtual 114, 3) := by decide +kernel
theorem xd_865 : decode code 865 = .ok (.aload_n 2, 1) := by decide +kernel
theorem xr_866 : xd5 866 1 := by decide +kernel
theorem xr_871 : xd5 871 2 := by decide +kernel
theorem xr_876 : xd5 876 3 := by decide +kernel
theorem xr_881 : xd5 881 4 := by decide +kernel
theorem xr_886 : xd5 886 5 := by decide +kernel
theorem xr_891 : xd6 891 6 := by decide +kernel
theorem xd_897 : decode code 897 = .ok (.invokevirtual 118, 3) := by decide +kernel
theorem xd_900 : decode code 900 = .ok (.if_icmp .eq 280, 3) := by decide +kernel
theorem xd_903 : decode code 903 = .ok (.iconst 0, 1) := by decide +kernel
theorem xd_904 : decode code 904 = .ok (.ireturn, 1) := by decide +kernel
theorem xd_905 : decode code 905 = .ok (.aload_n 1, 1) := by decide +kernel
theorem xr_906 : xd5 906 1 := by decide +kernel
theorem xr_911 : xd5 911 2 := by decide +kernel
theorem xr_916 : xd5 916 3 := by decide +kernel
theorem xr_921 : xd5 921 4 := by decide +kernel
theorem xr_926 : xd5 926 5 := by decide +kernel
theorem xd_931 : decode code 931 = .ok (.invokevirtual 119, 3) := by decide +kernel
theorem xd_934 : decode code 934 = .ok (.aload_n 2, 1) := by decide +kernel
theorem xr_935 : xd5 935 1 := by decide +kernel
theorem xr_940 : xd5 940 2 := by decide +kernel
theorem xr_945 : xd5 945 3 := by decide +kernel
theorem xr_950 : xd5 950 4 := by decide +kernel
theorem xr_955 : xd5 955 5 := by decide +kernel
theorem xd_960 : decode code 960 = .ok (.invokevirtual 123, 3) := by decide +kernel
theorem xd_963 : decode code 963 = .ok (.if_icmp .eq 217, 3) := by decide +kernel
theorem xd_966 : decode code 966 = .ok (.iconst 0, 1) := by decide +kernel
theorem xd_967 : decode code 967 = .ok (.ireturn, 1) := by decide +kernel
theorem xd_968 : decode code 968 = .ok (.aload_n 1, 1) := by decide +kernel
theorem xr_969 : xd5 969 1 := by decide +kernel
theorem xr_974 : xd5 974 2 := by decide +kernel
theorem xr_979 : xd5 979 3 := by decide +kernel
theorem xd_984 : decode code 984 = .ok (.invokevirtual 124, 3) := by decide +kernel
theorem xd_987 : decode code 987 = .ok (.aload_n 2, 1) := by decide +kernel
theorem xr_988 : xd5 988 1 := by decide +kernel
theorem xr_993 : xd5 993 2 := by decide +kernel
theorem xr_998 : xd5 998 3 := by decide +kernel
theorem xd_1003 : decode code 1003 = .ok (.invokevirtual 127, 3) := by decide +kernel
theorem xd_1006 : decode code 1006 = .ok (.if_icmp .eq 174, 3) := by decide +kernel
theorem xd_1009 : decode code 1009 = .ok (.iconst 0, 1) := by decide +kernel
theorem xd_1010 : decode code 1010 = .ok (.ireturn, 1) := by decide +kernel
theorem xd_1011 : decode code 1011 = .ok (.aload_n 1, 1) := by decide +kernel
theorem xr_1012 : xd5 1012 1 := by decide +kernel
theorem xd_1017 : decode code 1017 = .ok (.invokevirtual 128, 3) := by decide +kernel
theorem xd_1020 : decode code 1020 = .ok (.aload_n 2, 1) := by decide +kernel
theorem xr_1021 : xd5 1021 1 := by decide +kernel
theorem xd_1026 : decode code 1026 = .ok (.invokevirtual 131, 3) := by decide +kernel
theorem xd_1029 : decode code 1029 = .ok (.if_icmp .eq 151, 3) := by decide +kernel
theorem xd_1032 : decode code 1032 = .ok (.iconst 0, 1) := by decide +kernel
theorem xd_1033 : decode code 1033 = .ok (.ireturn, 1) := by decide +kernel
theorem xd_1034 : decode code 1034 = .ok (.aload_n 1, 1) := by decide +kernel
theorem xr_1035 : xd5 1035 1 := by decide +kernel
theorem xr_1040 : xd5 1040 2 := by decide +kernel
theorem xr_1045 : xd5 1045 3 := by decide +kernel
theorem xr_1050 : xd5 1050 4 := by decide +kernel
theorem xd_1055 : decode code 1055 = .ok (.i2l, 1) := by decide +kernel
theorem xd_1056 : decode code 1056 = .ok (.bipush 32, 2) := by decide +kernel
theorem xd_1058 : decode code 1058 = .ok (.lshl, 1) := by decide +kernel
theorem xr_1059 : xd5 1059 5 := by decide +kernel
theorem xd_1064 : decode code 1064 = .ok (.i2l, 1) := by decide +kernel
theorem xd_1065 : decode code 1065 = .ok (.ldc2_w 132, 3) := by decide +kernel
theorem xd_1068 : decode code 1068 = .ok (.land, 1) := by decide +kernel
theorem xd_1069 : decode code 1069 = .ok (.lor, 1) := by decide +kernel
theorem xd_1070 : decode code 1070 = .ok (.invokevirtual 134, 3) := by decide +kernel
theorem xd_1073 : decode code 1073 = .ok (.aload_n 2, 1) := by decide +kernel
theorem xr_1074 : xd5 1074 1 := by decide +kernel
theorem xr_1079 : xd5 1079 2 := by decide +kernel
theorem xr_1084 : xd5 1084 3 := by decide +kernel
theorem xr_1089 : xd5 1089 4 := by decide +kernel
theorem xd_1094 : decode code 1094 = .ok (.i2l, 1) := by decide +kernel
theorem xd_1095 : decode code 1095 = .ok (.bipush 32, 2) := by decide +kernel
theorem xd_1097 : decode code 1097 = .ok (.lshl, 1) := by decide +kernel
theorem xr_1098 : xd5 1098 5 := by decide +kernel
theorem xd_1103 : decode code 1103 = .ok (.i2l, 1) := by decide +kernel
theorem xd_1104 : decode code 1104 = .ok (.ldc2_w 132, 3) := by decide +kernel
theorem xd_1107 : decode code 1107 = .ok (.land, 1) := by decide +kernel
theorem xd_1108 : decode code 1108 = .ok (.lor, 1) := by decide +kernel
theorem xd_1109 : decode code 1109 = .ok (.invokevirtual 138, 3) := by decide +kernel
theorem xd_1112 : decode code 1112 = .ok (.if_icmp .eq 68, 3) := by decide +kernel
theorem xd_1115 : decode code 1115 = .ok (.iconst 0, 1) := by decide +kernel
theorem xd_1116 : decode code 1116 = .ok (.ireturn, 1) := by decide +kernel
theorem xd_1117 : decode code 1117 = .ok (.aload_n 1, 1) := by decide +kernel
theorem xr_1118 : xd5 1118 1 := by decide +kernel
theorem xr_1123 : xd5 1123 2 := by decide +kernel
theorem xr_1128 : xd5 1128 3 := by decide +kernel
theorem xr_1133 : xd5 1133 4 := by decide +kernel
theorem xr_1138 : xd5 1138 5 := by decide +kernel
theorem xd_1143 : decode code 1143 = .ok (.invokevirtual 139, 3) := by decide +kernel
theorem xd_1146 : decode code 1146 = .ok (.aload_n 2, 1) := by decide +kernel
theorem xr_1147 : xd5 1147 1 := by decide +kernel
theorem xr_1152 : xd5 1152 2 := by decide +kernel
theorem xr_1157 : xd5 1157 3 := by decide +kernel
