theorem d_La_820 : decode code 820 = .ok (.iaload, 1) := by decide +kernel
theorem d_La_821 : decode code 821 = .ok (.invokevirtual 94, 3) := by decide +kernel
theorem d_La_824 : decode code 824 = .ok (.if_icmp .eq 1181, 3) := by decide +kernel
theorem d_La_827 : decode code 827 = .ok (.iconst 0, 1) := by decide +kernel
theorem d_La_828 : decode code 828 = .ok (.ireturn, 1) := by decide +kernel
theorem d_La_829 : decode code 829 = .ok (.aload_n 1, 1) := by decide +kernel
theorem d_La_830 : decode code 830 = .ok (.invokevirtual 95, 3) := by decide +kernel
theorem d_La_833 : decode code 833 = .ok (.aload_n 2, 1) := by decide +kernel
theorem d_La_834 : decode code 834 = .ok (.invokevirtual 98, 3) := by decide +kernel
theorem d_La_837 : decode code 837 = .ok (.if_icmp .eq 1168, 3) := by decide +kernel
theorem d_La_840 : decode code 840 = .ok (.iconst 0, 1) := by decide +kernel
theorem d_La_841 : decode code 841 = .ok (.ireturn, 1) := by decide +kernel
theorem d_La_842 : decode code 842 = .ok (.aload_n 1, 1) := by decide +kernel
theorem d_La_843 : decode code 843 = .ok (.invokevirtual 99, 3) := by decide +kernel
theorem d_La_846 : decode code 846 = .ok (.aload_n 2, 1) := by decide +kernel
theorem d_La_847 : decode code 847 = .ok (.invokevirtual 102, 3) := by decide +kernel
theorem d_La_850 : decode code 850 = .ok (.if_icmp .eq 1155, 3) := by decide +kernel
theorem d_La_853 : decode code 853 = .ok (.iconst 0, 1) := by decide +kernel
theorem d_La_854 : decode code 854 = .ok (.ireturn, 1) := by decide +kernel
theorem d_La_855 : decode code 855 = .ok (.aload_n 1, 1) := by decide +kernel
theorem d_La_856 : decode code 856 = .ok (.aload_n 0, 1) := by decide +kernel
theorem d_La_857 : decode code 857 = .ok (.iload_n 3, 1) := by decide +kernel
theorem d_La_858 : decode code 858 = .ok (.iconst 1, 1) := by decide +kernel
theorem d_La_859 : decode code 859 = .ok (.iadd, 1) := by decide +kernel
theorem d_La_860 : decode code 860 = .ok (.iaload, 1) := by decide +kernel
theorem d_La_861 : decode code 861 = .ok (.aload_n 0, 1) := by decide +kernel
theorem d_La_862 : decode code 862 = .ok (.iload_n 3, 1) := by decide +kernel
theorem d_La_863 : decode code 863 = .ok (.iconst 2, 1) := by decide +kernel
theorem d_La_864 : decode code 864 = .ok (.iadd, 1) := by decide +kernel
theorem d_La_865 : decode code 865 = .ok (.iaload, 1) := by decide +kernel
theorem d_La_866 : decode code 866 = .ok (.ifCond .eq 7, 3) := by decide +kernel
theorem d_La_869 : decode code 869 = .ok (.iconst 1, 1) := by decide +kernel
theorem d_La_870 : decode code 870 = .ok (.goto 4, 3) := by decide +kernel
theorem d_La_873 : decode code 873 = .ok (.iconst 0, 1) := by decide +kernel
theorem d_La_874 : decode code 874 = .ok (.invokevirtual 103, 3) := by decide +kernel
theorem d_La_877 : decode code 877 = .ok (.aload_n 2, 1) := by decide +kernel
theorem d_La_878 : decode code 878 = .ok (.aload_n 0, 1) := by decide +kernel
theorem d_La_879 : decode code 879 = .ok (.iload_n 3, 1) := by decide +kernel
theorem d_La_880 : decode code 880 = .ok (.iconst 1, 1) := by decide +kernel
theorem d_La_881 : decode code 881 = .ok (.iadd, 1) := by decide +kernel
theorem d_La_882 : decode code 882 = .ok (.iaload, 1) := by decide +kernel
theorem d_La_883 : decode code 883 = .ok (.aload_n 0, 1) := by decide +kernel
theorem d_La_884 : decode code 884 = .ok (.iload_n 3, 1) := by decide +kernel
theorem d_La_885 : decode code 885 = .ok (.iconst 2, 1) := by decide +kernel
theorem d_La_886 : decode code 886 = .ok (.iadd, 1) := by decide +kernel
theorem d_La_887 : decode code 887 = .ok (.iaload, 1) := by decide +kernel
theorem d_La_888 : decode code 888 = .ok (.ifCond .eq 7, 3) := by decide +kernel
theorem d_La_891 : decode code 891 = .ok (.iconst 1, 1) := by decide +kernel
theorem d_La_892 : decode code 892 = .ok (.goto 4, 3) := by decide +kernel
theorem d_La_895 : decode code 895 = .ok (.iconst 0, 1) := by decide +kernel
theorem d_La_896 : decode code 896 = .ok (.invokevirtual 107, 3) := by decide +kernel
theorem d_La_899 : decode code 899 = .ok (.if_icmp .eq 1106, 3) := by decide +kernel
theorem d_La_902 : decode code 902 = .ok (.iconst 0, 1) := by decide +kernel
theorem d_La_903 : decode code 903 = .ok (.ireturn, 1) := by decide +kernel
theorem d_La_904 : decode code 904 = .ok (.aload_n 1, 1) := by decide +kernel
theorem d_La_905 : decode code 905 = .ok (.aload_n 0, 1) := by decide +kernel
theorem d_La_906 : decode code 906 = .ok (.iload_n 3, 1) := by decide +kernel
theorem d_La_907 : decode code 907 = .ok (.iconst 1, 1) := by decide +kernel
theorem d_La_908 : decode code 908 = .ok (.iadd, 1) := by decide +kernel
theorem d_La_909 : decode code 909 = .ok (.iaload, 1) := by decide +kernel
theorem d_La_910 : decode code 910 = .ok (.invokevirtual 108, 3) := by decide +kernel
theorem d_La_913 : decode code 913 = .ok (.aload_n 2, 1) := by decide +kernel
theorem d_La_914 : decode code 914 = .ok (.aload_n 0, 1) := by decide +kernel
theorem d_La_915 : decode code 915 = .ok (.iload_n 3, 1) := by decide +kernel
theorem d_La_916 : decode code 916 = .ok (.iconst 1, 1) := by decide +kernel
theorem d_La_917 : decode code 917 = .ok (.iadd, 1) := by decide +kernel
theorem d_La_918 : decode code 918 = .ok (.iaload, 1) := by decide +kernel
theorem d_La_919 : decode code 919 = .ok (.invokevirtual 111, 3) := by decide +kernel
theorem d_La_922 : decode code 922 = .ok (.if_icmp .eq 1083, 3) := by decide +kernel
theorem d_La_925 : decode code 925 = .ok (.iconst 0, 1) := by decide +kernel
theorem d_La_926 : decode code 926 = .ok (.ireturn, 1) := by decide +kernel
theorem d_La_927 : decode code 927 = .ok (.aload_n 1, 1) := by decide +kernel
theorem d_La_928 : decode code 928 = .ok (.aload_n 0, 1) := by decide +kernel
theorem d_La_929 : decode code 929 = .ok (.iload_n 3, 1) := by decide +kernel
theorem d_La_930 : decode code 930 = .ok (.iconst 1, 1) := by decide +kernel
theorem d_La_931 : decode code 931 = .ok (.iadd, 1) := by decide +kernel
theorem d_La_932 : decode code 932 = .ok (.iaload, 1) := by decide +kernel
theorem d_La_933 : decode code 933 = .ok (.invokevirtual 112, 3) := by decide +kernel
theorem d_La_936 : decode code 936 = .ok (.aload_n 2, 1) := by decide +kernel
theorem d_La_937 : decode code 937 = .ok (.aload_n 0, 1) := by decide +kernel
theorem d_La_938 : decode code 938 = .ok (.iload_n 3, 1) := by decide +kernel
theorem d_La_939 : decode code 939 = .ok (.iconst 1, 1) := by decide +kernel
theorem d_La_940 : decode code 940 = .ok (.iadd, 1) := by decide +kernel
theorem d_La_941 : decode code 941 = .ok (.iaload, 1) := by decide +kernel
theorem d_La_942 : decode code 942 = .ok (.invokevirtual 115, 3) := by decide +kernel
theorem d_La_945 : decode code 945 = .ok (.if_icmp .eq 1060, 3) := by decide +kernel
theorem d_La_948 : decode code 948 = .ok (.iconst 0, 1) := by decide +kernel
theorem d_La_949 : decode code 949 = .ok (.ireturn, 1) := by decide +kernel
theorem d_La_950 : decode code 950 = .ok (.aload_n 1, 1) := by decide +kernel
theorem d_La_951 : decode code 951 = .ok (.invokevirtual 116, 3) := by decide +kernel
theorem d_La_954 : decode code 954 = .ok (.aload_n 2, 1) := by decide +kernel
theorem d_La_955 : decode code 955 = .ok (.invokevirtual 119, 3) := by decide +kernel
theorem d_La_958 : decode code 958 = .ok (.if_icmp .eq 1047, 3) := by decide +kernel
theorem d_La_961 : decode code 961 = .ok (.iconst 0, 1) := by decide +kernel
theorem d_La_962 : decode code 962 = .ok (.ireturn, 1) := by decide +kernel
theorem d_La_963 : decode code 963 = .ok (.aload_n 1, 1) := by decide +kernel
theorem d_La_964 : decode code 964 = .ok (.invokevirtual 120, 3) := by decide +kernel
theorem d_La_967 : decode code 967 = .ok (.aload_n 2, 1) := by decide +kernel
theorem d_La_968 : decode code 968 = .ok (.invokevirtual 123, 3) := by decide +kernel
theorem d_La_971 : decode code 971 = .ok (.if_icmp .eq 1034, 3) := by decide +kernel
theorem d_La_974 : decode code 974 = .ok (.iconst 0, 1) := by decide +kernel
theorem d_La_975 : decode code 975 = .ok (.ireturn, 1) := by decide +kernel
theorem d_La_976 : decode code 976 = .ok (.aload_n 1, 1) := by decide +kernel
theorem d_La_977 : decode code 977 = .ok (.aload_n 0, 1) := by decide +kernel
theorem d_La_978 : decode code 978 = .ok (.iload_n 3, 1) := by decide +kernel
theorem d_La_979 : decode code 979 = .ok (.iconst 1, 1) := by decide +kernel
theorem d_La_980 : decode code 980 = .ok (.iadd, 1) := by decide +kernel
theorem d_La_981 : decode code 981 = .ok (.iaload, 1) := by decide +kernel
theorem d_La_982 : decode code 982 = .ok (.aload_n 0, 1) := by decide +kernel
theorem d_La_983 : decode code 983 = .ok (.iload_n 3, 1) := by decide +kernel
theorem d_La_984 : decode code 984 = .ok (.iconst 2, 1) := by decide +kernel
theorem d_La_985 : decode code 985 = .ok (.iadd, 1) := by decide +kernel
theorem d_La_986 : decode code 986 = .ok (.iaload, 1) := by decide +kernel
theorem d_La_987 : decode code 987 = .ok (.aload_n 0, 1) := by decide +kernel
theorem d_La_988 : decode code 988 = .ok (.iload_n 3, 1) := by decide +kernel
theorem d_La_989 : decode code 989 = .ok (.iconst 3, 1) := by decide +kernel
theorem d_La_990 : decode code 990 = .ok (.iadd, 1) := by decide +kernel
theorem d_La_991 : decode code 991 = .ok (.iaload, 1) := by decide +kernel
theorem d_La_992 : decode code 992 = .ok (.invokevirtual 124, 3) := by decide +kernel
theorem d_La_995 : decode code 995 = .ok (.aload_n 2, 1) := by decide +kernel
theorem d_La_996 : decode code 996 = .ok (.aload_n 0, 1) := by decide +kernel
theorem d_La_997 : decode code 997 = .ok (.iload_n 3, 1) := by decide +kernel
theorem d_La_998 : decode code 998 = .ok (.iconst 1, 1) := by decide +kernel
theorem d_La_999 : decode code 999 = .ok (.iadd, 1) := by decide +kernel
theorem d_La_1000 : decode code 1000 = .ok (.iaload, 1) := by decide +kernel
theorem d_La_1001 : decode code 1001 = .ok (.aload_n 0, 1) := by decide +kernel
theorem d_La_1002 : decode code 1002 = .ok (.iload_n 3, 1) := by decide +kernel
theorem d_La_1003 : decode code 1003 = .ok (.iconst 2, 1) := by decide +kernel
theorem d_La_1004 : decode code 1004 = .ok (.iadd, 1) := by decide +kernel
theorem d_La_1005 : decode code 1005 = .ok (.iaload, 1) := by decide +kernel
theorem d_La_1006 : decode code 1006 = .ok (.aload_n 0, 1) := by decide +kernel
theorem d_La_1007 : decode code 1007 = .ok (.iload_n 3, 1) := by decide +kernel
theorem d_La_1008 : decode code 1008 = .ok (.iconst 3, 1) := by decide +kernel
theorem d_La_1009 : decode code 1009 = .ok (.iadd, 1) := by decide +kernel
theorem d_La_1010 : decode code 1010 = .ok (.iaload, 1) := by decide +kernel
theorem d_La_1011 : decode code 1011 = .ok (.invokevirtual 128, 3) := by decide +kernel
theorem d_La_1014 : decode code 1014 = .ok (.if_icmp .eq 991, 3) := by decide +kernel
theorem d_La_1017 : decode code 1017 = .ok (.iconst 0, 1) := by decide +kernel
theorem d_La_1018 : decode code 1018 = .ok (.ireturn, 1) := by decide +kernel
theorem d_La_1019 : decode code 1019 = .ok (.aload_n 1, 1) := by decide +kernel
theorem d_La_1020 : decode code 1020 = .ok (.aload_n 0, 1) := by decide +kernel
theorem d_La_1021 : decode code 1021 = .ok (.iload_n 3, 1) := by decide +kernel
theorem d_La_1022 : decode code 1022 = .ok (.iconst 1, 1) := by decide +kernel
theorem d_La_1023 : decode code 1023 = .ok (.iadd, 1) := by decide +kernel
theorem d_La_1024 : decode code 1024 = .ok (.iaload, 1) := by decide +kernel
theorem d_La_1025 : decode code 1025 = .ok (.aload_n 0, 1) := by decide +kernel
theorem d_La_1026 : decode code 1026 = .ok (.iload_n 3, 1) := by decide +kernel
theorem d_La_1027 : decode code 1027 = .ok (.iconst 2, 1) := by decide +kernel
theorem d_La_1028 : decode code 1028 = .ok (.iadd, 1) := by decide +kernel
theorem d_La_1029 : decode code 1029 = .ok (.iaload, 1) := by decide +kernel
theorem d_La_1030 : decode code 1030 = .ok (.ifCond .eq 7, 3) := by decide +kernel
theorem d_La_1033 : decode code 1033 = .ok (.iconst 1, 1) := by decide +kernel
theorem d_La_1034 : decode code 1034 = .ok (.goto 4, 3) := by decide +kernel
theorem d_La_1037 : decode code 1037 = .ok (.iconst 0, 1) := by decide +kernel
theorem d_La_1038 : decode code 1038 = .ok (.invokevirtual 129, 3) := by decide +kernel
theorem d_La_1041 : decode code 1041 = .ok (.aload_n 2, 1) := by decide +kernel
theorem d_La_1042 : decode code 1042 = .ok (.aload_n 0, 1) := by decide +kernel
theorem d_La_1043 : decode code 1043 = .ok (.iload_n 3, 1) := by decide +kernel
theorem d_La_1044 : decode code 1044 = .ok (.iconst 1, 1) := by decide +kernel
theorem d_La_1045 : decode code 1045 = .ok (.iadd, 1) := by decide +kernel
theorem d_La_1046 : decode code 1046 = .ok (.iaload, 1) := by decide +kernel
theorem d_La_1047 : decode code 1047 = .ok (.aload_n 0, 1) := by decide +kernel
theorem d_La_1048 : decode code 1048 = .ok (.iload_n 3, 1) := by decide +kernel
theorem d_La_1049 : decode code 1049 = .ok (.iconst 2, 1) := by decide +kernel
theorem d_La_1050 : decode code 1050 = .ok (.iadd, 1) := by decide +kernel
theorem d_La_1051 : decode code 1051 = .ok (.iaload, 1) := by decide +kernel
theorem d_La_1052 : decode code 1052 = .ok (.ifCond .eq 7, 3) := by decide +kernel
theorem d_La_1055 : decode code 1055 = .ok (.iconst 1, 1) := by decide +kernel
theorem d_La_1056 : decode code 1056 = .ok (.goto 4, 3) := by decide +kernel
theorem d_La_1059 : decode code 1059 = .ok (.iconst 0, 1) := by decide +kernel
theorem d_La_1060 : decode code 1060 = .ok (.invokevirtual 132, 3) := by decide +kernel
theorem d_La_1063 : decode code 1063 = .ok (.if_icmp .eq 942, 3) := by decide +kernel
theorem d_La_1066 : decode code 1066 = .ok (.iconst 0, 1) := by decide +kernel
theorem d_La_1067 : decode code 1067 = .ok (.ireturn, 1) := by decide +kernel
theorem d_La_1068 : decode code 1068 = .ok (.aload_n 1, 1) := by decide +kernel
theorem d_La_1069 : decode code 1069 = .ok (.aload_n 0, 1) := by decide +kernel
theorem d_La_1070 : decode code 1070 = .ok (.iload_n 3, 1) := by decide +kernel
theorem d_La_1071 : decode code 1071 = .ok (.iconst 1, 1) := by decide +kernel
theorem d_La_1072 : decode code 1072 = .ok (.iadd, 1) := by decide +kernel
theorem d_La_1073 : decode code 1073 = .ok (.iaload, 1) := by decide +kernel
theorem d_La_1074 : decode code 1074 = .ok (.aload_n 0, 1) := by decide +kernel
theorem d_La_1075 : decode code 1075 = .ok (.iload_n 3, 1) := by decide +kernel
theorem d_La_1076 : decode code 1076 = .ok (.iconst 2, 1) := by decide +kernel
theorem d_La_1077 : decode code 1077 = .ok (.iadd, 1) := by decide +kernel
theorem d_La_1078 : decode code 1078 = .ok (.iaload, 1) := by decide +kernel
theorem d_La_1079 : decode code 1079 = .ok (.aload_n 0, 1) := by decide +kernel
theorem d_La_1080 : decode code 1080 = .ok (.iload_n 3, 1) := by decide +kernel
theorem d_La_1081 : decode code 1081 = .ok (.iconst 3, 1) := by decide +kernel
theorem d_La_1082 : decode code 1082 = .ok (.iadd, 1) := by decide +kernel
theorem d_La_1083 : decode code 1083 = .ok (.iaload, 1) := by decide +kernel
theorem d_La_1084 : decode code 1084 = .ok (.invokevirtual 133, 3) := by decide +kernel
theorem d_La_1087 : decode code 1087 = .ok (.aload_n 2, 1) := by decide +kernel
theorem d_La_1088 : decode code 1088 = .ok (.aload_n 0, 1) := by decide +kernel
theorem d_La_1089 : decode code 1089 = .ok (.iload_n 3, 1) := by decide +kernel
theorem d_La_1090 : decode code 1090 = .ok (.iconst 1, 1) := by decide +kernel
theorem d_La_1091 : decode code 1091 = .ok (.iadd, 1) := by decide +kernel
theorem d_La_1092 : decode code 1092 = .ok (.iaload, 1) := by decide +kernel
theorem d_La_1093 : decode code 1093 = .ok (.aload_n 0, 1) := by decide +kernel
theorem d_La_1094 : decode code 1094 = .ok (.iload_n 3, 1) := by decide +kernel
theorem d_La_1095 : decode code 1095 = .ok (.iconst 2, 1) := by decide +kernel
theorem d_La_1096 : decode code 1096 = .ok (.iadd, 1) := by decide +kernel
theorem d_La_1097 : decode code 1097 = .ok (.iaload, 1) := by decide +kernel
theorem d_La_1098 : decode code 1098 = .ok (.aload_n 0, 1) := by decide +kernel
theorem d_La_1099 : decode code 1099 = .ok (.iload_n 3, 1) := by decide +kernel
theorem d_La_1100 : decode code 1100 = .ok (.iconst 3, 1) := by decide +kernel
theorem d_La_1101 : decode code 1101 = .ok (.iadd, 1) := by decide +kernel
theorem d_La_1102 : decode code 1102 = .ok (.iaload, 1) := by decide +kernel
theorem d_La_1103 : decode code 1103 = .ok (.invokevirtual 136, 3) := by decide +kernel
theorem d_La_1106 : decode code 1106 = .ok (.if_icmp .eq 899, 3) := by decide +kernel
theorem d_La_1109 : decode code 1109 = .ok (.iconst 0, 1) := by decide +kernel
theorem d_La_1110 : decode code 1110 = .ok (.ireturn, 1) := by decide +kernel
theorem d_La_1111 : decode code 1111 = .ok (.aload_n 1, 1) := by decide +kernel
theorem d_La_1112 : decode code 1112 = .ok (.aload_n 0, 1) := by decide +kernel
theorem d_La_1113 : decode code 1113 = .ok (.iload_n 3, 1) := by decide +kernel
theorem d_La_1114 : decode code 1114 = .ok (.iconst 1, 1) := by decide +kernel
theorem d_La_1115 : decode code 1115 = .ok (.iadd, 1) := by decide +kernel
theorem d_La_1116 : decode code 1116 = .ok (.iaload, 1) := by decide +kernel
theorem d_La_1117 : decode code 1117 = .ok (.aload_n 0, 1) := by decide +kernel
theorem d_La_1118 : decode code 1118 = .ok (.iload_n 3, 1) := by decide +kernel
theorem d_La_1119 : decode code 1119 = .ok (.iconst 2, 1) := by decide +kernel
