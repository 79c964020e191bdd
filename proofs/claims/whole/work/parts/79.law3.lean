/-! THE LAW: its bytes, read -/
theorem d_Law_law_880 : decode M_Law_law.2.1 880 = .ok (.iadd, 1) := by decide +kernel
theorem d_Law_law_881 : decode M_Law_law.2.1 881 = .ok (.iaload, 1) := by decide +kernel
theorem d_Law_law_882 : decode M_Law_law.2.1 882 = .ok (.aload_n 0, 1) := by decide +kernel
theorem d_Law_law_883 : decode M_Law_law.2.1 883 = .ok (.iload_n 3, 1) := by decide +kernel
theorem d_Law_law_884 : decode M_Law_law.2.1 884 = .ok (.iconst 3, 1) := by decide +kernel
theorem d_Law_law_885 : decode M_Law_law.2.1 885 = .ok (.iadd, 1) := by decide +kernel
theorem d_Law_law_886 : decode M_Law_law.2.1 886 = .ok (.iaload, 1) := by decide +kernel
theorem d_Law_law_887 : decode M_Law_law.2.1 887 = .ok (.invokevirtual 103, 3) := by decide +kernel
theorem d_Law_law_890 : decode M_Law_law.2.1 890 = .ok (.if_icmp .eq 412, 3) := by decide +kernel
theorem d_Law_law_893 : decode M_Law_law.2.1 893 = .ok (.iconst 0, 1) := by decide +kernel
theorem d_Law_law_894 : decode M_Law_law.2.1 894 = .ok (.ireturn, 1) := by decide +kernel
theorem d_Law_law_895 : decode M_Law_law.2.1 895 = .ok (.aload_n 1, 1) := by decide +kernel
theorem d_Law_law_896 : decode M_Law_law.2.1 896 = .ok (.invokevirtual 104, 3) := by decide +kernel
theorem d_Law_law_899 : decode M_Law_law.2.1 899 = .ok (.aload_n 2, 1) := by decide +kernel
theorem d_Law_law_900 : decode M_Law_law.2.1 900 = .ok (.invokevirtual 107, 3) := by decide +kernel
theorem d_Law_law_903 : decode M_Law_law.2.1 903 = .ok (.if_icmp .eq 399, 3) := by decide +kernel
theorem d_Law_law_906 : decode M_Law_law.2.1 906 = .ok (.iconst 0, 1) := by decide +kernel
theorem d_Law_law_907 : decode M_Law_law.2.1 907 = .ok (.ireturn, 1) := by decide +kernel
theorem d_Law_law_908 : decode M_Law_law.2.1 908 = .ok (.aload_n 1, 1) := by decide +kernel
theorem d_Law_law_909 : decode M_Law_law.2.1 909 = .ok (.aload_n 0, 1) := by decide +kernel
theorem d_Law_law_910 : decode M_Law_law.2.1 910 = .ok (.iload_n 3, 1) := by decide +kernel
theorem d_Law_law_911 : decode M_Law_law.2.1 911 = .ok (.iconst 1, 1) := by decide +kernel
theorem d_Law_law_912 : decode M_Law_law.2.1 912 = .ok (.iadd, 1) := by decide +kernel
theorem d_Law_law_913 : decode M_Law_law.2.1 913 = .ok (.iaload, 1) := by decide +kernel
theorem d_Law_law_914 : decode M_Law_law.2.1 914 = .ok (.aload_n 0, 1) := by decide +kernel
theorem d_Law_law_915 : decode M_Law_law.2.1 915 = .ok (.iload_n 3, 1) := by decide +kernel
theorem d_Law_law_916 : decode M_Law_law.2.1 916 = .ok (.iconst 2, 1) := by decide +kernel
theorem d_Law_law_917 : decode M_Law_law.2.1 917 = .ok (.iadd, 1) := by decide +kernel
theorem d_Law_law_918 : decode M_Law_law.2.1 918 = .ok (.iaload, 1) := by decide +kernel
theorem d_Law_law_919 : decode M_Law_law.2.1 919 = .ok (.invokevirtual 108, 3) := by decide +kernel
theorem d_Law_law_922 : decode M_Law_law.2.1 922 = .ok (.aload_n 2, 1) := by decide +kernel
theorem d_Law_law_923 : decode M_Law_law.2.1 923 = .ok (.aload_n 0, 1) := by decide +kernel
theorem d_Law_law_924 : decode M_Law_law.2.1 924 = .ok (.iload_n 3, 1) := by decide +kernel
theorem d_Law_law_925 : decode M_Law_law.2.1 925 = .ok (.iconst 1, 1) := by decide +kernel
theorem d_Law_law_926 : decode M_Law_law.2.1 926 = .ok (.iadd, 1) := by decide +kernel
theorem d_Law_law_927 : decode M_Law_law.2.1 927 = .ok (.iaload, 1) := by decide +kernel
theorem d_Law_law_928 : decode M_Law_law.2.1 928 = .ok (.aload_n 0, 1) := by decide +kernel
theorem d_Law_law_929 : decode M_Law_law.2.1 929 = .ok (.iload_n 3, 1) := by decide +kernel
theorem d_Law_law_930 : decode M_Law_law.2.1 930 = .ok (.iconst 2, 1) := by decide +kernel
theorem d_Law_law_931 : decode M_Law_law.2.1 931 = .ok (.iadd, 1) := by decide +kernel
theorem d_Law_law_932 : decode M_Law_law.2.1 932 = .ok (.iaload, 1) := by decide +kernel
theorem d_Law_law_933 : decode M_Law_law.2.1 933 = .ok (.invokevirtual 111, 3) := by decide +kernel
theorem d_Law_law_936 : decode M_Law_law.2.1 936 = .ok (.if_icmp .eq 366, 3) := by decide +kernel
theorem d_Law_law_939 : decode M_Law_law.2.1 939 = .ok (.iconst 0, 1) := by decide +kernel
theorem d_Law_law_940 : decode M_Law_law.2.1 940 = .ok (.ireturn, 1) := by decide +kernel
theorem d_Law_law_941 : decode M_Law_law.2.1 941 = .ok (.aload_n 1, 1) := by decide +kernel
theorem d_Law_law_942 : decode M_Law_law.2.1 942 = .ok (.invokevirtual 112, 3) := by decide +kernel
theorem d_Law_law_945 : decode M_Law_law.2.1 945 = .ok (.aload_n 2, 1) := by decide +kernel
theorem d_Law_law_946 : decode M_Law_law.2.1 946 = .ok (.invokevirtual 115, 3) := by decide +kernel
theorem d_Law_law_949 : decode M_Law_law.2.1 949 = .ok (.if_icmp .eq 353, 3) := by decide +kernel
theorem d_Law_law_952 : decode M_Law_law.2.1 952 = .ok (.iconst 0, 1) := by decide +kernel
theorem d_Law_law_953 : decode M_Law_law.2.1 953 = .ok (.ireturn, 1) := by decide +kernel
theorem d_Law_law_954 : decode M_Law_law.2.1 954 = .ok (.aload_n 1, 1) := by decide +kernel
theorem d_Law_law_955 : decode M_Law_law.2.1 955 = .ok (.invokevirtual 116, 3) := by decide +kernel
theorem d_Law_law_958 : decode M_Law_law.2.1 958 = .ok (.aload_n 2, 1) := by decide +kernel
theorem d_Law_law_959 : decode M_Law_law.2.1 959 = .ok (.invokevirtual 119, 3) := by decide +kernel
theorem d_Law_law_962 : decode M_Law_law.2.1 962 = .ok (.if_icmp .eq 340, 3) := by decide +kernel
theorem d_Law_law_965 : decode M_Law_law.2.1 965 = .ok (.iconst 0, 1) := by decide +kernel
theorem d_Law_law_966 : decode M_Law_law.2.1 966 = .ok (.ireturn, 1) := by decide +kernel
theorem d_Law_law_967 : decode M_Law_law.2.1 967 = .ok (.aload_n 1, 1) := by decide +kernel
theorem d_Law_law_968 : decode M_Law_law.2.1 968 = .ok (.aload_n 0, 1) := by decide +kernel
theorem d_Law_law_969 : decode M_Law_law.2.1 969 = .ok (.iload_n 3, 1) := by decide +kernel
theorem d_Law_law_970 : decode M_Law_law.2.1 970 = .ok (.iconst 1, 1) := by decide +kernel
theorem d_Law_law_971 : decode M_Law_law.2.1 971 = .ok (.iadd, 1) := by decide +kernel
theorem d_Law_law_972 : decode M_Law_law.2.1 972 = .ok (.iaload, 1) := by decide +kernel
theorem d_Law_law_973 : decode M_Law_law.2.1 973 = .ok (.aload_n 0, 1) := by decide +kernel
theorem d_Law_law_974 : decode M_Law_law.2.1 974 = .ok (.iload_n 3, 1) := by decide +kernel
theorem d_Law_law_975 : decode M_Law_law.2.1 975 = .ok (.iconst 2, 1) := by decide +kernel
theorem d_Law_law_976 : decode M_Law_law.2.1 976 = .ok (.iadd, 1) := by decide +kernel
theorem d_Law_law_977 : decode M_Law_law.2.1 977 = .ok (.iaload, 1) := by decide +kernel
theorem d_Law_law_978 : decode M_Law_law.2.1 978 = .ok (.aload_n 0, 1) := by decide +kernel
theorem d_Law_law_979 : decode M_Law_law.2.1 979 = .ok (.iload_n 3, 1) := by decide +kernel
theorem d_Law_law_980 : decode M_Law_law.2.1 980 = .ok (.iconst 3, 1) := by decide +kernel
theorem d_Law_law_981 : decode M_Law_law.2.1 981 = .ok (.iadd, 1) := by decide +kernel
theorem d_Law_law_982 : decode M_Law_law.2.1 982 = .ok (.iaload, 1) := by decide +kernel
theorem d_Law_law_983 : decode M_Law_law.2.1 983 = .ok (.invokevirtual 120, 3) := by decide +kernel
theorem d_Law_law_986 : decode M_Law_law.2.1 986 = .ok (.aload_n 2, 1) := by decide +kernel
theorem d_Law_law_987 : decode M_Law_law.2.1 987 = .ok (.aload_n 0, 1) := by decide +kernel
theorem d_Law_law_988 : decode M_Law_law.2.1 988 = .ok (.iload_n 3, 1) := by decide +kernel
theorem d_Law_law_989 : decode M_Law_law.2.1 989 = .ok (.iconst 1, 1) := by decide +kernel
theorem d_Law_law_990 : decode M_Law_law.2.1 990 = .ok (.iadd, 1) := by decide +kernel
theorem d_Law_law_991 : decode M_Law_law.2.1 991 = .ok (.iaload, 1) := by decide +kernel
theorem d_Law_law_992 : decode M_Law_law.2.1 992 = .ok (.aload_n 0, 1) := by decide +kernel
theorem d_Law_law_993 : decode M_Law_law.2.1 993 = .ok (.iload_n 3, 1) := by decide +kernel
theorem d_Law_law_994 : decode M_Law_law.2.1 994 = .ok (.iconst 2, 1) := by decide +kernel
theorem d_Law_law_995 : decode M_Law_law.2.1 995 = .ok (.iadd, 1) := by decide +kernel
theorem d_Law_law_996 : decode M_Law_law.2.1 996 = .ok (.iaload, 1) := by decide +kernel
theorem d_Law_law_997 : decode M_Law_law.2.1 997 = .ok (.aload_n 0, 1) := by decide +kernel
theorem d_Law_law_998 : decode M_Law_law.2.1 998 = .ok (.iload_n 3, 1) := by decide +kernel
theorem d_Law_law_999 : decode M_Law_law.2.1 999 = .ok (.iconst 3, 1) := by decide +kernel
theorem d_Law_law_1000 : decode M_Law_law.2.1 1000 = .ok (.iadd, 1) := by decide +kernel
theorem d_Law_law_1001 : decode M_Law_law.2.1 1001 = .ok (.iaload, 1) := by decide +kernel
theorem d_Law_law_1002 : decode M_Law_law.2.1 1002 = .ok (.invokevirtual 123, 3) := by decide +kernel
theorem d_Law_law_1005 : decode M_Law_law.2.1 1005 = .ok (.if_icmp .eq 297, 3) := by decide +kernel
theorem d_Law_law_1008 : decode M_Law_law.2.1 1008 = .ok (.iconst 0, 1) := by decide +kernel
theorem d_Law_law_1009 : decode M_Law_law.2.1 1009 = .ok (.ireturn, 1) := by decide +kernel
theorem d_Law_law_1010 : decode M_Law_law.2.1 1010 = .ok (.aload_n 1, 1) := by decide +kernel
theorem d_Law_law_1011 : decode M_Law_law.2.1 1011 = .ok (.aload_n 0, 1) := by decide +kernel
theorem d_Law_law_1012 : decode M_Law_law.2.1 1012 = .ok (.iload_n 3, 1) := by decide +kernel
theorem d_Law_law_1013 : decode M_Law_law.2.1 1013 = .ok (.iconst 1, 1) := by decide +kernel
theorem d_Law_law_1014 : decode M_Law_law.2.1 1014 = .ok (.iadd, 1) := by decide +kernel
theorem d_Law_law_1015 : decode M_Law_law.2.1 1015 = .ok (.iaload, 1) := by decide +kernel
theorem d_Law_law_1016 : decode M_Law_law.2.1 1016 = .ok (.invokevirtual 124, 3) := by decide +kernel
theorem d_Law_law_1019 : decode M_Law_law.2.1 1019 = .ok (.aload_n 2, 1) := by decide +kernel
theorem d_Law_law_1020 : decode M_Law_law.2.1 1020 = .ok (.aload_n 0, 1) := by decide +kernel
theorem d_Law_law_1021 : decode M_Law_law.2.1 1021 = .ok (.iload_n 3, 1) := by decide +kernel
theorem d_Law_law_1022 : decode M_Law_law.2.1 1022 = .ok (.iconst 1, 1) := by decide +kernel
theorem d_Law_law_1023 : decode M_Law_law.2.1 1023 = .ok (.iadd, 1) := by decide +kernel
theorem d_Law_law_1024 : decode M_Law_law.2.1 1024 = .ok (.iaload, 1) := by decide +kernel
theorem d_Law_law_1025 : decode M_Law_law.2.1 1025 = .ok (.invokevirtual 127, 3) := by decide +kernel
theorem d_Law_law_1028 : decode M_Law_law.2.1 1028 = .ok (.if_icmp .eq 274, 3) := by decide +kernel
theorem d_Law_law_1031 : decode M_Law_law.2.1 1031 = .ok (.iconst 0, 1) := by decide +kernel
theorem d_Law_law_1032 : decode M_Law_law.2.1 1032 = .ok (.ireturn, 1) := by decide +kernel
theorem d_Law_law_1033 : decode M_Law_law.2.1 1033 = .ok (.aload_n 1, 1) := by decide +kernel
theorem d_Law_law_1034 : decode M_Law_law.2.1 1034 = .ok (.aload_n 0, 1) := by decide +kernel
theorem d_Law_law_1035 : decode M_Law_law.2.1 1035 = .ok (.iload_n 3, 1) := by decide +kernel
theorem d_Law_law_1036 : decode M_Law_law.2.1 1036 = .ok (.iconst 1, 1) := by decide +kernel
theorem d_Law_law_1037 : decode M_Law_law.2.1 1037 = .ok (.iadd, 1) := by decide +kernel
theorem d_Law_law_1038 : decode M_Law_law.2.1 1038 = .ok (.iaload, 1) := by decide +kernel
theorem d_Law_law_1039 : decode M_Law_law.2.1 1039 = .ok (.aload_n 0, 1) := by decide +kernel
theorem d_Law_law_1040 : decode M_Law_law.2.1 1040 = .ok (.iload_n 3, 1) := by decide +kernel
theorem d_Law_law_1041 : decode M_Law_law.2.1 1041 = .ok (.iconst 2, 1) := by decide +kernel
theorem d_Law_law_1042 : decode M_Law_law.2.1 1042 = .ok (.iadd, 1) := by decide +kernel
theorem d_Law_law_1043 : decode M_Law_law.2.1 1043 = .ok (.iaload, 1) := by decide +kernel
theorem d_Law_law_1044 : decode M_Law_law.2.1 1044 = .ok (.invokevirtual 128, 3) := by decide +kernel
theorem d_Law_law_1047 : decode M_Law_law.2.1 1047 = .ok (.aload_n 2, 1) := by decide +kernel
theorem d_Law_law_1048 : decode M_Law_law.2.1 1048 = .ok (.aload_n 0, 1) := by decide +kernel
theorem d_Law_law_1049 : decode M_Law_law.2.1 1049 = .ok (.iload_n 3, 1) := by decide +kernel
theorem d_Law_law_1050 : decode M_Law_law.2.1 1050 = .ok (.iconst 1, 1) := by decide +kernel
theorem d_Law_law_1051 : decode M_Law_law.2.1 1051 = .ok (.iadd, 1) := by decide +kernel
theorem d_Law_law_1052 : decode M_Law_law.2.1 1052 = .ok (.iaload, 1) := by decide +kernel
theorem d_Law_law_1053 : decode M_Law_law.2.1 1053 = .ok (.aload_n 0, 1) := by decide +kernel
theorem d_Law_law_1054 : decode M_Law_law.2.1 1054 = .ok (.iload_n 3, 1) := by decide +kernel
theorem d_Law_law_1055 : decode M_Law_law.2.1 1055 = .ok (.iconst 2, 1) := by decide +kernel
theorem d_Law_law_1056 : decode M_Law_law.2.1 1056 = .ok (.iadd, 1) := by decide +kernel
theorem d_Law_law_1057 : decode M_Law_law.2.1 1057 = .ok (.iaload, 1) := by decide +kernel
theorem d_Law_law_1058 : decode M_Law_law.2.1 1058 = .ok (.invokevirtual 131, 3) := by decide +kernel
theorem d_Law_law_1061 : decode M_Law_law.2.1 1061 = .ok (.if_icmp .eq 241, 3) := by decide +kernel
theorem d_Law_law_1064 : decode M_Law_law.2.1 1064 = .ok (.iconst 0, 1) := by decide +kernel
theorem d_Law_law_1065 : decode M_Law_law.2.1 1065 = .ok (.ireturn, 1) := by decide +kernel
theorem d_Law_law_1066 : decode M_Law_law.2.1 1066 = .ok (.aload_n 1, 1) := by decide +kernel
theorem d_Law_law_1067 : decode M_Law_law.2.1 1067 = .ok (.aload_n 0, 1) := by decide +kernel
theorem d_Law_law_1068 : decode M_Law_law.2.1 1068 = .ok (.iload_n 3, 1) := by decide +kernel
theorem d_Law_law_1069 : decode M_Law_law.2.1 1069 = .ok (.iconst 1, 1) := by decide +kernel
theorem d_Law_law_1070 : decode M_Law_law.2.1 1070 = .ok (.iadd, 1) := by decide +kernel
theorem d_Law_law_1071 : decode M_Law_law.2.1 1071 = .ok (.iaload, 1) := by decide +kernel
theorem d_Law_law_1072 : decode M_Law_law.2.1 1072 = .ok (.invokevirtual 132, 3) := by decide +kernel
theorem d_Law_law_1075 : decode M_Law_law.2.1 1075 = .ok (.aload_n 2, 1) := by decide +kernel
theorem d_Law_law_1076 : decode M_Law_law.2.1 1076 = .ok (.aload_n 0, 1) := by decide +kernel
theorem d_Law_law_1077 : decode M_Law_law.2.1 1077 = .ok (.iload_n 3, 1) := by decide +kernel
theorem d_Law_law_1078 : decode M_Law_law.2.1 1078 = .ok (.iconst 1, 1) := by decide +kernel
theorem d_Law_law_1079 : decode M_Law_law.2.1 1079 = .ok (.iadd, 1) := by decide +kernel
theorem d_Law_law_1080 : decode M_Law_law.2.1 1080 = .ok (.iaload, 1) := by decide +kernel
theorem d_Law_law_1081 : decode M_Law_law.2.1 1081 = .ok (.invokevirtual 135, 3) := by decide +kernel
theorem d_Law_law_1084 : decode M_Law_law.2.1 1084 = .ok (.if_icmp .eq 218, 3) := by decide +kernel
theorem d_Law_law_1087 : decode M_Law_law.2.1 1087 = .ok (.iconst 0, 1) := by decide +kernel
theorem d_Law_law_1088 : decode M_Law_law.2.1 1088 = .ok (.ireturn, 1) := by decide +kernel
theorem d_Law_law_1089 : decode M_Law_law.2.1 1089 = .ok (.aload_n 1, 1) := by decide +kernel
theorem d_Law_law_1090 : decode M_Law_law.2.1 1090 = .ok (.aload_n 0, 1) := by decide +kernel
theorem d_Law_law_1091 : decode M_Law_law.2.1 1091 = .ok (.iload_n 3, 1) := by decide +kernel
theorem d_Law_law_1092 : decode M_Law_law.2.1 1092 = .ok (.iconst 1, 1) := by decide +kernel
theorem d_Law_law_1093 : decode M_Law_law.2.1 1093 = .ok (.iadd, 1) := by decide +kernel
theorem d_Law_law_1094 : decode M_Law_law.2.1 1094 = .ok (.iaload, 1) := by decide +kernel
theorem d_Law_law_1095 : decode M_Law_law.2.1 1095 = .ok (.aload_n 0, 1) := by decide +kernel
theorem d_Law_law_1096 : decode M_Law_law.2.1 1096 = .ok (.iload_n 3, 1) := by decide +kernel
theorem d_Law_law_1097 : decode M_Law_law.2.1 1097 = .ok (.iconst 2, 1) := by decide +kernel
theorem d_Law_law_1098 : decode M_Law_law.2.1 1098 = .ok (.iadd, 1) := by decide +kernel
theorem d_Law_law_1099 : decode M_Law_law.2.1 1099 = .ok (.iaload, 1) := by decide +kernel
theorem d_Law_law_1100 : decode M_Law_law.2.1 1100 = .ok (.aload_n 0, 1) := by decide +kernel
theorem d_Law_law_1101 : decode M_Law_law.2.1 1101 = .ok (.iload_n 3, 1) := by decide +kernel
theorem d_Law_law_1102 : decode M_Law_law.2.1 1102 = .ok (.iconst 3, 1) := by decide +kernel
theorem d_Law_law_1103 : decode M_Law_law.2.1 1103 = .ok (.iadd, 1) := by decide +kernel
theorem d_Law_law_1104 : decode M_Law_law.2.1 1104 = .ok (.iaload, 1) := by decide +kernel
theorem d_Law_law_1105 : decode M_Law_law.2.1 1105 = .ok (.invokevirtual 136, 3) := by decide +kernel
theorem d_Law_law_1108 : decode M_Law_law.2.1 1108 = .ok (.aload_n 2, 1) := by decide +kernel
theorem d_Law_law_1109 : decode M_Law_law.2.1 1109 = .ok (.aload_n 0, 1) := by decide +kernel
theorem d_Law_law_1110 : decode M_Law_law.2.1 1110 = .ok (.iload_n 3, 1) := by decide +kernel
theorem d_Law_law_1111 : decode M_Law_law.2.1 1111 = .ok (.iconst 1, 1) := by decide +kernel
theorem d_Law_law_1112 : decode M_Law_law.2.1 1112 = .ok (.iadd, 1) := by decide +kernel
theorem d_Law_law_1113 : decode M_Law_law.2.1 1113 = .ok (.iaload, 1) := by decide +kernel
theorem d_Law_law_1114 : decode M_Law_law.2.1 1114 = .ok (.aload_n 0, 1) := by decide +kernel
theorem d_Law_law_1115 : decode M_Law_law.2.1 1115 = .ok (.iload_n 3, 1) := by decide +kernel
theorem d_Law_law_1116 : decode M_Law_law.2.1 1116 = .ok (.iconst 2, 1) := by decide +kernel
theorem d_Law_law_1117 : decode M_Law_law.2.1 1117 = .ok (.iadd, 1) := by decide +kernel
theorem d_Law_law_1118 : decode M_Law_law.2.1 1118 = .ok (.iaload, 1) := by decide +kernel
theorem d_Law_law_1119 : decode M_Law_law.2.1 1119 = .ok (.aload_n 0, 1) := by decide +kernel
theorem d_Law_law_1120 : decode M_Law_law.2.1 1120 = .ok (.iload_n 3, 1) := by decide +kernel
theorem d_Law_law_1121 : decode M_Law_law.2.1 1121 = .ok (.iconst 3, 1) := by decide +kernel
theorem d_Law_law_1122 : decode M_Law_law.2.1 1122 = .ok (.iadd, 1) := by decide +kernel
theorem d_Law_law_1123 : decode M_Law_law.2.1 1123 = .ok (.iaload, 1) := by decide +kernel
theorem d_Law_law_1124 : decode M_Law_law.2.1 1124 = .ok (.invokevirtual 139, 3) := by decide +kernel
theorem d_Law_law_1127 : decode M_Law_law.2.1 1127 = .ok (.if_icmp .eq 175, 3) := by decide +kernel
theorem d_Law_law_1130 : decode M_Law_law.2.1 1130 = .ok (.iconst 0, 1) := by decide +kernel
theorem d_Law_law_1131 : decode M_Law_law.2.1 1131 = .ok (.ireturn, 1) := by decide +kernel
theorem d_Law_law_1132 : decode M_Law_law.2.1 1132 = .ok (.aload_n 1, 1) := by decide +kernel
theorem d_Law_law_1133 : decode M_Law_law.2.1 1133 = .ok (.aload_n 0, 1) := by decide +kernel
theorem d_Law_law_1134 : decode M_Law_law.2.1 1134 = .ok (.iload_n 3, 1) := by decide +kernel
theorem d_Law_law_1135 : decode M_Law_law.2.1 1135 = .ok (.iconst 1, 1) := by decide +kernel
theorem d_Law_law_1136 : decode M_Law_law.2.1 1136 = .ok (.iadd, 1) := by decide +kernel
theorem d_Law_law_1137 : decode M_Law_law.2.1 1137 = .ok (.iaload, 1) := by decide +kernel
