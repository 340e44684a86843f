/-! How the law's instructions read. -/
theorem de_W_law_951 : decode code 951 = .ok (.aload_n 0, 1) := by decide +kernel
theorem de_W_law_952 : decode code 952 = .ok (.iload 4, 2) := by decide +kernel
theorem de_W_law_954 : decode code 954 = .ok (.iconst 1, 1) := by decide +kernel
theorem de_W_law_955 : decode code 955 = .ok (.iadd, 1) := by decide +kernel
theorem de_W_law_956 : decode code 956 = .ok (.iaload, 1) := by decide +kernel
theorem de_W_law_957 : decode code 957 = .ok (.ifCond .eq 7, 3) := by decide +kernel
theorem de_W_law_960 : decode code 960 = .ok (.iconst 1, 1) := by decide +kernel
theorem de_W_law_961 : decode code 961 = .ok (.goto 4, 3) := by decide +kernel
theorem de_W_law_964 : decode code 964 = .ok (.iconst 0, 1) := by decide +kernel
theorem de_W_law_965 : decode code 965 = .ok (.invokevirtual 101, 3) := by decide +kernel
theorem de_W_law_968 : decode code 968 = .ok (.aload_n 2, 1) := by decide +kernel
theorem de_W_law_969 : decode code 969 = .ok (.aload_n 0, 1) := by decide +kernel
theorem de_W_law_970 : decode code 970 = .ok (.iload 4, 2) := by decide +kernel
theorem de_W_law_972 : decode code 972 = .ok (.iconst 1, 1) := by decide +kernel
theorem de_W_law_973 : decode code 973 = .ok (.iadd, 1) := by decide +kernel
theorem de_W_law_974 : decode code 974 = .ok (.iaload, 1) := by decide +kernel
theorem de_W_law_975 : decode code 975 = .ok (.ifCond .eq 7, 3) := by decide +kernel
theorem de_W_law_978 : decode code 978 = .ok (.iconst 1, 1) := by decide +kernel
theorem de_W_law_979 : decode code 979 = .ok (.goto 4, 3) := by decide +kernel
theorem de_W_law_982 : decode code 982 = .ok (.iconst 0, 1) := by decide +kernel
theorem de_W_law_983 : decode code 983 = .ok (.invokevirtual 105, 3) := by decide +kernel
theorem de_W_law_986 : decode code 986 = .ok (.goto 415, 3) := by decide +kernel
theorem de_W_law_989 : decode code 989 = .ok (.aload_n 1, 1) := by decide +kernel
theorem de_W_law_990 : decode code 990 = .ok (.invokevirtual 106, 3) := by decide +kernel
theorem de_W_law_993 : decode code 993 = .ok (.aload_n 2, 1) := by decide +kernel
theorem de_W_law_994 : decode code 994 = .ok (.invokevirtual 109, 3) := by decide +kernel
theorem de_W_law_997 : decode code 997 = .ok (.if_icmp .eq 404, 3) := by decide +kernel
theorem de_W_law_1000 : decode code 1000 = .ok (.iconst 0, 1) := by decide +kernel
theorem de_W_law_1001 : decode code 1001 = .ok (.ireturn, 1) := by decide +kernel
theorem de_W_law_1002 : decode code 1002 = .ok (.aload_n 1, 1) := by decide +kernel
theorem de_W_law_1003 : decode code 1003 = .ok (.aload_n 0, 1) := by decide +kernel
theorem de_W_law_1004 : decode code 1004 = .ok (.iload 4, 2) := by decide +kernel
theorem de_W_law_1006 : decode code 1006 = .ok (.iconst 1, 1) := by decide +kernel
theorem de_W_law_1007 : decode code 1007 = .ok (.iadd, 1) := by decide +kernel
theorem de_W_law_1008 : decode code 1008 = .ok (.iaload, 1) := by decide +kernel
theorem de_W_law_1009 : decode code 1009 = .ok (.aload_n 0, 1) := by decide +kernel
theorem de_W_law_1010 : decode code 1010 = .ok (.iload 4, 2) := by decide +kernel
theorem de_W_law_1012 : decode code 1012 = .ok (.iconst 2, 1) := by decide +kernel
theorem de_W_law_1013 : decode code 1013 = .ok (.iadd, 1) := by decide +kernel
theorem de_W_law_1014 : decode code 1014 = .ok (.iaload, 1) := by decide +kernel
theorem de_W_law_1015 : decode code 1015 = .ok (.aload_n 3, 1) := by decide +kernel
theorem de_W_law_1016 : decode code 1016 = .ok (.invokestatic 110, 3) := by decide +kernel
theorem de_W_law_1019 : decode code 1019 = .ok (.istore 5, 2) := by decide +kernel
theorem de_W_law_1021 : decode code 1021 = .ok (.aload_n 2, 1) := by decide +kernel
theorem de_W_law_1022 : decode code 1022 = .ok (.aload_n 0, 1) := by decide +kernel
theorem de_W_law_1023 : decode code 1023 = .ok (.iload 4, 2) := by decide +kernel
theorem de_W_law_1025 : decode code 1025 = .ok (.iconst 1, 1) := by decide +kernel
theorem de_W_law_1026 : decode code 1026 = .ok (.iadd, 1) := by decide +kernel
theorem de_W_law_1027 : decode code 1027 = .ok (.iaload, 1) := by decide +kernel
theorem de_W_law_1028 : decode code 1028 = .ok (.aload_n 0, 1) := by decide +kernel
theorem de_W_law_1029 : decode code 1029 = .ok (.iload 4, 2) := by decide +kernel
theorem de_W_law_1031 : decode code 1031 = .ok (.iconst 2, 1) := by decide +kernel
theorem de_W_law_1032 : decode code 1032 = .ok (.iadd, 1) := by decide +kernel
theorem de_W_law_1033 : decode code 1033 = .ok (.iaload, 1) := by decide +kernel
theorem de_W_law_1034 : decode code 1034 = .ok (.invokevirtual 112, 3) := by decide +kernel
theorem de_W_law_1037 : decode code 1037 = .ok (.lstore 6, 2) := by decide +kernel
theorem de_W_law_1039 : decode code 1039 = .ok (.aload_n 2, 1) := by decide +kernel
theorem de_W_law_1040 : decode code 1040 = .ok (.invokevirtual 62, 3) := by decide +kernel
theorem de_W_law_1043 : decode code 1043 = .ok (.iload 5, 2) := by decide +kernel
theorem de_W_law_1045 : decode code 1045 = .ok (.if_icmp .eq 5, 3) := by decide +kernel
theorem de_W_law_1048 : decode code 1048 = .ok (.iconst 0, 1) := by decide +kernel
theorem de_W_law_1049 : decode code 1049 = .ok (.ireturn, 1) := by decide +kernel
theorem de_W_law_1050 : decode code 1050 = .ok (.iload 5, 2) := by decide +kernel
theorem de_W_law_1052 : decode code 1052 = .ok (.ifCond .ne 14, 3) := by decide +kernel
theorem de_W_law_1055 : decode code 1055 = .ok (.aload_n 3, 1) := by decide +kernel
theorem de_W_law_1056 : decode code 1056 = .ok (.iconst 0, 1) := by decide +kernel
theorem de_W_law_1057 : decode code 1057 = .ok (.laload, 1) := by decide +kernel
theorem de_W_law_1058 : decode code 1058 = .ok (.lload 6, 2) := by decide +kernel
theorem de_W_law_1060 : decode code 1060 = .ok (.lcmp, 1) := by decide +kernel
theorem de_W_law_1061 : decode code 1061 = .ok (.ifCond .eq 5, 3) := by decide +kernel
theorem de_W_law_1064 : decode code 1064 = .ok (.iconst 0, 1) := by decide +kernel
theorem de_W_law_1065 : decode code 1065 = .ok (.ireturn, 1) := by decide +kernel
theorem de_W_law_1066 : decode code 1066 = .ok (.goto 335, 3) := by decide +kernel
theorem de_W_law_1069 : decode code 1069 = .ok (.aload_n 1, 1) := by decide +kernel
theorem de_W_law_1070 : decode code 1070 = .ok (.aload_n 0, 1) := by decide +kernel
theorem de_W_law_1071 : decode code 1071 = .ok (.iload 4, 2) := by decide +kernel
theorem de_W_law_1073 : decode code 1073 = .ok (.iconst 1, 1) := by decide +kernel
theorem de_W_law_1074 : decode code 1074 = .ok (.iadd, 1) := by decide +kernel
theorem de_W_law_1075 : decode code 1075 = .ok (.iaload, 1) := by decide +kernel
theorem de_W_law_1076 : decode code 1076 = .ok (.aload_n 3, 1) := by decide +kernel
theorem de_W_law_1077 : decode code 1077 = .ok (.invokestatic 113, 3) := by decide +kernel
theorem de_W_law_1080 : decode code 1080 = .ok (.istore 5, 2) := by decide +kernel
theorem de_W_law_1082 : decode code 1082 = .ok (.aload_n 2, 1) := by decide +kernel
theorem de_W_law_1083 : decode code 1083 = .ok (.aload_n 0, 1) := by decide +kernel
theorem de_W_law_1084 : decode code 1084 = .ok (.iload 4, 2) := by decide +kernel
theorem de_W_law_1086 : decode code 1086 = .ok (.iconst 1, 1) := by decide +kernel
theorem de_W_law_1087 : decode code 1087 = .ok (.iadd, 1) := by decide +kernel
theorem de_W_law_1088 : decode code 1088 = .ok (.iaload, 1) := by decide +kernel
theorem de_W_law_1089 : decode code 1089 = .ok (.invokevirtual 116, 3) := by decide +kernel
theorem de_W_law_1092 : decode code 1092 = .ok (.lstore 6, 2) := by decide +kernel
theorem de_W_law_1094 : decode code 1094 = .ok (.aload_n 2, 1) := by decide +kernel
theorem de_W_law_1095 : decode code 1095 = .ok (.invokevirtual 62, 3) := by decide +kernel
theorem de_W_law_1098 : decode code 1098 = .ok (.iload 5, 2) := by decide +kernel
theorem de_W_law_1100 : decode code 1100 = .ok (.if_icmp .eq 5, 3) := by decide +kernel
theorem de_W_law_1103 : decode code 1103 = .ok (.iconst 0, 1) := by decide +kernel
theorem de_W_law_1104 : decode code 1104 = .ok (.ireturn, 1) := by decide +kernel
theorem de_W_law_1105 : decode code 1105 = .ok (.iload 5, 2) := by decide +kernel
theorem de_W_law_1107 : decode code 1107 = .ok (.ifCond .ne 14, 3) := by decide +kernel
theorem de_W_law_1110 : decode code 1110 = .ok (.aload_n 3, 1) := by decide +kernel
theorem de_W_law_1111 : decode code 1111 = .ok (.iconst 0, 1) := by decide +kernel
theorem de_W_law_1112 : decode code 1112 = .ok (.laload, 1) := by decide +kernel
theorem de_W_law_1113 : decode code 1113 = .ok (.lload 6, 2) := by decide +kernel
theorem de_W_law_1115 : decode code 1115 = .ok (.lcmp, 1) := by decide +kernel
theorem de_W_law_1116 : decode code 1116 = .ok (.ifCond .eq 5, 3) := by decide +kernel
theorem de_W_law_1119 : decode code 1119 = .ok (.iconst 0, 1) := by decide +kernel
theorem de_W_law_1120 : decode code 1120 = .ok (.ireturn, 1) := by decide +kernel
theorem de_W_law_1121 : decode code 1121 = .ok (.goto 280, 3) := by decide +kernel
theorem de_W_law_1124 : decode code 1124 = .ok (.aload_n 1, 1) := by decide +kernel
theorem de_W_law_1125 : decode code 1125 = .ok (.aload_n 0, 1) := by decide +kernel
theorem de_W_law_1126 : decode code 1126 = .ok (.iload 4, 2) := by decide +kernel
theorem de_W_law_1128 : decode code 1128 = .ok (.iconst 1, 1) := by decide +kernel
theorem de_W_law_1129 : decode code 1129 = .ok (.iadd, 1) := by decide +kernel
theorem de_W_law_1130 : decode code 1130 = .ok (.iaload, 1) := by decide +kernel
theorem de_W_law_1131 : decode code 1131 = .ok (.i2l, 1) := by decide +kernel
theorem de_W_law_1132 : decode code 1132 = .ok (.bipush 32, 2) := by decide +kernel
theorem de_W_law_1134 : decode code 1134 = .ok (.lshl, 1) := by decide +kernel
theorem de_W_law_1135 : decode code 1135 = .ok (.aload_n 0, 1) := by decide +kernel
theorem de_W_law_1136 : decode code 1136 = .ok (.iload 4, 2) := by decide +kernel
theorem de_W_law_1138 : decode code 1138 = .ok (.iconst 2, 1) := by decide +kernel
theorem de_W_law_1139 : decode code 1139 = .ok (.iadd, 1) := by decide +kernel
theorem de_W_law_1140 : decode code 1140 = .ok (.iaload, 1) := by decide +kernel
theorem de_W_law_1141 : decode code 1141 = .ok (.i2l, 1) := by decide +kernel
theorem de_W_law_1142 : decode code 1142 = .ok (.ldc2_w 54, 3) := by decide +kernel
theorem de_W_law_1145 : decode code 1145 = .ok (.land, 1) := by decide +kernel
theorem de_W_law_1146 : decode code 1146 = .ok (.lor, 1) := by decide +kernel
theorem de_W_law_1147 : decode code 1147 = .ok (.aload_n 0, 1) := by decide +kernel
theorem de_W_law_1148 : decode code 1148 = .ok (.iload 4, 2) := by decide +kernel
theorem de_W_law_1150 : decode code 1150 = .ok (.iconst 3, 1) := by decide +kernel
theorem de_W_law_1151 : decode code 1151 = .ok (.iadd, 1) := by decide +kernel
theorem de_W_law_1152 : decode code 1152 = .ok (.iaload, 1) := by decide +kernel
theorem de_W_law_1153 : decode code 1153 = .ok (.aload_n 0, 1) := by decide +kernel
theorem de_W_law_1154 : decode code 1154 = .ok (.iload 4, 2) := by decide +kernel
theorem de_W_law_1156 : decode code 1156 = .ok (.iconst 4, 1) := by decide +kernel
theorem de_W_law_1157 : decode code 1157 = .ok (.iadd, 1) := by decide +kernel
theorem de_W_law_1158 : decode code 1158 = .ok (.iaload, 1) := by decide +kernel
theorem de_W_law_1159 : decode code 1159 = .ok (.ifCond .eq 7, 3) := by decide +kernel
theorem de_W_law_1162 : decode code 1162 = .ok (.iconst 1, 1) := by decide +kernel
theorem de_W_law_1163 : decode code 1163 = .ok (.goto 4, 3) := by decide +kernel
theorem de_W_law_1166 : decode code 1166 = .ok (.iconst 0, 1) := by decide +kernel
theorem de_W_law_1167 : decode code 1167 = .ok (.aload_n 3, 1) := by decide +kernel
theorem de_W_law_1168 : decode code 1168 = .ok (.invokestatic 117, 3) := by decide +kernel
theorem de_W_law_1171 : decode code 1171 = .ok (.istore 5, 2) := by decide +kernel
theorem de_W_law_1173 : decode code 1173 = .ok (.aload_n 2, 1) := by decide +kernel
theorem de_W_law_1174 : decode code 1174 = .ok (.aload_n 0, 1) := by decide +kernel
theorem de_W_law_1175 : decode code 1175 = .ok (.iload 4, 2) := by decide +kernel
theorem de_W_law_1177 : decode code 1177 = .ok (.iconst 1, 1) := by decide +kernel
theorem de_W_law_1178 : decode code 1178 = .ok (.iadd, 1) := by decide +kernel
theorem de_W_law_1179 : decode code 1179 = .ok (.iaload, 1) := by decide +kernel
theorem de_W_law_1180 : decode code 1180 = .ok (.i2l, 1) := by decide +kernel
theorem de_W_law_1181 : decode code 1181 = .ok (.bipush 32, 2) := by decide +kernel
