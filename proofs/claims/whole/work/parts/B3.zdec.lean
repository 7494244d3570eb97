/-! the law's instructions, 2 -/
def dTL_2_0 : List (Nat × (Instr × Nat)) := [(1015, (.aload_n 1, 1)), (1016, (.aload_n 0, 1)), (1017, (.iload 5, 2)), (1019, (.iconst 1, 1)), (1020, (.iadd, 1)), (1021, (.iaload, 1)), (1022, (.aload_n 3, 1)), (1023, (.invokestatic 206, 3)), (1026, (.istore 6, 2)), (1028, (.aload_n 2, 1)), (1029, (.aload_n 0, 1)), (1030, (.iload 5, 2)), (1032, (.iconst 1, 1)), (1033, (.iadd, 1)), (1034, (.iaload, 1)), (1035, (.invokevirtual 208, 3)), (1038, (.istore 7, 2)), (1040, (.aload_n 2, 1)), (1041, (.invokevirtual 144, 3)), (1044, (.iload 6, 2)), (1046, (.if_icmp .eq 5, 3)), (1051, (.iload 6, 2)), (1053, (.ifCond .ne 15, 3)), (1056, (.aload_n 3, 1)), (1057, (.iconst 0, 1)), (1058, (.laload, 1)), (1059, (.iload 7, 2)), (1061, (.i2l, 1)), (1062, (.lcmp, 1)), (1063, (.ifCond .eq 5, 3)), (1068, (.goto 1840, 3)), (1071, (.aload_n 1, 1)), (1072, (.aload_n 0, 1)), (1073, (.iload 5, 2)), (1075, (.iconst 1, 1)), (1076, (.iadd, 1)), (1077, (.iaload, 1)), (1078, (.aload_n 3, 1)), (1079, (.invokestatic 209, 3)), (1082, (.istore 6, 2)), (1084, (.aload_n 2, 1)), (1085, (.aload_n 0, 1)), (1086, (.iload 5, 2)), (1088, (.iconst 1, 1))]
theorem dTB_2_0 : dTL_2_0.all (fun q => decide (decode code q.1 = .ok q.2)) = true := by decide +kernel
set_option maxRecDepth 20000 in
theorem dW_1015 : decode code 1015 = .ok (.aload_n 1, 1) := dT_of dTB_2_0 0 rfl
set_option maxRecDepth 20000 in
theorem dW_1016 : decode code 1016 = .ok (.aload_n 0, 1) := dT_of dTB_2_0 1 rfl
set_option maxRecDepth 20000 in
theorem dW_1017 : decode code 1017 = .ok (.iload 5, 2) := dT_of dTB_2_0 2 rfl
set_option maxRecDepth 20000 in
theorem dW_1019 : decode code 1019 = .ok (.iconst 1, 1) := dT_of dTB_2_0 3 rfl
set_option maxRecDepth 20000 in
theorem dW_1020 : decode code 1020 = .ok (.iadd, 1) := dT_of dTB_2_0 4 rfl
set_option maxRecDepth 20000 in
theorem dW_1021 : decode code 1021 = .ok (.iaload, 1) := dT_of dTB_2_0 5 rfl
set_option maxRecDepth 20000 in
theorem dW_1022 : decode code 1022 = .ok (.aload_n 3, 1) := dT_of dTB_2_0 6 rfl
set_option maxRecDepth 20000 in
theorem dW_1023 : decode code 1023 = .ok (.invokestatic 206, 3) := dT_of dTB_2_0 7 rfl
set_option maxRecDepth 20000 in
theorem dW_1026 : decode code 1026 = .ok (.istore 6, 2) := dT_of dTB_2_0 8 rfl
set_option maxRecDepth 20000 in
theorem dW_1028 : decode code 1028 = .ok (.aload_n 2, 1) := dT_of dTB_2_0 9 rfl
set_option maxRecDepth 20000 in
theorem dW_1029 : decode code 1029 = .ok (.aload_n 0, 1) := dT_of dTB_2_0 10 rfl
set_option maxRecDepth 20000 in
theorem dW_1030 : decode code 1030 = .ok (.iload 5, 2) := dT_of dTB_2_0 11 rfl
set_option maxRecDepth 20000 in
theorem dW_1032 : decode code 1032 = .ok (.iconst 1, 1) := dT_of dTB_2_0 12 rfl
set_option maxRecDepth 20000 in
theorem dW_1033 : decode code 1033 = .ok (.iadd, 1) := dT_of dTB_2_0 13 rfl
set_option maxRecDepth 20000 in
theorem dW_1034 : decode code 1034 = .ok (.iaload, 1) := dT_of dTB_2_0 14 rfl
set_option maxRecDepth 20000 in
theorem dW_1035 : decode code 1035 = .ok (.invokevirtual 208, 3) := dT_of dTB_2_0 15 rfl
set_option maxRecDepth 20000 in
theorem dW_1038 : decode code 1038 = .ok (.istore 7, 2) := dT_of dTB_2_0 16 rfl
set_option maxRecDepth 20000 in
theorem dW_1040 : decode code 1040 = .ok (.aload_n 2, 1) := dT_of dTB_2_0 17 rfl
set_option maxRecDepth 20000 in
theorem dW_1041 : decode code 1041 = .ok (.invokevirtual 144, 3) := dT_of dTB_2_0 18 rfl
set_option maxRecDepth 20000 in
theorem dW_1044 : decode code 1044 = .ok (.iload 6, 2) := dT_of dTB_2_0 19 rfl
set_option maxRecDepth 20000 in
theorem dW_1046 : decode code 1046 = .ok (.if_icmp .eq 5, 3) := dT_of dTB_2_0 20 rfl
set_option maxRecDepth 20000 in
theorem dW_1051 : decode code 1051 = .ok (.iload 6, 2) := dT_of dTB_2_0 21 rfl
set_option maxRecDepth 20000 in
theorem dW_1053 : decode code 1053 = .ok (.ifCond .ne 15, 3) := dT_of dTB_2_0 22 rfl
set_option maxRecDepth 20000 in
theorem dW_1056 : decode code 1056 = .ok (.aload_n 3, 1) := dT_of dTB_2_0 23 rfl
set_option maxRecDepth 20000 in
theorem dW_1057 : decode code 1057 = .ok (.iconst 0, 1) := dT_of dTB_2_0 24 rfl
set_option maxRecDepth 20000 in
theorem dW_1058 : decode code 1058 = .ok (.laload, 1) := dT_of dTB_2_0 25 rfl
set_option maxRecDepth 20000 in
theorem dW_1059 : decode code 1059 = .ok (.iload 7, 2) := dT_of dTB_2_0 26 rfl
set_option maxRecDepth 20000 in
theorem dW_1061 : decode code 1061 = .ok (.i2l, 1) := dT_of dTB_2_0 27 rfl
set_option maxRecDepth 20000 in
theorem dW_1062 : decode code 1062 = .ok (.lcmp, 1) := dT_of dTB_2_0 28 rfl
set_option maxRecDepth 20000 in
theorem dW_1063 : decode code 1063 = .ok (.ifCond .eq 5, 3) := dT_of dTB_2_0 29 rfl
set_option maxRecDepth 20000 in
theorem dW_1068 : decode code 1068 = .ok (.goto 1840, 3) := dT_of dTB_2_0 30 rfl
set_option maxRecDepth 20000 in
theorem dW_1071 : decode code 1071 = .ok (.aload_n 1, 1) := dT_of dTB_2_0 31 rfl
set_option maxRecDepth 20000 in
theorem dW_1072 : decode code 1072 = .ok (.aload_n 0, 1) := dT_of dTB_2_0 32 rfl
set_option maxRecDepth 20000 in
theorem dW_1073 : decode code 1073 = .ok (.iload 5, 2) := dT_of dTB_2_0 33 rfl
set_option maxRecDepth 20000 in
theorem dW_1075 : decode code 1075 = .ok (.iconst 1, 1) := dT_of dTB_2_0 34 rfl
set_option maxRecDepth 20000 in
theorem dW_1076 : decode code 1076 = .ok (.iadd, 1) := dT_of dTB_2_0 35 rfl
set_option maxRecDepth 20000 in
theorem dW_1077 : decode code 1077 = .ok (.iaload, 1) := dT_of dTB_2_0 36 rfl
set_option maxRecDepth 20000 in
theorem dW_1078 : decode code 1078 = .ok (.aload_n 3, 1) := dT_of dTB_2_0 37 rfl
set_option maxRecDepth 20000 in
theorem dW_1079 : decode code 1079 = .ok (.invokestatic 209, 3) := dT_of dTB_2_0 38 rfl
set_option maxRecDepth 20000 in
theorem dW_1082 : decode code 1082 = .ok (.istore 6, 2) := dT_of dTB_2_0 39 rfl
set_option maxRecDepth 20000 in
theorem dW_1084 : decode code 1084 = .ok (.aload_n 2, 1) := dT_of dTB_2_0 40 rfl
set_option maxRecDepth 20000 in
theorem dW_1085 : decode code 1085 = .ok (.aload_n 0, 1) := dT_of dTB_2_0 41 rfl
set_option maxRecDepth 20000 in
theorem dW_1086 : decode code 1086 = .ok (.iload 5, 2) := dT_of dTB_2_0 42 rfl
set_option maxRecDepth 20000 in
theorem dW_1088 : decode code 1088 = .ok (.iconst 1, 1) := dT_of dTB_2_0 43 rfl
def dTL_2_1 : List (Nat × (Instr × Nat)) := [(1089, (.iadd, 1)), (1090, (.iaload, 1)), (1091, (.invokevirtual 211, 3)), (1094, (.istore 7, 2)), (1096, (.aload_n 2, 1)), (1097, (.invokevirtual 144, 3)), (1100, (.iload 6, 2)), (1102, (.if_icmp .eq 5, 3)), (1107, (.iload 6, 2)), (1109, (.ifCond .ne 15, 3)), (1112, (.aload_n 3, 1)), (1113, (.iconst 0, 1)), (1114, (.laload, 1)), (1115, (.iload 7, 2)), (1117, (.i2l, 1)), (1118, (.lcmp, 1)), (1119, (.ifCond .eq 5, 3)), (1124, (.goto 1784, 3)), (1127, (.aload_n 1, 1)), (1128, (.aload_n 0, 1)), (1129, (.iload 5, 2)), (1131, (.iconst 1, 1)), (1132, (.iadd, 1)), (1133, (.iaload, 1)), (1134, (.aload_n 3, 1)), (1135, (.invokestatic 212, 3)), (1138, (.istore 6, 2)), (1140, (.aload_n 2, 1)), (1141, (.aload_n 0, 1)), (1142, (.iload 5, 2)), (1144, (.iconst 1, 1)), (1145, (.iadd, 1)), (1146, (.iaload, 1)), (1147, (.invokevirtual 214, 3)), (1150, (.istore 7, 2)), (1152, (.aload_n 2, 1)), (1153, (.invokevirtual 144, 3)), (1156, (.iload 6, 2)), (1158, (.if_icmp .eq 5, 3)), (1163, (.iload 6, 2)), (1165, (.ifCond .ne 15, 3)), (1168, (.aload_n 3, 1)), (1169, (.iconst 0, 1)), (1170, (.laload, 1))]
theorem dTB_2_1 : dTL_2_1.all (fun q => decide (decode code q.1 = .ok q.2)) = true := by decide +kernel
set_option maxRecDepth 20000 in
theorem dW_1089 : decode code 1089 = .ok (.iadd, 1) := dT_of dTB_2_1 0 rfl
set_option maxRecDepth 20000 in
theorem dW_1090 : decode code 1090 = .ok (.iaload, 1) := dT_of dTB_2_1 1 rfl
set_option maxRecDepth 20000 in
theorem dW_1091 : decode code 1091 = .ok (.invokevirtual 211, 3) := dT_of dTB_2_1 2 rfl
set_option maxRecDepth 20000 in
theorem dW_1094 : decode code 1094 = .ok (.istore 7, 2) := dT_of dTB_2_1 3 rfl
set_option maxRecDepth 20000 in
theorem dW_1096 : decode code 1096 = .ok (.aload_n 2, 1) := dT_of dTB_2_1 4 rfl
set_option maxRecDepth 20000 in
theorem dW_1097 : decode code 1097 = .ok (.invokevirtual 144, 3) := dT_of dTB_2_1 5 rfl
set_option maxRecDepth 20000 in
theorem dW_1100 : decode code 1100 = .ok (.iload 6, 2) := dT_of dTB_2_1 6 rfl
set_option maxRecDepth 20000 in
theorem dW_1102 : decode code 1102 = .ok (.if_icmp .eq 5, 3) := dT_of dTB_2_1 7 rfl
set_option maxRecDepth 20000 in
theorem dW_1107 : decode code 1107 = .ok (.iload 6, 2) := dT_of dTB_2_1 8 rfl
set_option maxRecDepth 20000 in
theorem dW_1109 : decode code 1109 = .ok (.ifCond .ne 15, 3) := dT_of dTB_2_1 9 rfl
set_option maxRecDepth 20000 in
theorem dW_1112 : decode code 1112 = .ok (.aload_n 3, 1) := dT_of dTB_2_1 10 rfl
set_option maxRecDepth 20000 in
theorem dW_1113 : decode code 1113 = .ok (.iconst 0, 1) := dT_of dTB_2_1 11 rfl
set_option maxRecDepth 20000 in
theorem dW_1114 : decode code 1114 = .ok (.laload, 1) := dT_of dTB_2_1 12 rfl
set_option maxRecDepth 20000 in
theorem dW_1115 : decode code 1115 = .ok (.iload 7, 2) := dT_of dTB_2_1 13 rfl
set_option maxRecDepth 20000 in
theorem dW_1117 : decode code 1117 = .ok (.i2l, 1) := dT_of dTB_2_1 14 rfl
set_option maxRecDepth 20000 in
theorem dW_1118 : decode code 1118 = .ok (.lcmp, 1) := dT_of dTB_2_1 15 rfl
set_option maxRecDepth 20000 in
theorem dW_1119 : decode code 1119 = .ok (.ifCond .eq 5, 3) := dT_of dTB_2_1 16 rfl
set_option maxRecDepth 20000 in
theorem dW_1124 : decode code 1124 = .ok (.goto 1784, 3) := dT_of dTB_2_1 17 rfl
set_option maxRecDepth 20000 in
theorem dW_1127 : decode code 1127 = .ok (.aload_n 1, 1) := dT_of dTB_2_1 18 rfl
set_option maxRecDepth 20000 in
theorem dW_1128 : decode code 1128 = .ok (.aload_n 0, 1) := dT_of dTB_2_1 19 rfl
set_option maxRecDepth 20000 in
theorem dW_1129 : decode code 1129 = .ok (.iload 5, 2) := dT_of dTB_2_1 20 rfl
set_option maxRecDepth 20000 in
theorem dW_1131 : decode code 1131 = .ok (.iconst 1, 1) := dT_of dTB_2_1 21 rfl
set_option maxRecDepth 20000 in
theorem dW_1132 : decode code 1132 = .ok (.iadd, 1) := dT_of dTB_2_1 22 rfl
set_option maxRecDepth 20000 in
theorem dW_1133 : decode code 1133 = .ok (.iaload, 1) := dT_of dTB_2_1 23 rfl
set_option maxRecDepth 20000 in
theorem dW_1134 : decode code 1134 = .ok (.aload_n 3, 1) := dT_of dTB_2_1 24 rfl
set_option maxRecDepth 20000 in
theorem dW_1135 : decode code 1135 = .ok (.invokestatic 212, 3) := dT_of dTB_2_1 25 rfl
set_option maxRecDepth 20000 in
theorem dW_1138 : decode code 1138 = .ok (.istore 6, 2) := dT_of dTB_2_1 26 rfl
set_option maxRecDepth 20000 in
theorem dW_1140 : decode code 1140 = .ok (.aload_n 2, 1) := dT_of dTB_2_1 27 rfl
set_option maxRecDepth 20000 in
theorem dW_1141 : decode code 1141 = .ok (.aload_n 0, 1) := dT_of dTB_2_1 28 rfl
set_option maxRecDepth 20000 in
theorem dW_1142 : decode code 1142 = .ok (.iload 5, 2) := dT_of dTB_2_1 29 rfl
set_option maxRecDepth 20000 in
theorem dW_1144 : decode code 1144 = .ok (.iconst 1, 1) := dT_of dTB_2_1 30 rfl
set_option maxRecDepth 20000 in
theorem dW_1145 : decode code 1145 = .ok (.iadd, 1) := dT_of dTB_2_1 31 rfl
set_option maxRecDepth 20000 in
theorem dW_1146 : decode code 1146 = .ok (.iaload, 1) := dT_of dTB_2_1 32 rfl
set_option maxRecDepth 20000 in
theorem dW_1147 : decode code 1147 = .ok (.invokevirtual 214, 3) := dT_of dTB_2_1 33 rfl
set_option maxRecDepth 20000 in
theorem dW_1150 : decode code 1150 = .ok (.istore 7, 2) := dT_of dTB_2_1 34 rfl
set_option maxRecDepth 20000 in
theorem dW_1152 : decode code 1152 = .ok (.aload_n 2, 1) := dT_of dTB_2_1 35 rfl
set_option maxRecDepth 20000 in
theorem dW_1153 : decode code 1153 = .ok (.invokevirtual 144, 3) := dT_of dTB_2_1 36 rfl
set_option maxRecDepth 20000 in
theorem dW_1156 : decode code 1156 = .ok (.iload 6, 2) := dT_of dTB_2_1 37 rfl
set_option maxRecDepth 20000 in
theorem dW_1158 : decode code 1158 = .ok (.if_icmp .eq 5, 3) := dT_of dTB_2_1 38 rfl
set_option maxRecDepth 20000 in
theorem dW_1163 : decode code 1163 = .ok (.iload 6, 2) := dT_of dTB_2_1 39 rfl
set_option maxRecDepth 20000 in
theorem dW_1165 : decode code 1165 = .ok (.ifCond .ne 15, 3) := dT_of dTB_2_1 40 rfl
set_option maxRecDepth 20000 in
theorem dW_1168 : decode code 1168 = .ok (.aload_n 3, 1) := dT_of dTB_2_1 41 rfl
set_option maxRecDepth 20000 in
theorem dW_1169 : decode code 1169 = .ok (.iconst 0, 1) := dT_of dTB_2_1 42 rfl
set_option maxRecDepth 20000 in
theorem dW_1170 : decode code 1170 = .ok (.laload, 1) := dT_of dTB_2_1 43 rfl
def dTL_2_2 : List (Nat × (Instr × Nat)) := [(1171, (.iload 7, 2)), (1173, (.i2l, 1)), (1174, (.lcmp, 1)), (1175, (.ifCond .eq 5, 3)), (1180, (.goto 1728, 3)), (1183, (.aload_n 1, 1)), (1184, (.aload_n 0, 1)), (1185, (.iload 5, 2)), (1187, (.iconst 1, 1)), (1188, (.iadd, 1)), (1189, (.iaload, 1)), (1190, (.aload_n 3, 1)), (1191, (.invokestatic 215, 3)), (1194, (.istore 6, 2)), (1196, (.aload_n 2, 1)), (1197, (.aload_n 0, 1)), (1198, (.iload 5, 2)), (1200, (.iconst 1, 1)), (1201, (.iadd, 1)), (1202, (.iaload, 1)), (1203, (.invokevirtual 217, 3)), (1206, (.istore 7, 2)), (1208, (.aload_n 2, 1)), (1209, (.invokevirtual 144, 3)), (1212, (.iload 6, 2)), (1214, (.if_icmp .eq 5, 3)), (1219, (.iload 6, 2)), (1221, (.ifCond .ne 15, 3)), (1224, (.aload_n 3, 1)), (1225, (.iconst 0, 1)), (1226, (.laload, 1)), (1227, (.iload 7, 2)), (1229, (.i2l, 1)), (1230, (.lcmp, 1)), (1231, (.ifCond .eq 5, 3)), (1236, (.goto 1672, 3)), (1239, (.aload_n 1, 1)), (1240, (.aload_n 0, 1)), (1241, (.iload 5, 2)), (1243, (.iconst 1, 1)), (1244, (.iadd, 1)), (1245, (.iaload, 1)), (1246, (.aload_n 3, 1)), (1247, (.invokestatic 218, 3))]
theorem dTB_2_2 : dTL_2_2.all (fun q => decide (decode code q.1 = .ok q.2)) = true := by decide +kernel
set_option maxRecDepth 20000 in
theorem dW_1171 : decode code 1171 = .ok (.iload 7, 2) := dT_of dTB_2_2 0 rfl
set_option maxRecDepth 20000 in
theorem dW_1173 : decode code 1173 = .ok (.i2l, 1) := dT_of dTB_2_2 1 rfl
set_option maxRecDepth 20000 in
theorem dW_1174 : decode code 1174 = .ok (.lcmp, 1) := dT_of dTB_2_2 2 rfl
set_option maxRecDepth 20000 in
theorem dW_1175 : decode code 1175 = .ok (.ifCond .eq 5, 3) := dT_of dTB_2_2 3 rfl
set_option maxRecDepth 20000 in
theorem dW_1180 : decode code 1180 = .ok (.goto 1728, 3) := dT_of dTB_2_2 4 rfl
set_option maxRecDepth 20000 in
theorem dW_1183 : decode code 1183 = .ok (.aload_n 1, 1) := dT_of dTB_2_2 5 rfl
set_option maxRecDepth 20000 in
theorem dW_1184 : decode code 1184 = .ok (.aload_n 0, 1) := dT_of dTB_2_2 6 rfl
set_option maxRecDepth 20000 in
theorem dW_1185 : decode code 1185 = .ok (.iload 5, 2) := dT_of dTB_2_2 7 rfl
set_option maxRecDepth 20000 in
theorem dW_1187 : decode code 1187 = .ok (.iconst 1, 1) := dT_of dTB_2_2 8 rfl
set_option maxRecDepth 20000 in
theorem dW_1188 : decode code 1188 = .ok (.iadd, 1) := dT_of dTB_2_2 9 rfl
set_option maxRecDepth 20000 in
theorem dW_1189 : decode code 1189 = .ok (.iaload, 1) := dT_of dTB_2_2 10 rfl
set_option maxRecDepth 20000 in
theorem dW_1190 : decode code 1190 = .ok (.aload_n 3, 1) := dT_of dTB_2_2 11 rfl
set_option maxRecDepth 20000 in
theorem dW_1191 : decode code 1191 = .ok (.invokestatic 215, 3) := dT_of dTB_2_2 12 rfl
set_option maxRecDepth 20000 in
theorem dW_1194 : decode code 1194 = .ok (.istore 6, 2) := dT_of dTB_2_2 13 rfl
set_option maxRecDepth 20000 in
theorem dW_1196 : decode code 1196 = .ok (.aload_n 2, 1) := dT_of dTB_2_2 14 rfl
set_option maxRecDepth 20000 in
theorem dW_1197 : decode code 1197 = .ok (.aload_n 0, 1) := dT_of dTB_2_2 15 rfl
set_option maxRecDepth 20000 in
theorem dW_1198 : decode code 1198 = .ok (.iload 5, 2) := dT_of dTB_2_2 16 rfl
set_option maxRecDepth 20000 in
theorem dW_1200 : decode code 1200 = .ok (.iconst 1, 1) := dT_of dTB_2_2 17 rfl
set_option maxRecDepth 20000 in
theorem dW_1201 : decode code 1201 = .ok (.iadd, 1) := dT_of dTB_2_2 18 rfl
set_option maxRecDepth 20000 in
theorem dW_1202 : decode code 1202 = .ok (.iaload, 1) := dT_of dTB_2_2 19 rfl
set_option maxRecDepth 20000 in
theorem dW_1203 : decode code 1203 = .ok (.invokevirtual 217, 3) := dT_of dTB_2_2 20 rfl
set_option maxRecDepth 20000 in
theorem dW_1206 : decode code 1206 = .ok (.istore 7, 2) := dT_of dTB_2_2 21 rfl
set_option maxRecDepth 20000 in
theorem dW_1208 : decode code 1208 = .ok (.aload_n 2, 1) := dT_of dTB_2_2 22 rfl
set_option maxRecDepth 20000 in
theorem dW_1209 : decode code 1209 = .ok (.invokevirtual 144, 3) := dT_of dTB_2_2 23 rfl
set_option maxRecDepth 20000 in
theorem dW_1212 : decode code 1212 = .ok (.iload 6, 2) := dT_of dTB_2_2 24 rfl
set_option maxRecDepth 20000 in
theorem dW_1214 : decode code 1214 = .ok (.if_icmp .eq 5, 3) := dT_of dTB_2_2 25 rfl
set_option maxRecDepth 20000 in
theorem dW_1219 : decode code 1219 = .ok (.iload 6, 2) := dT_of dTB_2_2 26 rfl
set_option maxRecDepth 20000 in
theorem dW_1221 : decode code 1221 = .ok (.ifCond .ne 15, 3) := dT_of dTB_2_2 27 rfl
set_option maxRecDepth 20000 in
theorem dW_1224 : decode code 1224 = .ok (.aload_n 3, 1) := dT_of dTB_2_2 28 rfl
set_option maxRecDepth 20000 in
theorem dW_1225 : decode code 1225 = .ok (.iconst 0, 1) := dT_of dTB_2_2 29 rfl
set_option maxRecDepth 20000 in
theorem dW_1226 : decode code 1226 = .ok (.laload, 1) := dT_of dTB_2_2 30 rfl
set_option maxRecDepth 20000 in
theorem dW_1227 : decode code 1227 = .ok (.iload 7, 2) := dT_of dTB_2_2 31 rfl
set_option maxRecDepth 20000 in
theorem dW_1229 : decode code 1229 = .ok (.i2l, 1) := dT_of dTB_2_2 32 rfl
set_option maxRecDepth 20000 in
theorem dW_1230 : decode code 1230 = .ok (.lcmp, 1) := dT_of dTB_2_2 33 rfl
set_option maxRecDepth 20000 in
theorem dW_1231 : decode code 1231 = .ok (.ifCond .eq 5, 3) := dT_of dTB_2_2 34 rfl
set_option maxRecDepth 20000 in
theorem dW_1236 : decode code 1236 = .ok (.goto 1672, 3) := dT_of dTB_2_2 35 rfl
set_option maxRecDepth 20000 in
theorem dW_1239 : decode code 1239 = .ok (.aload_n 1, 1) := dT_of dTB_2_2 36 rfl
set_option maxRecDepth 20000 in
theorem dW_1240 : decode code 1240 = .ok (.aload_n 0, 1) := dT_of dTB_2_2 37 rfl
set_option maxRecDepth 20000 in
theorem dW_1241 : decode code 1241 = .ok (.iload 5, 2) := dT_of dTB_2_2 38 rfl
set_option maxRecDepth 20000 in
theorem dW_1243 : decode code 1243 = .ok (.iconst 1, 1) := dT_of dTB_2_2 39 rfl
set_option maxRecDepth 20000 in
theorem dW_1244 : decode code 1244 = .ok (.iadd, 1) := dT_of dTB_2_2 40 rfl
set_option maxRecDepth 20000 in
theorem dW_1245 : decode code 1245 = .ok (.iaload, 1) := dT_of dTB_2_2 41 rfl
set_option maxRecDepth 20000 in
theorem dW_1246 : decode code 1246 = .ok (.aload_n 3, 1) := dT_of dTB_2_2 42 rfl
set_option maxRecDepth 20000 in
theorem dW_1247 : decode code 1247 = .ok (.invokestatic 218, 3) := dT_of dTB_2_2 43 rfl
def dTL_2_3 : List (Nat × (Instr × Nat)) := [(1250, (.istore 6, 2)), (1252, (.aload_n 2, 1)), (1253, (.aload_n 0, 1)), (1254, (.iload 5, 2)), (1256, (.iconst 1, 1)), (1257, (.iadd, 1)), (1258, (.iaload, 1)), (1259, (.invokevirtual 220, 3)), (1262, (.istore 7, 2)), (1264, (.aload_n 2, 1)), (1265, (.invokevirtual 144, 3)), (1268, (.iload 6, 2)), (1270, (.if_icmp .eq 5, 3)), (1275, (.iload 6, 2)), (1277, (.ifCond .ne 22, 3)), (1280, (.aload_n 3, 1)), (1281, (.iconst 0, 1)), (1282, (.laload, 1)), (1283, (.iload 7, 2)), (1285, (.ifCond .eq 7, 3)), (1288, (.lconst 1, 1)), (1289, (.goto 4, 3)), (1292, (.lconst 0, 1)), (1293, (.lcmp, 1)), (1294, (.ifCond .eq 5, 3)), (1299, (.goto 1609, 3)), (1302, (.aload_n 1, 1)), (1303, (.aload_n 0, 1)), (1304, (.iload 5, 2)), (1306, (.iconst 1, 1)), (1307, (.iadd, 1)), (1308, (.iaload, 1)), (1309, (.aload_n 3, 1)), (1310, (.invokestatic 221, 3)), (1313, (.istore 6, 2)), (1315, (.aload_n 2, 1)), (1316, (.aload_n 0, 1)), (1317, (.iload 5, 2)), (1319, (.iconst 1, 1)), (1320, (.iadd, 1)), (1321, (.iaload, 1)), (1322, (.invokevirtual 223, 3)), (1325, (.istore 7, 2)), (1327, (.aload_n 2, 1))]
theorem dTB_2_3 : dTL_2_3.all (fun q => decide (decode code q.1 = .ok q.2)) = true := by decide +kernel
set_option maxRecDepth 20000 in
theorem dW_1250 : decode code 1250 = .ok (.istore 6, 2) := dT_of dTB_2_3 0 rfl
set_option maxRecDepth 20000 in
theorem dW_1252 : decode code 1252 = .ok (.aload_n 2, 1) := dT_of dTB_2_3 1 rfl
set_option maxRecDepth 20000 in
theorem dW_1253 : decode code 1253 = .ok (.aload_n 0, 1) := dT_of dTB_2_3 2 rfl
set_option maxRecDepth 20000 in
theorem dW_1254 : decode code 1254 = .ok (.iload 5, 2) := dT_of dTB_2_3 3 rfl
set_option maxRecDepth 20000 in
theorem dW_1256 : decode code 1256 = .ok (.iconst 1, 1) := dT_of dTB_2_3 4 rfl
set_option maxRecDepth 20000 in
theorem dW_1257 : decode code 1257 = .ok (.iadd, 1) := dT_of dTB_2_3 5 rfl
set_option maxRecDepth 20000 in
theorem dW_1258 : decode code 1258 = .ok (.iaload, 1) := dT_of dTB_2_3 6 rfl
set_option maxRecDepth 20000 in
theorem dW_1259 : decode code 1259 = .ok (.invokevirtual 220, 3) := dT_of dTB_2_3 7 rfl
set_option maxRecDepth 20000 in
theorem dW_1262 : decode code 1262 = .ok (.istore 7, 2) := dT_of dTB_2_3 8 rfl
set_option maxRecDepth 20000 in
theorem dW_1264 : decode code 1264 = .ok (.aload_n 2, 1) := dT_of dTB_2_3 9 rfl
set_option maxRecDepth 20000 in
theorem dW_1265 : decode code 1265 = .ok (.invokevirtual 144, 3) := dT_of dTB_2_3 10 rfl
set_option maxRecDepth 20000 in
theorem dW_1268 : decode code 1268 = .ok (.iload 6, 2) := dT_of dTB_2_3 11 rfl
set_option maxRecDepth 20000 in
theorem dW_1270 : decode code 1270 = .ok (.if_icmp .eq 5, 3) := dT_of dTB_2_3 12 rfl
set_option maxRecDepth 20000 in
theorem dW_1275 : decode code 1275 = .ok (.iload 6, 2) := dT_of dTB_2_3 13 rfl
set_option maxRecDepth 20000 in
theorem dW_1277 : decode code 1277 = .ok (.ifCond .ne 22, 3) := dT_of dTB_2_3 14 rfl
set_option maxRecDepth 20000 in
theorem dW_1280 : decode code 1280 = .ok (.aload_n 3, 1) := dT_of dTB_2_3 15 rfl
set_option maxRecDepth 20000 in
theorem dW_1281 : decode code 1281 = .ok (.iconst 0, 1) := dT_of dTB_2_3 16 rfl
set_option maxRecDepth 20000 in
theorem dW_1282 : decode code 1282 = .ok (.laload, 1) := dT_of dTB_2_3 17 rfl
set_option maxRecDepth 20000 in
theorem dW_1283 : decode code 1283 = .ok (.iload 7, 2) := dT_of dTB_2_3 18 rfl
set_option maxRecDepth 20000 in
theorem dW_1285 : decode code 1285 = .ok (.ifCond .eq 7, 3) := dT_of dTB_2_3 19 rfl
set_option maxRecDepth 20000 in
theorem dW_1288 : decode code 1288 = .ok (.lconst 1, 1) := dT_of dTB_2_3 20 rfl
set_option maxRecDepth 20000 in
theorem dW_1289 : decode code 1289 = .ok (.goto 4, 3) := dT_of dTB_2_3 21 rfl
set_option maxRecDepth 20000 in
theorem dW_1292 : decode code 1292 = .ok (.lconst 0, 1) := dT_of dTB_2_3 22 rfl
set_option maxRecDepth 20000 in
theorem dW_1293 : decode code 1293 = .ok (.lcmp, 1) := dT_of dTB_2_3 23 rfl
set_option maxRecDepth 20000 in
theorem dW_1294 : decode code 1294 = .ok (.ifCond .eq 5, 3) := dT_of dTB_2_3 24 rfl
set_option maxRecDepth 20000 in
theorem dW_1299 : decode code 1299 = .ok (.goto 1609, 3) := dT_of dTB_2_3 25 rfl
set_option maxRecDepth 20000 in
theorem dW_1302 : decode code 1302 = .ok (.aload_n 1, 1) := dT_of dTB_2_3 26 rfl
set_option maxRecDepth 20000 in
theorem dW_1303 : decode code 1303 = .ok (.aload_n 0, 1) := dT_of dTB_2_3 27 rfl
set_option maxRecDepth 20000 in
theorem dW_1304 : decode code 1304 = .ok (.iload 5, 2) := dT_of dTB_2_3 28 rfl
set_option maxRecDepth 20000 in
theorem dW_1306 : decode code 1306 = .ok (.iconst 1, 1) := dT_of dTB_2_3 29 rfl
set_option maxRecDepth 20000 in
theorem dW_1307 : decode code 1307 = .ok (.iadd, 1) := dT_of dTB_2_3 30 rfl
set_option maxRecDepth 20000 in
theorem dW_1308 : decode code 1308 = .ok (.iaload, 1) := dT_of dTB_2_3 31 rfl
set_option maxRecDepth 20000 in
theorem dW_1309 : decode code 1309 = .ok (.aload_n 3, 1) := dT_of dTB_2_3 32 rfl
set_option maxRecDepth 20000 in
theorem dW_1310 : decode code 1310 = .ok (.invokestatic 221, 3) := dT_of dTB_2_3 33 rfl
set_option maxRecDepth 20000 in
theorem dW_1313 : decode code 1313 = .ok (.istore 6, 2) := dT_of dTB_2_3 34 rfl
set_option maxRecDepth 20000 in
theorem dW_1315 : decode code 1315 = .ok (.aload_n 2, 1) := dT_of dTB_2_3 35 rfl
set_option maxRecDepth 20000 in
theorem dW_1316 : decode code 1316 = .ok (.aload_n 0, 1) := dT_of dTB_2_3 36 rfl
set_option maxRecDepth 20000 in
theorem dW_1317 : decode code 1317 = .ok (.iload 5, 2) := dT_of dTB_2_3 37 rfl
set_option maxRecDepth 20000 in
theorem dW_1319 : decode code 1319 = .ok (.iconst 1, 1) := dT_of dTB_2_3 38 rfl
set_option maxRecDepth 20000 in
theorem dW_1320 : decode code 1320 = .ok (.iadd, 1) := dT_of dTB_2_3 39 rfl
set_option maxRecDepth 20000 in
theorem dW_1321 : decode code 1321 = .ok (.iaload, 1) := dT_of dTB_2_3 40 rfl
set_option maxRecDepth 20000 in
theorem dW_1322 : decode code 1322 = .ok (.invokevirtual 223, 3) := dT_of dTB_2_3 41 rfl
set_option maxRecDepth 20000 in
theorem dW_1325 : decode code 1325 = .ok (.istore 7, 2) := dT_of dTB_2_3 42 rfl
set_option maxRecDepth 20000 in
theorem dW_1327 : decode code 1327 = .ok (.aload_n 2, 1) := dT_of dTB_2_3 43 rfl
def dTL_2_4 : List (Nat × (Instr × Nat)) := [(1328, (.invokevirtual 144, 3)), (1331, (.iload 6, 2)), (1333, (.if_icmp .eq 5, 3)), (1338, (.iload 6, 2)), (1340, (.ifCond .ne 15, 3)), (1343, (.aload_n 3, 1)), (1344, (.iconst 0, 1)), (1345, (.laload, 1)), (1346, (.iload 7, 2)), (1348, (.i2l, 1)), (1349, (.lcmp, 1)), (1350, (.ifCond .eq 5, 3)), (1355, (.goto 1553, 3)), (1358, (.aload_n 1, 1)), (1359, (.invokevirtual 224, 3)), (1362, (.aload_n 2, 1)), (1363, (.invokevirtual 227, 3)), (1366, (.if_icmp .eq 1542, 3)), (1371, (.aload_n 1, 1)), (1372, (.invokevirtual 228, 3)), (1375, (.aload_n 2, 1)), (1376, (.invokevirtual 231, 3)), (1379, (.if_icmp .eq 1529, 3)), (1384, (.aload_n 1, 1)), (1385, (.invokevirtual 232, 3)), (1388, (.aload_n 2, 1)), (1389, (.invokevirtual 235, 3)), (1392, (.if_icmp .eq 1516, 3)), (1397, (.aload_n 1, 1)), (1398, (.invokevirtual 236, 3)), (1401, (.dstore 6, 2)), (1403, (.aload_n 2, 1)), (1404, (.invokevirtual 240, 3)), (1407, (.dstore 8, 2)), (1409, (.dload 6, 2)), (1411, (.dload 8, 2)), (1413, (.dcmp .l, 1)), (1414, (.ifCond .eq 21, 3)), (1435, (.goto 1473, 3)), (1438, (.aload_n 1, 1)), (1439, (.invokevirtual 241, 3)), (1442, (.aload_n 2, 1)), (1443, (.invokevirtual 245, 3)), (1446, (.lcmp, 1))]
theorem dTB_2_4 : dTL_2_4.all (fun q => decide (decode code q.1 = .ok q.2)) = true := by decide +kernel
set_option maxRecDepth 20000 in
theorem dW_1328 : decode code 1328 = .ok (.invokevirtual 144, 3) := dT_of dTB_2_4 0 rfl
set_option maxRecDepth 20000 in
theorem dW_1331 : decode code 1331 = .ok (.iload 6, 2) := dT_of dTB_2_4 1 rfl
set_option maxRecDepth 20000 in
theorem dW_1333 : decode code 1333 = .ok (.if_icmp .eq 5, 3) := dT_of dTB_2_4 2 rfl
set_option maxRecDepth 20000 in
theorem dW_1338 : decode code 1338 = .ok (.iload 6, 2) := dT_of dTB_2_4 3 rfl
set_option maxRecDepth 20000 in
theorem dW_1340 : decode code 1340 = .ok (.ifCond .ne 15, 3) := dT_of dTB_2_4 4 rfl
set_option maxRecDepth 20000 in
theorem dW_1343 : decode code 1343 = .ok (.aload_n 3, 1) := dT_of dTB_2_4 5 rfl
set_option maxRecDepth 20000 in
theorem dW_1344 : decode code 1344 = .ok (.iconst 0, 1) := dT_of dTB_2_4 6 rfl
set_option maxRecDepth 20000 in
theorem dW_1345 : decode code 1345 = .ok (.laload, 1) := dT_of dTB_2_4 7 rfl
set_option maxRecDepth 20000 in
theorem dW_1346 : decode code 1346 = .ok (.iload 7, 2) := dT_of dTB_2_4 8 rfl
set_option maxRecDepth 20000 in
theorem dW_1348 : decode code 1348 = .ok (.i2l, 1) := dT_of dTB_2_4 9 rfl
set_option maxRecDepth 20000 in
theorem dW_1349 : decode code 1349 = .ok (.lcmp, 1) := dT_of dTB_2_4 10 rfl
set_option maxRecDepth 20000 in
theorem dW_1350 : decode code 1350 = .ok (.ifCond .eq 5, 3) := dT_of dTB_2_4 11 rfl
set_option maxRecDepth 20000 in
theorem dW_1355 : decode code 1355 = .ok (.goto 1553, 3) := dT_of dTB_2_4 12 rfl
set_option maxRecDepth 20000 in
theorem dW_1358 : decode code 1358 = .ok (.aload_n 1, 1) := dT_of dTB_2_4 13 rfl
set_option maxRecDepth 20000 in
theorem dW_1359 : decode code 1359 = .ok (.invokevirtual 224, 3) := dT_of dTB_2_4 14 rfl
set_option maxRecDepth 20000 in
theorem dW_1362 : decode code 1362 = .ok (.aload_n 2, 1) := dT_of dTB_2_4 15 rfl
set_option maxRecDepth 20000 in
theorem dW_1363 : decode code 1363 = .ok (.invokevirtual 227, 3) := dT_of dTB_2_4 16 rfl
set_option maxRecDepth 20000 in
theorem dW_1366 : decode code 1366 = .ok (.if_icmp .eq 1542, 3) := dT_of dTB_2_4 17 rfl
set_option maxRecDepth 20000 in
theorem dW_1371 : decode code 1371 = .ok (.aload_n 1, 1) := dT_of dTB_2_4 18 rfl
set_option maxRecDepth 20000 in
theorem dW_1372 : decode code 1372 = .ok (.invokevirtual 228, 3) := dT_of dTB_2_4 19 rfl
set_option maxRecDepth 20000 in
theorem dW_1375 : decode code 1375 = .ok (.aload_n 2, 1) := dT_of dTB_2_4 20 rfl
set_option maxRecDepth 20000 in
theorem dW_1376 : decode code 1376 = .ok (.invokevirtual 231, 3) := dT_of dTB_2_4 21 rfl
set_option maxRecDepth 20000 in
theorem dW_1379 : decode code 1379 = .ok (.if_icmp .eq 1529, 3) := dT_of dTB_2_4 22 rfl
set_option maxRecDepth 20000 in
theorem dW_1384 : decode code 1384 = .ok (.aload_n 1, 1) := dT_of dTB_2_4 23 rfl
set_option maxRecDepth 20000 in
theorem dW_1385 : decode code 1385 = .ok (.invokevirtual 232, 3) := dT_of dTB_2_4 24 rfl
set_option maxRecDepth 20000 in
theorem dW_1388 : decode code 1388 = .ok (.aload_n 2, 1) := dT_of dTB_2_4 25 rfl
set_option maxRecDepth 20000 in
theorem dW_1389 : decode code 1389 = .ok (.invokevirtual 235, 3) := dT_of dTB_2_4 26 rfl
set_option maxRecDepth 20000 in
theorem dW_1392 : decode code 1392 = .ok (.if_icmp .eq 1516, 3) := dT_of dTB_2_4 27 rfl
set_option maxRecDepth 20000 in
theorem dW_1397 : decode code 1397 = .ok (.aload_n 1, 1) := dT_of dTB_2_4 28 rfl
set_option maxRecDepth 20000 in
theorem dW_1398 : decode code 1398 = .ok (.invokevirtual 236, 3) := dT_of dTB_2_4 29 rfl
set_option maxRecDepth 20000 in
theorem dW_1401 : decode code 1401 = .ok (.dstore 6, 2) := dT_of dTB_2_4 30 rfl
set_option maxRecDepth 20000 in
theorem dW_1403 : decode code 1403 = .ok (.aload_n 2, 1) := dT_of dTB_2_4 31 rfl
set_option maxRecDepth 20000 in
theorem dW_1404 : decode code 1404 = .ok (.invokevirtual 240, 3) := dT_of dTB_2_4 32 rfl
set_option maxRecDepth 20000 in
theorem dW_1407 : decode code 1407 = .ok (.dstore 8, 2) := dT_of dTB_2_4 33 rfl
set_option maxRecDepth 20000 in
theorem dW_1409 : decode code 1409 = .ok (.dload 6, 2) := dT_of dTB_2_4 34 rfl
set_option maxRecDepth 20000 in
theorem dW_1411 : decode code 1411 = .ok (.dload 8, 2) := dT_of dTB_2_4 35 rfl
set_option maxRecDepth 20000 in
theorem dW_1413 : decode code 1413 = .ok (.dcmp .l, 1) := dT_of dTB_2_4 36 rfl
set_option maxRecDepth 20000 in
theorem dW_1414 : decode code 1414 = .ok (.ifCond .eq 21, 3) := dT_of dTB_2_4 37 rfl
set_option maxRecDepth 20000 in
theorem dW_1435 : decode code 1435 = .ok (.goto 1473, 3) := dT_of dTB_2_4 38 rfl
set_option maxRecDepth 20000 in
theorem dW_1438 : decode code 1438 = .ok (.aload_n 1, 1) := dT_of dTB_2_4 39 rfl
set_option maxRecDepth 20000 in
theorem dW_1439 : decode code 1439 = .ok (.invokevirtual 241, 3) := dT_of dTB_2_4 40 rfl
set_option maxRecDepth 20000 in
theorem dW_1442 : decode code 1442 = .ok (.aload_n 2, 1) := dT_of dTB_2_4 41 rfl
set_option maxRecDepth 20000 in
theorem dW_1443 : decode code 1443 = .ok (.invokevirtual 245, 3) := dT_of dTB_2_4 42 rfl
set_option maxRecDepth 20000 in
theorem dW_1446 : decode code 1446 = .ok (.lcmp, 1) := dT_of dTB_2_4 43 rfl
