theorem dL_944 : decode code 944 = .ok (.aload_n 3, 1) := by decide +kernel
theorem dL_945 : decode code 945 = .ok (.invokestatic 152, 3) := by decide +kernel
theorem dL_948 : decode code 948 = .ok (.istore 5, 2) := by decide +kernel
theorem dL_950 : decode code 950 = .ok (.aload_n 2, 1) := by decide +kernel
theorem dL_951 : decode code 951 = .ok (.aload_n 0, 1) := by decide +kernel
theorem dL_952 : decode code 952 = .ok (.iload 4, 2) := by decide +kernel
theorem dL_954 : decode code 954 = .ok (.iconst 1, 1) := by decide +kernel
theorem dL_955 : decode code 955 = .ok (.iadd, 1) := by decide +kernel
theorem dL_956 : decode code 956 = .ok (.iaload, 1) := by decide +kernel
theorem dL_957 : decode code 957 = .ok (.aload_n 0, 1) := by decide +kernel
theorem dL_958 : decode code 958 = .ok (.iload 4, 2) := by decide +kernel
theorem dL_960 : decode code 960 = .ok (.iconst 2, 1) := by decide +kernel
theorem dL_961 : decode code 961 = .ok (.iadd, 1) := by decide +kernel
theorem dL_962 : decode code 962 = .ok (.iaload, 1) := by decide +kernel
theorem dL_963 : decode code 963 = .ok (.invokevirtual 154, 3) := by decide +kernel
theorem dL_966 : decode code 966 = .ok (.lstore 6, 2) := by decide +kernel
theorem dL_968 : decode code 968 = .ok (.aload_n 2, 1) := by decide +kernel
theorem dL_969 : decode code 969 = .ok (.invokevirtual 109, 3) := by decide +kernel
theorem dL_972 : decode code 972 = .ok (.iload 5, 2) := by decide +kernel
theorem dL_974 : decode code 974 = .ok (.if_icmp .eq 5, 3) := by decide +kernel
theorem dL_979 : decode code 979 = .ok (.iload 5, 2) := by decide +kernel
theorem dL_981 : decode code 981 = .ok (.ifCond .ne 14, 3) := by decide +kernel
theorem dL_984 : decode code 984 = .ok (.aload_n 3, 1) := by decide +kernel
theorem dL_985 : decode code 985 = .ok (.iconst 0, 1) := by decide +kernel
theorem dL_986 : decode code 986 = .ok (.laload, 1) := by decide +kernel
theorem dL_987 : decode code 987 = .ok (.lload 6, 2) := by decide +kernel
theorem dL_989 : decode code 989 = .ok (.lcmp, 1) := by decide +kernel
theorem dL_990 : decode code 990 = .ok (.ifCond .eq 5, 3) := by decide +kernel
theorem dL_995 : decode code 995 = .ok (.goto 617, 3) := by decide +kernel
theorem dL_998 : decode code 998 = .ok (.aload_n 1, 1) := by decide +kernel
theorem dL_999 : decode code 999 = .ok (.aload_n 0, 1) := by decide +kernel
theorem dL_1000 : decode code 1000 = .ok (.iload 4, 2) := by decide +kernel
theorem dL_1002 : decode code 1002 = .ok (.iconst 1, 1) := by decide +kernel
theorem dL_1003 : decode code 1003 = .ok (.iadd, 1) := by decide +kernel
theorem dL_1004 : decode code 1004 = .ok (.iaload, 1) := by decide +kernel
theorem dL_1005 : decode code 1005 = .ok (.aload_n 0, 1) := by decide +kernel
theorem dL_1006 : decode code 1006 = .ok (.iload 4, 2) := by decide +kernel
theorem dL_1008 : decode code 1008 = .ok (.iconst 2, 1) := by decide +kernel
theorem dL_1009 : decode code 1009 = .ok (.iadd, 1) := by decide +kernel
theorem dL_1010 : decode code 1010 = .ok (.iaload, 1) := by decide +kernel
theorem dL_1011 : decode code 1011 = .ok (.aload_n 3, 1) := by decide +kernel
theorem dL_1012 : decode code 1012 = .ok (.invokestatic 155, 3) := by decide +kernel
theorem dL_1015 : decode code 1015 = .ok (.istore 5, 2) := by decide +kernel
theorem dL_1017 : decode code 1017 = .ok (.aload_n 2, 1) := by decide +kernel
theorem dL_1018 : decode code 1018 = .ok (.aload_n 0, 1) := by decide +kernel
theorem dL_1019 : decode code 1019 = .ok (.iload 4, 2) := by decide +kernel
theorem dL_1021 : decode code 1021 = .ok (.iconst 1, 1) := by decide +kernel
theorem dL_1022 : decode code 1022 = .ok (.iadd, 1) := by decide +kernel
theorem dL_1023 : decode code 1023 = .ok (.iaload, 1) := by decide +kernel
theorem dL_1024 : decode code 1024 = .ok (.aload_n 0, 1) := by decide +kernel
theorem dL_1025 : decode code 1025 = .ok (.iload 4, 2) := by decide +kernel
theorem dL_1027 : decode code 1027 = .ok (.iconst 2, 1) := by decide +kernel
theorem dL_1028 : decode code 1028 = .ok (.iadd, 1) := by decide +kernel
theorem dL_1029 : decode code 1029 = .ok (.iaload, 1) := by decide +kernel
theorem dL_1030 : decode code 1030 = .ok (.invokevirtual 157, 3) := by decide +kernel
theorem dL_1033 : decode code 1033 = .ok (.istore 6, 2) := by decide +kernel
theorem dL_1035 : decode code 1035 = .ok (.aload_n 2, 1) := by decide +kernel
theorem dL_1036 : decode code 1036 = .ok (.invokevirtual 109, 3) := by decide +kernel
theorem dL_1039 : decode code 1039 = .ok (.iload 5, 2) := by decide +kernel
theorem dL_1041 : decode code 1041 = .ok (.if_icmp .eq 5, 3) := by decide +kernel
theorem dL_1046 : decode code 1046 = .ok (.iload 5, 2) := by decide +kernel
theorem dL_1048 : decode code 1048 = .ok (.ifCond .ne 15, 3) := by decide +kernel
theorem dL_1051 : decode code 1051 = .ok (.aload_n 3, 1) := by decide +kernel
theorem dL_1052 : decode code 1052 = .ok (.iconst 0, 1) := by decide +kernel
theorem dL_1053 : decode code 1053 = .ok (.laload, 1) := by decide +kernel
theorem dL_1054 : decode code 1054 = .ok (.iload 6, 2) := by decide +kernel
theorem dL_1056 : decode code 1056 = .ok (.i2l, 1) := by decide +kernel
theorem dL_1057 : decode code 1057 = .ok (.lcmp, 1) := by decide +kernel
theorem dL_1058 : decode code 1058 = .ok (.ifCond .eq 5, 3) := by decide +kernel
theorem dL_1063 : decode code 1063 = .ok (.goto 549, 3) := by decide +kernel
theorem dL_1066 : decode code 1066 = .ok (.aload_n 1, 1) := by decide +kernel
theorem dL_1067 : decode code 1067 = .ok (.aload_n 0, 1) := by decide +kernel
theorem dL_1068 : decode code 1068 = .ok (.iload 4, 2) := by decide +kernel
theorem dL_1070 : decode code 1070 = .ok (.iconst 1, 1) := by decide +kernel
theorem dL_1071 : decode code 1071 = .ok (.iadd, 1) := by decide +kernel
theorem dL_1072 : decode code 1072 = .ok (.iaload, 1) := by decide +kernel
theorem dL_1073 : decode code 1073 = .ok (.aload_n 0, 1) := by decide +kernel
theorem dL_1074 : decode code 1074 = .ok (.iload 4, 2) := by decide +kernel
theorem dL_1076 : decode code 1076 = .ok (.iconst 2, 1) := by decide +kernel
theorem dL_1077 : decode code 1077 = .ok (.iadd, 1) := by decide +kernel
theorem dL_1078 : decode code 1078 = .ok (.iaload, 1) := by decide +kernel
theorem dL_1079 : decode code 1079 = .ok (.aload_n 3, 1) := by decide +kernel
theorem dL_1080 : decode code 1080 = .ok (.invokestatic 158, 3) := by decide +kernel
theorem dL_1083 : decode code 1083 = .ok (.istore 5, 2) := by decide +kernel
theorem dL_1085 : decode code 1085 = .ok (.aload_n 2, 1) := by decide +kernel
theorem dL_1086 : decode code 1086 = .ok (.aload_n 0, 1) := by decide +kernel
theorem dL_1087 : decode code 1087 = .ok (.iload 4, 2) := by decide +kernel
theorem dL_1089 : decode code 1089 = .ok (.iconst 1, 1) := by decide +kernel
theorem dL_1090 : decode code 1090 = .ok (.iadd, 1) := by decide +kernel
theorem dL_1091 : decode code 1091 = .ok (.iaload, 1) := by decide +kernel
theorem dL_1092 : decode code 1092 = .ok (.aload_n 0, 1) := by decide +kernel
theorem dL_1093 : decode code 1093 = .ok (.iload 4, 2) := by decide +kernel
theorem dL_1095 : decode code 1095 = .ok (.iconst 2, 1) := by decide +kernel
theorem dL_1096 : decode code 1096 = .ok (.iadd, 1) := by decide +kernel
theorem dL_1097 : decode code 1097 = .ok (.iaload, 1) := by decide +kernel
theorem dL_1098 : decode code 1098 = .ok (.invokevirtual 160, 3) := by decide +kernel
theorem dL_1101 : decode code 1101 = .ok (.istore 6, 2) := by decide +kernel
theorem dL_1103 : decode code 1103 = .ok (.aload_n 2, 1) := by decide +kernel
theorem dL_1104 : decode code 1104 = .ok (.invokevirtual 109, 3) := by decide +kernel
theorem dL_1107 : decode code 1107 = .ok (.iload 5, 2) := by decide +kernel
theorem dL_1109 : decode code 1109 = .ok (.if_icmp .eq 5, 3) := by decide +kernel
theorem dL_1114 : decode code 1114 = .ok (.iload 5, 2) := by decide +kernel
theorem dL_1116 : decode code 1116 = .ok (.ifCond .ne 15, 3) := by decide +kernel
theorem dL_1119 : decode code 1119 = .ok (.aload_n 3, 1) := by decide +kernel
theorem dL_1120 : decode code 1120 = .ok (.iconst 0, 1) := by decide +kernel
theorem dL_1121 : decode code 1121 = .ok (.laload, 1) := by decide +kernel
theorem dL_1122 : decode code 1122 = .ok (.iload 6, 2) := by decide +kernel
theorem dL_1124 : decode code 1124 = .ok (.i2l, 1) := by decide +kernel
theorem dL_1125 : decode code 1125 = .ok (.lcmp, 1) := by decide +kernel
theorem dL_1126 : decode code 1126 = .ok (.ifCond .eq 5, 3) := by decide +kernel
theorem dL_1131 : decode code 1131 = .ok (.goto 481, 3) := by decide +kernel
theorem dL_1134 : decode code 1134 = .ok (.aload_n 1, 1) := by decide +kernel
theorem dL_1135 : decode code 1135 = .ok (.aload_n 0, 1) := by decide +kernel
theorem dL_1136 : decode code 1136 = .ok (.iload 4, 2) := by decide +kernel
theorem dL_1138 : decode code 1138 = .ok (.iconst 1, 1) := by decide +kernel
theorem dL_1139 : decode code 1139 = .ok (.iadd, 1) := by decide +kernel
theorem dL_1140 : decode code 1140 = .ok (.iaload, 1) := by decide +kernel
theorem dL_1141 : decode code 1141 = .ok (.aload_n 3, 1) := by decide +kernel
theorem dL_1142 : decode code 1142 = .ok (.invokestatic 161, 3) := by decide +kernel
theorem dL_1145 : decode code 1145 = .ok (.istore 5, 2) := by decide +kernel
theorem dL_1147 : decode code 1147 = .ok (.aload_n 2, 1) := by decide +kernel
theorem dL_1148 : decode code 1148 = .ok (.aload_n 0, 1) := by decide +kernel
theorem dL_1149 : decode code 1149 = .ok (.iload 4, 2) := by decide +kernel
theorem dL_1151 : decode code 1151 = .ok (.iconst 1, 1) := by decide +kernel
theorem dL_1152 : decode code 1152 = .ok (.iadd, 1) := by decide +kernel
theorem dL_1153 : decode code 1153 = .ok (.iaload, 1) := by decide +kernel
theorem dL_1154 : decode code 1154 = .ok (.invokevirtual 163, 3) := by decide +kernel
theorem dL_1157 : decode code 1157 = .ok (.istore 6, 2) := by decide +kernel
theorem dL_1159 : decode code 1159 = .ok (.aload_n 2, 1) := by decide +kernel
theorem dL_1160 : decode code 1160 = .ok (.invokevirtual 109, 3) := by decide +kernel
theorem dL_1163 : decode code 1163 = .ok (.iload 5, 2) := by decide +kernel
theorem dL_1165 : decode code 1165 = .ok (.if_icmp .eq 5, 3) := by decide +kernel
theorem dL_1170 : decode code 1170 = .ok (.iload 5, 2) := by decide +kernel
theorem dL_1172 : decode code 1172 = .ok (.ifCond .ne 15, 3) := by decide +kernel
theorem dL_1175 : decode code 1175 = .ok (.aload_n 3, 1) := by decide +kernel
theorem dL_1176 : decode code 1176 = .ok (.iconst 0, 1) := by decide +kernel
theorem dL_1177 : decode code 1177 = .ok (.laload, 1) := by decide +kernel
theorem dL_1178 : decode code 1178 = .ok (.iload 6, 2) := by decide +kernel
theorem dL_1180 : decode code 1180 = .ok (.i2l, 1) := by decide +kernel
theorem dL_1181 : decode code 1181 = .ok (.lcmp, 1) := by decide +kernel
theorem dL_1182 : decode code 1182 = .ok (.ifCond .eq 5, 3) := by decide +kernel
theorem dL_1187 : decode code 1187 = .ok (.goto 425, 3) := by decide +kernel
theorem dL_1190 : decode code 1190 = .ok (.aload_n 1, 1) := by decide +kernel
theorem dL_1191 : decode code 1191 = .ok (.aload_n 0, 1) := by decide +kernel
theorem dL_1192 : decode code 1192 = .ok (.iload 4, 2) := by decide +kernel
theorem dL_1194 : decode code 1194 = .ok (.iconst 1, 1) := by decide +kernel
theorem dL_1195 : decode code 1195 = .ok (.iadd, 1) := by decide +kernel
theorem dL_1196 : decode code 1196 = .ok (.iaload, 1) := by decide +kernel
theorem dL_1197 : decode code 1197 = .ok (.aload_n 3, 1) := by decide +kernel
theorem dL_1198 : decode code 1198 = .ok (.invokestatic 164, 3) := by decide +kernel
theorem dL_1201 : decode code 1201 = .ok (.istore 5, 2) := by decide +kernel
theorem dL_1203 : decode code 1203 = .ok (.aload_n 2, 1) := by decide +kernel
theorem dL_1204 : decode code 1204 = .ok (.aload_n 0, 1) := by decide +kernel
theorem dL_1205 : decode code 1205 = .ok (.iload 4, 2) := by decide +kernel
theorem dL_1207 : decode code 1207 = .ok (.iconst 1, 1) := by decide +kernel
theorem dL_1208 : decode code 1208 = .ok (.iadd, 1) := by decide +kernel
theorem dL_1209 : decode code 1209 = .ok (.iaload, 1) := by decide +kernel
theorem dL_1210 : decode code 1210 = .ok (.invokevirtual 166, 3) := by decide +kernel
theorem dL_1213 : decode code 1213 = .ok (.istore 6, 2) := by decide +kernel
theorem dL_1215 : decode code 1215 = .ok (.aload_n 2, 1) := by decide +kernel
theorem dL_1216 : decode code 1216 = .ok (.invokevirtual 109, 3) := by decide +kernel
theorem dL_1219 : decode code 1219 = .ok (.iload 5, 2) := by decide +kernel
theorem dL_1221 : decode code 1221 = .ok (.if_icmp .eq 5, 3) := by decide +kernel
theorem dL_1226 : decode code 1226 = .ok (.iload 5, 2) := by decide +kernel
theorem dL_1228 : decode code 1228 = .ok (.ifCond .ne 15, 3) := by decide +kernel
theorem dL_1231 : decode code 1231 = .ok (.aload_n 3, 1) := by decide +kernel
theorem dL_1232 : decode code 1232 = .ok (.iconst 0, 1) := by decide +kernel
theorem dL_1233 : decode code 1233 = .ok (.laload, 1) := by decide +kernel
theorem dL_1234 : decode code 1234 = .ok (.iload 6, 2) := by decide +kernel
theorem dL_1236 : decode code 1236 = .ok (.i2l, 1) := by decide +kernel
theorem dL_1237 : decode code 1237 = .ok (.lcmp, 1) := by decide +kernel
theorem dL_1238 : decode code 1238 = .ok (.ifCond .eq 5, 3) := by decide +kernel
theorem dL_1243 : decode code 1243 = .ok (.goto 369, 3) := by decide +kernel
theorem dL_1246 : decode code 1246 = .ok (.aload_n 1, 1) := by decide +kernel
theorem dL_1247 : decode code 1247 = .ok (.aload_n 0, 1) := by decide +kernel
theorem dL_1248 : decode code 1248 = .ok (.iload 4, 2) := by decide +kernel
theorem dL_1250 : decode code 1250 = .ok (.iconst 1, 1) := by decide +kernel
theorem dL_1251 : decode code 1251 = .ok (.iadd, 1) := by decide +kernel
theorem dL_1252 : decode code 1252 = .ok (.iaload, 1) := by decide +kernel
theorem dL_1253 : decode code 1253 = .ok (.aload_n 3, 1) := by decide +kernel
theorem dL_1254 : decode code 1254 = .ok (.invokestatic 167, 3) := by decide +kernel
theorem dL_1257 : decode code 1257 = .ok (.istore 5, 2) := by decide +kernel
theorem dL_1259 : decode code 1259 = .ok (.aload_n 2, 1) := by decide +kernel
theorem dL_1260 : decode code 1260 = .ok (.aload_n 0, 1) := by decide +kernel
theorem dL_1261 : decode code 1261 = .ok (.iload 4, 2) := by decide +kernel
theorem dL_1263 : decode code 1263 = .ok (.iconst 1, 1) := by decide +kernel
theorem dL_1264 : decode code 1264 = .ok (.iadd, 1) := by decide +kernel
theorem dL_1265 : decode code 1265 = .ok (.iaload, 1) := by decide +kernel
theorem dL_1266 : decode code 1266 = .ok (.invokevirtual 169, 3) := by decide +kernel
theorem dL_1269 : decode code 1269 = .ok (.istore 6, 2) := by decide +kernel
theorem dL_1271 : decode code 1271 = .ok (.aload_n 2, 1) := by decide +kernel
theorem dL_1272 : decode code 1272 = .ok (.invokevirtual 109, 3) := by decide +kernel
theorem dL_1275 : decode code 1275 = .ok (.iload 5, 2) := by decide +kernel
theorem dL_1277 : decode code 1277 = .ok (.if_icmp .eq 5, 3) := by decide +kernel
theorem dL_1282 : decode code 1282 = .ok (.iload 5, 2) := by decide +kernel
theorem dL_1284 : decode code 1284 = .ok (.ifCond .ne 22, 3) := by decide +kernel
theorem dL_1287 : decode code 1287 = .ok (.aload_n 3, 1) := by decide +kernel
theorem dL_1288 : decode code 1288 = .ok (.iconst 0, 1) := by decide +kernel
theorem dL_1289 : decode code 1289 = .ok (.laload, 1) := by decide +kernel
theorem dL_1290 : decode code 1290 = .ok (.iload 6, 2) := by decide +kernel
theorem dL_1292 : decode code 1292 = .ok (.ifCond .eq 7, 3) := by decide +kernel
theorem dL_1295 : decode code 1295 = .ok (.lconst 1, 1) := by decide +kernel
theorem dL_1296 : decode code 1296 = .ok (.goto 4, 3) := by decide +kernel
theorem dL_1299 : decode code 1299 = .ok (.lconst 0, 1) := by decide +kernel
theorem dL_1300 : decode code 1300 = .ok (.lcmp, 1) := by decide +kernel
theorem dL_1301 : decode code 1301 = .ok (.ifCond .eq 5, 3) := by decide +kernel
theorem dL_1306 : decode code 1306 = .ok (.goto 306, 3) := by decide +kernel
theorem dL_1309 : decode code 1309 = .ok (.aload_n 1, 1) := by decide +kernel
theorem dL_1310 : decode code 1310 = .ok (.aload_n 0, 1) := by decide +kernel
theorem dL_1311 : decode code 1311 = .ok (.iload 4, 2) := by decide +kernel
theorem dL_1313 : decode code 1313 = .ok (.iconst 1, 1) := by decide +kernel
theorem dL_1314 : decode code 1314 = .ok (.iadd, 1) := by decide +kernel
theorem dL_1315 : decode code 1315 = .ok (.iaload, 1) := by decide +kernel
theorem dL_1316 : decode code 1316 = .ok (.aload_n 3, 1) := by decide +kernel
theorem dL_1317 : decode code 1317 = .ok (.invokestatic 170, 3) := by decide +kernel
theorem dL_1320 : decode code 1320 = .ok (.istore 5, 2) := by decide +kernel
theorem dL_1322 : decode code 1322 = .ok (.aload_n 2, 1) := by decide +kernel
theorem dL_1323 : decode code 1323 = .ok (.aload_n 0, 1) := by decide +kernel
theorem dL_1324 : decode code 1324 = .ok (.iload 4, 2) := by decide +kernel
theorem dL_1326 : decode code 1326 = .ok (.iconst 1, 1) := by decide +kernel
theorem dL_1327 : decode code 1327 = .ok (.iadd, 1) := by decide +kernel
theorem dL_1328 : decode code 1328 = .ok (.iaload, 1) := by decide +kernel
theorem dL_1329 : decode code 1329 = .ok (.invokevirtual 172, 3) := by decide +kernel
theorem dL_1332 : decode code 1332 = .ok (.istore 6, 2) := by decide +kernel
theorem dL_1334 : decode code 1334 = .ok (.aload_n 2, 1) := by decide +kernel
theorem dL_1335 : decode code 1335 = .ok (.invokevirtual 109, 3) := by decide +kernel
theorem dL_1338 : decode code 1338 = .ok (.iload 5, 2) := by decide +kernel
theorem dL_1340 : decode code 1340 = .ok (.if_icmp .eq 5, 3) := by decide +kernel
theorem dL_1345 : decode code 1345 = .ok (.iload 5, 2) := by decide +kernel
theorem dL_1347 : decode code 1347 = .ok (.ifCond .ne 15, 3) := by decide +kernel
theorem dL_1350 : decode code 1350 = .ok (.aload_n 3, 1) := by decide +kernel
theorem dL_1351 : decode code 1351 = .ok (.iconst 0, 1) := by decide +kernel
theorem dL_1352 : decode code 1352 = .ok (.laload, 1) := by decide +kernel
theorem dL_1353 : decode code 1353 = .ok (.iload 6, 2) := by decide +kernel
theorem dL_1355 : decode code 1355 = .ok (.i2l, 1) := by decide +kernel
theorem dL_1356 : decode code 1356 = .ok (.lcmp, 1) := by decide +kernel
theorem dL_1357 : decode code 1357 = .ok (.ifCond .eq 5, 3) := by decide +kernel
theorem dL_1362 : decode code 1362 = .ok (.goto 250, 3) := by decide +kernel
theorem dL_1365 : decode code 1365 = .ok (.aload_n 1, 1) := by decide +kernel
theorem dL_1366 : decode code 1366 = .ok (.aload_n 0, 1) := by decide +kernel
theorem dL_1367 : decode code 1367 = .ok (.iload 4, 2) := by decide +kernel
theorem dL_1369 : decode code 1369 = .ok (.iconst 1, 1) := by decide +kernel
theorem dL_1370 : decode code 1370 = .ok (.iadd, 1) := by decide +kernel
theorem dL_1371 : decode code 1371 = .ok (.iaload, 1) := by decide +kernel
theorem dL_1372 : decode code 1372 = .ok (.aload_n 3, 1) := by decide +kernel
theorem dL_1373 : decode code 1373 = .ok (.invokestatic 173, 3) := by decide +kernel
theorem dL_1376 : decode code 1376 = .ok (.istore 5, 2) := by decide +kernel
theorem dL_1378 : decode code 1378 = .ok (.aload_n 2, 1) := by decide +kernel
theorem dL_1379 : decode code 1379 = .ok (.aload_n 0, 1) := by decide +kernel
theorem dL_1380 : decode code 1380 = .ok (.iload 4, 2) := by decide +kernel
