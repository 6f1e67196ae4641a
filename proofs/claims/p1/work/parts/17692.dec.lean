/-! the law, decoded, the rest -/
theorem d_947 : decode code 947 = .ok (.iload 5, 2) := by decide +kernel
theorem d_949 : decode code 949 = .ok (.if_icmp .eq 5, 3) := by decide +kernel
theorem d_954 : decode code 954 = .ok (.iload 5, 2) := by decide +kernel
theorem d_956 : decode code 956 = .ok (.ifCond .ne 22, 3) := by decide +kernel
theorem d_959 : decode code 959 = .ok (.aload_n 3, 1) := by decide +kernel
theorem d_960 : decode code 960 = .ok (.iconst 0, 1) := by decide +kernel
theorem d_961 : decode code 961 = .ok (.laload, 1) := by decide +kernel
theorem d_962 : decode code 962 = .ok (.iload 6, 2) := by decide +kernel
theorem d_964 : decode code 964 = .ok (.ifCond .eq 7, 3) := by decide +kernel
theorem d_967 : decode code 967 = .ok (.lconst 1, 1) := by decide +kernel
theorem d_968 : decode code 968 = .ok (.goto 4, 3) := by decide +kernel
theorem d_971 : decode code 971 = .ok (.lconst 0, 1) := by decide +kernel
theorem d_972 : decode code 972 = .ok (.lcmp, 1) := by decide +kernel
theorem d_973 : decode code 973 = .ok (.ifCond .eq 5, 3) := by decide +kernel
theorem d_978 : decode code 978 = .ok (.goto 419, 3) := by decide +kernel
theorem d_981 : decode code 981 = .ok (.aload_n 1, 1) := by decide +kernel
theorem d_982 : decode code 982 = .ok (.aload_n 0, 1) := by decide +kernel
theorem d_983 : decode code 983 = .ok (.iload 4, 2) := by decide +kernel
theorem d_985 : decode code 985 = .ok (.iconst 1, 1) := by decide +kernel
theorem d_986 : decode code 986 = .ok (.iadd, 1) := by decide +kernel
theorem d_987 : decode code 987 = .ok (.iaload, 1) := by decide +kernel
theorem d_988 : decode code 988 = .ok (.aload_n 0, 1) := by decide +kernel
theorem d_989 : decode code 989 = .ok (.iload 4, 2) := by decide +kernel
theorem d_991 : decode code 991 = .ok (.iconst 2, 1) := by decide +kernel
theorem d_992 : decode code 992 = .ok (.iadd, 1) := by decide +kernel
theorem d_993 : decode code 993 = .ok (.iaload, 1) := by decide +kernel
theorem d_994 : decode code 994 = .ok (.aload_n 0, 1) := by decide +kernel
theorem d_995 : decode code 995 = .ok (.iload 4, 2) := by decide +kernel
theorem d_997 : decode code 997 = .ok (.iconst 3, 1) := by decide +kernel
theorem d_998 : decode code 998 = .ok (.iadd, 1) := by decide +kernel
theorem d_999 : decode code 999 = .ok (.iaload, 1) := by decide +kernel
theorem d_1000 : decode code 1000 = .ok (.aload_n 3, 1) := by decide +kernel
theorem d_1001 : decode code 1001 = .ok (.invokestatic 132, 3) := by decide +kernel
theorem d_1004 : decode code 1004 = .ok (.istore 5, 2) := by decide +kernel
theorem d_1006 : decode code 1006 = .ok (.aload_n 2, 1) := by decide +kernel
theorem d_1007 : decode code 1007 = .ok (.aload_n 0, 1) := by decide +kernel
theorem d_1008 : decode code 1008 = .ok (.iload 4, 2) := by decide +kernel
theorem d_1010 : decode code 1010 = .ok (.iconst 1, 1) := by decide +kernel
theorem d_1011 : decode code 1011 = .ok (.iadd, 1) := by decide +kernel
theorem d_1012 : decode code 1012 = .ok (.iaload, 1) := by decide +kernel
theorem d_1013 : decode code 1013 = .ok (.aload_n 0, 1) := by decide +kernel
theorem d_1014 : decode code 1014 = .ok (.iload 4, 2) := by decide +kernel
theorem d_1016 : decode code 1016 = .ok (.iconst 2, 1) := by decide +kernel
theorem d_1017 : decode code 1017 = .ok (.iadd, 1) := by decide +kernel
theorem d_1018 : decode code 1018 = .ok (.iaload, 1) := by decide +kernel
theorem d_1019 : decode code 1019 = .ok (.aload_n 0, 1) := by decide +kernel
theorem d_1020 : decode code 1020 = .ok (.iload 4, 2) := by decide +kernel
theorem d_1022 : decode code 1022 = .ok (.iconst 3, 1) := by decide +kernel
theorem d_1023 : decode code 1023 = .ok (.iadd, 1) := by decide +kernel
theorem d_1024 : decode code 1024 = .ok (.iaload, 1) := by decide +kernel
theorem d_1025 : decode code 1025 = .ok (.invokevirtual 134, 3) := by decide +kernel
theorem d_1028 : decode code 1028 = .ok (.istore 6, 2) := by decide +kernel
theorem d_1030 : decode code 1030 = .ok (.aload_n 2, 1) := by decide +kernel
theorem d_1031 : decode code 1031 = .ok (.invokevirtual 83, 3) := by decide +kernel
theorem d_1034 : decode code 1034 = .ok (.iload 5, 2) := by decide +kernel
theorem d_1036 : decode code 1036 = .ok (.if_icmp .eq 5, 3) := by decide +kernel
theorem d_1041 : decode code 1041 = .ok (.iload 5, 2) := by decide +kernel
theorem d_1043 : decode code 1043 = .ok (.ifCond .ne 22, 3) := by decide +kernel
theorem d_1046 : decode code 1046 = .ok (.aload_n 3, 1) := by decide +kernel
theorem d_1047 : decode code 1047 = .ok (.iconst 0, 1) := by decide +kernel
theorem d_1048 : decode code 1048 = .ok (.laload, 1) := by decide +kernel
theorem d_1049 : decode code 1049 = .ok (.iload 6, 2) := by decide +kernel
theorem d_1051 : decode code 1051 = .ok (.ifCond .eq 7, 3) := by decide +kernel
theorem d_1054 : decode code 1054 = .ok (.lconst 1, 1) := by decide +kernel
theorem d_1055 : decode code 1055 = .ok (.goto 4, 3) := by decide +kernel
theorem d_1058 : decode code 1058 = .ok (.lconst 0, 1) := by decide +kernel
theorem d_1059 : decode code 1059 = .ok (.lcmp, 1) := by decide +kernel
theorem d_1060 : decode code 1060 = .ok (.ifCond .eq 5, 3) := by decide +kernel
theorem d_1065 : decode code 1065 = .ok (.goto 332, 3) := by decide +kernel
theorem d_1068 : decode code 1068 = .ok (.aload_n 1, 1) := by decide +kernel
theorem d_1069 : decode code 1069 = .ok (.aload_n 0, 1) := by decide +kernel
theorem d_1070 : decode code 1070 = .ok (.iload 4, 2) := by decide +kernel
theorem d_1072 : decode code 1072 = .ok (.iconst 1, 1) := by decide +kernel
theorem d_1073 : decode code 1073 = .ok (.iadd, 1) := by decide +kernel
theorem d_1074 : decode code 1074 = .ok (.iaload, 1) := by decide +kernel
theorem d_1075 : decode code 1075 = .ok (.aload_n 0, 1) := by decide +kernel
theorem d_1076 : decode code 1076 = .ok (.iload 4, 2) := by decide +kernel
theorem d_1078 : decode code 1078 = .ok (.iconst 2, 1) := by decide +kernel
theorem d_1079 : decode code 1079 = .ok (.iadd, 1) := by decide +kernel
theorem d_1080 : decode code 1080 = .ok (.iaload, 1) := by decide +kernel
theorem d_1081 : decode code 1081 = .ok (.aload_n 3, 1) := by decide +kernel
theorem d_1082 : decode code 1082 = .ok (.invokestatic 135, 3) := by decide +kernel
theorem d_1085 : decode code 1085 = .ok (.istore 5, 2) := by decide +kernel
theorem d_1087 : decode code 1087 = .ok (.aload_n 2, 1) := by decide +kernel
theorem d_1088 : decode code 1088 = .ok (.aload_n 0, 1) := by decide +kernel
theorem d_1089 : decode code 1089 = .ok (.iload 4, 2) := by decide +kernel
theorem d_1091 : decode code 1091 = .ok (.iconst 1, 1) := by decide +kernel
theorem d_1092 : decode code 1092 = .ok (.iadd, 1) := by decide +kernel
theorem d_1093 : decode code 1093 = .ok (.iaload, 1) := by decide +kernel
theorem d_1094 : decode code 1094 = .ok (.aload_n 0, 1) := by decide +kernel
theorem d_1095 : decode code 1095 = .ok (.iload 4, 2) := by decide +kernel
theorem d_1097 : decode code 1097 = .ok (.iconst 2, 1) := by decide +kernel
theorem d_1098 : decode code 1098 = .ok (.iadd, 1) := by decide +kernel
theorem d_1099 : decode code 1099 = .ok (.iaload, 1) := by decide +kernel
theorem d_1100 : decode code 1100 = .ok (.invokevirtual 137, 3) := by decide +kernel
theorem d_1103 : decode code 1103 = .ok (.istore 6, 2) := by decide +kernel
theorem d_1105 : decode code 1105 = .ok (.aload_n 2, 1) := by decide +kernel
theorem d_1106 : decode code 1106 = .ok (.invokevirtual 83, 3) := by decide +kernel
theorem d_1109 : decode code 1109 = .ok (.iload 5, 2) := by decide +kernel
theorem d_1111 : decode code 1111 = .ok (.if_icmp .eq 5, 3) := by decide +kernel
theorem d_1116 : decode code 1116 = .ok (.iload 5, 2) := by decide +kernel
theorem d_1118 : decode code 1118 = .ok (.ifCond .ne 15, 3) := by decide +kernel
theorem d_1121 : decode code 1121 = .ok (.aload_n 3, 1) := by decide +kernel
theorem d_1122 : decode code 1122 = .ok (.iconst 0, 1) := by decide +kernel
theorem d_1123 : decode code 1123 = .ok (.laload, 1) := by decide +kernel
theorem d_1124 : decode code 1124 = .ok (.iload 6, 2) := by decide +kernel
theorem d_1126 : decode code 1126 = .ok (.i2l, 1) := by decide +kernel
theorem d_1127 : decode code 1127 = .ok (.lcmp, 1) := by decide +kernel
theorem d_1128 : decode code 1128 = .ok (.ifCond .eq 5, 3) := by decide +kernel
theorem d_1133 : decode code 1133 = .ok (.goto 264, 3) := by decide +kernel
theorem d_1136 : decode code 1136 = .ok (.aload_n 1, 1) := by decide +kernel
theorem d_1137 : decode code 1137 = .ok (.aload_n 0, 1) := by decide +kernel
theorem d_1138 : decode code 1138 = .ok (.iload 4, 2) := by decide +kernel
theorem d_1140 : decode code 1140 = .ok (.iconst 1, 1) := by decide +kernel
theorem d_1141 : decode code 1141 = .ok (.iadd, 1) := by decide +kernel
theorem d_1142 : decode code 1142 = .ok (.iaload, 1) := by decide +kernel
theorem d_1143 : decode code 1143 = .ok (.aload_n 3, 1) := by decide +kernel
theorem d_1144 : decode code 1144 = .ok (.invokestatic 138, 3) := by decide +kernel
theorem d_1147 : decode code 1147 = .ok (.istore 5, 2) := by decide +kernel
theorem d_1149 : decode code 1149 = .ok (.aload_n 2, 1) := by decide +kernel
theorem d_1150 : decode code 1150 = .ok (.aload_n 0, 1) := by decide +kernel
theorem d_1151 : decode code 1151 = .ok (.iload 4, 2) := by decide +kernel
theorem d_1153 : decode code 1153 = .ok (.iconst 1, 1) := by decide +kernel
theorem d_1154 : decode code 1154 = .ok (.iadd, 1) := by decide +kernel
theorem d_1155 : decode code 1155 = .ok (.iaload, 1) := by decide +kernel
theorem d_1156 : decode code 1156 = .ok (.invokevirtual 140, 3) := by decide +kernel
theorem d_1159 : decode code 1159 = .ok (.istore 6, 2) := by decide +kernel
theorem d_1161 : decode code 1161 = .ok (.aload_n 2, 1) := by decide +kernel
theorem d_1162 : decode code 1162 = .ok (.invokevirtual 83, 3) := by decide +kernel
theorem d_1165 : decode code 1165 = .ok (.iload 5, 2) := by decide +kernel
theorem d_1167 : decode code 1167 = .ok (.if_icmp .eq 5, 3) := by decide +kernel
theorem d_1172 : decode code 1172 = .ok (.iload 5, 2) := by decide +kernel
theorem d_1174 : decode code 1174 = .ok (.ifCond .ne 15, 3) := by decide +kernel
theorem d_1177 : decode code 1177 = .ok (.aload_n 3, 1) := by decide +kernel
theorem d_1178 : decode code 1178 = .ok (.iconst 0, 1) := by decide +kernel
theorem d_1179 : decode code 1179 = .ok (.laload, 1) := by decide +kernel
theorem d_1180 : decode code 1180 = .ok (.iload 6, 2) := by decide +kernel
theorem d_1182 : decode code 1182 = .ok (.i2l, 1) := by decide +kernel
theorem d_1183 : decode code 1183 = .ok (.lcmp, 1) := by decide +kernel
theorem d_1184 : decode code 1184 = .ok (.ifCond .eq 5, 3) := by decide +kernel
theorem d_1189 : decode code 1189 = .ok (.goto 208, 3) := by decide +kernel
theorem d_1192 : decode code 1192 = .ok (.aload_n 1, 1) := by decide +kernel
theorem d_1193 : decode code 1193 = .ok (.aload_n 0, 1) := by decide +kernel
theorem d_1194 : decode code 1194 = .ok (.iload 4, 2) := by decide +kernel
theorem d_1196 : decode code 1196 = .ok (.iconst 1, 1) := by decide +kernel
theorem d_1197 : decode code 1197 = .ok (.iadd, 1) := by decide +kernel
theorem d_1198 : decode code 1198 = .ok (.iaload, 1) := by decide +kernel
theorem d_1199 : decode code 1199 = .ok (.aload_n 0, 1) := by decide +kernel
theorem d_1200 : decode code 1200 = .ok (.iload 4, 2) := by decide +kernel
theorem d_1202 : decode code 1202 = .ok (.iconst 2, 1) := by decide +kernel
theorem d_1203 : decode code 1203 = .ok (.iadd, 1) := by decide +kernel
theorem d_1204 : decode code 1204 = .ok (.iaload, 1) := by decide +kernel
theorem d_1205 : decode code 1205 = .ok (.aload_n 3, 1) := by decide +kernel
theorem d_1206 : decode code 1206 = .ok (.invokestatic 141, 3) := by decide +kernel
theorem d_1209 : decode code 1209 = .ok (.istore 5, 2) := by decide +kernel
theorem d_1211 : decode code 1211 = .ok (.aload_n 2, 1) := by decide +kernel
theorem d_1212 : decode code 1212 = .ok (.aload_n 0, 1) := by decide +kernel
theorem d_1213 : decode code 1213 = .ok (.iload 4, 2) := by decide +kernel
theorem d_1215 : decode code 1215 = .ok (.iconst 1, 1) := by decide +kernel
theorem d_1216 : decode code 1216 = .ok (.iadd, 1) := by decide +kernel
theorem d_1217 : decode code 1217 = .ok (.iaload, 1) := by decide +kernel
theorem d_1218 : decode code 1218 = .ok (.aload_n 0, 1) := by decide +kernel
theorem d_1219 : decode code 1219 = .ok (.iload 4, 2) := by decide +kernel
theorem d_1221 : decode code 1221 = .ok (.iconst 2, 1) := by decide +kernel
theorem d_1222 : decode code 1222 = .ok (.iadd, 1) := by decide +kernel
theorem d_1223 : decode code 1223 = .ok (.iaload, 1) := by decide +kernel
theorem d_1224 : decode code 1224 = .ok (.invokevirtual 143, 3) := by decide +kernel
theorem d_1227 : decode code 1227 = .ok (.istore 6, 2) := by decide +kernel
theorem d_1229 : decode code 1229 = .ok (.aload_n 2, 1) := by decide +kernel
theorem d_1230 : decode code 1230 = .ok (.invokevirtual 83, 3) := by decide +kernel
theorem d_1233 : decode code 1233 = .ok (.iload 5, 2) := by decide +kernel
theorem d_1235 : decode code 1235 = .ok (.if_icmp .eq 5, 3) := by decide +kernel
theorem d_1240 : decode code 1240 = .ok (.iload 5, 2) := by decide +kernel
theorem d_1242 : decode code 1242 = .ok (.ifCond .ne 15, 3) := by decide +kernel
theorem d_1245 : decode code 1245 = .ok (.aload_n 3, 1) := by decide +kernel
theorem d_1246 : decode code 1246 = .ok (.iconst 0, 1) := by decide +kernel
theorem d_1247 : decode code 1247 = .ok (.laload, 1) := by decide +kernel
theorem d_1248 : decode code 1248 = .ok (.iload 6, 2) := by decide +kernel
theorem d_1250 : decode code 1250 = .ok (.i2l, 1) := by decide +kernel
theorem d_1251 : decode code 1251 = .ok (.lcmp, 1) := by decide +kernel
theorem d_1252 : decode code 1252 = .ok (.ifCond .eq 5, 3) := by decide +kernel
theorem d_1257 : decode code 1257 = .ok (.goto 140, 3) := by decide +kernel
theorem d_1260 : decode code 1260 = .ok (.aload_n 1, 1) := by decide +kernel
theorem d_1261 : decode code 1261 = .ok (.aload_n 0, 1) := by decide +kernel
theorem d_1262 : decode code 1262 = .ok (.iload 4, 2) := by decide +kernel
theorem d_1264 : decode code 1264 = .ok (.iconst 1, 1) := by decide +kernel
theorem d_1265 : decode code 1265 = .ok (.iadd, 1) := by decide +kernel
theorem d_1266 : decode code 1266 = .ok (.iaload, 1) := by decide +kernel
theorem d_1267 : decode code 1267 = .ok (.invokevirtual 144, 3) := by decide +kernel
theorem d_1270 : decode code 1270 = .ok (.aload_n 2, 1) := by decide +kernel
theorem d_1271 : decode code 1271 = .ok (.aload_n 0, 1) := by decide +kernel
theorem d_1272 : decode code 1272 = .ok (.iload 4, 2) := by decide +kernel
theorem d_1274 : decode code 1274 = .ok (.iconst 1, 1) := by decide +kernel
theorem d_1275 : decode code 1275 = .ok (.iadd, 1) := by decide +kernel
theorem d_1276 : decode code 1276 = .ok (.iaload, 1) := by decide +kernel
theorem d_1277 : decode code 1277 = .ok (.invokevirtual 147, 3) := by decide +kernel
theorem d_1280 : decode code 1280 = .ok (.if_icmp .eq 117, 3) := by decide +kernel
theorem d_1285 : decode code 1285 = .ok (.aload_n 1, 1) := by decide +kernel
theorem d_1286 : decode code 1286 = .ok (.aload_n 0, 1) := by decide +kernel
theorem d_1287 : decode code 1287 = .ok (.iload 4, 2) := by decide +kernel
theorem d_1289 : decode code 1289 = .ok (.iconst 1, 1) := by decide +kernel
theorem d_1290 : decode code 1290 = .ok (.iadd, 1) := by decide +kernel
theorem d_1291 : decode code 1291 = .ok (.iaload, 1) := by decide +kernel
theorem d_1292 : decode code 1292 = .ok (.aload_n 3, 1) := by decide +kernel
theorem d_1293 : decode code 1293 = .ok (.invokestatic 148, 3) := by decide +kernel
theorem d_1296 : decode code 1296 = .ok (.istore 5, 2) := by decide +kernel
theorem d_1298 : decode code 1298 = .ok (.aload_n 2, 1) := by decide +kernel
theorem d_1299 : decode code 1299 = .ok (.aload_n 0, 1) := by decide +kernel
theorem d_1300 : decode code 1300 = .ok (.iload 4, 2) := by decide +kernel
theorem d_1302 : decode code 1302 = .ok (.iconst 1, 1) := by decide +kernel
theorem d_1303 : decode code 1303 = .ok (.iadd, 1) := by decide +kernel
theorem d_1304 : decode code 1304 = .ok (.iaload, 1) := by decide +kernel
theorem d_1305 : decode code 1305 = .ok (.invokevirtual 150, 3) := by decide +kernel
theorem d_1308 : decode code 1308 = .ok (.istore 6, 2) := by decide +kernel
theorem d_1310 : decode code 1310 = .ok (.aload_n 2, 1) := by decide +kernel
theorem d_1311 : decode code 1311 = .ok (.invokevirtual 83, 3) := by decide +kernel
theorem d_1314 : decode code 1314 = .ok (.iload 5, 2) := by decide +kernel
theorem d_1316 : decode code 1316 = .ok (.if_icmp .eq 5, 3) := by decide +kernel
theorem d_1321 : decode code 1321 = .ok (.iload 5, 2) := by decide +kernel
theorem d_1323 : decode code 1323 = .ok (.ifCond .ne 15, 3) := by decide +kernel
theorem d_1326 : decode code 1326 = .ok (.aload_n 3, 1) := by decide +kernel
theorem d_1327 : decode code 1327 = .ok (.iconst 0, 1) := by decide +kernel
theorem d_1328 : decode code 1328 = .ok (.laload, 1) := by decide +kernel
theorem d_1329 : decode code 1329 = .ok (.iload 6, 2) := by decide +kernel
theorem d_1331 : decode code 1331 = .ok (.i2l, 1) := by decide +kernel
theorem d_1332 : decode code 1332 = .ok (.lcmp, 1) := by decide +kernel
theorem d_1333 : decode code 1333 = .ok (.ifCond .eq 5, 3) := by decide +kernel
theorem d_1338 : decode code 1338 = .ok (.goto 59, 3) := by decide +kernel
theorem d_1341 : decode code 1341 = .ok (.aload_n 1, 1) := by decide +kernel
theorem d_1342 : decode code 1342 = .ok (.aload_n 0, 1) := by decide +kernel
theorem d_1343 : decode code 1343 = .ok (.iload 4, 2) := by decide +kernel
theorem d_1345 : decode code 1345 = .ok (.iconst 1, 1) := by decide +kernel
theorem d_1346 : decode code 1346 = .ok (.iadd, 1) := by decide +kernel
theorem d_1347 : decode code 1347 = .ok (.iaload, 1) := by decide +kernel
theorem d_1348 : decode code 1348 = .ok (.aload_n 3, 1) := by decide +kernel
theorem d_1349 : decode code 1349 = .ok (.invokestatic 151, 3) := by decide +kernel
theorem d_1352 : decode code 1352 = .ok (.istore 5, 2) := by decide +kernel
theorem d_1354 : decode code 1354 = .ok (.aload_n 2, 1) := by decide +kernel
theorem d_1355 : decode code 1355 = .ok (.aload_n 0, 1) := by decide +kernel
theorem d_1356 : decode code 1356 = .ok (.iload 4, 2) := by decide +kernel
theorem d_1358 : decode code 1358 = .ok (.iconst 1, 1) := by decide +kernel
theorem d_1359 : decode code 1359 = .ok (.iadd, 1) := by decide +kernel
theorem d_1360 : decode code 1360 = .ok (.iaload, 1) := by decide +kernel
theorem d_1361 : decode code 1361 = .ok (.invokevirtual 153, 3) := by decide +kernel
theorem d_1364 : decode code 1364 = .ok (.istore 6, 2) := by decide +kernel
theorem d_1366 : decode code 1366 = .ok (.aload_n 2, 1) := by decide +kernel
theorem d_1367 : decode code 1367 = .ok (.invokevirtual 83, 3) := by decide +kernel
theorem d_1370 : decode code 1370 = .ok (.iload 5, 2) := by decide +kernel
theorem d_1372 : decode code 1372 = .ok (.if_icmp .eq 5, 3) := by decide +kernel
theorem d_1377 : decode code 1377 = .ok (.iload 5, 2) := by decide +kernel
theorem d_1379 : decode code 1379 = .ok (.ifCond .ne 15, 3) := by decide +kernel
theorem d_1382 : decode code 1382 = .ok (.aload_n 3, 1) := by decide +kernel
theorem d_1383 : decode code 1383 = .ok (.iconst 0, 1) := by decide +kernel
theorem d_1384 : decode code 1384 = .ok (.laload, 1) := by decide +kernel
theorem d_1385 : decode code 1385 = .ok (.iload 6, 2) := by decide +kernel
theorem d_1387 : decode code 1387 = .ok (.i2l, 1) := by decide +kernel
theorem d_1388 : decode code 1388 = .ok (.lcmp, 1) := by decide +kernel
theorem d_1389 : decode code 1389 = .ok (.ifCond .eq 5, 3) := by decide +kernel
theorem d_1394 : decode code 1394 = .ok (.goto 3, 3) := by decide +kernel
theorem d_1397 : decode code 1397 = .ok (.iinc 4 4, 3) := by decide +kernel
theorem d_1400 : decode code 1400 = .ok (.goto (-1377), 3) := by decide +kernel
theorem d_1403 : decode code 1403 = .ok (.iconst 1, 1) := by decide +kernel
theorem d_1404 : decode code 1404 = .ok (.ireturn, 1) := by decide +kernel
