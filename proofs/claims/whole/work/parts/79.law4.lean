/-! the law decoded, 4 -/
theorem dw_1058 : decode code 1058 = .ok (.aload_n 3, 1) := by decide +kernel
theorem dw_1059 : decode code 1059 = .ok (.invokestatic 165, 3) := by decide +kernel
theorem dw_1062 : decode code 1062 = .ok (.istore 5, 2) := by decide +kernel
theorem dw_1064 : decode code 1064 = .ok (.aload_n 2, 1) := by decide +kernel
theorem dw_1065 : decode code 1065 = .ok (.aload_n 0, 1) := by decide +kernel
theorem dw_1066 : decode code 1066 = .ok (.iload 4, 2) := by decide +kernel
theorem dw_1068 : decode code 1068 = .ok (.iconst 1, 1) := by decide +kernel
theorem dw_1069 : decode code 1069 = .ok (.iadd, 1) := by decide +kernel
theorem dw_1070 : decode code 1070 = .ok (.iaload, 1) := by decide +kernel
theorem dw_1071 : decode code 1071 = .ok (.aload_n 0, 1) := by decide +kernel
theorem dw_1072 : decode code 1072 = .ok (.iload 4, 2) := by decide +kernel
theorem dw_1074 : decode code 1074 = .ok (.iconst 2, 1) := by decide +kernel
theorem dw_1075 : decode code 1075 = .ok (.iadd, 1) := by decide +kernel
theorem dw_1076 : decode code 1076 = .ok (.iaload, 1) := by decide +kernel
theorem dw_1077 : decode code 1077 = .ok (.invokevirtual 167, 3) := by decide +kernel
theorem dw_1080 : decode code 1080 = .ok (.lstore 6, 2) := by decide +kernel
theorem dw_1082 : decode code 1082 = .ok (.aload_n 2, 1) := by decide +kernel
theorem dw_1083 : decode code 1083 = .ok (.invokevirtual 105, 3) := by decide +kernel
theorem dw_1086 : decode code 1086 = .ok (.iload 5, 2) := by decide +kernel
theorem dw_1088 : decode code 1088 = .ok (.if_icmp .eq 5, 3) := by decide +kernel
theorem dw_1091 : decode code 1091 = .ok (.iconst 0, 1) := by decide +kernel
theorem dw_1092 : decode code 1092 = .ok (.ireturn, 1) := by decide +kernel
theorem dw_1093 : decode code 1093 = .ok (.iload 5, 2) := by decide +kernel
theorem dw_1095 : decode code 1095 = .ok (.ifCond .ne 14, 3) := by decide +kernel
theorem dw_1098 : decode code 1098 = .ok (.aload_n 3, 1) := by decide +kernel
theorem dw_1099 : decode code 1099 = .ok (.iconst 0, 1) := by decide +kernel
theorem dw_1100 : decode code 1100 = .ok (.laload, 1) := by decide +kernel
theorem dw_1101 : decode code 1101 = .ok (.lload 6, 2) := by decide +kernel
theorem dw_1103 : decode code 1103 = .ok (.lcmp, 1) := by decide +kernel
theorem dw_1104 : decode code 1104 = .ok (.ifCond .eq 5, 3) := by decide +kernel
theorem dw_1107 : decode code 1107 = .ok (.iconst 0, 1) := by decide +kernel
theorem dw_1108 : decode code 1108 = .ok (.ireturn, 1) := by decide +kernel
theorem dw_1109 : decode code 1109 = .ok (.goto 613, 3) := by decide +kernel
theorem dw_1112 : decode code 1112 = .ok (.aload_n 1, 1) := by decide +kernel
theorem dw_1113 : decode code 1113 = .ok (.aload_n 0, 1) := by decide +kernel
theorem dw_1114 : decode code 1114 = .ok (.iload 4, 2) := by decide +kernel
theorem dw_1116 : decode code 1116 = .ok (.iconst 1, 1) := by decide +kernel
theorem dw_1117 : decode code 1117 = .ok (.iadd, 1) := by decide +kernel
theorem dw_1118 : decode code 1118 = .ok (.iaload, 1) := by decide +kernel
theorem dw_1119 : decode code 1119 = .ok (.aload_n 3, 1) := by decide +kernel
theorem dw_1120 : decode code 1120 = .ok (.invokestatic 168, 3) := by decide +kernel
theorem dw_1123 : decode code 1123 = .ok (.istore 5, 2) := by decide +kernel
theorem dw_1125 : decode code 1125 = .ok (.aload_n 2, 1) := by decide +kernel
theorem dw_1126 : decode code 1126 = .ok (.aload_n 0, 1) := by decide +kernel
theorem dw_1127 : decode code 1127 = .ok (.iload 4, 2) := by decide +kernel
theorem dw_1129 : decode code 1129 = .ok (.iconst 1, 1) := by decide +kernel
theorem dw_1130 : decode code 1130 = .ok (.iadd, 1) := by decide +kernel
theorem dw_1131 : decode code 1131 = .ok (.iaload, 1) := by decide +kernel
theorem dw_1132 : decode code 1132 = .ok (.invokevirtual 170, 3) := by decide +kernel
theorem dw_1135 : decode code 1135 = .ok (.lstore 6, 2) := by decide +kernel
theorem dw_1137 : decode code 1137 = .ok (.aload_n 2, 1) := by decide +kernel
theorem dw_1138 : decode code 1138 = .ok (.invokevirtual 105, 3) := by decide +kernel
theorem dw_1141 : decode code 1141 = .ok (.iload 5, 2) := by decide +kernel
theorem dw_1143 : decode code 1143 = .ok (.if_icmp .eq 5, 3) := by decide +kernel
theorem dw_1146 : decode code 1146 = .ok (.iconst 0, 1) := by decide +kernel
theorem dw_1147 : decode code 1147 = .ok (.ireturn, 1) := by decide +kernel
theorem dw_1148 : decode code 1148 = .ok (.iload 5, 2) := by decide +kernel
theorem dw_1150 : decode code 1150 = .ok (.ifCond .ne 14, 3) := by decide +kernel
theorem dw_1153 : decode code 1153 = .ok (.aload_n 3, 1) := by decide +kernel
theorem dw_1154 : decode code 1154 = .ok (.iconst 0, 1) := by decide +kernel
theorem dw_1155 : decode code 1155 = .ok (.laload, 1) := by decide +kernel
theorem dw_1156 : decode code 1156 = .ok (.lload 6, 2) := by decide +kernel
theorem dw_1158 : decode code 1158 = .ok (.lcmp, 1) := by decide +kernel
theorem dw_1159 : decode code 1159 = .ok (.ifCond .eq 5, 3) := by decide +kernel
theorem dw_1162 : decode code 1162 = .ok (.iconst 0, 1) := by decide +kernel
theorem dw_1163 : decode code 1163 = .ok (.ireturn, 1) := by decide +kernel
theorem dw_1164 : decode code 1164 = .ok (.goto 558, 3) := by decide +kernel
theorem dw_1167 : decode code 1167 = .ok (.aload_n 1, 1) := by decide +kernel
theorem dw_1168 : decode code 1168 = .ok (.aload_n 0, 1) := by decide +kernel
theorem dw_1169 : decode code 1169 = .ok (.iload 4, 2) := by decide +kernel
theorem dw_1171 : decode code 1171 = .ok (.iconst 1, 1) := by decide +kernel
theorem dw_1172 : decode code 1172 = .ok (.iadd, 1) := by decide +kernel
theorem dw_1173 : decode code 1173 = .ok (.iaload, 1) := by decide +kernel
theorem dw_1174 : decode code 1174 = .ok (.aload_n 0, 1) := by decide +kernel
theorem dw_1175 : decode code 1175 = .ok (.iload 4, 2) := by decide +kernel
theorem dw_1177 : decode code 1177 = .ok (.iconst 2, 1) := by decide +kernel
theorem dw_1178 : decode code 1178 = .ok (.iadd, 1) := by decide +kernel
theorem dw_1179 : decode code 1179 = .ok (.iaload, 1) := by decide +kernel
theorem dw_1180 : decode code 1180 = .ok (.aload_n 3, 1) := by decide +kernel
theorem dw_1181 : decode code 1181 = .ok (.invokestatic 171, 3) := by decide +kernel
theorem dw_1184 : decode code 1184 = .ok (.istore 5, 2) := by decide +kernel
theorem dw_1186 : decode code 1186 = .ok (.aload_n 2, 1) := by decide +kernel
theorem dw_1187 : decode code 1187 = .ok (.aload_n 0, 1) := by decide +kernel
theorem dw_1188 : decode code 1188 = .ok (.iload 4, 2) := by decide +kernel
theorem dw_1190 : decode code 1190 = .ok (.iconst 1, 1) := by decide +kernel
theorem dw_1191 : decode code 1191 = .ok (.iadd, 1) := by decide +kernel
theorem dw_1192 : decode code 1192 = .ok (.iaload, 1) := by decide +kernel
theorem dw_1193 : decode code 1193 = .ok (.aload_n 0, 1) := by decide +kernel
theorem dw_1194 : decode code 1194 = .ok (.iload 4, 2) := by decide +kernel
theorem dw_1196 : decode code 1196 = .ok (.iconst 2, 1) := by decide +kernel
theorem dw_1197 : decode code 1197 = .ok (.iadd, 1) := by decide +kernel
theorem dw_1198 : decode code 1198 = .ok (.iaload, 1) := by decide +kernel
theorem dw_1199 : decode code 1199 = .ok (.invokevirtual 173, 3) := by decide +kernel
theorem dw_1202 : decode code 1202 = .ok (.lstore 6, 2) := by decide +kernel
theorem dw_1204 : decode code 1204 = .ok (.aload_n 2, 1) := by decide +kernel
theorem dw_1205 : decode code 1205 = .ok (.invokevirtual 105, 3) := by decide +kernel
theorem dw_1208 : decode code 1208 = .ok (.iload 5, 2) := by decide +kernel
theorem dw_1210 : decode code 1210 = .ok (.if_icmp .eq 5, 3) := by decide +kernel
theorem dw_1213 : decode code 1213 = .ok (.iconst 0, 1) := by decide +kernel
theorem dw_1214 : decode code 1214 = .ok (.ireturn, 1) := by decide +kernel
theorem dw_1215 : decode code 1215 = .ok (.iload 5, 2) := by decide +kernel
theorem dw_1217 : decode code 1217 = .ok (.ifCond .ne 14, 3) := by decide +kernel
theorem dw_1220 : decode code 1220 = .ok (.aload_n 3, 1) := by decide +kernel
theorem dw_1221 : decode code 1221 = .ok (.iconst 0, 1) := by decide +kernel
theorem dw_1222 : decode code 1222 = .ok (.laload, 1) := by decide +kernel
theorem dw_1223 : decode code 1223 = .ok (.lload 6, 2) := by decide +kernel
theorem dw_1225 : decode code 1225 = .ok (.lcmp, 1) := by decide +kernel
theorem dw_1226 : decode code 1226 = .ok (.ifCond .eq 5, 3) := by decide +kernel
theorem dw_1229 : decode code 1229 = .ok (.iconst 0, 1) := by decide +kernel
theorem dw_1230 : decode code 1230 = .ok (.ireturn, 1) := by decide +kernel
theorem dw_1231 : decode code 1231 = .ok (.goto 491, 3) := by decide +kernel
theorem dw_1234 : decode code 1234 = .ok (.aload_n 1, 1) := by decide +kernel
theorem dw_1235 : decode code 1235 = .ok (.invokevirtual 174, 3) := by decide +kernel
theorem dw_1238 : decode code 1238 = .ok (.aload_n 2, 1) := by decide +kernel
theorem dw_1239 : decode code 1239 = .ok (.invokevirtual 177, 3) := by decide +kernel
theorem dw_1242 : decode code 1242 = .ok (.if_icmp .eq 480, 3) := by decide +kernel
theorem dw_1245 : decode code 1245 = .ok (.iconst 0, 1) := by decide +kernel
theorem dw_1246 : decode code 1246 = .ok (.ireturn, 1) := by decide +kernel
theorem dw_1247 : decode code 1247 = .ok (.aload_n 1, 1) := by decide +kernel
theorem dw_1248 : decode code 1248 = .ok (.aload_n 0, 1) := by decide +kernel
theorem dw_1249 : decode code 1249 = .ok (.iload 4, 2) := by decide +kernel
theorem dw_1251 : decode code 1251 = .ok (.iconst 1, 1) := by decide +kernel
theorem dw_1252 : decode code 1252 = .ok (.iadd, 1) := by decide +kernel
theorem dw_1253 : decode code 1253 = .ok (.iaload, 1) := by decide +kernel
theorem dw_1254 : decode code 1254 = .ok (.aload_n 0, 1) := by decide +kernel
theorem dw_1255 : decode code 1255 = .ok (.iload 4, 2) := by decide +kernel
theorem dw_1257 : decode code 1257 = .ok (.iconst 2, 1) := by decide +kernel
theorem dw_1258 : decode code 1258 = .ok (.iadd, 1) := by decide +kernel
theorem dw_1259 : decode code 1259 = .ok (.iaload, 1) := by decide +kernel
theorem dw_1260 : decode code 1260 = .ok (.aload_n 3, 1) := by decide +kernel
theorem dw_1261 : decode code 1261 = .ok (.invokestatic 178, 3) := by decide +kernel
theorem dw_1264 : decode code 1264 = .ok (.istore 5, 2) := by decide +kernel
theorem dw_1266 : decode code 1266 = .ok (.aload_n 2, 1) := by decide +kernel
theorem dw_1267 : decode code 1267 = .ok (.aload_n 0, 1) := by decide +kernel
theorem dw_1268 : decode code 1268 = .ok (.iload 4, 2) := by decide +kernel
theorem dw_1270 : decode code 1270 = .ok (.iconst 1, 1) := by decide +kernel
theorem dw_1271 : decode code 1271 = .ok (.iadd, 1) := by decide +kernel
theorem dw_1272 : decode code 1272 = .ok (.iaload, 1) := by decide +kernel
theorem dw_1273 : decode code 1273 = .ok (.aload_n 0, 1) := by decide +kernel
theorem dw_1274 : decode code 1274 = .ok (.iload 4, 2) := by decide +kernel
theorem dw_1276 : decode code 1276 = .ok (.iconst 2, 1) := by decide +kernel
theorem dw_1277 : decode code 1277 = .ok (.iadd, 1) := by decide +kernel
theorem dw_1278 : decode code 1278 = .ok (.iaload, 1) := by decide +kernel
theorem dw_1279 : decode code 1279 = .ok (.invokevirtual 180, 3) := by decide +kernel
theorem dw_1282 : decode code 1282 = .ok (.lstore 6, 2) := by decide +kernel
theorem dw_1284 : decode code 1284 = .ok (.aload_n 2, 1) := by decide +kernel
theorem dw_1285 : decode code 1285 = .ok (.invokevirtual 105, 3) := by decide +kernel
theorem dw_1288 : decode code 1288 = .ok (.iload 5, 2) := by decide +kernel
theorem dw_1290 : decode code 1290 = .ok (.if_icmp .eq 5, 3) := by decide +kernel
theorem dw_1293 : decode code 1293 = .ok (.iconst 0, 1) := by decide +kernel
theorem dw_1294 : decode code 1294 = .ok (.ireturn, 1) := by decide +kernel
theorem dw_1295 : decode code 1295 = .ok (.iload 5, 2) := by decide +kernel
theorem dw_1297 : decode code 1297 = .ok (.ifCond .ne 14, 3) := by decide +kernel
theorem dw_1300 : decode code 1300 = .ok (.aload_n 3, 1) := by decide +kernel
theorem dw_1301 : decode code 1301 = .ok (.iconst 0, 1) := by decide +kernel
theorem dw_1302 : decode code 1302 = .ok (.laload, 1) := by decide +kernel
theorem dw_1303 : decode code 1303 = .ok (.lload 6, 2) := by decide +kernel
theorem dw_1305 : decode code 1305 = .ok (.lcmp, 1) := by decide +kernel
theorem dw_1306 : decode code 1306 = .ok (.ifCond .eq 5, 3) := by decide +kernel
theorem dw_1309 : decode code 1309 = .ok (.iconst 0, 1) := by decide +kernel
theorem dw_1310 : decode code 1310 = .ok (.ireturn, 1) := by decide +kernel
theorem dw_1311 : decode code 1311 = .ok (.goto 411, 3) := by decide +kernel
theorem dw_1314 : decode code 1314 = .ok (.aload_n 1, 1) := by decide +kernel
theorem dw_1315 : decode code 1315 = .ok (.aload_n 0, 1) := by decide +kernel
theorem dw_1316 : decode code 1316 = .ok (.iload 4, 2) := by decide +kernel
theorem dw_1318 : decode code 1318 = .ok (.iconst 1, 1) := by decide +kernel
theorem dw_1319 : decode code 1319 = .ok (.iadd, 1) := by decide +kernel
theorem dw_1320 : decode code 1320 = .ok (.iaload, 1) := by decide +kernel
theorem dw_1321 : decode code 1321 = .ok (.aload_n 0, 1) := by decide +kernel
theorem dw_1322 : decode code 1322 = .ok (.iload 4, 2) := by decide +kernel
theorem dw_1324 : decode code 1324 = .ok (.iconst 2, 1) := by decide +kernel
theorem dw_1325 : decode code 1325 = .ok (.iadd, 1) := by decide +kernel
theorem dw_1326 : decode code 1326 = .ok (.iaload, 1) := by decide +kernel
theorem dw_1327 : decode code 1327 = .ok (.aload_n 3, 1) := by decide +kernel
theorem dw_1328 : decode code 1328 = .ok (.invokestatic 181, 3) := by decide +kernel
theorem dw_1331 : decode code 1331 = .ok (.istore 5, 2) := by decide +kernel
theorem dw_1333 : decode code 1333 = .ok (.aload_n 2, 1) := by decide +kernel
theorem dw_1334 : decode code 1334 = .ok (.aload_n 0, 1) := by decide +kernel
theorem dw_1335 : decode code 1335 = .ok (.iload 4, 2) := by decide +kernel
theorem dw_1337 : decode code 1337 = .ok (.iconst 1, 1) := by decide +kernel
theorem dw_1338 : decode code 1338 = .ok (.iadd, 1) := by decide +kernel
theorem dw_1339 : decode code 1339 = .ok (.iaload, 1) := by decide +kernel
theorem dw_1340 : decode code 1340 = .ok (.aload_n 0, 1) := by decide +kernel
theorem dw_1341 : decode code 1341 = .ok (.iload 4, 2) := by decide +kernel
theorem dw_1343 : decode code 1343 = .ok (.iconst 2, 1) := by decide +kernel
theorem dw_1344 : decode code 1344 = .ok (.iadd, 1) := by decide +kernel
theorem dw_1345 : decode code 1345 = .ok (.iaload, 1) := by decide +kernel
theorem dw_1346 : decode code 1346 = .ok (.invokevirtual 183, 3) := by decide +kernel
theorem dw_1349 : decode code 1349 = .ok (.lstore 6, 2) := by decide +kernel
theorem dw_1351 : decode code 1351 = .ok (.aload_n 2, 1) := by decide +kernel
