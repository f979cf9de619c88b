/-! # the law: its bytes, 4 (wip/gen/mk61.py) -/
theorem dL_law__1080 : decode cL_law_ 1080 = .ok (.iadd, 1) := by decide +kernel
theorem dL_law__1081 : decode cL_law_ 1081 = .ok (.iaload, 1) := by decide +kernel
theorem dL_law__1082 : decode cL_law_ 1082 = .ok (.aload_n 3, 1) := by decide +kernel
theorem dL_law__1083 : decode cL_law_ 1083 = .ok (.invokestatic 169, 3) := by decide +kernel
theorem dL_law__1086 : decode cL_law_ 1086 = .ok (.istore 5, 2) := by decide +kernel
theorem dL_law__1088 : decode cL_law_ 1088 = .ok (.aload_n 2, 1) := by decide +kernel
theorem dL_law__1089 : decode cL_law_ 1089 = .ok (.aload_n 0, 1) := by decide +kernel
theorem dL_law__1090 : decode cL_law_ 1090 = .ok (.iload 4, 2) := by decide +kernel
theorem dL_law__1092 : decode cL_law_ 1092 = .ok (.iconst 1, 1) := by decide +kernel
theorem dL_law__1093 : decode cL_law_ 1093 = .ok (.iadd, 1) := by decide +kernel
theorem dL_law__1094 : decode cL_law_ 1094 = .ok (.iaload, 1) := by decide +kernel
theorem dL_law__1095 : decode cL_law_ 1095 = .ok (.aload_n 0, 1) := by decide +kernel
theorem dL_law__1096 : decode cL_law_ 1096 = .ok (.iload 4, 2) := by decide +kernel
theorem dL_law__1098 : decode cL_law_ 1098 = .ok (.iconst 2, 1) := by decide +kernel
theorem dL_law__1099 : decode cL_law_ 1099 = .ok (.iadd, 1) := by decide +kernel
theorem dL_law__1100 : decode cL_law_ 1100 = .ok (.iaload, 1) := by decide +kernel
theorem dL_law__1101 : decode cL_law_ 1101 = .ok (.invokevirtual 171, 3) := by decide +kernel
theorem dL_law__1104 : decode cL_law_ 1104 = .ok (.istore 6, 2) := by decide +kernel
theorem dL_law__1106 : decode cL_law_ 1106 = .ok (.aload_n 2, 1) := by decide +kernel
theorem dL_law__1107 : decode cL_law_ 1107 = .ok (.invokevirtual 125, 3) := by decide +kernel
theorem dL_law__1110 : decode cL_law_ 1110 = .ok (.iload 5, 2) := by decide +kernel
theorem dL_law__1112 : decode cL_law_ 1112 = .ok (.if_icmp .eq 5, 3) := by decide +kernel
theorem dL_law__1115 : decode cL_law_ 1115 = .ok (.iconst 0, 1) := by decide +kernel
theorem dL_law__1116 : decode cL_law_ 1116 = .ok (.ireturn, 1) := by decide +kernel
theorem dL_law__1117 : decode cL_law_ 1117 = .ok (.iload 5, 2) := by decide +kernel
theorem dL_law__1119 : decode cL_law_ 1119 = .ok (.ifCond .ne 15, 3) := by decide +kernel
theorem dL_law__1122 : decode cL_law_ 1122 = .ok (.aload_n 3, 1) := by decide +kernel
theorem dL_law__1123 : decode cL_law_ 1123 = .ok (.iconst 0, 1) := by decide +kernel
theorem dL_law__1124 : decode cL_law_ 1124 = .ok (.laload, 1) := by decide +kernel
theorem dL_law__1125 : decode cL_law_ 1125 = .ok (.iload 6, 2) := by decide +kernel
theorem dL_law__1127 : decode cL_law_ 1127 = .ok (.i2l, 1) := by decide +kernel
theorem dL_law__1128 : decode cL_law_ 1128 = .ok (.lcmp, 1) := by decide +kernel
theorem dL_law__1129 : decode cL_law_ 1129 = .ok (.ifCond .eq 5, 3) := by decide +kernel
theorem dL_law__1132 : decode cL_law_ 1132 = .ok (.iconst 0, 1) := by decide +kernel
theorem dL_law__1133 : decode cL_law_ 1133 = .ok (.ireturn, 1) := by decide +kernel
theorem dL_law__1134 : decode cL_law_ 1134 = .ok (.goto 1412, 3) := by decide +kernel
theorem dL_law__1137 : decode cL_law_ 1137 = .ok (.aload_n 1, 1) := by decide +kernel
theorem dL_law__1138 : decode cL_law_ 1138 = .ok (.invokevirtual 172, 3) := by decide +kernel
theorem dL_law__1141 : decode cL_law_ 1141 = .ok (.aload_n 2, 1) := by decide +kernel
theorem dL_law__1142 : decode cL_law_ 1142 = .ok (.invokevirtual 175, 3) := by decide +kernel
theorem dL_law__1145 : decode cL_law_ 1145 = .ok (.if_icmp .eq 1401, 3) := by decide +kernel
theorem dL_law__1148 : decode cL_law_ 1148 = .ok (.iconst 0, 1) := by decide +kernel
theorem dL_law__1149 : decode cL_law_ 1149 = .ok (.ireturn, 1) := by decide +kernel
theorem dL_law__1150 : decode cL_law_ 1150 = .ok (.aload_n 1, 1) := by decide +kernel
theorem dL_law__1151 : decode cL_law_ 1151 = .ok (.aload_n 0, 1) := by decide +kernel
theorem dL_law__1152 : decode cL_law_ 1152 = .ok (.iload 4, 2) := by decide +kernel
theorem dL_law__1154 : decode cL_law_ 1154 = .ok (.iconst 1, 1) := by decide +kernel
theorem dL_law__1155 : decode cL_law_ 1155 = .ok (.iadd, 1) := by decide +kernel
theorem dL_law__1156 : decode cL_law_ 1156 = .ok (.iaload, 1) := by decide +kernel
theorem dL_law__1157 : decode cL_law_ 1157 = .ok (.aload_n 0, 1) := by decide +kernel
theorem dL_law__1158 : decode cL_law_ 1158 = .ok (.iload 4, 2) := by decide +kernel
theorem dL_law__1160 : decode cL_law_ 1160 = .ok (.iconst 2, 1) := by decide +kernel
theorem dL_law__1161 : decode cL_law_ 1161 = .ok (.iadd, 1) := by decide +kernel
theorem dL_law__1162 : decode cL_law_ 1162 = .ok (.iaload, 1) := by decide +kernel
theorem dL_law__1163 : decode cL_law_ 1163 = .ok (.aload_n 0, 1) := by decide +kernel
theorem dL_law__1164 : decode cL_law_ 1164 = .ok (.iload 4, 2) := by decide +kernel
theorem dL_law__1166 : decode cL_law_ 1166 = .ok (.iconst 3, 1) := by decide +kernel
theorem dL_law__1167 : decode cL_law_ 1167 = .ok (.iadd, 1) := by decide +kernel
theorem dL_law__1168 : decode cL_law_ 1168 = .ok (.iaload, 1) := by decide +kernel
theorem dL_law__1169 : decode cL_law_ 1169 = .ok (.aload_n 3, 1) := by decide +kernel
theorem dL_law__1170 : decode cL_law_ 1170 = .ok (.invokestatic 176, 3) := by decide +kernel
theorem dL_law__1173 : decode cL_law_ 1173 = .ok (.istore 5, 2) := by decide +kernel
theorem dL_law__1175 : decode cL_law_ 1175 = .ok (.aload_n 2, 1) := by decide +kernel
theorem dL_law__1176 : decode cL_law_ 1176 = .ok (.aload_n 0, 1) := by decide +kernel
theorem dL_law__1177 : decode cL_law_ 1177 = .ok (.iload 4, 2) := by decide +kernel
theorem dL_law__1179 : decode cL_law_ 1179 = .ok (.iconst 1, 1) := by decide +kernel
theorem dL_law__1180 : decode cL_law_ 1180 = .ok (.iadd, 1) := by decide +kernel
theorem dL_law__1181 : decode cL_law_ 1181 = .ok (.iaload, 1) := by decide +kernel
theorem dL_law__1182 : decode cL_law_ 1182 = .ok (.aload_n 0, 1) := by decide +kernel
theorem dL_law__1183 : decode cL_law_ 1183 = .ok (.iload 4, 2) := by decide +kernel
theorem dL_law__1185 : decode cL_law_ 1185 = .ok (.iconst 2, 1) := by decide +kernel
theorem dL_law__1186 : decode cL_law_ 1186 = .ok (.iadd, 1) := by decide +kernel
theorem dL_law__1187 : decode cL_law_ 1187 = .ok (.iaload, 1) := by decide +kernel
theorem dL_law__1188 : decode cL_law_ 1188 = .ok (.aload_n 0, 1) := by decide +kernel
theorem dL_law__1189 : decode cL_law_ 1189 = .ok (.iload 4, 2) := by decide +kernel
theorem dL_law__1191 : decode cL_law_ 1191 = .ok (.iconst 3, 1) := by decide +kernel
theorem dL_law__1192 : decode cL_law_ 1192 = .ok (.iadd, 1) := by decide +kernel
theorem dL_law__1193 : decode cL_law_ 1193 = .ok (.iaload, 1) := by decide +kernel
theorem dL_law__1194 : decode cL_law_ 1194 = .ok (.invokevirtual 179, 3) := by decide +kernel
theorem dL_law__1197 : decode cL_law_ 1197 = .ok (.istore 6, 2) := by decide +kernel
theorem dL_law__1199 : decode cL_law_ 1199 = .ok (.aload_n 2, 1) := by decide +kernel
theorem dL_law__1200 : decode cL_law_ 1200 = .ok (.invokevirtual 125, 3) := by decide +kernel
theorem dL_law__1203 : decode cL_law_ 1203 = .ok (.iload 5, 2) := by decide +kernel
theorem dL_law__1205 : decode cL_law_ 1205 = .ok (.if_icmp .eq 5, 3) := by decide +kernel
theorem dL_law__1208 : decode cL_law_ 1208 = .ok (.iconst 0, 1) := by decide +kernel
theorem dL_law__1209 : decode cL_law_ 1209 = .ok (.ireturn, 1) := by decide +kernel
theorem dL_law__1210 : decode cL_law_ 1210 = .ok (.iload 5, 2) := by decide +kernel
theorem dL_law__1212 : decode cL_law_ 1212 = .ok (.ifCond .ne 22, 3) := by decide +kernel
theorem dL_law__1215 : decode cL_law_ 1215 = .ok (.aload_n 3, 1) := by decide +kernel
theorem dL_law__1216 : decode cL_law_ 1216 = .ok (.iconst 0, 1) := by decide +kernel
theorem dL_law__1217 : decode cL_law_ 1217 = .ok (.laload, 1) := by decide +kernel
theorem dL_law__1218 : decode cL_law_ 1218 = .ok (.iload 6, 2) := by decide +kernel
theorem dL_law__1220 : decode cL_law_ 1220 = .ok (.ifCond .eq 7, 3) := by decide +kernel
theorem dL_law__1223 : decode cL_law_ 1223 = .ok (.lconst 1, 1) := by decide +kernel
theorem dL_law__1224 : decode cL_law_ 1224 = .ok (.goto 4, 3) := by decide +kernel
theorem dL_law__1227 : decode cL_law_ 1227 = .ok (.lconst 0, 1) := by decide +kernel
theorem dL_law__1228 : decode cL_law_ 1228 = .ok (.lcmp, 1) := by decide +kernel
theorem dL_law__1229 : decode cL_law_ 1229 = .ok (.ifCond .eq 5, 3) := by decide +kernel
theorem dL_law__1232 : decode cL_law_ 1232 = .ok (.iconst 0, 1) := by decide +kernel
theorem dL_law__1233 : decode cL_law_ 1233 = .ok (.ireturn, 1) := by decide +kernel
theorem dL_law__1234 : decode cL_law_ 1234 = .ok (.goto 1312, 3) := by decide +kernel
theorem dL_law__1237 : decode cL_law_ 1237 = .ok (.aload_n 1, 1) := by decide +kernel
theorem dL_law__1238 : decode cL_law_ 1238 = .ok (.aload_n 0, 1) := by decide +kernel
theorem dL_law__1239 : decode cL_law_ 1239 = .ok (.iload 4, 2) := by decide +kernel
theorem dL_law__1241 : decode cL_law_ 1241 = .ok (.iconst 1, 1) := by decide +kernel
theorem dL_law__1242 : decode cL_law_ 1242 = .ok (.iadd, 1) := by decide +kernel
theorem dL_law__1243 : decode cL_law_ 1243 = .ok (.iaload, 1) := by decide +kernel
theorem dL_law__1244 : decode cL_law_ 1244 = .ok (.aload_n 3, 1) := by decide +kernel
theorem dL_law__1245 : decode cL_law_ 1245 = .ok (.invokestatic 180, 3) := by decide +kernel
theorem dL_law__1248 : decode cL_law_ 1248 = .ok (.istore 5, 2) := by decide +kernel
theorem dL_law__1250 : decode cL_law_ 1250 = .ok (.aload_n 2, 1) := by decide +kernel
theorem dL_law__1251 : decode cL_law_ 1251 = .ok (.aload_n 0, 1) := by decide +kernel
theorem dL_law__1252 : decode cL_law_ 1252 = .ok (.iload 4, 2) := by decide +kernel
theorem dL_law__1254 : decode cL_law_ 1254 = .ok (.iconst 1, 1) := by decide +kernel
theorem dL_law__1255 : decode cL_law_ 1255 = .ok (.iadd, 1) := by decide +kernel
theorem dL_law__1256 : decode cL_law_ 1256 = .ok (.iaload, 1) := by decide +kernel
theorem dL_law__1257 : decode cL_law_ 1257 = .ok (.invokevirtual 182, 3) := by decide +kernel
theorem dL_law__1260 : decode cL_law_ 1260 = .ok (.istore 6, 2) := by decide +kernel
theorem dL_law__1262 : decode cL_law_ 1262 = .ok (.aload_n 2, 1) := by decide +kernel
theorem dL_law__1263 : decode cL_law_ 1263 = .ok (.invokevirtual 125, 3) := by decide +kernel
theorem dL_law__1266 : decode cL_law_ 1266 = .ok (.iload 5, 2) := by decide +kernel
theorem dL_law__1268 : decode cL_law_ 1268 = .ok (.if_icmp .eq 5, 3) := by decide +kernel
theorem dL_law__1271 : decode cL_law_ 1271 = .ok (.iconst 0, 1) := by decide +kernel
theorem dL_law__1272 : decode cL_law_ 1272 = .ok (.ireturn, 1) := by decide +kernel
theorem dL_law__1273 : decode cL_law_ 1273 = .ok (.iload 5, 2) := by decide +kernel
theorem dL_law__1275 : decode cL_law_ 1275 = .ok (.ifCond .ne 15, 3) := by decide +kernel
theorem dL_law__1278 : decode cL_law_ 1278 = .ok (.aload_n 3, 1) := by decide +kernel
theorem dL_law__1279 : decode cL_law_ 1279 = .ok (.iconst 0, 1) := by decide +kernel
theorem dL_law__1280 : decode cL_law_ 1280 = .ok (.laload, 1) := by decide +kernel
theorem dL_law__1281 : decode cL_law_ 1281 = .ok (.iload 6, 2) := by decide +kernel
theorem dL_law__1283 : decode cL_law_ 1283 = .ok (.i2l, 1) := by decide +kernel
theorem dL_law__1284 : decode cL_law_ 1284 = .ok (.lcmp, 1) := by decide +kernel
theorem dL_law__1285 : decode cL_law_ 1285 = .ok (.ifCond .eq 5, 3) := by decide +kernel
theorem dL_law__1288 : decode cL_law_ 1288 = .ok (.iconst 0, 1) := by decide +kernel
theorem dL_law__1289 : decode cL_law_ 1289 = .ok (.ireturn, 1) := by decide +kernel
theorem dL_law__1290 : decode cL_law_ 1290 = .ok (.goto 1256, 3) := by decide +kernel
theorem dL_law__1293 : decode cL_law_ 1293 = .ok (.aload_n 1, 1) := by decide +kernel
theorem dL_law__1294 : decode cL_law_ 1294 = .ok (.aload_n 0, 1) := by decide +kernel
theorem dL_law__1295 : decode cL_law_ 1295 = .ok (.iload 4, 2) := by decide +kernel
theorem dL_law__1297 : decode cL_law_ 1297 = .ok (.iconst 1, 1) := by decide +kernel
theorem dL_law__1298 : decode cL_law_ 1298 = .ok (.iadd, 1) := by decide +kernel
theorem dL_law__1299 : decode cL_law_ 1299 = .ok (.iaload, 1) := by decide +kernel
theorem dL_law__1300 : decode cL_law_ 1300 = .ok (.aload_n 3, 1) := by decide +kernel
theorem dL_law__1301 : decode cL_law_ 1301 = .ok (.invokestatic 183, 3) := by decide +kernel
theorem dL_law__1304 : decode cL_law_ 1304 = .ok (.istore 5, 2) := by decide +kernel
theorem dL_law__1306 : decode cL_law_ 1306 = .ok (.aload_n 2, 1) := by decide +kernel
theorem dL_law__1307 : decode cL_law_ 1307 = .ok (.aload_n 0, 1) := by decide +kernel
theorem dL_law__1308 : decode cL_law_ 1308 = .ok (.iload 4, 2) := by decide +kernel
theorem dL_law__1310 : decode cL_law_ 1310 = .ok (.iconst 1, 1) := by decide +kernel
theorem dL_law__1311 : decode cL_law_ 1311 = .ok (.iadd, 1) := by decide +kernel
theorem dL_law__1312 : decode cL_law_ 1312 = .ok (.iaload, 1) := by decide +kernel
theorem dL_law__1313 : decode cL_law_ 1313 = .ok (.invokevirtual 185, 3) := by decide +kernel
theorem dL_law__1316 : decode cL_law_ 1316 = .ok (.istore 6, 2) := by decide +kernel
theorem dL_law__1318 : decode cL_law_ 1318 = .ok (.aload_n 2, 1) := by decide +kernel
theorem dL_law__1319 : decode cL_law_ 1319 = .ok (.invokevirtual 125, 3) := by decide +kernel
theorem dL_law__1322 : decode cL_law_ 1322 = .ok (.iload 5, 2) := by decide +kernel
theorem dL_law__1324 : decode cL_law_ 1324 = .ok (.if_icmp .eq 5, 3) := by decide +kernel
theorem dL_law__1327 : decode cL_law_ 1327 = .ok (.iconst 0, 1) := by decide +kernel
theorem dL_law__1328 : decode cL_law_ 1328 = .ok (.ireturn, 1) := by decide +kernel
theorem dL_law__1329 : decode cL_law_ 1329 = .ok (.iload 5, 2) := by decide +kernel
theorem dL_law__1331 : decode cL_law_ 1331 = .ok (.ifCond .ne 15, 3) := by decide +kernel
theorem dL_law__1334 : decode cL_law_ 1334 = .ok (.aload_n 3, 1) := by decide +kernel
theorem dL_law__1335 : decode cL_law_ 1335 = .ok (.iconst 0, 1) := by decide +kernel
theorem dL_law__1336 : decode cL_law_ 1336 = .ok (.laload, 1) := by decide +kernel
theorem dL_law__1337 : decode cL_law_ 1337 = .ok (.iload 6, 2) := by decide +kernel
theorem dL_law__1339 : decode cL_law_ 1339 = .ok (.i2l, 1) := by decide +kernel
theorem dL_law__1340 : decode cL_law_ 1340 = .ok (.lcmp, 1) := by decide +kernel
theorem dL_law__1341 : decode cL_law_ 1341 = .ok (.ifCond .eq 5, 3) := by decide +kernel
theorem dL_law__1344 : decode cL_law_ 1344 = .ok (.iconst 0, 1) := by decide +kernel
theorem dL_law__1345 : decode cL_law_ 1345 = .ok (.ireturn, 1) := by decide +kernel
theorem dL_law__1346 : decode cL_law_ 1346 = .ok (.goto 1200, 3) := by decide +kernel
theorem dL_law__1349 : decode cL_law_ 1349 = .ok (.aload_n 1, 1) := by decide +kernel
theorem dL_law__1350 : decode cL_law_ 1350 = .ok (.aload_n 0, 1) := by decide +kernel
theorem dL_law__1351 : decode cL_law_ 1351 = .ok (.iload 4, 2) := by decide +kernel
theorem dL_law__1353 : decode cL_law_ 1353 = .ok (.iconst 1, 1) := by decide +kernel
theorem dL_law__1354 : decode cL_law_ 1354 = .ok (.iadd, 1) := by decide +kernel
theorem dL_law__1355 : decode cL_law_ 1355 = .ok (.iaload, 1) := by decide +kernel
theorem dL_law__1356 : decode cL_law_ 1356 = .ok (.aload_n 0, 1) := by decide +kernel
theorem dL_law__1357 : decode cL_law_ 1357 = .ok (.iload 4, 2) := by decide +kernel
theorem dL_law__1359 : decode cL_law_ 1359 = .ok (.iconst 2, 1) := by decide +kernel
theorem dL_law__1360 : decode cL_law_ 1360 = .ok (.iadd, 1) := by decide +kernel
theorem dL_law__1361 : decode cL_law_ 1361 = .ok (.iaload, 1) := by decide +kernel
theorem dL_law__1362 : decode cL_law_ 1362 = .ok (.aload_n 3, 1) := by decide +kernel
theorem dL_law__1363 : decode cL_law_ 1363 = .ok (.invokestatic 186, 3) := by decide +kernel
theorem dL_law__1366 : decode cL_law_ 1366 = .ok (.istore 5, 2) := by decide +kernel
theorem dL_law__1368 : decode cL_law_ 1368 = .ok (.aload_n 2, 1) := by decide +kernel
theorem dL_law__1369 : decode cL_law_ 1369 = .ok (.aload_n 0, 1) := by decide +kernel
theorem dL_law__1370 : decode cL_law_ 1370 = .ok (.iload 4, 2) := by decide +kernel
theorem dL_law__1372 : decode cL_law_ 1372 = .ok (.iconst 1, 1) := by decide +kernel
theorem dL_law__1373 : decode cL_law_ 1373 = .ok (.iadd, 1) := by decide +kernel
theorem dL_law__1374 : decode cL_law_ 1374 = .ok (.iaload, 1) := by decide +kernel
theorem dL_law__1375 : decode cL_law_ 1375 = .ok (.aload_n 0, 1) := by decide +kernel
theorem dL_law__1376 : decode cL_law_ 1376 = .ok (.iload 4, 2) := by decide +kernel
theorem dL_law__1378 : decode cL_law_ 1378 = .ok (.iconst 2, 1) := by decide +kernel
theorem dL_law__1379 : decode cL_law_ 1379 = .ok (.iadd, 1) := by decide +kernel
theorem dL_law__1380 : decode cL_law_ 1380 = .ok (.iaload, 1) := by decide +kernel
theorem dL_law__1381 : decode cL_law_ 1381 = .ok (.invokevirtual 188, 3) := by decide +kernel
theorem dL_law__1384 : decode cL_law_ 1384 = .ok (.istore 6, 2) := by decide +kernel
theorem dL_law__1386 : decode cL_law_ 1386 = .ok (.aload_n 2, 1) := by decide +kernel
theorem dL_law__1387 : decode cL_law_ 1387 = .ok (.invokevirtual 125, 3) := by decide +kernel
