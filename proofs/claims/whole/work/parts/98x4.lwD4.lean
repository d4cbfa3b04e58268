theorem d_La_1120 : decode code 1120 = .ok (.iadd, 1) := by decide +kernel
theorem d_La_1121 : decode code 1121 = .ok (.iaload, 1) := by decide +kernel
theorem d_La_1122 : decode code 1122 = .ok (.invokevirtual 137, 3) := by decide +kernel
theorem d_La_1125 : decode code 1125 = .ok (.aload_n 2, 1) := by decide +kernel
theorem d_La_1126 : decode code 1126 = .ok (.aload_n 0, 1) := by decide +kernel
theorem d_La_1127 : decode code 1127 = .ok (.iload_n 3, 1) := by decide +kernel
theorem d_La_1128 : decode code 1128 = .ok (.iconst 1, 1) := by decide +kernel
theorem d_La_1129 : decode code 1129 = .ok (.iadd, 1) := by decide +kernel
theorem d_La_1130 : decode code 1130 = .ok (.iaload, 1) := by decide +kernel
theorem d_La_1131 : decode code 1131 = .ok (.aload_n 0, 1) := by decide +kernel
theorem d_La_1132 : decode code 1132 = .ok (.iload_n 3, 1) := by decide +kernel
theorem d_La_1133 : decode code 1133 = .ok (.iconst 2, 1) := by decide +kernel
theorem d_La_1134 : decode code 1134 = .ok (.iadd, 1) := by decide +kernel
theorem d_La_1135 : decode code 1135 = .ok (.iaload, 1) := by decide +kernel
theorem d_La_1136 : decode code 1136 = .ok (.invokevirtual 140, 3) := by decide +kernel
theorem d_La_1139 : decode code 1139 = .ok (.if_icmp .eq 866, 3) := by decide +kernel
theorem d_La_1142 : decode code 1142 = .ok (.iconst 0, 1) := by decide +kernel
theorem d_La_1143 : decode code 1143 = .ok (.ireturn, 1) := by decide +kernel
theorem d_La_1144 : decode code 1144 = .ok (.aload_n 1, 1) := by decide +kernel
theorem d_La_1145 : decode code 1145 = .ok (.aload_n 0, 1) := by decide +kernel
theorem d_La_1146 : decode code 1146 = .ok (.iload_n 3, 1) := by decide +kernel
theorem d_La_1147 : decode code 1147 = .ok (.iconst 1, 1) := by decide +kernel
theorem d_La_1148 : decode code 1148 = .ok (.iadd, 1) := by decide +kernel
theorem d_La_1149 : decode code 1149 = .ok (.iaload, 1) := by decide +kernel
theorem d_La_1150 : decode code 1150 = .ok (.aload_n 0, 1) := by decide +kernel
theorem d_La_1151 : decode code 1151 = .ok (.iload_n 3, 1) := by decide +kernel
theorem d_La_1152 : decode code 1152 = .ok (.iconst 2, 1) := by decide +kernel
theorem d_La_1153 : decode code 1153 = .ok (.iadd, 1) := by decide +kernel
theorem d_La_1154 : decode code 1154 = .ok (.iaload, 1) := by decide +kernel
theorem d_La_1155 : decode code 1155 = .ok (.invokevirtual 141, 3) := by decide +kernel
theorem d_La_1158 : decode code 1158 = .ok (.aload_n 2, 1) := by decide +kernel
theorem d_La_1159 : decode code 1159 = .ok (.aload_n 0, 1) := by decide +kernel
theorem d_La_1160 : decode code 1160 = .ok (.iload_n 3, 1) := by decide +kernel
theorem d_La_1161 : decode code 1161 = .ok (.iconst 1, 1) := by decide +kernel
theorem d_La_1162 : decode code 1162 = .ok (.iadd, 1) := by decide +kernel
theorem d_La_1163 : decode code 1163 = .ok (.iaload, 1) := by decide +kernel
theorem d_La_1164 : decode code 1164 = .ok (.aload_n 0, 1) := by decide +kernel
theorem d_La_1165 : decode code 1165 = .ok (.iload_n 3, 1) := by decide +kernel
theorem d_La_1166 : decode code 1166 = .ok (.iconst 2, 1) := by decide +kernel
theorem d_La_1167 : decode code 1167 = .ok (.iadd, 1) := by decide +kernel
theorem d_La_1168 : decode code 1168 = .ok (.iaload, 1) := by decide +kernel
theorem d_La_1169 : decode code 1169 = .ok (.invokevirtual 144, 3) := by decide +kernel
theorem d_La_1172 : decode code 1172 = .ok (.if_icmp .eq 833, 3) := by decide +kernel
theorem d_La_1175 : decode code 1175 = .ok (.iconst 0, 1) := by decide +kernel
theorem d_La_1176 : decode code 1176 = .ok (.ireturn, 1) := by decide +kernel
theorem d_La_1177 : decode code 1177 = .ok (.aload_n 1, 1) := by decide +kernel
theorem d_La_1178 : decode code 1178 = .ok (.aload_n 0, 1) := by decide +kernel
theorem d_La_1179 : decode code 1179 = .ok (.iload_n 3, 1) := by decide +kernel
theorem d_La_1180 : decode code 1180 = .ok (.iconst 1, 1) := by decide +kernel
theorem d_La_1181 : decode code 1181 = .ok (.iadd, 1) := by decide +kernel
theorem d_La_1182 : decode code 1182 = .ok (.iaload, 1) := by decide +kernel
theorem d_La_1183 : decode code 1183 = .ok (.ifCond .eq 7, 3) := by decide +kernel
theorem d_La_1186 : decode code 1186 = .ok (.iconst 1, 1) := by decide +kernel
theorem d_La_1187 : decode code 1187 = .ok (.goto 4, 3) := by decide +kernel
theorem d_La_1190 : decode code 1190 = .ok (.iconst 0, 1) := by decide +kernel
theorem d_La_1191 : decode code 1191 = .ok (.invokevirtual 145, 3) := by decide +kernel
theorem d_La_1194 : decode code 1194 = .ok (.aload_n 2, 1) := by decide +kernel
theorem d_La_1195 : decode code 1195 = .ok (.aload_n 0, 1) := by decide +kernel
theorem d_La_1196 : decode code 1196 = .ok (.iload_n 3, 1) := by decide +kernel
theorem d_La_1197 : decode code 1197 = .ok (.iconst 1, 1) := by decide +kernel
theorem d_La_1198 : decode code 1198 = .ok (.iadd, 1) := by decide +kernel
theorem d_La_1199 : decode code 1199 = .ok (.iaload, 1) := by decide +kernel
theorem d_La_1200 : decode code 1200 = .ok (.ifCond .eq 7, 3) := by decide +kernel
theorem d_La_1203 : decode code 1203 = .ok (.iconst 1, 1) := by decide +kernel
theorem d_La_1204 : decode code 1204 = .ok (.goto 4, 3) := by decide +kernel
theorem d_La_1207 : decode code 1207 = .ok (.iconst 0, 1) := by decide +kernel
theorem d_La_1208 : decode code 1208 = .ok (.invokevirtual 149, 3) := by decide +kernel
theorem d_La_1211 : decode code 1211 = .ok (.if_icmp .eq 794, 3) := by decide +kernel
theorem d_La_1214 : decode code 1214 = .ok (.iconst 0, 1) := by decide +kernel
theorem d_La_1215 : decode code 1215 = .ok (.ireturn, 1) := by decide +kernel
theorem d_La_1216 : decode code 1216 = .ok (.aload_n 1, 1) := by decide +kernel
theorem d_La_1217 : decode code 1217 = .ok (.aload_n 0, 1) := by decide +kernel
theorem d_La_1218 : decode code 1218 = .ok (.iload_n 3, 1) := by decide +kernel
theorem d_La_1219 : decode code 1219 = .ok (.iconst 1, 1) := by decide +kernel
theorem d_La_1220 : decode code 1220 = .ok (.iadd, 1) := by decide +kernel
theorem d_La_1221 : decode code 1221 = .ok (.iaload, 1) := by decide +kernel
theorem d_La_1222 : decode code 1222 = .ok (.aload_n 0, 1) := by decide +kernel
theorem d_La_1223 : decode code 1223 = .ok (.iload_n 3, 1) := by decide +kernel
theorem d_La_1224 : decode code 1224 = .ok (.iconst 2, 1) := by decide +kernel
theorem d_La_1225 : decode code 1225 = .ok (.iadd, 1) := by decide +kernel
theorem d_La_1226 : decode code 1226 = .ok (.iaload, 1) := by decide +kernel
theorem d_La_1227 : decode code 1227 = .ok (.invokevirtual 150, 3) := by decide +kernel
theorem d_La_1230 : decode code 1230 = .ok (.aload_n 2, 1) := by decide +kernel
theorem d_La_1231 : decode code 1231 = .ok (.aload_n 0, 1) := by decide +kernel
theorem d_La_1232 : decode code 1232 = .ok (.iload_n 3, 1) := by decide +kernel
theorem d_La_1233 : decode code 1233 = .ok (.iconst 1, 1) := by decide +kernel
theorem d_La_1234 : decode code 1234 = .ok (.iadd, 1) := by decide +kernel
theorem d_La_1235 : decode code 1235 = .ok (.iaload, 1) := by decide +kernel
theorem d_La_1236 : decode code 1236 = .ok (.aload_n 0, 1) := by decide +kernel
theorem d_La_1237 : decode code 1237 = .ok (.iload_n 3, 1) := by decide +kernel
theorem d_La_1238 : decode code 1238 = .ok (.iconst 2, 1) := by decide +kernel
theorem d_La_1239 : decode code 1239 = .ok (.iadd, 1) := by decide +kernel
theorem d_La_1240 : decode code 1240 = .ok (.iaload, 1) := by decide +kernel
theorem d_La_1241 : decode code 1241 = .ok (.invokevirtual 153, 3) := by decide +kernel
theorem d_La_1244 : decode code 1244 = .ok (.if_icmp .eq 761, 3) := by decide +kernel
theorem d_La_1247 : decode code 1247 = .ok (.iconst 0, 1) := by decide +kernel
theorem d_La_1248 : decode code 1248 = .ok (.ireturn, 1) := by decide +kernel
theorem d_La_1249 : decode code 1249 = .ok (.aload_n 1, 1) := by decide +kernel
theorem d_La_1250 : decode code 1250 = .ok (.aload_n 0, 1) := by decide +kernel
theorem d_La_1251 : decode code 1251 = .ok (.iload_n 3, 1) := by decide +kernel
theorem d_La_1252 : decode code 1252 = .ok (.iconst 1, 1) := by decide +kernel
theorem d_La_1253 : decode code 1253 = .ok (.iadd, 1) := by decide +kernel
theorem d_La_1254 : decode code 1254 = .ok (.iaload, 1) := by decide +kernel
theorem d_La_1255 : decode code 1255 = .ok (.ifCond .eq 7, 3) := by decide +kernel
theorem d_La_1258 : decode code 1258 = .ok (.iconst 1, 1) := by decide +kernel
theorem d_La_1259 : decode code 1259 = .ok (.goto 4, 3) := by decide +kernel
theorem d_La_1262 : decode code 1262 = .ok (.iconst 0, 1) := by decide +kernel
theorem d_La_1263 : decode code 1263 = .ok (.invokevirtual 154, 3) := by decide +kernel
theorem d_La_1266 : decode code 1266 = .ok (.aload_n 2, 1) := by decide +kernel
theorem d_La_1267 : decode code 1267 = .ok (.aload_n 0, 1) := by decide +kernel
theorem d_La_1268 : decode code 1268 = .ok (.iload_n 3, 1) := by decide +kernel
theorem d_La_1269 : decode code 1269 = .ok (.iconst 1, 1) := by decide +kernel
theorem d_La_1270 : decode code 1270 = .ok (.iadd, 1) := by decide +kernel
theorem d_La_1271 : decode code 1271 = .ok (.iaload, 1) := by decide +kernel
theorem d_La_1272 : decode code 1272 = .ok (.ifCond .eq 7, 3) := by decide +kernel
theorem d_La_1275 : decode code 1275 = .ok (.iconst 1, 1) := by decide +kernel
theorem d_La_1276 : decode code 1276 = .ok (.goto 4, 3) := by decide +kernel
theorem d_La_1279 : decode code 1279 = .ok (.iconst 0, 1) := by decide +kernel
theorem d_La_1280 : decode code 1280 = .ok (.invokevirtual 157, 3) := by decide +kernel
theorem d_La_1283 : decode code 1283 = .ok (.if_icmp .eq 722, 3) := by decide +kernel
theorem d_La_1286 : decode code 1286 = .ok (.iconst 0, 1) := by decide +kernel
theorem d_La_1287 : decode code 1287 = .ok (.ireturn, 1) := by decide +kernel
theorem d_La_1288 : decode code 1288 = .ok (.aload_n 1, 1) := by decide +kernel
theorem d_La_1289 : decode code 1289 = .ok (.aload_n 0, 1) := by decide +kernel
theorem d_La_1290 : decode code 1290 = .ok (.iload_n 3, 1) := by decide +kernel
theorem d_La_1291 : decode code 1291 = .ok (.iconst 1, 1) := by decide +kernel
theorem d_La_1292 : decode code 1292 = .ok (.iadd, 1) := by decide +kernel
theorem d_La_1293 : decode code 1293 = .ok (.iaload, 1) := by decide +kernel
theorem d_La_1294 : decode code 1294 = .ok (.aload_n 0, 1) := by decide +kernel
theorem d_La_1295 : decode code 1295 = .ok (.iload_n 3, 1) := by decide +kernel
theorem d_La_1296 : decode code 1296 = .ok (.iconst 2, 1) := by decide +kernel
theorem d_La_1297 : decode code 1297 = .ok (.iadd, 1) := by decide +kernel
theorem d_La_1298 : decode code 1298 = .ok (.iaload, 1) := by decide +kernel
theorem d_La_1299 : decode code 1299 = .ok (.invokevirtual 158, 3) := by decide +kernel
theorem d_La_1302 : decode code 1302 = .ok (.aload_n 2, 1) := by decide +kernel
theorem d_La_1303 : decode code 1303 = .ok (.aload_n 0, 1) := by decide +kernel
theorem d_La_1304 : decode code 1304 = .ok (.iload_n 3, 1) := by decide +kernel
theorem d_La_1305 : decode code 1305 = .ok (.iconst 1, 1) := by decide +kernel
theorem d_La_1306 : decode code 1306 = .ok (.iadd, 1) := by decide +kernel
theorem d_La_1307 : decode code 1307 = .ok (.iaload, 1) := by decide +kernel
theorem d_La_1308 : decode code 1308 = .ok (.aload_n 0, 1) := by decide +kernel
theorem d_La_1309 : decode code 1309 = .ok (.iload_n 3, 1) := by decide +kernel
theorem d_La_1310 : decode code 1310 = .ok (.iconst 2, 1) := by decide +kernel
theorem d_La_1311 : decode code 1311 = .ok (.iadd, 1) := by decide +kernel
theorem d_La_1312 : decode code 1312 = .ok (.iaload, 1) := by decide +kernel
theorem d_La_1313 : decode code 1313 = .ok (.invokevirtual 161, 3) := by decide +kernel
theorem d_La_1316 : decode code 1316 = .ok (.if_icmp .eq 689, 3) := by decide +kernel
theorem d_La_1319 : decode code 1319 = .ok (.iconst 0, 1) := by decide +kernel
theorem d_La_1320 : decode code 1320 = .ok (.ireturn, 1) := by decide +kernel
theorem d_La_1321 : decode code 1321 = .ok (.aload_n 1, 1) := by decide +kernel
theorem d_La_1322 : decode code 1322 = .ok (.aload_n 0, 1) := by decide +kernel
theorem d_La_1323 : decode code 1323 = .ok (.iload_n 3, 1) := by decide +kernel
theorem d_La_1324 : decode code 1324 = .ok (.iconst 1, 1) := by decide +kernel
theorem d_La_1325 : decode code 1325 = .ok (.iadd, 1) := by decide +kernel
theorem d_La_1326 : decode code 1326 = .ok (.iaload, 1) := by decide +kernel
theorem d_La_1327 : decode code 1327 = .ok (.invokevirtual 162, 3) := by decide +kernel
theorem d_La_1330 : decode code 1330 = .ok (.aload_n 2, 1) := by decide +kernel
theorem d_La_1331 : decode code 1331 = .ok (.aload_n 0, 1) := by decide +kernel
theorem d_La_1332 : decode code 1332 = .ok (.iload_n 3, 1) := by decide +kernel
theorem d_La_1333 : decode code 1333 = .ok (.iconst 1, 1) := by decide +kernel
theorem d_La_1334 : decode code 1334 = .ok (.iadd, 1) := by decide +kernel
theorem d_La_1335 : decode code 1335 = .ok (.iaload, 1) := by decide +kernel
theorem d_La_1336 : decode code 1336 = .ok (.invokevirtual 165, 3) := by decide +kernel
theorem d_La_1339 : decode code 1339 = .ok (.if_icmp .eq 666, 3) := by decide +kernel
theorem d_La_1342 : decode code 1342 = .ok (.iconst 0, 1) := by decide +kernel
theorem d_La_1343 : decode code 1343 = .ok (.ireturn, 1) := by decide +kernel
theorem d_La_1344 : decode code 1344 = .ok (.aload_n 1, 1) := by decide +kernel
theorem d_La_1345 : decode code 1345 = .ok (.aload_n 0, 1) := by decide +kernel
theorem d_La_1346 : decode code 1346 = .ok (.iload_n 3, 1) := by decide +kernel
theorem d_La_1347 : decode code 1347 = .ok (.iconst 1, 1) := by decide +kernel
theorem d_La_1348 : decode code 1348 = .ok (.iadd, 1) := by decide +kernel
theorem d_La_1349 : decode code 1349 = .ok (.iaload, 1) := by decide +kernel
theorem d_La_1350 : decode code 1350 = .ok (.aload_n 0, 1) := by decide +kernel
theorem d_La_1351 : decode code 1351 = .ok (.iload_n 3, 1) := by decide +kernel
theorem d_La_1352 : decode code 1352 = .ok (.iconst 2, 1) := by decide +kernel
theorem d_La_1353 : decode code 1353 = .ok (.iadd, 1) := by decide +kernel
theorem d_La_1354 : decode code 1354 = .ok (.iaload, 1) := by decide +kernel
theorem d_La_1355 : decode code 1355 = .ok (.aload_n 0, 1) := by decide +kernel
theorem d_La_1356 : decode code 1356 = .ok (.iload_n 3, 1) := by decide +kernel
theorem d_La_1357 : decode code 1357 = .ok (.iconst 3, 1) := by decide +kernel
theorem d_La_1358 : decode code 1358 = .ok (.iadd, 1) := by decide +kernel
theorem d_La_1359 : decode code 1359 = .ok (.iaload, 1) := by decide +kernel
theorem d_La_1360 : decode code 1360 = .ok (.ifCond .eq 7, 3) := by decide +kernel
theorem d_La_1363 : decode code 1363 = .ok (.iconst 1, 1) := by decide +kernel
theorem d_La_1364 : decode code 1364 = .ok (.goto 4, 3) := by decide +kernel
theorem d_La_1367 : decode code 1367 = .ok (.iconst 0, 1) := by decide +kernel
theorem d_La_1368 : decode code 1368 = .ok (.invokevirtual 166, 3) := by decide +kernel
theorem d_La_1371 : decode code 1371 = .ok (.aload_n 2, 1) := by decide +kernel
theorem d_La_1372 : decode code 1372 = .ok (.aload_n 0, 1) := by decide +kernel
theorem d_La_1373 : decode code 1373 = .ok (.iload_n 3, 1) := by decide +kernel
theorem d_La_1374 : decode code 1374 = .ok (.iconst 1, 1) := by decide +kernel
theorem d_La_1375 : decode code 1375 = .ok (.iadd, 1) := by decide +kernel
theorem d_La_1376 : decode code 1376 = .ok (.iaload, 1) := by decide +kernel
theorem d_La_1377 : decode code 1377 = .ok (.aload_n 0, 1) := by decide +kernel
theorem d_La_1378 : decode code 1378 = .ok (.iload_n 3, 1) := by decide +kernel
theorem d_La_1379 : decode code 1379 = .ok (.iconst 2, 1) := by decide +kernel
theorem d_La_1380 : decode code 1380 = .ok (.iadd, 1) := by decide +kernel
theorem d_La_1381 : decode code 1381 = .ok (.iaload, 1) := by decide +kernel
theorem d_La_1382 : decode code 1382 = .ok (.aload_n 0, 1) := by decide +kernel
theorem d_La_1383 : decode code 1383 = .ok (.iload_n 3, 1) := by decide +kernel
theorem d_La_1384 : decode code 1384 = .ok (.iconst 3, 1) := by decide +kernel
theorem d_La_1385 : decode code 1385 = .ok (.iadd, 1) := by decide +kernel
theorem d_La_1386 : decode code 1386 = .ok (.iaload, 1) := by decide +kernel
theorem d_La_1387 : decode code 1387 = .ok (.ifCond .eq 7, 3) := by decide +kernel
theorem d_La_1390 : decode code 1390 = .ok (.iconst 1, 1) := by decide +kernel
theorem d_La_1391 : decode code 1391 = .ok (.goto 4, 3) := by decide +kernel
theorem d_La_1394 : decode code 1394 = .ok (.iconst 0, 1) := by decide +kernel
theorem d_La_1395 : decode code 1395 = .ok (.invokevirtual 170, 3) := by decide +kernel
theorem d_La_1398 : decode code 1398 = .ok (.lcmp, 1) := by decide +kernel
theorem d_La_1399 : decode code 1399 = .ok (.ifCond .eq 606, 3) := by decide +kernel
theorem d_La_1402 : decode code 1402 = .ok (.iconst 0, 1) := by decide +kernel
theorem d_La_1403 : decode code 1403 = .ok (.ireturn, 1) := by decide +kernel
theorem d_La_1404 : decode code 1404 = .ok (.aload_n 1, 1) := by decide +kernel
theorem d_La_1405 : decode code 1405 = .ok (.aload_n 0, 1) := by decide +kernel
theorem d_La_1406 : decode code 1406 = .ok (.iload_n 3, 1) := by decide +kernel
theorem d_La_1407 : decode code 1407 = .ok (.iconst 1, 1) := by decide +kernel
theorem d_La_1408 : decode code 1408 = .ok (.iadd, 1) := by decide +kernel
theorem d_La_1409 : decode code 1409 = .ok (.iaload, 1) := by decide +kernel
theorem d_La_1410 : decode code 1410 = .ok (.aload_n 0, 1) := by decide +kernel
theorem d_La_1411 : decode code 1411 = .ok (.iload_n 3, 1) := by decide +kernel
