/-! How the law's instructions read. -/
theorem de_W_law_1183 : decode code 1183 = .ok (.lshl, 1) := by decide +kernel
theorem de_W_law_1184 : decode code 1184 = .ok (.aload_n 0, 1) := by decide +kernel
theorem de_W_law_1185 : decode code 1185 = .ok (.iload 4, 2) := by decide +kernel
theorem de_W_law_1187 : decode code 1187 = .ok (.iconst 2, 1) := by decide +kernel
theorem de_W_law_1188 : decode code 1188 = .ok (.iadd, 1) := by decide +kernel
theorem de_W_law_1189 : decode code 1189 = .ok (.iaload, 1) := by decide +kernel
theorem de_W_law_1190 : decode code 1190 = .ok (.i2l, 1) := by decide +kernel
theorem de_W_law_1191 : decode code 1191 = .ok (.ldc2_w 54, 3) := by decide +kernel
theorem de_W_law_1194 : decode code 1194 = .ok (.land, 1) := by decide +kernel
theorem de_W_law_1195 : decode code 1195 = .ok (.lor, 1) := by decide +kernel
theorem de_W_law_1196 : decode code 1196 = .ok (.aload_n 0, 1) := by decide +kernel
theorem de_W_law_1197 : decode code 1197 = .ok (.iload 4, 2) := by decide +kernel
theorem de_W_law_1199 : decode code 1199 = .ok (.iconst 3, 1) := by decide +kernel
theorem de_W_law_1200 : decode code 1200 = .ok (.iadd, 1) := by decide +kernel
theorem de_W_law_1201 : decode code 1201 = .ok (.iaload, 1) := by decide +kernel
theorem de_W_law_1202 : decode code 1202 = .ok (.aload_n 0, 1) := by decide +kernel
theorem de_W_law_1203 : decode code 1203 = .ok (.iload 4, 2) := by decide +kernel
theorem de_W_law_1205 : decode code 1205 = .ok (.iconst 4, 1) := by decide +kernel
theorem de_W_law_1206 : decode code 1206 = .ok (.iadd, 1) := by decide +kernel
theorem de_W_law_1207 : decode code 1207 = .ok (.iaload, 1) := by decide +kernel
theorem de_W_law_1208 : decode code 1208 = .ok (.ifCond .eq 7, 3) := by decide +kernel
theorem de_W_law_1211 : decode code 1211 = .ok (.iconst 1, 1) := by decide +kernel
theorem de_W_law_1212 : decode code 1212 = .ok (.goto 4, 3) := by decide +kernel
theorem de_W_law_1215 : decode code 1215 = .ok (.iconst 0, 1) := by decide +kernel
theorem de_W_law_1216 : decode code 1216 = .ok (.invokevirtual 120, 3) := by decide +kernel
theorem de_W_law_1219 : decode code 1219 = .ok (.lstore 6, 2) := by decide +kernel
theorem de_W_law_1221 : decode code 1221 = .ok (.aload_n 2, 1) := by decide +kernel
theorem de_W_law_1222 : decode code 1222 = .ok (.invokevirtual 62, 3) := by decide +kernel
theorem de_W_law_1225 : decode code 1225 = .ok (.iload 5, 2) := by decide +kernel
theorem de_W_law_1227 : decode code 1227 = .ok (.if_icmp .eq 5, 3) := by decide +kernel
theorem de_W_law_1230 : decode code 1230 = .ok (.iconst 0, 1) := by decide +kernel
theorem de_W_law_1231 : decode code 1231 = .ok (.ireturn, 1) := by decide +kernel
theorem de_W_law_1232 : decode code 1232 = .ok (.iload 5, 2) := by decide +kernel
theorem de_W_law_1234 : decode code 1234 = .ok (.ifCond .ne 14, 3) := by decide +kernel
theorem de_W_law_1237 : decode code 1237 = .ok (.aload_n 3, 1) := by decide +kernel
theorem de_W_law_1238 : decode code 1238 = .ok (.iconst 0, 1) := by decide +kernel
theorem de_W_law_1239 : decode code 1239 = .ok (.laload, 1) := by decide +kernel
theorem de_W_law_1240 : decode code 1240 = .ok (.lload 6, 2) := by decide +kernel
theorem de_W_law_1242 : decode code 1242 = .ok (.lcmp, 1) := by decide +kernel
theorem de_W_law_1243 : decode code 1243 = .ok (.ifCond .eq 5, 3) := by decide +kernel
theorem de_W_law_1246 : decode code 1246 = .ok (.iconst 0, 1) := by decide +kernel
theorem de_W_law_1247 : decode code 1247 = .ok (.ireturn, 1) := by decide +kernel
theorem de_W_law_1248 : decode code 1248 = .ok (.goto 153, 3) := by decide +kernel
theorem de_W_law_1251 : decode code 1251 = .ok (.aload_n 1, 1) := by decide +kernel
theorem de_W_law_1252 : decode code 1252 = .ok (.aload_n 0, 1) := by decide +kernel
theorem de_W_law_1253 : decode code 1253 = .ok (.iload 4, 2) := by decide +kernel
theorem de_W_law_1255 : decode code 1255 = .ok (.iconst 1, 1) := by decide +kernel
theorem de_W_law_1256 : decode code 1256 = .ok (.iadd, 1) := by decide +kernel
theorem de_W_law_1257 : decode code 1257 = .ok (.iaload, 1) := by decide +kernel
theorem de_W_law_1258 : decode code 1258 = .ok (.i2l, 1) := by decide +kernel
theorem de_W_law_1259 : decode code 1259 = .ok (.bipush 32, 2) := by decide +kernel
theorem de_W_law_1261 : decode code 1261 = .ok (.lshl, 1) := by decide +kernel
theorem de_W_law_1262 : decode code 1262 = .ok (.aload_n 0, 1) := by decide +kernel
theorem de_W_law_1263 : decode code 1263 = .ok (.iload 4, 2) := by decide +kernel
theorem de_W_law_1265 : decode code 1265 = .ok (.iconst 2, 1) := by decide +kernel
theorem de_W_law_1266 : decode code 1266 = .ok (.iadd, 1) := by decide +kernel
theorem de_W_law_1267 : decode code 1267 = .ok (.iaload, 1) := by decide +kernel
theorem de_W_law_1268 : decode code 1268 = .ok (.i2l, 1) := by decide +kernel
theorem de_W_law_1269 : decode code 1269 = .ok (.ldc2_w 54, 3) := by decide +kernel
theorem de_W_law_1272 : decode code 1272 = .ok (.land, 1) := by decide +kernel
theorem de_W_law_1273 : decode code 1273 = .ok (.lor, 1) := by decide +kernel
theorem de_W_law_1274 : decode code 1274 = .ok (.aload_n 0, 1) := by decide +kernel
theorem de_W_law_1275 : decode code 1275 = .ok (.iload 4, 2) := by decide +kernel
theorem de_W_law_1277 : decode code 1277 = .ok (.iconst 3, 1) := by decide +kernel
theorem de_W_law_1278 : decode code 1278 = .ok (.iadd, 1) := by decide +kernel
theorem de_W_law_1279 : decode code 1279 = .ok (.iaload, 1) := by decide +kernel
theorem de_W_law_1280 : decode code 1280 = .ok (.aload_n 3, 1) := by decide +kernel
theorem de_W_law_1281 : decode code 1281 = .ok (.invokestatic 121, 3) := by decide +kernel
theorem de_W_law_1284 : decode code 1284 = .ok (.istore 5, 2) := by decide +kernel
theorem de_W_law_1286 : decode code 1286 = .ok (.aload_n 2, 1) := by decide +kernel
theorem de_W_law_1287 : decode code 1287 = .ok (.aload_n 0, 1) := by decide +kernel
theorem de_W_law_1288 : decode code 1288 = .ok (.iload 4, 2) := by decide +kernel
theorem de_W_law_1290 : decode code 1290 = .ok (.iconst 1, 1) := by decide +kernel
theorem de_W_law_1291 : decode code 1291 = .ok (.iadd, 1) := by decide +kernel
theorem de_W_law_1292 : decode code 1292 = .ok (.iaload, 1) := by decide +kernel
theorem de_W_law_1293 : decode code 1293 = .ok (.i2l, 1) := by decide +kernel
theorem de_W_law_1294 : decode code 1294 = .ok (.bipush 32, 2) := by decide +kernel
theorem de_W_law_1296 : decode code 1296 = .ok (.lshl, 1) := by decide +kernel
theorem de_W_law_1297 : decode code 1297 = .ok (.aload_n 0, 1) := by decide +kernel
theorem de_W_law_1298 : decode code 1298 = .ok (.iload 4, 2) := by decide +kernel
theorem de_W_law_1300 : decode code 1300 = .ok (.iconst 2, 1) := by decide +kernel
theorem de_W_law_1301 : decode code 1301 = .ok (.iadd, 1) := by decide +kernel
theorem de_W_law_1302 : decode code 1302 = .ok (.iaload, 1) := by decide +kernel
theorem de_W_law_1303 : decode code 1303 = .ok (.i2l, 1) := by decide +kernel
theorem de_W_law_1304 : decode code 1304 = .ok (.ldc2_w 54, 3) := by decide +kernel
theorem de_W_law_1307 : decode code 1307 = .ok (.land, 1) := by decide +kernel
theorem de_W_law_1308 : decode code 1308 = .ok (.lor, 1) := by decide +kernel
theorem de_W_law_1309 : decode code 1309 = .ok (.aload_n 0, 1) := by decide +kernel
theorem de_W_law_1310 : decode code 1310 = .ok (.iload 4, 2) := by decide +kernel
theorem de_W_law_1312 : decode code 1312 = .ok (.iconst 3, 1) := by decide +kernel
theorem de_W_law_1313 : decode code 1313 = .ok (.iadd, 1) := by decide +kernel
theorem de_W_law_1314 : decode code 1314 = .ok (.iaload, 1) := by decide +kernel
theorem de_W_law_1315 : decode code 1315 = .ok (.invokevirtual 124, 3) := by decide +kernel
theorem de_W_law_1318 : decode code 1318 = .ok (.lstore 6, 2) := by decide +kernel
theorem de_W_law_1320 : decode code 1320 = .ok (.aload_n 2, 1) := by decide +kernel
theorem de_W_law_1321 : decode code 1321 = .ok (.invokevirtual 62, 3) := by decide +kernel
theorem de_W_law_1324 : decode code 1324 = .ok (.iload 5, 2) := by decide +kernel
theorem de_W_law_1326 : decode code 1326 = .ok (.if_icmp .eq 5, 3) := by decide +kernel
theorem de_W_law_1329 : decode code 1329 = .ok (.iconst 0, 1) := by decide +kernel
theorem de_W_law_1330 : decode code 1330 = .ok (.ireturn, 1) := by decide +kernel
theorem de_W_law_1331 : decode code 1331 = .ok (.iload 5, 2) := by decide +kernel
theorem de_W_law_1333 : decode code 1333 = .ok (.ifCond .ne 14, 3) := by decide +kernel
theorem de_W_law_1336 : decode code 1336 = .ok (.aload_n 3, 1) := by decide +kernel
theorem de_W_law_1337 : decode code 1337 = .ok (.iconst 0, 1) := by decide +kernel
theorem de_W_law_1338 : decode code 1338 = .ok (.laload, 1) := by decide +kernel
theorem de_W_law_1339 : decode code 1339 = .ok (.lload 6, 2) := by decide +kernel
theorem de_W_law_1341 : decode code 1341 = .ok (.lcmp, 1) := by decide +kernel
theorem de_W_law_1342 : decode code 1342 = .ok (.ifCond .eq 5, 3) := by decide +kernel
theorem de_W_law_1345 : decode code 1345 = .ok (.iconst 0, 1) := by decide +kernel
theorem de_W_law_1346 : decode code 1346 = .ok (.ireturn, 1) := by decide +kernel
theorem de_W_law_1347 : decode code 1347 = .ok (.goto 54, 3) := by decide +kernel
theorem de_W_law_1350 : decode code 1350 = .ok (.aload_n 1, 1) := by decide +kernel
theorem de_W_law_1351 : decode code 1351 = .ok (.aload_n 0, 1) := by decide +kernel
theorem de_W_law_1352 : decode code 1352 = .ok (.iload 4, 2) := by decide +kernel
theorem de_W_law_1354 : decode code 1354 = .ok (.iconst 1, 1) := by decide +kernel
theorem de_W_law_1355 : decode code 1355 = .ok (.iadd, 1) := by decide +kernel
theorem de_W_law_1356 : decode code 1356 = .ok (.iaload, 1) := by decide +kernel
theorem de_W_law_1357 : decode code 1357 = .ok (.invokevirtual 125, 3) := by decide +kernel
theorem de_W_law_1360 : decode code 1360 = .ok (.aload_n 2, 1) := by decide +kernel
theorem de_W_law_1361 : decode code 1361 = .ok (.aload_n 0, 1) := by decide +kernel
theorem de_W_law_1362 : decode code 1362 = .ok (.iload 4, 2) := by decide +kernel
theorem de_W_law_1364 : decode code 1364 = .ok (.iconst 1, 1) := by decide +kernel
theorem de_W_law_1365 : decode code 1365 = .ok (.iadd, 1) := by decide +kernel
theorem de_W_law_1366 : decode code 1366 = .ok (.iaload, 1) := by decide +kernel
theorem de_W_law_1367 : decode code 1367 = .ok (.invokevirtual 129, 3) := by decide +kernel
theorem de_W_law_1370 : decode code 1370 = .ok (.if_icmp .eq 31, 3) := by decide +kernel
theorem de_W_law_1373 : decode code 1373 = .ok (.iconst 0, 1) := by decide +kernel
theorem de_W_law_1374 : decode code 1374 = .ok (.ireturn, 1) := by decide +kernel
theorem de_W_law_1375 : decode code 1375 = .ok (.aload_n 1, 1) := by decide +kernel
theorem de_W_law_1376 : decode code 1376 = .ok (.aload_n 0, 1) := by decide +kernel
theorem de_W_law_1377 : decode code 1377 = .ok (.iload 4, 2) := by decide +kernel
theorem de_W_law_1379 : decode code 1379 = .ok (.iconst 1, 1) := by decide +kernel
theorem de_W_law_1380 : decode code 1380 = .ok (.iadd, 1) := by decide +kernel
theorem de_W_law_1381 : decode code 1381 = .ok (.iaload, 1) := by decide +kernel
theorem de_W_law_1382 : decode code 1382 = .ok (.invokevirtual 130, 3) := by decide +kernel
theorem de_W_law_1385 : decode code 1385 = .ok (.aload_n 2, 1) := by decide +kernel
theorem de_W_law_1386 : decode code 1386 = .ok (.aload_n 0, 1) := by decide +kernel
theorem de_W_law_1387 : decode code 1387 = .ok (.iload 4, 2) := by decide +kernel
theorem de_W_law_1389 : decode code 1389 = .ok (.iconst 1, 1) := by decide +kernel
theorem de_W_law_1390 : decode code 1390 = .ok (.iadd, 1) := by decide +kernel
theorem de_W_law_1391 : decode code 1391 = .ok (.iaload, 1) := by decide +kernel
theorem de_W_law_1392 : decode code 1392 = .ok (.invokevirtual 133, 3) := by decide +kernel
theorem de_W_law_1395 : decode code 1395 = .ok (.lcmp, 1) := by decide +kernel
theorem de_W_law_1396 : decode code 1396 = .ok (.ifCond .eq 5, 3) := by decide +kernel
theorem de_W_law_1399 : decode code 1399 = .ok (.iconst 0, 1) := by decide +kernel
theorem de_W_law_1400 : decode code 1400 = .ok (.ireturn, 1) := by decide +kernel
theorem de_W_law_1401 : decode code 1401 = .ok (.iinc 4 6, 3) := by decide +kernel
theorem de_W_law_1404 : decode code 1404 = .ok (.goto (-1381), 3) := by decide +kernel
theorem de_W_law_1407 : decode code 1407 = .ok (.iconst 1, 1) := by decide +kernel
theorem de_W_law_1408 : decode code 1408 = .ok (.ireturn, 1) := by decide +kernel
