/-! decode rows -/
theorem d_law_1274 : decode code 1274 = .ok (.iaload, 1) := by decide +kernel
theorem d_law_1275 : decode code 1275 = .ok (.invokevirtual 139, 3) := by decide +kernel
theorem d_law_1278 : decode code 1278 = .ok (.if_icmp .eq 154, 3) := by decide +kernel
theorem d_law_1283 : decode code 1283 = .ok (.aload_n 1, 1) := by decide +kernel
theorem d_law_1284 : decode code 1284 = .ok (.aload_n 0, 1) := by decide +kernel
theorem d_law_1285 : decode code 1285 = .ok (.iload_n 3, 1) := by decide +kernel
theorem d_law_1286 : decode code 1286 = .ok (.iconst 1, 1) := by decide +kernel
theorem d_law_1287 : decode code 1287 = .ok (.iadd, 1) := by decide +kernel
theorem d_law_1288 : decode code 1288 = .ok (.iaload, 1) := by decide +kernel
theorem d_law_1289 : decode code 1289 = .ok (.aload_n 0, 1) := by decide +kernel
theorem d_law_1290 : decode code 1290 = .ok (.iload_n 3, 1) := by decide +kernel
theorem d_law_1291 : decode code 1291 = .ok (.iconst 2, 1) := by decide +kernel
theorem d_law_1292 : decode code 1292 = .ok (.iadd, 1) := by decide +kernel
theorem d_law_1293 : decode code 1293 = .ok (.iaload, 1) := by decide +kernel
theorem d_law_1294 : decode code 1294 = .ok (.aload_n 0, 1) := by decide +kernel
theorem d_law_1295 : decode code 1295 = .ok (.iload_n 3, 1) := by decide +kernel
theorem d_law_1296 : decode code 1296 = .ok (.iconst 3, 1) := by decide +kernel
theorem d_law_1297 : decode code 1297 = .ok (.iadd, 1) := by decide +kernel
theorem d_law_1298 : decode code 1298 = .ok (.iaload, 1) := by decide +kernel
theorem d_law_1299 : decode code 1299 = .ok (.aload_n 0, 1) := by decide +kernel
theorem d_law_1300 : decode code 1300 = .ok (.iload_n 3, 1) := by decide +kernel
theorem d_law_1301 : decode code 1301 = .ok (.iconst 4, 1) := by decide +kernel
theorem d_law_1302 : decode code 1302 = .ok (.iadd, 1) := by decide +kernel
theorem d_law_1303 : decode code 1303 = .ok (.iaload, 1) := by decide +kernel
theorem d_law_1304 : decode code 1304 = .ok (.aload_n 0, 1) := by decide +kernel
theorem d_law_1305 : decode code 1305 = .ok (.iload_n 3, 1) := by decide +kernel
theorem d_law_1306 : decode code 1306 = .ok (.iconst 5, 1) := by decide +kernel
theorem d_law_1307 : decode code 1307 = .ok (.iadd, 1) := by decide +kernel
theorem d_law_1308 : decode code 1308 = .ok (.iaload, 1) := by decide +kernel
theorem d_law_1309 : decode code 1309 = .ok (.invokevirtual 140, 3) := by decide +kernel
theorem d_law_1312 : decode code 1312 = .ok (.aload_n 2, 1) := by decide +kernel
theorem d_law_1313 : decode code 1313 = .ok (.aload_n 0, 1) := by decide +kernel
theorem d_law_1314 : decode code 1314 = .ok (.iload_n 3, 1) := by decide +kernel
theorem d_law_1315 : decode code 1315 = .ok (.iconst 1, 1) := by decide +kernel
theorem d_law_1316 : decode code 1316 = .ok (.iadd, 1) := by decide +kernel
theorem d_law_1317 : decode code 1317 = .ok (.iaload, 1) := by decide +kernel
theorem d_law_1318 : decode code 1318 = .ok (.aload_n 0, 1) := by decide +kernel
theorem d_law_1319 : decode code 1319 = .ok (.iload_n 3, 1) := by decide +kernel
theorem d_law_1320 : decode code 1320 = .ok (.iconst 2, 1) := by decide +kernel
theorem d_law_1321 : decode code 1321 = .ok (.iadd, 1) := by decide +kernel
theorem d_law_1322 : decode code 1322 = .ok (.iaload, 1) := by decide +kernel
theorem d_law_1323 : decode code 1323 = .ok (.aload_n 0, 1) := by decide +kernel
theorem d_law_1324 : decode code 1324 = .ok (.iload_n 3, 1) := by decide +kernel
theorem d_law_1325 : decode code 1325 = .ok (.iconst 3, 1) := by decide +kernel
theorem d_law_1326 : decode code 1326 = .ok (.iadd, 1) := by decide +kernel
theorem d_law_1327 : decode code 1327 = .ok (.iaload, 1) := by decide +kernel
theorem d_law_1328 : decode code 1328 = .ok (.aload_n 0, 1) := by decide +kernel
theorem d_law_1329 : decode code 1329 = .ok (.iload_n 3, 1) := by decide +kernel
theorem d_law_1330 : decode code 1330 = .ok (.iconst 4, 1) := by decide +kernel
theorem d_law_1331 : decode code 1331 = .ok (.iadd, 1) := by decide +kernel
theorem d_law_1332 : decode code 1332 = .ok (.iaload, 1) := by decide +kernel
theorem d_law_1333 : decode code 1333 = .ok (.aload_n 0, 1) := by decide +kernel
theorem d_law_1334 : decode code 1334 = .ok (.iload_n 3, 1) := by decide +kernel
theorem d_law_1335 : decode code 1335 = .ok (.iconst 5, 1) := by decide +kernel
theorem d_law_1336 : decode code 1336 = .ok (.iadd, 1) := by decide +kernel
theorem d_law_1337 : decode code 1337 = .ok (.iaload, 1) := by decide +kernel
theorem d_law_1338 : decode code 1338 = .ok (.invokevirtual 143, 3) := by decide +kernel
theorem d_law_1341 : decode code 1341 = .ok (.if_icmp .eq 91, 3) := by decide +kernel
theorem d_law_1346 : decode code 1346 = .ok (.aload_n 1, 1) := by decide +kernel
theorem d_law_1347 : decode code 1347 = .ok (.aload_n 0, 1) := by decide +kernel
theorem d_law_1348 : decode code 1348 = .ok (.iload_n 3, 1) := by decide +kernel
theorem d_law_1349 : decode code 1349 = .ok (.iconst 1, 1) := by decide +kernel
theorem d_law_1350 : decode code 1350 = .ok (.iadd, 1) := by decide +kernel
theorem d_law_1351 : decode code 1351 = .ok (.iaload, 1) := by decide +kernel
theorem d_law_1352 : decode code 1352 = .ok (.aload_n 0, 1) := by decide +kernel
theorem d_law_1353 : decode code 1353 = .ok (.iload_n 3, 1) := by decide +kernel
theorem d_law_1354 : decode code 1354 = .ok (.iconst 2, 1) := by decide +kernel
theorem d_law_1355 : decode code 1355 = .ok (.iadd, 1) := by decide +kernel
theorem d_law_1356 : decode code 1356 = .ok (.iaload, 1) := by decide +kernel
theorem d_law_1357 : decode code 1357 = .ok (.aload_n 0, 1) := by decide +kernel
theorem d_law_1358 : decode code 1358 = .ok (.iload_n 3, 1) := by decide +kernel
theorem d_law_1359 : decode code 1359 = .ok (.iconst 3, 1) := by decide +kernel
theorem d_law_1360 : decode code 1360 = .ok (.iadd, 1) := by decide +kernel
theorem d_law_1361 : decode code 1361 = .ok (.iaload, 1) := by decide +kernel
theorem d_law_1362 : decode code 1362 = .ok (.aload_n 0, 1) := by decide +kernel
theorem d_law_1363 : decode code 1363 = .ok (.iload_n 3, 1) := by decide +kernel
theorem d_law_1364 : decode code 1364 = .ok (.iconst 4, 1) := by decide +kernel
theorem d_law_1365 : decode code 1365 = .ok (.iadd, 1) := by decide +kernel
theorem d_law_1366 : decode code 1366 = .ok (.iaload, 1) := by decide +kernel
theorem d_law_1367 : decode code 1367 = .ok (.invokevirtual 144, 3) := by decide +kernel
