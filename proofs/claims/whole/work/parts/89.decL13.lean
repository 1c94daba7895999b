/-! decode rows -/
theorem d_law_1370 : decode code 1370 = .ok (.aload_n 2, 1) := by decide +kernel
theorem d_law_1371 : decode code 1371 = .ok (.aload_n 0, 1) := by decide +kernel
theorem d_law_1372 : decode code 1372 = .ok (.iload_n 3, 1) := by decide +kernel
theorem d_law_1373 : decode code 1373 = .ok (.iconst 1, 1) := by decide +kernel
theorem d_law_1374 : decode code 1374 = .ok (.iadd, 1) := by decide +kernel
theorem d_law_1375 : decode code 1375 = .ok (.iaload, 1) := by decide +kernel
theorem d_law_1376 : decode code 1376 = .ok (.aload_n 0, 1) := by decide +kernel
theorem d_law_1377 : decode code 1377 = .ok (.iload_n 3, 1) := by decide +kernel
theorem d_law_1378 : decode code 1378 = .ok (.iconst 2, 1) := by decide +kernel
theorem d_law_1379 : decode code 1379 = .ok (.iadd, 1) := by decide +kernel
theorem d_law_1380 : decode code 1380 = .ok (.iaload, 1) := by decide +kernel
theorem d_law_1381 : decode code 1381 = .ok (.aload_n 0, 1) := by decide +kernel
theorem d_law_1382 : decode code 1382 = .ok (.iload_n 3, 1) := by decide +kernel
theorem d_law_1383 : decode code 1383 = .ok (.iconst 3, 1) := by decide +kernel
theorem d_law_1384 : decode code 1384 = .ok (.iadd, 1) := by decide +kernel
theorem d_law_1385 : decode code 1385 = .ok (.iaload, 1) := by decide +kernel
theorem d_law_1386 : decode code 1386 = .ok (.aload_n 0, 1) := by decide +kernel
theorem d_law_1387 : decode code 1387 = .ok (.iload_n 3, 1) := by decide +kernel
theorem d_law_1388 : decode code 1388 = .ok (.iconst 4, 1) := by decide +kernel
theorem d_law_1389 : decode code 1389 = .ok (.iadd, 1) := by decide +kernel
theorem d_law_1390 : decode code 1390 = .ok (.iaload, 1) := by decide +kernel
theorem d_law_1391 : decode code 1391 = .ok (.invokevirtual 148, 3) := by decide +kernel
theorem d_law_1394 : decode code 1394 = .ok (.if_icmp .eq 38, 3) := by decide +kernel
theorem d_law_1399 : decode code 1399 = .ok (.aload_n 1, 1) := by decide +kernel
theorem d_law_1400 : decode code 1400 = .ok (.aload_n 0, 1) := by decide +kernel
theorem d_law_1401 : decode code 1401 = .ok (.iload_n 3, 1) := by decide +kernel
theorem d_law_1402 : decode code 1402 = .ok (.iconst 1, 1) := by decide +kernel
theorem d_law_1403 : decode code 1403 = .ok (.iadd, 1) := by decide +kernel
theorem d_law_1404 : decode code 1404 = .ok (.iaload, 1) := by decide +kernel
theorem d_law_1405 : decode code 1405 = .ok (.aload_n 0, 1) := by decide +kernel
theorem d_law_1406 : decode code 1406 = .ok (.iload_n 3, 1) := by decide +kernel
theorem d_law_1407 : decode code 1407 = .ok (.iconst 2, 1) := by decide +kernel
theorem d_law_1408 : decode code 1408 = .ok (.iadd, 1) := by decide +kernel
theorem d_law_1409 : decode code 1409 = .ok (.iaload, 1) := by decide +kernel
theorem d_law_1410 : decode code 1410 = .ok (.invokevirtual 149, 3) := by decide +kernel
theorem d_law_1413 : decode code 1413 = .ok (.aload_n 2, 1) := by decide +kernel
theorem d_law_1414 : decode code 1414 = .ok (.aload_n 0, 1) := by decide +kernel
theorem d_law_1415 : decode code 1415 = .ok (.iload_n 3, 1) := by decide +kernel
theorem d_law_1416 : decode code 1416 = .ok (.iconst 1, 1) := by decide +kernel
theorem d_law_1417 : decode code 1417 = .ok (.iadd, 1) := by decide +kernel
theorem d_law_1418 : decode code 1418 = .ok (.iaload, 1) := by decide +kernel
theorem d_law_1419 : decode code 1419 = .ok (.aload_n 0, 1) := by decide +kernel
theorem d_law_1420 : decode code 1420 = .ok (.iload_n 3, 1) := by decide +kernel
theorem d_law_1421 : decode code 1421 = .ok (.iconst 2, 1) := by decide +kernel
theorem d_law_1422 : decode code 1422 = .ok (.iadd, 1) := by decide +kernel
theorem d_law_1423 : decode code 1423 = .ok (.iaload, 1) := by decide +kernel
theorem d_law_1424 : decode code 1424 = .ok (.invokevirtual 152, 3) := by decide +kernel
theorem d_law_1427 : decode code 1427 = .ok (.if_icmp .eq 5, 3) := by decide +kernel
theorem d_law_1432 : decode code 1432 = .ok (.iinc 3 7, 3) := by decide +kernel
theorem d_law_1435 : decode code 1435 = .ok (.goto (-1417), 3) := by decide +kernel
theorem d_law_1438 : decode code 1438 = .ok (.iconst 1, 1) := by decide +kernel
theorem d_law_1439 : decode code 1439 = .ok (.ireturn, 1) := by decide +kernel
