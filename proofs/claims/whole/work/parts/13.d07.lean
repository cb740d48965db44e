theorem dL_law_1387 : decode code 1387 = .ok (.iload 4, 2) := by decide +kernel
theorem dL_law_1389 : decode code 1389 = .ok (.iconst 2, 1) := by decide +kernel
theorem dL_law_1390 : decode code 1390 = .ok (.iadd, 1) := by decide +kernel
theorem dL_law_1391 : decode code 1391 = .ok (.iaload, 1) := by decide +kernel
theorem dL_law_1392 : decode code 1392 = .ok (.ifCond .eq 7, 3) := by decide +kernel
theorem dL_law_1395 : decode code 1395 = .ok (.iconst 1, 1) := by decide +kernel
theorem dL_law_1396 : decode code 1396 = .ok (.goto 4, 3) := by decide +kernel
theorem dL_law_1399 : decode code 1399 = .ok (.iconst 0, 1) := by decide +kernel
theorem dL_law_1400 : decode code 1400 = .ok (.aload_n 3, 1) := by decide +kernel
theorem dL_law_1401 : decode code 1401 = .ok (.invokestatic 170, 3) := by decide +kernel
theorem dL_law_1404 : decode code 1404 = .ok (.istore 5, 2) := by decide +kernel
theorem dL_law_1406 : decode code 1406 = .ok (.aload_n 2, 1) := by decide +kernel
theorem dL_law_1407 : decode code 1407 = .ok (.aload_n 0, 1) := by decide +kernel
theorem dL_law_1408 : decode code 1408 = .ok (.iload 4, 2) := by decide +kernel
theorem dL_law_1410 : decode code 1410 = .ok (.iconst 1, 1) := by decide +kernel
theorem dL_law_1411 : decode code 1411 = .ok (.iadd, 1) := by decide +kernel
theorem dL_law_1412 : decode code 1412 = .ok (.iaload, 1) := by decide +kernel
theorem dL_law_1413 : decode code 1413 = .ok (.aload_n 0, 1) := by decide +kernel
theorem dL_law_1414 : decode code 1414 = .ok (.iload 4, 2) := by decide +kernel
theorem dL_law_1416 : decode code 1416 = .ok (.iconst 2, 1) := by decide +kernel
theorem dL_law_1417 : decode code 1417 = .ok (.iadd, 1) := by decide +kernel
theorem dL_law_1418 : decode code 1418 = .ok (.iaload, 1) := by decide +kernel
theorem dL_law_1419 : decode code 1419 = .ok (.ifCond .eq 7, 3) := by decide +kernel
theorem dL_law_1422 : decode code 1422 = .ok (.iconst 1, 1) := by decide +kernel
theorem dL_law_1423 : decode code 1423 = .ok (.goto 4, 3) := by decide +kernel
theorem dL_law_1426 : decode code 1426 = .ok (.iconst 0, 1) := by decide +kernel
theorem dL_law_1427 : decode code 1427 = .ok (.invokevirtual 172, 3) := by decide +kernel
theorem dL_law_1430 : decode code 1430 = .ok (.istore 6, 2) := by decide +kernel
theorem dL_law_1432 : decode code 1432 = .ok (.aload_n 2, 1) := by decide +kernel
theorem dL_law_1433 : decode code 1433 = .ok (.invokevirtual 106, 3) := by decide +kernel
theorem dL_law_1436 : decode code 1436 = .ok (.iload 5, 2) := by decide +kernel
theorem dL_law_1438 : decode code 1438 = .ok (.if_icmp .eq 5, 3) := by decide +kernel
theorem dL_law_1441 : decode code 1441 = .ok (.iconst 0, 1) := by decide +kernel
theorem dL_law_1442 : decode code 1442 = .ok (.ireturn, 1) := by decide +kernel
theorem dL_law_1443 : decode code 1443 = .ok (.iload 5, 2) := by decide +kernel
theorem dL_law_1445 : decode code 1445 = .ok (.ifCond .ne 15, 3) := by decide +kernel
theorem dL_law_1448 : decode code 1448 = .ok (.aload_n 3, 1) := by decide +kernel
theorem dL_law_1449 : decode code 1449 = .ok (.iconst 0, 1) := by decide +kernel
theorem dL_law_1450 : decode code 1450 = .ok (.laload, 1) := by decide +kernel
theorem dL_law_1451 : decode code 1451 = .ok (.iload 6, 2) := by decide +kernel
theorem dL_law_1453 : decode code 1453 = .ok (.i2l, 1) := by decide +kernel
theorem dL_law_1454 : decode code 1454 = .ok (.lcmp, 1) := by decide +kernel
theorem dL_law_1455 : decode code 1455 = .ok (.ifCond .eq 5, 3) := by decide +kernel
theorem dL_law_1458 : decode code 1458 = .ok (.iconst 0, 1) := by decide +kernel
theorem dL_law_1459 : decode code 1459 = .ok (.ireturn, 1) := by decide +kernel
theorem dL_law_1460 : decode code 1460 = .ok (.goto 218, 3) := by decide +kernel
theorem dL_law_1463 : decode code 1463 = .ok (.aload_n 1, 1) := by decide +kernel
theorem dL_law_1464 : decode code 1464 = .ok (.aload_n 0, 1) := by decide +kernel
theorem dL_law_1465 : decode code 1465 = .ok (.iload 4, 2) := by decide +kernel
theorem dL_law_1467 : decode code 1467 = .ok (.iconst 1, 1) := by decide +kernel
theorem dL_law_1468 : decode code 1468 = .ok (.iadd, 1) := by decide +kernel
theorem dL_law_1469 : decode code 1469 = .ok (.iaload, 1) := by decide +kernel
theorem dL_law_1470 : decode code 1470 = .ok (.aload_n 0, 1) := by decide +kernel
theorem dL_law_1471 : decode code 1471 = .ok (.iload 4, 2) := by decide +kernel
theorem dL_law_1473 : decode code 1473 = .ok (.iconst 2, 1) := by decide +kernel
theorem dL_law_1474 : decode code 1474 = .ok (.iadd, 1) := by decide +kernel
theorem dL_law_1475 : decode code 1475 = .ok (.iaload, 1) := by decide +kernel
theorem dL_law_1476 : decode code 1476 = .ok (.aload_n 3, 1) := by decide +kernel
theorem dL_law_1477 : decode code 1477 = .ok (.invokestatic 173, 3) := by decide +kernel
theorem dL_law_1480 : decode code 1480 = .ok (.istore 5, 2) := by decide +kernel
theorem dL_law_1482 : decode code 1482 = .ok (.aload_n 2, 1) := by decide +kernel
theorem dL_law_1483 : decode code 1483 = .ok (.aload_n 0, 1) := by decide +kernel
theorem dL_law_1484 : decode code 1484 = .ok (.iload 4, 2) := by decide +kernel
theorem dL_law_1486 : decode code 1486 = .ok (.iconst 1, 1) := by decide +kernel
theorem dL_law_1487 : decode code 1487 = .ok (.iadd, 1) := by decide +kernel
theorem dL_law_1488 : decode code 1488 = .ok (.iaload, 1) := by decide +kernel
theorem dL_law_1489 : decode code 1489 = .ok (.aload_n 0, 1) := by decide +kernel
theorem dL_law_1490 : decode code 1490 = .ok (.iload 4, 2) := by decide +kernel
theorem dL_law_1492 : decode code 1492 = .ok (.iconst 2, 1) := by decide +kernel
theorem dL_law_1493 : decode code 1493 = .ok (.iadd, 1) := by decide +kernel
theorem dL_law_1494 : decode code 1494 = .ok (.iaload, 1) := by decide +kernel
theorem dL_law_1495 : decode code 1495 = .ok (.invokevirtual 175, 3) := by decide +kernel
theorem dL_law_1498 : decode code 1498 = .ok (.istore 6, 2) := by decide +kernel
theorem dL_law_1500 : decode code 1500 = .ok (.aload_n 2, 1) := by decide +kernel
theorem dL_law_1501 : decode code 1501 = .ok (.invokevirtual 106, 3) := by decide +kernel
theorem dL_law_1504 : decode code 1504 = .ok (.iload 5, 2) := by decide +kernel
theorem dL_law_1506 : decode code 1506 = .ok (.if_icmp .eq 5, 3) := by decide +kernel
theorem dL_law_1509 : decode code 1509 = .ok (.iconst 0, 1) := by decide +kernel
theorem dL_law_1510 : decode code 1510 = .ok (.ireturn, 1) := by decide +kernel
theorem dL_law_1511 : decode code 1511 = .ok (.iload 5, 2) := by decide +kernel
theorem dL_law_1513 : decode code 1513 = .ok (.ifCond .ne 15, 3) := by decide +kernel
theorem dL_law_1516 : decode code 1516 = .ok (.aload_n 3, 1) := by decide +kernel
theorem dL_law_1517 : decode code 1517 = .ok (.iconst 0, 1) := by decide +kernel
theorem dL_law_1518 : decode code 1518 = .ok (.laload, 1) := by decide +kernel
theorem dL_law_1519 : decode code 1519 = .ok (.iload 6, 2) := by decide +kernel
theorem dL_law_1521 : decode code 1521 = .ok (.i2l, 1) := by decide +kernel
theorem dL_law_1522 : decode code 1522 = .ok (.lcmp, 1) := by decide +kernel
theorem dL_law_1523 : decode code 1523 = .ok (.ifCond .eq 5, 3) := by decide +kernel
theorem dL_law_1526 : decode code 1526 = .ok (.iconst 0, 1) := by decide +kernel
theorem dL_law_1527 : decode code 1527 = .ok (.ireturn, 1) := by decide +kernel
theorem dL_law_1528 : decode code 1528 = .ok (.goto 150, 3) := by decide +kernel
theorem dL_law_1531 : decode code 1531 = .ok (.aload_n 1, 1) := by decide +kernel
theorem dL_law_1532 : decode code 1532 = .ok (.aload_n 0, 1) := by decide +kernel
theorem dL_law_1533 : decode code 1533 = .ok (.iload 4, 2) := by decide +kernel
theorem dL_law_1535 : decode code 1535 = .ok (.iconst 1, 1) := by decide +kernel
theorem dL_law_1536 : decode code 1536 = .ok (.iadd, 1) := by decide +kernel
theorem dL_law_1537 : decode code 1537 = .ok (.iaload, 1) := by decide +kernel
theorem dL_law_1538 : decode code 1538 = .ok (.aload_n 0, 1) := by decide +kernel
theorem dL_law_1539 : decode code 1539 = .ok (.iload 4, 2) := by decide +kernel
theorem dL_law_1541 : decode code 1541 = .ok (.iconst 2, 1) := by decide +kernel
theorem dL_law_1542 : decode code 1542 = .ok (.iadd, 1) := by decide +kernel
theorem dL_law_1543 : decode code 1543 = .ok (.iaload, 1) := by decide +kernel
theorem dL_law_1544 : decode code 1544 = .ok (.aload_n 3, 1) := by decide +kernel
theorem dL_law_1545 : decode code 1545 = .ok (.invokestatic 176, 3) := by decide +kernel
theorem dL_law_1548 : decode code 1548 = .ok (.istore 5, 2) := by decide +kernel
theorem dL_law_1550 : decode code 1550 = .ok (.aload_n 2, 1) := by decide +kernel
theorem dL_law_1551 : decode code 1551 = .ok (.aload_n 0, 1) := by decide +kernel
theorem dL_law_1552 : decode code 1552 = .ok (.iload 4, 2) := by decide +kernel
theorem dL_law_1554 : decode code 1554 = .ok (.iconst 1, 1) := by decide +kernel
theorem dL_law_1555 : decode code 1555 = .ok (.iadd, 1) := by decide +kernel
theorem dL_law_1556 : decode code 1556 = .ok (.iaload, 1) := by decide +kernel
theorem dL_law_1557 : decode code 1557 = .ok (.aload_n 0, 1) := by decide +kernel
theorem dL_law_1558 : decode code 1558 = .ok (.iload 4, 2) := by decide +kernel
theorem dL_law_1560 : decode code 1560 = .ok (.iconst 2, 1) := by decide +kernel
theorem dL_law_1561 : decode code 1561 = .ok (.iadd, 1) := by decide +kernel
theorem dL_law_1562 : decode code 1562 = .ok (.iaload, 1) := by decide +kernel
theorem dL_law_1563 : decode code 1563 = .ok (.invokevirtual 178, 3) := by decide +kernel
theorem dL_law_1566 : decode code 1566 = .ok (.lstore 6, 2) := by decide +kernel
theorem dL_law_1568 : decode code 1568 = .ok (.aload_n 2, 1) := by decide +kernel
theorem dL_law_1569 : decode code 1569 = .ok (.invokevirtual 106, 3) := by decide +kernel
