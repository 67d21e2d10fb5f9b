/-! the law decoded, 5 -/
theorem dw_1352 : decode code 1352 = .ok (.invokevirtual 105, 3) := by decide +kernel
theorem dw_1355 : decode code 1355 = .ok (.iload 5, 2) := by decide +kernel
theorem dw_1357 : decode code 1357 = .ok (.if_icmp .eq 5, 3) := by decide +kernel
theorem dw_1360 : decode code 1360 = .ok (.iconst 0, 1) := by decide +kernel
theorem dw_1361 : decode code 1361 = .ok (.ireturn, 1) := by decide +kernel
theorem dw_1362 : decode code 1362 = .ok (.iload 5, 2) := by decide +kernel
theorem dw_1364 : decode code 1364 = .ok (.ifCond .ne 14, 3) := by decide +kernel
theorem dw_1367 : decode code 1367 = .ok (.aload_n 3, 1) := by decide +kernel
theorem dw_1368 : decode code 1368 = .ok (.iconst 0, 1) := by decide +kernel
theorem dw_1369 : decode code 1369 = .ok (.laload, 1) := by decide +kernel
theorem dw_1370 : decode code 1370 = .ok (.lload 6, 2) := by decide +kernel
theorem dw_1372 : decode code 1372 = .ok (.lcmp, 1) := by decide +kernel
theorem dw_1373 : decode code 1373 = .ok (.ifCond .eq 5, 3) := by decide +kernel
theorem dw_1376 : decode code 1376 = .ok (.iconst 0, 1) := by decide +kernel
theorem dw_1377 : decode code 1377 = .ok (.ireturn, 1) := by decide +kernel
theorem dw_1378 : decode code 1378 = .ok (.goto 344, 3) := by decide +kernel
theorem dw_1381 : decode code 1381 = .ok (.aload_n 1, 1) := by decide +kernel
theorem dw_1382 : decode code 1382 = .ok (.aload_n 0, 1) := by decide +kernel
theorem dw_1383 : decode code 1383 = .ok (.iload 4, 2) := by decide +kernel
theorem dw_1385 : decode code 1385 = .ok (.iconst 1, 1) := by decide +kernel
theorem dw_1386 : decode code 1386 = .ok (.iadd, 1) := by decide +kernel
theorem dw_1387 : decode code 1387 = .ok (.iaload, 1) := by decide +kernel
theorem dw_1388 : decode code 1388 = .ok (.aload_n 0, 1) := by decide +kernel
theorem dw_1389 : decode code 1389 = .ok (.iload 4, 2) := by decide +kernel
theorem dw_1391 : decode code 1391 = .ok (.iconst 2, 1) := by decide +kernel
theorem dw_1392 : decode code 1392 = .ok (.iadd, 1) := by decide +kernel
theorem dw_1393 : decode code 1393 = .ok (.iaload, 1) := by decide +kernel
theorem dw_1394 : decode code 1394 = .ok (.aload_n 3, 1) := by decide +kernel
theorem dw_1395 : decode code 1395 = .ok (.invokestatic 184, 3) := by decide +kernel
theorem dw_1398 : decode code 1398 = .ok (.istore 5, 2) := by decide +kernel
theorem dw_1400 : decode code 1400 = .ok (.aload_n 2, 1) := by decide +kernel
theorem dw_1401 : decode code 1401 = .ok (.aload_n 0, 1) := by decide +kernel
theorem dw_1402 : decode code 1402 = .ok (.iload 4, 2) := by decide +kernel
theorem dw_1404 : decode code 1404 = .ok (.iconst 1, 1) := by decide +kernel
theorem dw_1405 : decode code 1405 = .ok (.iadd, 1) := by decide +kernel
theorem dw_1406 : decode code 1406 = .ok (.iaload, 1) := by decide +kernel
theorem dw_1407 : decode code 1407 = .ok (.aload_n 0, 1) := by decide +kernel
theorem dw_1408 : decode code 1408 = .ok (.iload 4, 2) := by decide +kernel
theorem dw_1410 : decode code 1410 = .ok (.iconst 2, 1) := by decide +kernel
theorem dw_1411 : decode code 1411 = .ok (.iadd, 1) := by decide +kernel
theorem dw_1412 : decode code 1412 = .ok (.iaload, 1) := by decide +kernel
theorem dw_1413 : decode code 1413 = .ok (.invokevirtual 186, 3) := by decide +kernel
theorem dw_1416 : decode code 1416 = .ok (.lstore 6, 2) := by decide +kernel
theorem dw_1418 : decode code 1418 = .ok (.aload_n 2, 1) := by decide +kernel
theorem dw_1419 : decode code 1419 = .ok (.invokevirtual 105, 3) := by decide +kernel
theorem dw_1422 : decode code 1422 = .ok (.iload 5, 2) := by decide +kernel
theorem dw_1424 : decode code 1424 = .ok (.if_icmp .eq 5, 3) := by decide +kernel
theorem dw_1427 : decode code 1427 = .ok (.iconst 0, 1) := by decide +kernel
theorem dw_1428 : decode code 1428 = .ok (.ireturn, 1) := by decide +kernel
theorem dw_1429 : decode code 1429 = .ok (.iload 5, 2) := by decide +kernel
theorem dw_1431 : decode code 1431 = .ok (.ifCond .ne 14, 3) := by decide +kernel
theorem dw_1434 : decode code 1434 = .ok (.aload_n 3, 1) := by decide +kernel
theorem dw_1435 : decode code 1435 = .ok (.iconst 0, 1) := by decide +kernel
theorem dw_1436 : decode code 1436 = .ok (.laload, 1) := by decide +kernel
theorem dw_1437 : decode code 1437 = .ok (.lload 6, 2) := by decide +kernel
theorem dw_1439 : decode code 1439 = .ok (.lcmp, 1) := by decide +kernel
theorem dw_1440 : decode code 1440 = .ok (.ifCond .eq 5, 3) := by decide +kernel
theorem dw_1443 : decode code 1443 = .ok (.iconst 0, 1) := by decide +kernel
theorem dw_1444 : decode code 1444 = .ok (.ireturn, 1) := by decide +kernel
theorem dw_1445 : decode code 1445 = .ok (.goto 277, 3) := by decide +kernel
theorem dw_1448 : decode code 1448 = .ok (.aload_n 1, 1) := by decide +kernel
theorem dw_1449 : decode code 1449 = .ok (.aload_n 0, 1) := by decide +kernel
theorem dw_1450 : decode code 1450 = .ok (.iload 4, 2) := by decide +kernel
theorem dw_1452 : decode code 1452 = .ok (.iconst 1, 1) := by decide +kernel
theorem dw_1453 : decode code 1453 = .ok (.iadd, 1) := by decide +kernel
theorem dw_1454 : decode code 1454 = .ok (.iaload, 1) := by decide +kernel
theorem dw_1455 : decode code 1455 = .ok (.aload_n 0, 1) := by decide +kernel
theorem dw_1456 : decode code 1456 = .ok (.iload 4, 2) := by decide +kernel
theorem dw_1458 : decode code 1458 = .ok (.iconst 2, 1) := by decide +kernel
theorem dw_1459 : decode code 1459 = .ok (.iadd, 1) := by decide +kernel
theorem dw_1460 : decode code 1460 = .ok (.iaload, 1) := by decide +kernel
theorem dw_1461 : decode code 1461 = .ok (.invokevirtual 187, 3) := by decide +kernel
theorem dw_1464 : decode code 1464 = .ok (.aload_n 2, 1) := by decide +kernel
theorem dw_1465 : decode code 1465 = .ok (.aload_n 0, 1) := by decide +kernel
theorem dw_1466 : decode code 1466 = .ok (.iload 4, 2) := by decide +kernel
theorem dw_1468 : decode code 1468 = .ok (.iconst 1, 1) := by decide +kernel
theorem dw_1469 : decode code 1469 = .ok (.iadd, 1) := by decide +kernel
theorem dw_1470 : decode code 1470 = .ok (.iaload, 1) := by decide +kernel
theorem dw_1471 : decode code 1471 = .ok (.aload_n 0, 1) := by decide +kernel
theorem dw_1472 : decode code 1472 = .ok (.iload 4, 2) := by decide +kernel
theorem dw_1474 : decode code 1474 = .ok (.iconst 2, 1) := by decide +kernel
theorem dw_1475 : decode code 1475 = .ok (.iadd, 1) := by decide +kernel
theorem dw_1476 : decode code 1476 = .ok (.iaload, 1) := by decide +kernel
theorem dw_1477 : decode code 1477 = .ok (.invokevirtual 190, 3) := by decide +kernel
theorem dw_1480 : decode code 1480 = .ok (.if_icmp .eq 242, 3) := by decide +kernel
theorem dw_1483 : decode code 1483 = .ok (.iconst 0, 1) := by decide +kernel
theorem dw_1484 : decode code 1484 = .ok (.ireturn, 1) := by decide +kernel
theorem dw_1485 : decode code 1485 = .ok (.aload_n 1, 1) := by decide +kernel
theorem dw_1486 : decode code 1486 = .ok (.invokevirtual 191, 3) := by decide +kernel
theorem dw_1489 : decode code 1489 = .ok (.aload_n 2, 1) := by decide +kernel
theorem dw_1490 : decode code 1490 = .ok (.invokevirtual 194, 3) := by decide +kernel
theorem dw_1493 : decode code 1493 = .ok (.if_icmp .eq 229, 3) := by decide +kernel
theorem dw_1496 : decode code 1496 = .ok (.iconst 0, 1) := by decide +kernel
theorem dw_1497 : decode code 1497 = .ok (.ireturn, 1) := by decide +kernel
theorem dw_1498 : decode code 1498 = .ok (.aload_n 1, 1) := by decide +kernel
theorem dw_1499 : decode code 1499 = .ok (.aload_n 0, 1) := by decide +kernel
theorem dw_1500 : decode code 1500 = .ok (.iload 4, 2) := by decide +kernel
theorem dw_1502 : decode code 1502 = .ok (.iconst 1, 1) := by decide +kernel
theorem dw_1503 : decode code 1503 = .ok (.iadd, 1) := by decide +kernel
theorem dw_1504 : decode code 1504 = .ok (.iaload, 1) := by decide +kernel
theorem dw_1505 : decode code 1505 = .ok (.invokevirtual 195, 3) := by decide +kernel
theorem dw_1508 : decode code 1508 = .ok (.aload_n 2, 1) := by decide +kernel
theorem dw_1509 : decode code 1509 = .ok (.aload_n 0, 1) := by decide +kernel
theorem dw_1510 : decode code 1510 = .ok (.iload 4, 2) := by decide +kernel
theorem dw_1512 : decode code 1512 = .ok (.iconst 1, 1) := by decide +kernel
theorem dw_1513 : decode code 1513 = .ok (.iadd, 1) := by decide +kernel
theorem dw_1514 : decode code 1514 = .ok (.iaload, 1) := by decide +kernel
theorem dw_1515 : decode code 1515 = .ok (.invokevirtual 198, 3) := by decide +kernel
theorem dw_1518 : decode code 1518 = .ok (.if_icmp .eq 204, 3) := by decide +kernel
theorem dw_1521 : decode code 1521 = .ok (.iconst 0, 1) := by decide +kernel
theorem dw_1522 : decode code 1522 = .ok (.ireturn, 1) := by decide +kernel
theorem dw_1523 : decode code 1523 = .ok (.aload_n 1, 1) := by decide +kernel
theorem dw_1524 : decode code 1524 = .ok (.aload_n 0, 1) := by decide +kernel
theorem dw_1525 : decode code 1525 = .ok (.iload 4, 2) := by decide +kernel
theorem dw_1527 : decode code 1527 = .ok (.iconst 1, 1) := by decide +kernel
theorem dw_1528 : decode code 1528 = .ok (.iadd, 1) := by decide +kernel
theorem dw_1529 : decode code 1529 = .ok (.iaload, 1) := by decide +kernel
theorem dw_1530 : decode code 1530 = .ok (.aload_n 0, 1) := by decide +kernel
theorem dw_1531 : decode code 1531 = .ok (.iload 4, 2) := by decide +kernel
theorem dw_1533 : decode code 1533 = .ok (.iconst 2, 1) := by decide +kernel
theorem dw_1534 : decode code 1534 = .ok (.iadd, 1) := by decide +kernel
theorem dw_1535 : decode code 1535 = .ok (.iaload, 1) := by decide +kernel
theorem dw_1536 : decode code 1536 = .ok (.invokevirtual 199, 3) := by decide +kernel
theorem dw_1539 : decode code 1539 = .ok (.aload_n 2, 1) := by decide +kernel
theorem dw_1540 : decode code 1540 = .ok (.aload_n 0, 1) := by decide +kernel
theorem dw_1541 : decode code 1541 = .ok (.iload 4, 2) := by decide +kernel
theorem dw_1543 : decode code 1543 = .ok (.iconst 1, 1) := by decide +kernel
theorem dw_1544 : decode code 1544 = .ok (.iadd, 1) := by decide +kernel
theorem dw_1545 : decode code 1545 = .ok (.iaload, 1) := by decide +kernel
theorem dw_1546 : decode code 1546 = .ok (.aload_n 0, 1) := by decide +kernel
theorem dw_1547 : decode code 1547 = .ok (.iload 4, 2) := by decide +kernel
theorem dw_1549 : decode code 1549 = .ok (.iconst 2, 1) := by decide +kernel
theorem dw_1550 : decode code 1550 = .ok (.iadd, 1) := by decide +kernel
theorem dw_1551 : decode code 1551 = .ok (.iaload, 1) := by decide +kernel
theorem dw_1552 : decode code 1552 = .ok (.invokevirtual 202, 3) := by decide +kernel
theorem dw_1555 : decode code 1555 = .ok (.if_icmp .eq 167, 3) := by decide +kernel
theorem dw_1558 : decode code 1558 = .ok (.iconst 0, 1) := by decide +kernel
theorem dw_1559 : decode code 1559 = .ok (.ireturn, 1) := by decide +kernel
theorem dw_1560 : decode code 1560 = .ok (.aload_n 1, 1) := by decide +kernel
theorem dw_1561 : decode code 1561 = .ok (.aload_n 0, 1) := by decide +kernel
theorem dw_1562 : decode code 1562 = .ok (.iload 4, 2) := by decide +kernel
theorem dw_1564 : decode code 1564 = .ok (.iconst 1, 1) := by decide +kernel
theorem dw_1565 : decode code 1565 = .ok (.iadd, 1) := by decide +kernel
theorem dw_1566 : decode code 1566 = .ok (.iaload, 1) := by decide +kernel
theorem dw_1567 : decode code 1567 = .ok (.aload_n 0, 1) := by decide +kernel
theorem dw_1568 : decode code 1568 = .ok (.iload 4, 2) := by decide +kernel
theorem dw_1570 : decode code 1570 = .ok (.iconst 2, 1) := by decide +kernel
theorem dw_1571 : decode code 1571 = .ok (.iadd, 1) := by decide +kernel
theorem dw_1572 : decode code 1572 = .ok (.iaload, 1) := by decide +kernel
theorem dw_1573 : decode code 1573 = .ok (.aload_n 0, 1) := by decide +kernel
theorem dw_1574 : decode code 1574 = .ok (.iload 4, 2) := by decide +kernel
theorem dw_1576 : decode code 1576 = .ok (.iconst 3, 1) := by decide +kernel
theorem dw_1577 : decode code 1577 = .ok (.iadd, 1) := by decide +kernel
theorem dw_1578 : decode code 1578 = .ok (.iaload, 1) := by decide +kernel
theorem dw_1579 : decode code 1579 = .ok (.invokevirtual 203, 3) := by decide +kernel
theorem dw_1582 : decode code 1582 = .ok (.aload_n 2, 1) := by decide +kernel
theorem dw_1583 : decode code 1583 = .ok (.aload_n 0, 1) := by decide +kernel
theorem dw_1584 : decode code 1584 = .ok (.iload 4, 2) := by decide +kernel
theorem dw_1586 : decode code 1586 = .ok (.iconst 1, 1) := by decide +kernel
theorem dw_1587 : decode code 1587 = .ok (.iadd, 1) := by decide +kernel
theorem dw_1588 : decode code 1588 = .ok (.iaload, 1) := by decide +kernel
theorem dw_1589 : decode code 1589 = .ok (.aload_n 0, 1) := by decide +kernel
theorem dw_1590 : decode code 1590 = .ok (.iload 4, 2) := by decide +kernel
theorem dw_1592 : decode code 1592 = .ok (.iconst 2, 1) := by decide +kernel
theorem dw_1593 : decode code 1593 = .ok (.iadd, 1) := by decide +kernel
theorem dw_1594 : decode code 1594 = .ok (.iaload, 1) := by decide +kernel
theorem dw_1595 : decode code 1595 = .ok (.aload_n 0, 1) := by decide +kernel
theorem dw_1596 : decode code 1596 = .ok (.iload 4, 2) := by decide +kernel
theorem dw_1598 : decode code 1598 = .ok (.iconst 3, 1) := by decide +kernel
theorem dw_1599 : decode code 1599 = .ok (.iadd, 1) := by decide +kernel
theorem dw_1600 : decode code 1600 = .ok (.iaload, 1) := by decide +kernel
theorem dw_1601 : decode code 1601 = .ok (.invokevirtual 207, 3) := by decide +kernel
theorem dw_1604 : decode code 1604 = .ok (.if_icmp .eq 118, 3) := by decide +kernel
theorem dw_1607 : decode code 1607 = .ok (.iconst 0, 1) := by decide +kernel
theorem dw_1608 : decode code 1608 = .ok (.ireturn, 1) := by decide +kernel
theorem dw_1609 : decode code 1609 = .ok (.aload_n 1, 1) := by decide +kernel
theorem dw_1610 : decode code 1610 = .ok (.invokevirtual 208, 3) := by decide +kernel
theorem dw_1613 : decode code 1613 = .ok (.aload_n 2, 1) := by decide +kernel
theorem dw_1614 : decode code 1614 = .ok (.invokevirtual 211, 3) := by decide +kernel
theorem dw_1617 : decode code 1617 = .ok (.if_icmp .eq 105, 3) := by decide +kernel
theorem dw_1620 : decode code 1620 = .ok (.iconst 0, 1) := by decide +kernel
theorem dw_1621 : decode code 1621 = .ok (.ireturn, 1) := by decide +kernel
theorem dw_1622 : decode code 1622 = .ok (.aload_n 1, 1) := by decide +kernel
theorem dw_1623 : decode code 1623 = .ok (.aload_n 0, 1) := by decide +kernel
theorem dw_1624 : decode code 1624 = .ok (.iload 4, 2) := by decide +kernel
theorem dw_1626 : decode code 1626 = .ok (.iconst 1, 1) := by decide +kernel
theorem dw_1627 : decode code 1627 = .ok (.iadd, 1) := by decide +kernel
theorem dw_1628 : decode code 1628 = .ok (.iaload, 1) := by decide +kernel
theorem dw_1629 : decode code 1629 = .ok (.invokevirtual 212, 3) := by decide +kernel
theorem dw_1632 : decode code 1632 = .ok (.aload_n 2, 1) := by decide +kernel
