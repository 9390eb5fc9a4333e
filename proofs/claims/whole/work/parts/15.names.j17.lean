theorem dL_law_1468 : decode cL_law 1468 = .ok (.dload 7, 2) := by decide +kernel
theorem dL_law_1470 : decode cL_law 1470 = .ok (.dcmp .l, 1) := by decide +kernel
theorem dL_law_1471 : decode cL_law 1471 = .ok (.ifCond .eq 21, 3) := by decide +kernel
theorem dL_law_1474 : decode cL_law 1474 = .ok (.dload 5, 2) := by decide +kernel
theorem dL_law_1476 : decode cL_law 1476 = .ok (.dload 5, 2) := by decide +kernel
theorem dL_law_1478 : decode cL_law 1478 = .ok (.dcmp .l, 1) := by decide +kernel
theorem dL_law_1479 : decode cL_law 1479 = .ok (.ifCond .eq 11, 3) := by decide +kernel
theorem dL_law_1482 : decode cL_law 1482 = .ok (.dload 7, 2) := by decide +kernel
theorem dL_law_1484 : decode cL_law 1484 = .ok (.dload 7, 2) := by decide +kernel
theorem dL_law_1486 : decode cL_law 1486 = .ok (.dcmp .l, 1) := by decide +kernel
theorem dL_law_1487 : decode cL_law 1487 = .ok (.ifCond .ne 5, 3) := by decide +kernel
theorem dL_law_1490 : decode cL_law 1490 = .ok (.iconst 0, 1) := by decide +kernel
theorem dL_law_1491 : decode cL_law 1491 = .ok (.ireturn, 1) := by decide +kernel
theorem dL_law_1492 : decode cL_law 1492 = .ok (.goto 58, 3) := by decide +kernel
theorem dL_law_1495 : decode cL_law 1495 = .ok (.aload_n 1, 1) := by decide +kernel
theorem dL_law_1496 : decode cL_law 1496 = .ok (.invokevirtual 173, 3) := by decide +kernel
theorem dL_law_1499 : decode cL_law 1499 = .ok (.dstore 5, 2) := by decide +kernel
theorem dL_law_1501 : decode cL_law 1501 = .ok (.aload_n 2, 1) := by decide +kernel
theorem dL_law_1502 : decode cL_law 1502 = .ok (.invokevirtual 177, 3) := by decide +kernel
theorem dL_law_1505 : decode cL_law 1505 = .ok (.dstore 7, 2) := by decide +kernel
theorem dL_law_1507 : decode cL_law 1507 = .ok (.dload 5, 2) := by decide +kernel
theorem dL_law_1509 : decode cL_law 1509 = .ok (.dload 7, 2) := by decide +kernel
theorem dL_law_1511 : decode cL_law 1511 = .ok (.dcmp .l, 1) := by decide +kernel
theorem dL_law_1512 : decode cL_law 1512 = .ok (.ifCond .eq 21, 3) := by decide +kernel
theorem dL_law_1515 : decode cL_law 1515 = .ok (.dload 5, 2) := by decide +kernel
theorem dL_law_1517 : decode cL_law 1517 = .ok (.dload 5, 2) := by decide +kernel
theorem dL_law_1519 : decode cL_law 1519 = .ok (.dcmp .l, 1) := by decide +kernel
theorem dL_law_1520 : decode cL_law 1520 = .ok (.ifCond .eq 11, 3) := by decide +kernel
theorem dL_law_1523 : decode cL_law 1523 = .ok (.dload 7, 2) := by decide +kernel
theorem dL_law_1525 : decode cL_law 1525 = .ok (.dload 7, 2) := by decide +kernel
theorem dL_law_1527 : decode cL_law 1527 = .ok (.dcmp .l, 1) := by decide +kernel
theorem dL_law_1528 : decode cL_law 1528 = .ok (.ifCond .ne 5, 3) := by decide +kernel
theorem dL_law_1531 : decode cL_law 1531 = .ok (.iconst 0, 1) := by decide +kernel
theorem dL_law_1532 : decode cL_law 1532 = .ok (.ireturn, 1) := by decide +kernel
theorem dL_law_1533 : decode cL_law 1533 = .ok (.goto 17, 3) := by decide +kernel
theorem dL_law_1536 : decode cL_law 1536 = .ok (.aload_n 1, 1) := by decide +kernel
theorem dL_law_1537 : decode cL_law 1537 = .ok (.invokevirtual 178, 3) := by decide +kernel
theorem dL_law_1540 : decode cL_law 1540 = .ok (.aload_n 2, 1) := by decide +kernel
theorem dL_law_1541 : decode cL_law 1541 = .ok (.invokevirtual 182, 3) := by decide +kernel
theorem dL_law_1544 : decode cL_law 1544 = .ok (.lcmp, 1) := by decide +kernel
theorem dL_law_1545 : decode cL_law 1545 = .ok (.ifCond .eq 5, 3) := by decide +kernel
theorem dL_law_1548 : decode cL_law 1548 = .ok (.iconst 0, 1) := by decide +kernel
theorem dL_law_1549 : decode cL_law 1549 = .ok (.ireturn, 1) := by decide +kernel
theorem dL_law_1550 : decode cL_law 1550 = .ok (.iinc 4 4, 3) := by decide +kernel
theorem dL_law_1553 : decode cL_law 1553 = .ok (.goto (-1530), 3) := by decide +kernel
theorem dL_law_1556 : decode cL_law 1556 = .ok (.iconst 1, 1) := by decide +kernel
theorem dL_law_1557 : decode cL_law 1557 = .ok (.ireturn, 1) := by decide +kernel

