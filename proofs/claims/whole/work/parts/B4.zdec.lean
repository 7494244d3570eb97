/-! the law's instructions, 3 -/
def dTL_3_0 : List (Nat × (Instr × Nat)) := [(1447, (.ifCond .eq 1461, 3)), (1452, (.aload_n 1, 1)), (1453, (.invokevirtual 246, 3)), (1456, (.aload_n 2, 1)), (1457, (.invokevirtual 249, 3)), (1460, (.if_icmp .eq 1448, 3)), (1465, (.aload_n 1, 1)), (1466, (.invokevirtual 250, 3)), (1469, (.aload_n 2, 1)), (1470, (.invokevirtual 253, 3)), (1473, (.if_icmp .eq 1435, 3)), (1478, (.aload_n 1, 1)), (1479, (.invokevirtual 254, 3)), (1482, (.aload_n 2, 1)), (1483, (.invokevirtual 257, 3)), (1486, (.if_icmp .eq 1422, 3)), (1491, (.aload_n 1, 1)), (1492, (.invokevirtual 258, 3)), (1495, (.aload_n 2, 1)), (1496, (.invokevirtual 261, 3)), (1499, (.if_icmp .eq 1409, 3)), (1504, (.aload_n 1, 1)), (1505, (.aload_n 0, 1)), (1506, (.iload 5, 2)), (1508, (.iconst 1, 1)), (1509, (.iadd, 1)), (1510, (.iaload, 1)), (1511, (.aload 4, 2)), (1513, (.invokestatic 262, 3)), (1516, (.istore 6, 2)), (1518, (.aload_n 2, 1)), (1519, (.aload_n 0, 1)), (1520, (.iload 5, 2)), (1522, (.iconst 1, 1)), (1523, (.iadd, 1)), (1524, (.iaload, 1)), (1525, (.invokevirtual 265, 3)), (1528, (.dstore 7, 2)), (1530, (.aload_n 2, 1)), (1531, (.invokevirtual 144, 3)), (1534, (.iload 6, 2)), (1536, (.if_icmp .eq 5, 3)), (1541, (.iload 6, 2)), (1543, (.ifCond .ne 35, 3))]
theorem dTB_3_0 : dTL_3_0.all (fun q => decide (decode code q.1 = .ok q.2)) = true := by decide +kernel
set_option maxRecDepth 20000 in
theorem dW_1447 : decode code 1447 = .ok (.ifCond .eq 1461, 3) := dT_of dTB_3_0 0 rfl
set_option maxRecDepth 20000 in
theorem dW_1452 : decode code 1452 = .ok (.aload_n 1, 1) := dT_of dTB_3_0 1 rfl
set_option maxRecDepth 20000 in
theorem dW_1453 : decode code 1453 = .ok (.invokevirtual 246, 3) := dT_of dTB_3_0 2 rfl
set_option maxRecDepth 20000 in
theorem dW_1456 : decode code 1456 = .ok (.aload_n 2, 1) := dT_of dTB_3_0 3 rfl
set_option maxRecDepth 20000 in
theorem dW_1457 : decode code 1457 = .ok (.invokevirtual 249, 3) := dT_of dTB_3_0 4 rfl
set_option maxRecDepth 20000 in
theorem dW_1460 : decode code 1460 = .ok (.if_icmp .eq 1448, 3) := dT_of dTB_3_0 5 rfl
set_option maxRecDepth 20000 in
theorem dW_1465 : decode code 1465 = .ok (.aload_n 1, 1) := dT_of dTB_3_0 6 rfl
set_option maxRecDepth 20000 in
theorem dW_1466 : decode code 1466 = .ok (.invokevirtual 250, 3) := dT_of dTB_3_0 7 rfl
set_option maxRecDepth 20000 in
theorem dW_1469 : decode code 1469 = .ok (.aload_n 2, 1) := dT_of dTB_3_0 8 rfl
set_option maxRecDepth 20000 in
theorem dW_1470 : decode code 1470 = .ok (.invokevirtual 253, 3) := dT_of dTB_3_0 9 rfl
set_option maxRecDepth 20000 in
theorem dW_1473 : decode code 1473 = .ok (.if_icmp .eq 1435, 3) := dT_of dTB_3_0 10 rfl
set_option maxRecDepth 20000 in
theorem dW_1478 : decode code 1478 = .ok (.aload_n 1, 1) := dT_of dTB_3_0 11 rfl
set_option maxRecDepth 20000 in
theorem dW_1479 : decode code 1479 = .ok (.invokevirtual 254, 3) := dT_of dTB_3_0 12 rfl
set_option maxRecDepth 20000 in
theorem dW_1482 : decode code 1482 = .ok (.aload_n 2, 1) := dT_of dTB_3_0 13 rfl
set_option maxRecDepth 20000 in
theorem dW_1483 : decode code 1483 = .ok (.invokevirtual 257, 3) := dT_of dTB_3_0 14 rfl
set_option maxRecDepth 20000 in
theorem dW_1486 : decode code 1486 = .ok (.if_icmp .eq 1422, 3) := dT_of dTB_3_0 15 rfl
set_option maxRecDepth 20000 in
theorem dW_1491 : decode code 1491 = .ok (.aload_n 1, 1) := dT_of dTB_3_0 16 rfl
set_option maxRecDepth 20000 in
theorem dW_1492 : decode code 1492 = .ok (.invokevirtual 258, 3) := dT_of dTB_3_0 17 rfl
set_option maxRecDepth 20000 in
theorem dW_1495 : decode code 1495 = .ok (.aload_n 2, 1) := dT_of dTB_3_0 18 rfl
set_option maxRecDepth 20000 in
theorem dW_1496 : decode code 1496 = .ok (.invokevirtual 261, 3) := dT_of dTB_3_0 19 rfl
set_option maxRecDepth 20000 in
theorem dW_1499 : decode code 1499 = .ok (.if_icmp .eq 1409, 3) := dT_of dTB_3_0 20 rfl
set_option maxRecDepth 20000 in
theorem dW_1504 : decode code 1504 = .ok (.aload_n 1, 1) := dT_of dTB_3_0 21 rfl
set_option maxRecDepth 20000 in
theorem dW_1505 : decode code 1505 = .ok (.aload_n 0, 1) := dT_of dTB_3_0 22 rfl
set_option maxRecDepth 20000 in
theorem dW_1506 : decode code 1506 = .ok (.iload 5, 2) := dT_of dTB_3_0 23 rfl
set_option maxRecDepth 20000 in
theorem dW_1508 : decode code 1508 = .ok (.iconst 1, 1) := dT_of dTB_3_0 24 rfl
set_option maxRecDepth 20000 in
theorem dW_1509 : decode code 1509 = .ok (.iadd, 1) := dT_of dTB_3_0 25 rfl
set_option maxRecDepth 20000 in
theorem dW_1510 : decode code 1510 = .ok (.iaload, 1) := dT_of dTB_3_0 26 rfl
set_option maxRecDepth 20000 in
theorem dW_1511 : decode code 1511 = .ok (.aload 4, 2) := dT_of dTB_3_0 27 rfl
set_option maxRecDepth 20000 in
theorem dW_1513 : decode code 1513 = .ok (.invokestatic 262, 3) := dT_of dTB_3_0 28 rfl
set_option maxRecDepth 20000 in
theorem dW_1516 : decode code 1516 = .ok (.istore 6, 2) := dT_of dTB_3_0 29 rfl
set_option maxRecDepth 20000 in
theorem dW_1518 : decode code 1518 = .ok (.aload_n 2, 1) := dT_of dTB_3_0 30 rfl
set_option maxRecDepth 20000 in
theorem dW_1519 : decode code 1519 = .ok (.aload_n 0, 1) := dT_of dTB_3_0 31 rfl
set_option maxRecDepth 20000 in
theorem dW_1520 : decode code 1520 = .ok (.iload 5, 2) := dT_of dTB_3_0 32 rfl
set_option maxRecDepth 20000 in
theorem dW_1522 : decode code 1522 = .ok (.iconst 1, 1) := dT_of dTB_3_0 33 rfl
set_option maxRecDepth 20000 in
theorem dW_1523 : decode code 1523 = .ok (.iadd, 1) := dT_of dTB_3_0 34 rfl
set_option maxRecDepth 20000 in
theorem dW_1524 : decode code 1524 = .ok (.iaload, 1) := dT_of dTB_3_0 35 rfl
set_option maxRecDepth 20000 in
theorem dW_1525 : decode code 1525 = .ok (.invokevirtual 265, 3) := dT_of dTB_3_0 36 rfl
set_option maxRecDepth 20000 in
theorem dW_1528 : decode code 1528 = .ok (.dstore 7, 2) := dT_of dTB_3_0 37 rfl
set_option maxRecDepth 20000 in
theorem dW_1530 : decode code 1530 = .ok (.aload_n 2, 1) := dT_of dTB_3_0 38 rfl
set_option maxRecDepth 20000 in
theorem dW_1531 : decode code 1531 = .ok (.invokevirtual 144, 3) := dT_of dTB_3_0 39 rfl
set_option maxRecDepth 20000 in
theorem dW_1534 : decode code 1534 = .ok (.iload 6, 2) := dT_of dTB_3_0 40 rfl
set_option maxRecDepth 20000 in
theorem dW_1536 : decode code 1536 = .ok (.if_icmp .eq 5, 3) := dT_of dTB_3_0 41 rfl
set_option maxRecDepth 20000 in
theorem dW_1541 : decode code 1541 = .ok (.iload 6, 2) := dT_of dTB_3_0 42 rfl
set_option maxRecDepth 20000 in
theorem dW_1543 : decode code 1543 = .ok (.ifCond .ne 35, 3) := dT_of dTB_3_0 43 rfl
def dTL_3_1 : List (Nat × (Instr × Nat)) := [(1546, (.aload 4, 2)), (1548, (.iconst 0, 1)), (1549, (.daload, 1)), (1550, (.dload 7, 2)), (1552, (.dcmp .l, 1)), (1553, (.ifCond .eq 25, 3)), (1578, (.goto 1330, 3)), (1581, (.aload_n 1, 1)), (1582, (.aload_n 0, 1)), (1583, (.iload 5, 2)), (1585, (.iconst 1, 1)), (1586, (.iadd, 1)), (1587, (.iaload, 1)), (1588, (.aload 4, 2)), (1590, (.invokestatic 266, 3)), (1593, (.istore 6, 2)), (1595, (.aload_n 2, 1)), (1596, (.aload_n 0, 1)), (1597, (.iload 5, 2)), (1599, (.iconst 1, 1)), (1600, (.iadd, 1)), (1601, (.iaload, 1)), (1602, (.invokevirtual 268, 3)), (1605, (.fstore 7, 2)), (1607, (.aload_n 2, 1)), (1608, (.invokevirtual 144, 3)), (1611, (.iload 6, 2)), (1613, (.if_icmp .eq 5, 3)), (1618, (.iload 6, 2)), (1620, (.ifCond .ne 36, 3)), (1623, (.aload 4, 2)), (1625, (.iconst 0, 1)), (1626, (.daload, 1)), (1627, (.fload 7, 2)), (1629, (.f2d, 1)), (1630, (.dcmp .l, 1)), (1631, (.ifCond .eq 25, 3)), (1656, (.goto 1252, 3)), (1659, (.aload_n 1, 1)), (1660, (.invokevirtual 269, 3)), (1663, (.aload_n 2, 1)), (1664, (.invokevirtual 272, 3)), (1667, (.if_icmp .eq 1241, 3)), (1672, (.aload_n 1, 1))]
theorem dTB_3_1 : dTL_3_1.all (fun q => decide (decode code q.1 = .ok q.2)) = true := by decide +kernel
set_option maxRecDepth 20000 in
theorem dW_1546 : decode code 1546 = .ok (.aload 4, 2) := dT_of dTB_3_1 0 rfl
set_option maxRecDepth 20000 in
theorem dW_1548 : decode code 1548 = .ok (.iconst 0, 1) := dT_of dTB_3_1 1 rfl
set_option maxRecDepth 20000 in
theorem dW_1549 : decode code 1549 = .ok (.daload, 1) := dT_of dTB_3_1 2 rfl
set_option maxRecDepth 20000 in
theorem dW_1550 : decode code 1550 = .ok (.dload 7, 2) := dT_of dTB_3_1 3 rfl
set_option maxRecDepth 20000 in
theorem dW_1552 : decode code 1552 = .ok (.dcmp .l, 1) := dT_of dTB_3_1 4 rfl
set_option maxRecDepth 20000 in
theorem dW_1553 : decode code 1553 = .ok (.ifCond .eq 25, 3) := dT_of dTB_3_1 5 rfl
set_option maxRecDepth 20000 in
theorem dW_1578 : decode code 1578 = .ok (.goto 1330, 3) := dT_of dTB_3_1 6 rfl
set_option maxRecDepth 20000 in
theorem dW_1581 : decode code 1581 = .ok (.aload_n 1, 1) := dT_of dTB_3_1 7 rfl
set_option maxRecDepth 20000 in
theorem dW_1582 : decode code 1582 = .ok (.aload_n 0, 1) := dT_of dTB_3_1 8 rfl
set_option maxRecDepth 20000 in
theorem dW_1583 : decode code 1583 = .ok (.iload 5, 2) := dT_of dTB_3_1 9 rfl
set_option maxRecDepth 20000 in
theorem dW_1585 : decode code 1585 = .ok (.iconst 1, 1) := dT_of dTB_3_1 10 rfl
set_option maxRecDepth 20000 in
theorem dW_1586 : decode code 1586 = .ok (.iadd, 1) := dT_of dTB_3_1 11 rfl
set_option maxRecDepth 20000 in
theorem dW_1587 : decode code 1587 = .ok (.iaload, 1) := dT_of dTB_3_1 12 rfl
set_option maxRecDepth 20000 in
theorem dW_1588 : decode code 1588 = .ok (.aload 4, 2) := dT_of dTB_3_1 13 rfl
set_option maxRecDepth 20000 in
theorem dW_1590 : decode code 1590 = .ok (.invokestatic 266, 3) := dT_of dTB_3_1 14 rfl
set_option maxRecDepth 20000 in
theorem dW_1593 : decode code 1593 = .ok (.istore 6, 2) := dT_of dTB_3_1 15 rfl
set_option maxRecDepth 20000 in
theorem dW_1595 : decode code 1595 = .ok (.aload_n 2, 1) := dT_of dTB_3_1 16 rfl
set_option maxRecDepth 20000 in
theorem dW_1596 : decode code 1596 = .ok (.aload_n 0, 1) := dT_of dTB_3_1 17 rfl
set_option maxRecDepth 20000 in
theorem dW_1597 : decode code 1597 = .ok (.iload 5, 2) := dT_of dTB_3_1 18 rfl
set_option maxRecDepth 20000 in
theorem dW_1599 : decode code 1599 = .ok (.iconst 1, 1) := dT_of dTB_3_1 19 rfl
set_option maxRecDepth 20000 in
theorem dW_1600 : decode code 1600 = .ok (.iadd, 1) := dT_of dTB_3_1 20 rfl
set_option maxRecDepth 20000 in
theorem dW_1601 : decode code 1601 = .ok (.iaload, 1) := dT_of dTB_3_1 21 rfl
set_option maxRecDepth 20000 in
theorem dW_1602 : decode code 1602 = .ok (.invokevirtual 268, 3) := dT_of dTB_3_1 22 rfl
set_option maxRecDepth 20000 in
theorem dW_1605 : decode code 1605 = .ok (.fstore 7, 2) := dT_of dTB_3_1 23 rfl
set_option maxRecDepth 20000 in
theorem dW_1607 : decode code 1607 = .ok (.aload_n 2, 1) := dT_of dTB_3_1 24 rfl
set_option maxRecDepth 20000 in
theorem dW_1608 : decode code 1608 = .ok (.invokevirtual 144, 3) := dT_of dTB_3_1 25 rfl
set_option maxRecDepth 20000 in
theorem dW_1611 : decode code 1611 = .ok (.iload 6, 2) := dT_of dTB_3_1 26 rfl
set_option maxRecDepth 20000 in
theorem dW_1613 : decode code 1613 = .ok (.if_icmp .eq 5, 3) := dT_of dTB_3_1 27 rfl
set_option maxRecDepth 20000 in
theorem dW_1618 : decode code 1618 = .ok (.iload 6, 2) := dT_of dTB_3_1 28 rfl
set_option maxRecDepth 20000 in
theorem dW_1620 : decode code 1620 = .ok (.ifCond .ne 36, 3) := dT_of dTB_3_1 29 rfl
set_option maxRecDepth 20000 in
theorem dW_1623 : decode code 1623 = .ok (.aload 4, 2) := dT_of dTB_3_1 30 rfl
set_option maxRecDepth 20000 in
theorem dW_1625 : decode code 1625 = .ok (.iconst 0, 1) := dT_of dTB_3_1 31 rfl
set_option maxRecDepth 20000 in
theorem dW_1626 : decode code 1626 = .ok (.daload, 1) := dT_of dTB_3_1 32 rfl
set_option maxRecDepth 20000 in
theorem dW_1627 : decode code 1627 = .ok (.fload 7, 2) := dT_of dTB_3_1 33 rfl
set_option maxRecDepth 20000 in
theorem dW_1629 : decode code 1629 = .ok (.f2d, 1) := dT_of dTB_3_1 34 rfl
set_option maxRecDepth 20000 in
theorem dW_1630 : decode code 1630 = .ok (.dcmp .l, 1) := dT_of dTB_3_1 35 rfl
set_option maxRecDepth 20000 in
theorem dW_1631 : decode code 1631 = .ok (.ifCond .eq 25, 3) := dT_of dTB_3_1 36 rfl
set_option maxRecDepth 20000 in
theorem dW_1656 : decode code 1656 = .ok (.goto 1252, 3) := dT_of dTB_3_1 37 rfl
set_option maxRecDepth 20000 in
theorem dW_1659 : decode code 1659 = .ok (.aload_n 1, 1) := dT_of dTB_3_1 38 rfl
set_option maxRecDepth 20000 in
theorem dW_1660 : decode code 1660 = .ok (.invokevirtual 269, 3) := dT_of dTB_3_1 39 rfl
set_option maxRecDepth 20000 in
theorem dW_1663 : decode code 1663 = .ok (.aload_n 2, 1) := dT_of dTB_3_1 40 rfl
set_option maxRecDepth 20000 in
theorem dW_1664 : decode code 1664 = .ok (.invokevirtual 272, 3) := dT_of dTB_3_1 41 rfl
set_option maxRecDepth 20000 in
theorem dW_1667 : decode code 1667 = .ok (.if_icmp .eq 1241, 3) := dT_of dTB_3_1 42 rfl
set_option maxRecDepth 20000 in
theorem dW_1672 : decode code 1672 = .ok (.aload_n 1, 1) := dT_of dTB_3_1 43 rfl
def dTL_3_2 : List (Nat × (Instr × Nat)) := [(1673, (.invokevirtual 273, 3)), (1676, (.aload_n 2, 1)), (1677, (.invokevirtual 276, 3)), (1680, (.if_icmp .eq 1228, 3)), (1685, (.aload_n 1, 1)), (1686, (.aload_n 0, 1)), (1687, (.iload 5, 2)), (1689, (.iconst 1, 1)), (1690, (.iadd, 1)), (1691, (.iaload, 1)), (1692, (.aload_n 3, 1)), (1693, (.invokestatic 277, 3)), (1696, (.istore 6, 2)), (1698, (.aload_n 2, 1)), (1699, (.aload_n 0, 1)), (1700, (.iload 5, 2)), (1702, (.iconst 1, 1)), (1703, (.iadd, 1)), (1704, (.iaload, 1)), (1705, (.invokevirtual 279, 3)), (1708, (.istore 7, 2)), (1710, (.aload_n 2, 1)), (1711, (.invokevirtual 144, 3)), (1714, (.iload 6, 2)), (1716, (.if_icmp .eq 5, 3)), (1721, (.iload 6, 2)), (1723, (.ifCond .ne 15, 3)), (1726, (.aload_n 3, 1)), (1727, (.iconst 0, 1)), (1728, (.laload, 1)), (1729, (.iload 7, 2)), (1731, (.i2l, 1)), (1732, (.lcmp, 1)), (1733, (.ifCond .eq 5, 3)), (1738, (.goto 1170, 3)), (1741, (.aload_n 1, 1)), (1742, (.aload_n 0, 1)), (1743, (.iload 5, 2)), (1745, (.iconst 1, 1)), (1746, (.iadd, 1)), (1747, (.iaload, 1)), (1748, (.aload_n 3, 1)), (1749, (.invokestatic 280, 3)), (1752, (.istore 6, 2))]
theorem dTB_3_2 : dTL_3_2.all (fun q => decide (decode code q.1 = .ok q.2)) = true := by decide +kernel
set_option maxRecDepth 20000 in
theorem dW_1673 : decode code 1673 = .ok (.invokevirtual 273, 3) := dT_of dTB_3_2 0 rfl
set_option maxRecDepth 20000 in
theorem dW_1676 : decode code 1676 = .ok (.aload_n 2, 1) := dT_of dTB_3_2 1 rfl
set_option maxRecDepth 20000 in
theorem dW_1677 : decode code 1677 = .ok (.invokevirtual 276, 3) := dT_of dTB_3_2 2 rfl
set_option maxRecDepth 20000 in
theorem dW_1680 : decode code 1680 = .ok (.if_icmp .eq 1228, 3) := dT_of dTB_3_2 3 rfl
set_option maxRecDepth 20000 in
theorem dW_1685 : decode code 1685 = .ok (.aload_n 1, 1) := dT_of dTB_3_2 4 rfl
set_option maxRecDepth 20000 in
theorem dW_1686 : decode code 1686 = .ok (.aload_n 0, 1) := dT_of dTB_3_2 5 rfl
set_option maxRecDepth 20000 in
theorem dW_1687 : decode code 1687 = .ok (.iload 5, 2) := dT_of dTB_3_2 6 rfl
set_option maxRecDepth 20000 in
theorem dW_1689 : decode code 1689 = .ok (.iconst 1, 1) := dT_of dTB_3_2 7 rfl
set_option maxRecDepth 20000 in
theorem dW_1690 : decode code 1690 = .ok (.iadd, 1) := dT_of dTB_3_2 8 rfl
set_option maxRecDepth 20000 in
theorem dW_1691 : decode code 1691 = .ok (.iaload, 1) := dT_of dTB_3_2 9 rfl
set_option maxRecDepth 20000 in
theorem dW_1692 : decode code 1692 = .ok (.aload_n 3, 1) := dT_of dTB_3_2 10 rfl
set_option maxRecDepth 20000 in
theorem dW_1693 : decode code 1693 = .ok (.invokestatic 277, 3) := dT_of dTB_3_2 11 rfl
set_option maxRecDepth 20000 in
theorem dW_1696 : decode code 1696 = .ok (.istore 6, 2) := dT_of dTB_3_2 12 rfl
set_option maxRecDepth 20000 in
theorem dW_1698 : decode code 1698 = .ok (.aload_n 2, 1) := dT_of dTB_3_2 13 rfl
set_option maxRecDepth 20000 in
theorem dW_1699 : decode code 1699 = .ok (.aload_n 0, 1) := dT_of dTB_3_2 14 rfl
set_option maxRecDepth 20000 in
theorem dW_1700 : decode code 1700 = .ok (.iload 5, 2) := dT_of dTB_3_2 15 rfl
set_option maxRecDepth 20000 in
theorem dW_1702 : decode code 1702 = .ok (.iconst 1, 1) := dT_of dTB_3_2 16 rfl
set_option maxRecDepth 20000 in
theorem dW_1703 : decode code 1703 = .ok (.iadd, 1) := dT_of dTB_3_2 17 rfl
set_option maxRecDepth 20000 in
theorem dW_1704 : decode code 1704 = .ok (.iaload, 1) := dT_of dTB_3_2 18 rfl
set_option maxRecDepth 20000 in
theorem dW_1705 : decode code 1705 = .ok (.invokevirtual 279, 3) := dT_of dTB_3_2 19 rfl
set_option maxRecDepth 20000 in
theorem dW_1708 : decode code 1708 = .ok (.istore 7, 2) := dT_of dTB_3_2 20 rfl
set_option maxRecDepth 20000 in
theorem dW_1710 : decode code 1710 = .ok (.aload_n 2, 1) := dT_of dTB_3_2 21 rfl
set_option maxRecDepth 20000 in
theorem dW_1711 : decode code 1711 = .ok (.invokevirtual 144, 3) := dT_of dTB_3_2 22 rfl
set_option maxRecDepth 20000 in
theorem dW_1714 : decode code 1714 = .ok (.iload 6, 2) := dT_of dTB_3_2 23 rfl
set_option maxRecDepth 20000 in
theorem dW_1716 : decode code 1716 = .ok (.if_icmp .eq 5, 3) := dT_of dTB_3_2 24 rfl
set_option maxRecDepth 20000 in
theorem dW_1721 : decode code 1721 = .ok (.iload 6, 2) := dT_of dTB_3_2 25 rfl
set_option maxRecDepth 20000 in
theorem dW_1723 : decode code 1723 = .ok (.ifCond .ne 15, 3) := dT_of dTB_3_2 26 rfl
set_option maxRecDepth 20000 in
theorem dW_1726 : decode code 1726 = .ok (.aload_n 3, 1) := dT_of dTB_3_2 27 rfl
set_option maxRecDepth 20000 in
theorem dW_1727 : decode code 1727 = .ok (.iconst 0, 1) := dT_of dTB_3_2 28 rfl
set_option maxRecDepth 20000 in
theorem dW_1728 : decode code 1728 = .ok (.laload, 1) := dT_of dTB_3_2 29 rfl
set_option maxRecDepth 20000 in
theorem dW_1729 : decode code 1729 = .ok (.iload 7, 2) := dT_of dTB_3_2 30 rfl
set_option maxRecDepth 20000 in
theorem dW_1731 : decode code 1731 = .ok (.i2l, 1) := dT_of dTB_3_2 31 rfl
set_option maxRecDepth 20000 in
theorem dW_1732 : decode code 1732 = .ok (.lcmp, 1) := dT_of dTB_3_2 32 rfl
set_option maxRecDepth 20000 in
theorem dW_1733 : decode code 1733 = .ok (.ifCond .eq 5, 3) := dT_of dTB_3_2 33 rfl
set_option maxRecDepth 20000 in
theorem dW_1738 : decode code 1738 = .ok (.goto 1170, 3) := dT_of dTB_3_2 34 rfl
set_option maxRecDepth 20000 in
theorem dW_1741 : decode code 1741 = .ok (.aload_n 1, 1) := dT_of dTB_3_2 35 rfl
set_option maxRecDepth 20000 in
theorem dW_1742 : decode code 1742 = .ok (.aload_n 0, 1) := dT_of dTB_3_2 36 rfl
set_option maxRecDepth 20000 in
theorem dW_1743 : decode code 1743 = .ok (.iload 5, 2) := dT_of dTB_3_2 37 rfl
set_option maxRecDepth 20000 in
theorem dW_1745 : decode code 1745 = .ok (.iconst 1, 1) := dT_of dTB_3_2 38 rfl
set_option maxRecDepth 20000 in
theorem dW_1746 : decode code 1746 = .ok (.iadd, 1) := dT_of dTB_3_2 39 rfl
set_option maxRecDepth 20000 in
theorem dW_1747 : decode code 1747 = .ok (.iaload, 1) := dT_of dTB_3_2 40 rfl
set_option maxRecDepth 20000 in
theorem dW_1748 : decode code 1748 = .ok (.aload_n 3, 1) := dT_of dTB_3_2 41 rfl
set_option maxRecDepth 20000 in
theorem dW_1749 : decode code 1749 = .ok (.invokestatic 280, 3) := dT_of dTB_3_2 42 rfl
set_option maxRecDepth 20000 in
theorem dW_1752 : decode code 1752 = .ok (.istore 6, 2) := dT_of dTB_3_2 43 rfl
def dTL_3_3 : List (Nat × (Instr × Nat)) := [(1754, (.aload_n 2, 1)), (1755, (.aload_n 0, 1)), (1756, (.iload 5, 2)), (1758, (.iconst 1, 1)), (1759, (.iadd, 1)), (1760, (.iaload, 1)), (1761, (.invokevirtual 282, 3)), (1764, (.istore 7, 2)), (1766, (.aload_n 2, 1)), (1767, (.invokevirtual 144, 3)), (1770, (.iload 6, 2)), (1772, (.if_icmp .eq 5, 3)), (1777, (.iload 6, 2)), (1779, (.ifCond .ne 15, 3)), (1782, (.aload_n 3, 1)), (1783, (.iconst 0, 1)), (1784, (.laload, 1)), (1785, (.iload 7, 2)), (1787, (.i2l, 1)), (1788, (.lcmp, 1)), (1789, (.ifCond .eq 5, 3)), (1794, (.goto 1114, 3)), (1797, (.aload_n 1, 1)), (1798, (.aload_n 0, 1)), (1799, (.iload 5, 2)), (1801, (.iconst 1, 1)), (1802, (.iadd, 1)), (1803, (.iaload, 1)), (1804, (.aload_n 3, 1)), (1805, (.invokestatic 283, 3)), (1808, (.istore 6, 2)), (1810, (.aload_n 2, 1)), (1811, (.aload_n 0, 1)), (1812, (.iload 5, 2)), (1814, (.iconst 1, 1)), (1815, (.iadd, 1)), (1816, (.iaload, 1)), (1817, (.invokevirtual 285, 3)), (1820, (.istore 7, 2)), (1822, (.aload_n 2, 1)), (1823, (.invokevirtual 144, 3)), (1826, (.iload 6, 2)), (1828, (.if_icmp .eq 5, 3)), (1833, (.iload 6, 2))]
theorem dTB_3_3 : dTL_3_3.all (fun q => decide (decode code q.1 = .ok q.2)) = true := by decide +kernel
set_option maxRecDepth 20000 in
theorem dW_1754 : decode code 1754 = .ok (.aload_n 2, 1) := dT_of dTB_3_3 0 rfl
set_option maxRecDepth 20000 in
theorem dW_1755 : decode code 1755 = .ok (.aload_n 0, 1) := dT_of dTB_3_3 1 rfl
set_option maxRecDepth 20000 in
theorem dW_1756 : decode code 1756 = .ok (.iload 5, 2) := dT_of dTB_3_3 2 rfl
set_option maxRecDepth 20000 in
theorem dW_1758 : decode code 1758 = .ok (.iconst 1, 1) := dT_of dTB_3_3 3 rfl
set_option maxRecDepth 20000 in
theorem dW_1759 : decode code 1759 = .ok (.iadd, 1) := dT_of dTB_3_3 4 rfl
set_option maxRecDepth 20000 in
theorem dW_1760 : decode code 1760 = .ok (.iaload, 1) := dT_of dTB_3_3 5 rfl
set_option maxRecDepth 20000 in
theorem dW_1761 : decode code 1761 = .ok (.invokevirtual 282, 3) := dT_of dTB_3_3 6 rfl
set_option maxRecDepth 20000 in
theorem dW_1764 : decode code 1764 = .ok (.istore 7, 2) := dT_of dTB_3_3 7 rfl
set_option maxRecDepth 20000 in
theorem dW_1766 : decode code 1766 = .ok (.aload_n 2, 1) := dT_of dTB_3_3 8 rfl
set_option maxRecDepth 20000 in
theorem dW_1767 : decode code 1767 = .ok (.invokevirtual 144, 3) := dT_of dTB_3_3 9 rfl
set_option maxRecDepth 20000 in
theorem dW_1770 : decode code 1770 = .ok (.iload 6, 2) := dT_of dTB_3_3 10 rfl
set_option maxRecDepth 20000 in
theorem dW_1772 : decode code 1772 = .ok (.if_icmp .eq 5, 3) := dT_of dTB_3_3 11 rfl
set_option maxRecDepth 20000 in
theorem dW_1777 : decode code 1777 = .ok (.iload 6, 2) := dT_of dTB_3_3 12 rfl
set_option maxRecDepth 20000 in
theorem dW_1779 : decode code 1779 = .ok (.ifCond .ne 15, 3) := dT_of dTB_3_3 13 rfl
set_option maxRecDepth 20000 in
theorem dW_1782 : decode code 1782 = .ok (.aload_n 3, 1) := dT_of dTB_3_3 14 rfl
set_option maxRecDepth 20000 in
theorem dW_1783 : decode code 1783 = .ok (.iconst 0, 1) := dT_of dTB_3_3 15 rfl
set_option maxRecDepth 20000 in
theorem dW_1784 : decode code 1784 = .ok (.laload, 1) := dT_of dTB_3_3 16 rfl
set_option maxRecDepth 20000 in
theorem dW_1785 : decode code 1785 = .ok (.iload 7, 2) := dT_of dTB_3_3 17 rfl
set_option maxRecDepth 20000 in
theorem dW_1787 : decode code 1787 = .ok (.i2l, 1) := dT_of dTB_3_3 18 rfl
set_option maxRecDepth 20000 in
theorem dW_1788 : decode code 1788 = .ok (.lcmp, 1) := dT_of dTB_3_3 19 rfl
set_option maxRecDepth 20000 in
theorem dW_1789 : decode code 1789 = .ok (.ifCond .eq 5, 3) := dT_of dTB_3_3 20 rfl
set_option maxRecDepth 20000 in
theorem dW_1794 : decode code 1794 = .ok (.goto 1114, 3) := dT_of dTB_3_3 21 rfl
set_option maxRecDepth 20000 in
theorem dW_1797 : decode code 1797 = .ok (.aload_n 1, 1) := dT_of dTB_3_3 22 rfl
set_option maxRecDepth 20000 in
theorem dW_1798 : decode code 1798 = .ok (.aload_n 0, 1) := dT_of dTB_3_3 23 rfl
set_option maxRecDepth 20000 in
theorem dW_1799 : decode code 1799 = .ok (.iload 5, 2) := dT_of dTB_3_3 24 rfl
set_option maxRecDepth 20000 in
theorem dW_1801 : decode code 1801 = .ok (.iconst 1, 1) := dT_of dTB_3_3 25 rfl
set_option maxRecDepth 20000 in
theorem dW_1802 : decode code 1802 = .ok (.iadd, 1) := dT_of dTB_3_3 26 rfl
set_option maxRecDepth 20000 in
theorem dW_1803 : decode code 1803 = .ok (.iaload, 1) := dT_of dTB_3_3 27 rfl
set_option maxRecDepth 20000 in
theorem dW_1804 : decode code 1804 = .ok (.aload_n 3, 1) := dT_of dTB_3_3 28 rfl
set_option maxRecDepth 20000 in
theorem dW_1805 : decode code 1805 = .ok (.invokestatic 283, 3) := dT_of dTB_3_3 29 rfl
set_option maxRecDepth 20000 in
theorem dW_1808 : decode code 1808 = .ok (.istore 6, 2) := dT_of dTB_3_3 30 rfl
set_option maxRecDepth 20000 in
theorem dW_1810 : decode code 1810 = .ok (.aload_n 2, 1) := dT_of dTB_3_3 31 rfl
set_option maxRecDepth 20000 in
theorem dW_1811 : decode code 1811 = .ok (.aload_n 0, 1) := dT_of dTB_3_3 32 rfl
set_option maxRecDepth 20000 in
theorem dW_1812 : decode code 1812 = .ok (.iload 5, 2) := dT_of dTB_3_3 33 rfl
set_option maxRecDepth 20000 in
theorem dW_1814 : decode code 1814 = .ok (.iconst 1, 1) := dT_of dTB_3_3 34 rfl
set_option maxRecDepth 20000 in
theorem dW_1815 : decode code 1815 = .ok (.iadd, 1) := dT_of dTB_3_3 35 rfl
set_option maxRecDepth 20000 in
theorem dW_1816 : decode code 1816 = .ok (.iaload, 1) := dT_of dTB_3_3 36 rfl
set_option maxRecDepth 20000 in
theorem dW_1817 : decode code 1817 = .ok (.invokevirtual 285, 3) := dT_of dTB_3_3 37 rfl
set_option maxRecDepth 20000 in
theorem dW_1820 : decode code 1820 = .ok (.istore 7, 2) := dT_of dTB_3_3 38 rfl
set_option maxRecDepth 20000 in
theorem dW_1822 : decode code 1822 = .ok (.aload_n 2, 1) := dT_of dTB_3_3 39 rfl
set_option maxRecDepth 20000 in
theorem dW_1823 : decode code 1823 = .ok (.invokevirtual 144, 3) := dT_of dTB_3_3 40 rfl
set_option maxRecDepth 20000 in
theorem dW_1826 : decode code 1826 = .ok (.iload 6, 2) := dT_of dTB_3_3 41 rfl
set_option maxRecDepth 20000 in
theorem dW_1828 : decode code 1828 = .ok (.if_icmp .eq 5, 3) := dT_of dTB_3_3 42 rfl
set_option maxRecDepth 20000 in
theorem dW_1833 : decode code 1833 = .ok (.iload 6, 2) := dT_of dTB_3_3 43 rfl
def dTL_3_4 : List (Nat × (Instr × Nat)) := [(1835, (.ifCond .ne 15, 3)), (1838, (.aload_n 3, 1)), (1839, (.iconst 0, 1)), (1840, (.laload, 1)), (1841, (.iload 7, 2)), (1843, (.i2l, 1)), (1844, (.lcmp, 1)), (1845, (.ifCond .eq 5, 3)), (1850, (.goto 1058, 3)), (1853, (.aload_n 1, 1)), (1854, (.aload_n 0, 1)), (1855, (.iload 5, 2)), (1857, (.iconst 1, 1)), (1858, (.iadd, 1)), (1859, (.iaload, 1)), (1860, (.aload_n 0, 1)), (1861, (.iload 5, 2)), (1863, (.iconst 2, 1)), (1864, (.iadd, 1)), (1865, (.iaload, 1)), (1866, (.aload_n 0, 1)), (1867, (.iload 5, 2)), (1869, (.iconst 3, 1)), (1870, (.iadd, 1)), (1871, (.iaload, 1)), (1872, (.aload_n 3, 1)), (1873, (.invokestatic 286, 3)), (1876, (.istore 6, 2)), (1878, (.aload_n 2, 1)), (1879, (.aload_n 0, 1)), (1880, (.iload 5, 2)), (1882, (.iconst 1, 1)), (1883, (.iadd, 1)), (1884, (.iaload, 1)), (1885, (.aload_n 0, 1)), (1886, (.iload 5, 2)), (1888, (.iconst 2, 1)), (1889, (.iadd, 1)), (1890, (.iaload, 1)), (1891, (.aload_n 0, 1)), (1892, (.iload 5, 2)), (1894, (.iconst 3, 1)), (1895, (.iadd, 1)), (1896, (.iaload, 1))]
theorem dTB_3_4 : dTL_3_4.all (fun q => decide (decode code q.1 = .ok q.2)) = true := by decide +kernel
set_option maxRecDepth 20000 in
theorem dW_1835 : decode code 1835 = .ok (.ifCond .ne 15, 3) := dT_of dTB_3_4 0 rfl
set_option maxRecDepth 20000 in
theorem dW_1838 : decode code 1838 = .ok (.aload_n 3, 1) := dT_of dTB_3_4 1 rfl
set_option maxRecDepth 20000 in
theorem dW_1839 : decode code 1839 = .ok (.iconst 0, 1) := dT_of dTB_3_4 2 rfl
set_option maxRecDepth 20000 in
theorem dW_1840 : decode code 1840 = .ok (.laload, 1) := dT_of dTB_3_4 3 rfl
set_option maxRecDepth 20000 in
theorem dW_1841 : decode code 1841 = .ok (.iload 7, 2) := dT_of dTB_3_4 4 rfl
set_option maxRecDepth 20000 in
theorem dW_1843 : decode code 1843 = .ok (.i2l, 1) := dT_of dTB_3_4 5 rfl
set_option maxRecDepth 20000 in
theorem dW_1844 : decode code 1844 = .ok (.lcmp, 1) := dT_of dTB_3_4 6 rfl
set_option maxRecDepth 20000 in
theorem dW_1845 : decode code 1845 = .ok (.ifCond .eq 5, 3) := dT_of dTB_3_4 7 rfl
set_option maxRecDepth 20000 in
theorem dW_1850 : decode code 1850 = .ok (.goto 1058, 3) := dT_of dTB_3_4 8 rfl
set_option maxRecDepth 20000 in
theorem dW_1853 : decode code 1853 = .ok (.aload_n 1, 1) := dT_of dTB_3_4 9 rfl
set_option maxRecDepth 20000 in
theorem dW_1854 : decode code 1854 = .ok (.aload_n 0, 1) := dT_of dTB_3_4 10 rfl
set_option maxRecDepth 20000 in
theorem dW_1855 : decode code 1855 = .ok (.iload 5, 2) := dT_of dTB_3_4 11 rfl
set_option maxRecDepth 20000 in
theorem dW_1857 : decode code 1857 = .ok (.iconst 1, 1) := dT_of dTB_3_4 12 rfl
set_option maxRecDepth 20000 in
theorem dW_1858 : decode code 1858 = .ok (.iadd, 1) := dT_of dTB_3_4 13 rfl
set_option maxRecDepth 20000 in
theorem dW_1859 : decode code 1859 = .ok (.iaload, 1) := dT_of dTB_3_4 14 rfl
set_option maxRecDepth 20000 in
theorem dW_1860 : decode code 1860 = .ok (.aload_n 0, 1) := dT_of dTB_3_4 15 rfl
set_option maxRecDepth 20000 in
theorem dW_1861 : decode code 1861 = .ok (.iload 5, 2) := dT_of dTB_3_4 16 rfl
set_option maxRecDepth 20000 in
theorem dW_1863 : decode code 1863 = .ok (.iconst 2, 1) := dT_of dTB_3_4 17 rfl
set_option maxRecDepth 20000 in
theorem dW_1864 : decode code 1864 = .ok (.iadd, 1) := dT_of dTB_3_4 18 rfl
set_option maxRecDepth 20000 in
theorem dW_1865 : decode code 1865 = .ok (.iaload, 1) := dT_of dTB_3_4 19 rfl
set_option maxRecDepth 20000 in
theorem dW_1866 : decode code 1866 = .ok (.aload_n 0, 1) := dT_of dTB_3_4 20 rfl
set_option maxRecDepth 20000 in
theorem dW_1867 : decode code 1867 = .ok (.iload 5, 2) := dT_of dTB_3_4 21 rfl
set_option maxRecDepth 20000 in
theorem dW_1869 : decode code 1869 = .ok (.iconst 3, 1) := dT_of dTB_3_4 22 rfl
set_option maxRecDepth 20000 in
theorem dW_1870 : decode code 1870 = .ok (.iadd, 1) := dT_of dTB_3_4 23 rfl
set_option maxRecDepth 20000 in
theorem dW_1871 : decode code 1871 = .ok (.iaload, 1) := dT_of dTB_3_4 24 rfl
set_option maxRecDepth 20000 in
theorem dW_1872 : decode code 1872 = .ok (.aload_n 3, 1) := dT_of dTB_3_4 25 rfl
set_option maxRecDepth 20000 in
theorem dW_1873 : decode code 1873 = .ok (.invokestatic 286, 3) := dT_of dTB_3_4 26 rfl
set_option maxRecDepth 20000 in
theorem dW_1876 : decode code 1876 = .ok (.istore 6, 2) := dT_of dTB_3_4 27 rfl
set_option maxRecDepth 20000 in
theorem dW_1878 : decode code 1878 = .ok (.aload_n 2, 1) := dT_of dTB_3_4 28 rfl
set_option maxRecDepth 20000 in
theorem dW_1879 : decode code 1879 = .ok (.aload_n 0, 1) := dT_of dTB_3_4 29 rfl
set_option maxRecDepth 20000 in
theorem dW_1880 : decode code 1880 = .ok (.iload 5, 2) := dT_of dTB_3_4 30 rfl
set_option maxRecDepth 20000 in
theorem dW_1882 : decode code 1882 = .ok (.iconst 1, 1) := dT_of dTB_3_4 31 rfl
set_option maxRecDepth 20000 in
theorem dW_1883 : decode code 1883 = .ok (.iadd, 1) := dT_of dTB_3_4 32 rfl
set_option maxRecDepth 20000 in
theorem dW_1884 : decode code 1884 = .ok (.iaload, 1) := dT_of dTB_3_4 33 rfl
set_option maxRecDepth 20000 in
theorem dW_1885 : decode code 1885 = .ok (.aload_n 0, 1) := dT_of dTB_3_4 34 rfl
set_option maxRecDepth 20000 in
theorem dW_1886 : decode code 1886 = .ok (.iload 5, 2) := dT_of dTB_3_4 35 rfl
set_option maxRecDepth 20000 in
theorem dW_1888 : decode code 1888 = .ok (.iconst 2, 1) := dT_of dTB_3_4 36 rfl
set_option maxRecDepth 20000 in
theorem dW_1889 : decode code 1889 = .ok (.iadd, 1) := dT_of dTB_3_4 37 rfl
set_option maxRecDepth 20000 in
theorem dW_1890 : decode code 1890 = .ok (.iaload, 1) := dT_of dTB_3_4 38 rfl
set_option maxRecDepth 20000 in
theorem dW_1891 : decode code 1891 = .ok (.aload_n 0, 1) := dT_of dTB_3_4 39 rfl
set_option maxRecDepth 20000 in
theorem dW_1892 : decode code 1892 = .ok (.iload 5, 2) := dT_of dTB_3_4 40 rfl
set_option maxRecDepth 20000 in
theorem dW_1894 : decode code 1894 = .ok (.iconst 3, 1) := dT_of dTB_3_4 41 rfl
set_option maxRecDepth 20000 in
theorem dW_1895 : decode code 1895 = .ok (.iadd, 1) := dT_of dTB_3_4 42 rfl
set_option maxRecDepth 20000 in
theorem dW_1896 : decode code 1896 = .ok (.iaload, 1) := dT_of dTB_3_4 43 rfl
