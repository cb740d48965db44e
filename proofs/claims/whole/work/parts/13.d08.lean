theorem dL_law_1572 : decode code 1572 = .ok (.iload 5, 2) := by decide +kernel
theorem dL_law_1574 : decode code 1574 = .ok (.if_icmp .eq 5, 3) := by decide +kernel
theorem dL_law_1577 : decode code 1577 = .ok (.iconst 0, 1) := by decide +kernel
theorem dL_law_1578 : decode code 1578 = .ok (.ireturn, 1) := by decide +kernel
theorem dL_law_1579 : decode code 1579 = .ok (.iload 5, 2) := by decide +kernel
theorem dL_law_1581 : decode code 1581 = .ok (.ifCond .ne 14, 3) := by decide +kernel
theorem dL_law_1584 : decode code 1584 = .ok (.aload_n 3, 1) := by decide +kernel
theorem dL_law_1585 : decode code 1585 = .ok (.iconst 0, 1) := by decide +kernel
theorem dL_law_1586 : decode code 1586 = .ok (.laload, 1) := by decide +kernel
theorem dL_law_1587 : decode code 1587 = .ok (.lload 6, 2) := by decide +kernel
theorem dL_law_1589 : decode code 1589 = .ok (.lcmp, 1) := by decide +kernel
theorem dL_law_1590 : decode code 1590 = .ok (.ifCond .eq 5, 3) := by decide +kernel
theorem dL_law_1593 : decode code 1593 = .ok (.iconst 0, 1) := by decide +kernel
theorem dL_law_1594 : decode code 1594 = .ok (.ireturn, 1) := by decide +kernel
theorem dL_law_1595 : decode code 1595 = .ok (.goto 83, 3) := by decide +kernel
theorem dL_law_1598 : decode code 1598 = .ok (.aload_n 1, 1) := by decide +kernel
theorem dL_law_1599 : decode code 1599 = .ok (.aload_n 0, 1) := by decide +kernel
theorem dL_law_1600 : decode code 1600 = .ok (.iload 4, 2) := by decide +kernel
theorem dL_law_1602 : decode code 1602 = .ok (.iconst 1, 1) := by decide +kernel
theorem dL_law_1603 : decode code 1603 = .ok (.iadd, 1) := by decide +kernel
theorem dL_law_1604 : decode code 1604 = .ok (.iaload, 1) := by decide +kernel
theorem dL_law_1605 : decode code 1605 = .ok (.aload_n 3, 1) := by decide +kernel
theorem dL_law_1606 : decode code 1606 = .ok (.invokestatic 179, 3) := by decide +kernel
theorem dL_law_1609 : decode code 1609 = .ok (.istore 5, 2) := by decide +kernel
theorem dL_law_1611 : decode code 1611 = .ok (.aload_n 2, 1) := by decide +kernel
theorem dL_law_1612 : decode code 1612 = .ok (.aload_n 0, 1) := by decide +kernel
theorem dL_law_1613 : decode code 1613 = .ok (.iload 4, 2) := by decide +kernel
theorem dL_law_1615 : decode code 1615 = .ok (.iconst 1, 1) := by decide +kernel
theorem dL_law_1616 : decode code 1616 = .ok (.iadd, 1) := by decide +kernel
theorem dL_law_1617 : decode code 1617 = .ok (.iaload, 1) := by decide +kernel
theorem dL_law_1618 : decode code 1618 = .ok (.invokevirtual 181, 3) := by decide +kernel
theorem dL_law_1621 : decode code 1621 = .ok (.lstore 6, 2) := by decide +kernel
theorem dL_law_1623 : decode code 1623 = .ok (.aload_n 2, 1) := by decide +kernel
theorem dL_law_1624 : decode code 1624 = .ok (.invokevirtual 106, 3) := by decide +kernel
theorem dL_law_1627 : decode code 1627 = .ok (.iload 5, 2) := by decide +kernel
theorem dL_law_1629 : decode code 1629 = .ok (.if_icmp .eq 5, 3) := by decide +kernel
theorem dL_law_1632 : decode code 1632 = .ok (.iconst 0, 1) := by decide +kernel
theorem dL_law_1633 : decode code 1633 = .ok (.ireturn, 1) := by decide +kernel
theorem dL_law_1634 : decode code 1634 = .ok (.iload 5, 2) := by decide +kernel
theorem dL_law_1636 : decode code 1636 = .ok (.ifCond .ne 14, 3) := by decide +kernel
theorem dL_law_1639 : decode code 1639 = .ok (.aload_n 3, 1) := by decide +kernel
theorem dL_law_1640 : decode code 1640 = .ok (.iconst 0, 1) := by decide +kernel
theorem dL_law_1641 : decode code 1641 = .ok (.laload, 1) := by decide +kernel
theorem dL_law_1642 : decode code 1642 = .ok (.lload 6, 2) := by decide +kernel
theorem dL_law_1644 : decode code 1644 = .ok (.lcmp, 1) := by decide +kernel
theorem dL_law_1645 : decode code 1645 = .ok (.ifCond .eq 5, 3) := by decide +kernel
theorem dL_law_1648 : decode code 1648 = .ok (.iconst 0, 1) := by decide +kernel
theorem dL_law_1649 : decode code 1649 = .ok (.ireturn, 1) := by decide +kernel
theorem dL_law_1650 : decode code 1650 = .ok (.goto 28, 3) := by decide +kernel
theorem dL_law_1653 : decode code 1653 = .ok (.aload_n 1, 1) := by decide +kernel
theorem dL_law_1654 : decode code 1654 = .ok (.aload_n 0, 1) := by decide +kernel
theorem dL_law_1655 : decode code 1655 = .ok (.iload 4, 2) := by decide +kernel
theorem dL_law_1657 : decode code 1657 = .ok (.iconst 1, 1) := by decide +kernel
theorem dL_law_1658 : decode code 1658 = .ok (.iadd, 1) := by decide +kernel
theorem dL_law_1659 : decode code 1659 = .ok (.iaload, 1) := by decide +kernel
theorem dL_law_1660 : decode code 1660 = .ok (.invokevirtual 182, 3) := by decide +kernel
theorem dL_law_1663 : decode code 1663 = .ok (.aload_n 2, 1) := by decide +kernel
theorem dL_law_1664 : decode code 1664 = .ok (.aload_n 0, 1) := by decide +kernel
theorem dL_law_1665 : decode code 1665 = .ok (.iload 4, 2) := by decide +kernel
theorem dL_law_1667 : decode code 1667 = .ok (.iconst 1, 1) := by decide +kernel
theorem dL_law_1668 : decode code 1668 = .ok (.iadd, 1) := by decide +kernel
theorem dL_law_1669 : decode code 1669 = .ok (.iaload, 1) := by decide +kernel
theorem dL_law_1670 : decode code 1670 = .ok (.invokevirtual 185, 3) := by decide +kernel
theorem dL_law_1673 : decode code 1673 = .ok (.if_icmp .eq 5, 3) := by decide +kernel
theorem dL_law_1676 : decode code 1676 = .ok (.iconst 0, 1) := by decide +kernel
theorem dL_law_1677 : decode code 1677 = .ok (.ireturn, 1) := by decide +kernel
theorem dL_law_1678 : decode code 1678 = .ok (.iinc 4 5, 3) := by decide +kernel
theorem dL_law_1681 : decode code 1681 = .ok (.goto (-1658), 3) := by decide +kernel
theorem dL_law_1684 : decode code 1684 = .ok (.iconst 1, 1) := by decide +kernel
theorem dL_law_1685 : decode code 1685 = .ok (.ireturn, 1) := by decide +kernel
