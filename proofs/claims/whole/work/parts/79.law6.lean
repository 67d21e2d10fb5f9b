/-! the law decoded, 6 -/
theorem dw_1633 : decode code 1633 = .ok (.aload_n 0, 1) := by decide +kernel
theorem dw_1634 : decode code 1634 = .ok (.iload 4, 2) := by decide +kernel
theorem dw_1636 : decode code 1636 = .ok (.iconst 1, 1) := by decide +kernel
theorem dw_1637 : decode code 1637 = .ok (.iadd, 1) := by decide +kernel
theorem dw_1638 : decode code 1638 = .ok (.iaload, 1) := by decide +kernel
theorem dw_1639 : decode code 1639 = .ok (.invokevirtual 215, 3) := by decide +kernel
theorem dw_1642 : decode code 1642 = .ok (.if_icmp .eq 80, 3) := by decide +kernel
theorem dw_1645 : decode code 1645 = .ok (.iconst 0, 1) := by decide +kernel
theorem dw_1646 : decode code 1646 = .ok (.ireturn, 1) := by decide +kernel
theorem dw_1647 : decode code 1647 = .ok (.aload_n 1, 1) := by decide +kernel
theorem dw_1648 : decode code 1648 = .ok (.aload_n 0, 1) := by decide +kernel
theorem dw_1649 : decode code 1649 = .ok (.iload 4, 2) := by decide +kernel
theorem dw_1651 : decode code 1651 = .ok (.iconst 1, 1) := by decide +kernel
theorem dw_1652 : decode code 1652 = .ok (.iadd, 1) := by decide +kernel
theorem dw_1653 : decode code 1653 = .ok (.iaload, 1) := by decide +kernel
theorem dw_1654 : decode code 1654 = .ok (.invokevirtual 216, 3) := by decide +kernel
theorem dw_1657 : decode code 1657 = .ok (.aload_n 2, 1) := by decide +kernel
theorem dw_1658 : decode code 1658 = .ok (.aload_n 0, 1) := by decide +kernel
theorem dw_1659 : decode code 1659 = .ok (.iload 4, 2) := by decide +kernel
theorem dw_1661 : decode code 1661 = .ok (.iconst 1, 1) := by decide +kernel
theorem dw_1662 : decode code 1662 = .ok (.iadd, 1) := by decide +kernel
theorem dw_1663 : decode code 1663 = .ok (.iaload, 1) := by decide +kernel
theorem dw_1664 : decode code 1664 = .ok (.invokevirtual 219, 3) := by decide +kernel
theorem dw_1667 : decode code 1667 = .ok (.if_icmp .eq 55, 3) := by decide +kernel
theorem dw_1670 : decode code 1670 = .ok (.iconst 0, 1) := by decide +kernel
theorem dw_1671 : decode code 1671 = .ok (.ireturn, 1) := by decide +kernel
theorem dw_1672 : decode code 1672 = .ok (.aload_n 1, 1) := by decide +kernel
theorem dw_1673 : decode code 1673 = .ok (.aload_n 0, 1) := by decide +kernel
theorem dw_1674 : decode code 1674 = .ok (.iload 4, 2) := by decide +kernel
theorem dw_1676 : decode code 1676 = .ok (.iconst 1, 1) := by decide +kernel
theorem dw_1677 : decode code 1677 = .ok (.iadd, 1) := by decide +kernel
theorem dw_1678 : decode code 1678 = .ok (.iaload, 1) := by decide +kernel
theorem dw_1679 : decode code 1679 = .ok (.invokevirtual 220, 3) := by decide +kernel
theorem dw_1682 : decode code 1682 = .ok (.aload_n 2, 1) := by decide +kernel
theorem dw_1683 : decode code 1683 = .ok (.aload_n 0, 1) := by decide +kernel
theorem dw_1684 : decode code 1684 = .ok (.iload 4, 2) := by decide +kernel
theorem dw_1686 : decode code 1686 = .ok (.iconst 1, 1) := by decide +kernel
theorem dw_1687 : decode code 1687 = .ok (.iadd, 1) := by decide +kernel
theorem dw_1688 : decode code 1688 = .ok (.iaload, 1) := by decide +kernel
theorem dw_1689 : decode code 1689 = .ok (.invokevirtual 223, 3) := by decide +kernel
theorem dw_1692 : decode code 1692 = .ok (.if_icmp .eq 30, 3) := by decide +kernel
theorem dw_1695 : decode code 1695 = .ok (.iconst 0, 1) := by decide +kernel
theorem dw_1696 : decode code 1696 = .ok (.ireturn, 1) := by decide +kernel
theorem dw_1697 : decode code 1697 = .ok (.aload_n 1, 1) := by decide +kernel
theorem dw_1698 : decode code 1698 = .ok (.aload_n 0, 1) := by decide +kernel
theorem dw_1699 : decode code 1699 = .ok (.iload 4, 2) := by decide +kernel
theorem dw_1701 : decode code 1701 = .ok (.iconst 1, 1) := by decide +kernel
theorem dw_1702 : decode code 1702 = .ok (.iadd, 1) := by decide +kernel
theorem dw_1703 : decode code 1703 = .ok (.iaload, 1) := by decide +kernel
theorem dw_1704 : decode code 1704 = .ok (.invokevirtual 224, 3) := by decide +kernel
theorem dw_1707 : decode code 1707 = .ok (.aload_n 2, 1) := by decide +kernel
theorem dw_1708 : decode code 1708 = .ok (.aload_n 0, 1) := by decide +kernel
theorem dw_1709 : decode code 1709 = .ok (.iload 4, 2) := by decide +kernel
theorem dw_1711 : decode code 1711 = .ok (.iconst 1, 1) := by decide +kernel
theorem dw_1712 : decode code 1712 = .ok (.iadd, 1) := by decide +kernel
theorem dw_1713 : decode code 1713 = .ok (.iaload, 1) := by decide +kernel
theorem dw_1714 : decode code 1714 = .ok (.invokevirtual 227, 3) := by decide +kernel
theorem dw_1717 : decode code 1717 = .ok (.if_icmp .eq 5, 3) := by decide +kernel
theorem dw_1720 : decode code 1720 = .ok (.iconst 0, 1) := by decide +kernel
theorem dw_1721 : decode code 1721 = .ok (.ireturn, 1) := by decide +kernel
theorem dw_1722 : decode code 1722 = .ok (.iinc 4 6, 3) := by decide +kernel
theorem dw_1725 : decode code 1725 = .ok (.goto (-1702), 3) := by decide +kernel
theorem dw_1728 : decode code 1728 = .ok (.iconst 1, 1) := by decide +kernel
theorem dw_1729 : decode code 1729 = .ok (.ireturn, 1) := by decide +kernel
