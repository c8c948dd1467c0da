theorem dd_L_law_1616 : decode code 1616 = .ok (.iconst 0, 1) := by decide +kernel
theorem dd_L_law_1617 : decode code 1617 = .ok (.ireturn, 1) := by decide +kernel
theorem dd_L_law_1618 : decode code 1618 = .ok (.goto 28, 3) := by decide +kernel
theorem dd_L_law_1621 : decode code 1621 = .ok (.aload_n 1, 1) := by decide +kernel
theorem dd_L_law_1622 : decode code 1622 = .ok (.aload_n 0, 1) := by decide +kernel
theorem dd_L_law_1623 : decode code 1623 = .ok (.iload 4, 2) := by decide +kernel
theorem dd_L_law_1625 : decode code 1625 = .ok (.iconst 1, 1) := by decide +kernel
theorem dd_L_law_1626 : decode code 1626 = .ok (.iadd, 1) := by decide +kernel
theorem dd_L_law_1627 : decode code 1627 = .ok (.iaload, 1) := by decide +kernel
theorem dd_L_law_1628 : decode code 1628 = .ok (.invokevirtual 170, 3) := by decide +kernel
theorem dd_L_law_1631 : decode code 1631 = .ok (.aload_n 2, 1) := by decide +kernel
theorem dd_L_law_1632 : decode code 1632 = .ok (.aload_n 0, 1) := by decide +kernel
theorem dd_L_law_1633 : decode code 1633 = .ok (.iload 4, 2) := by decide +kernel
theorem dd_L_law_1635 : decode code 1635 = .ok (.iconst 1, 1) := by decide +kernel
theorem dd_L_law_1636 : decode code 1636 = .ok (.iadd, 1) := by decide +kernel
theorem dd_L_law_1637 : decode code 1637 = .ok (.iaload, 1) := by decide +kernel
theorem dd_L_law_1638 : decode code 1638 = .ok (.invokevirtual 173, 3) := by decide +kernel
theorem dd_L_law_1641 : decode code 1641 = .ok (.if_icmp .eq 5, 3) := by decide +kernel
theorem dd_L_law_1644 : decode code 1644 = .ok (.iconst 0, 1) := by decide +kernel
theorem dd_L_law_1645 : decode code 1645 = .ok (.ireturn, 1) := by decide +kernel
theorem dd_L_law_1646 : decode code 1646 = .ok (.iinc 4 4, 3) := by decide +kernel
theorem dd_L_law_1649 : decode code 1649 = .ok (.goto (-1606), 3) := by decide +kernel
theorem dd_L_law_1652 : decode code 1652 = .ok (.iconst 1, 1) := by decide +kernel
theorem dd_L_law_1653 : decode code 1653 = .ok (.ireturn, 1) := by decide +kernel
