theorem d_law_1615 : decode code 1615 = .ok (.iconst 0, 1) := by decide +kernel
theorem d_law_1616 : decode code 1616 = .ok (.laload, 1) := by decide +kernel
theorem d_law_1617 : decode code 1617 = .ok (.iload 6, 2) := by decide +kernel
theorem d_law_1619 : decode code 1619 = .ok (.i2l, 1) := by decide +kernel
theorem d_law_1620 : decode code 1620 = .ok (.lcmp, 1) := by decide +kernel
theorem d_law_1621 : decode code 1621 = .ok (.ifCond .eq 5, 3) := by decide +kernel
theorem d_law_1624 : decode code 1624 = .ok (.iconst 0, 1) := by decide +kernel
theorem d_law_1625 : decode code 1625 = .ok (.ireturn, 1) := by decide +kernel
theorem d_law_1626 : decode code 1626 = .ok (.goto 3, 3) := by decide +kernel
theorem d_law_1629 : decode code 1629 = .ok (.iinc 4 5, 3) := by decide +kernel
theorem d_law_1632 : decode code 1632 = .ok (.goto (-1609), 3) := by decide +kernel
theorem d_law_1635 : decode code 1635 = .ok (.iconst 1, 1) := by decide +kernel
theorem d_law_1636 : decode code 1636 = .ok (.ireturn, 1) := by decide +kernel
