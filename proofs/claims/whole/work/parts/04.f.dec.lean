theorem dL_law_1622 : decode cL_law 1622 = .ok (.lcmp, 1) := by decide +kernel
theorem dL_law_1623 : decode cL_law 1623 = .ok (.ifCond .eq 5, 3) := by decide +kernel
theorem dL_law_1626 : decode cL_law 1626 = .ok (.iconst 0, 1) := by decide +kernel
theorem dL_law_1627 : decode cL_law 1627 = .ok (.ireturn, 1) := by decide +kernel
theorem dL_law_1628 : decode cL_law 1628 = .ok (.goto 3, 3) := by decide +kernel
theorem dL_law_1631 : decode cL_law 1631 = .ok (.iinc 4 6, 3) := by decide +kernel
theorem dL_law_1634 : decode cL_law 1634 = .ok (.goto (-1611), 3) := by decide +kernel
theorem dL_law_1637 : decode cL_law 1637 = .ok (.iconst 1, 1) := by decide +kernel
theorem dL_law_1638 : decode cL_law 1638 = .ok (.ireturn, 1) := by decide +kernel
