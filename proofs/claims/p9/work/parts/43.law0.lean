theorem dL_law_1791 : decode cL_law 1791 = .ok (.iinc 4 7, 3) := by decide +kernel
theorem dL_law_1794 : decode cL_law 1794 = .ok (.goto (-1771), 3) := by decide +kernel
