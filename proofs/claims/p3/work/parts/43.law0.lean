theorem dL_law_1763 : decode cL_law 1763 = .ok (.iinc 4 7, 3) := kDs5 kf_132 (by decide +kernel)
theorem dL_law_1766 : decode cL_law 1766 = .ok (.goto (-1743), 3) := kDs4 kf_167 (by decide +kernel)
