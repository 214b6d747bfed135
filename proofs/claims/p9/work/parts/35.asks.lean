theorem dX10_holders_0 : decode cX10_holders 0 = .ok (.aload_n 0, 1) := by decide +kernel
theorem dX10_holders_1 : decode cX10_holders 1 = .ok (.iload_n 1, 1) := by decide +kernel
theorem dX10_holders_10 : decode cX10_holders 10 = .ok (.invokevirtual 328, 3) := by decide +kernel
theorem dX10_holders_13 : decode cX10_holders 13 = .ok (.iconst (-1), 1) := by decide +kernel
theorem dX10_holders_14 : decode cX10_holders 14 = .ok (.ixor, 1) := by decide +kernel
theorem dX10_holders_15 : decode cX10_holders 15 = .ok (.iand, 1) := by decide +kernel
theorem dX10_holders_16 : decode cX10_holders 16 = .ok (.iload 4, 2) := by decide +kernel
theorem dX10_holders_18 : decode cX10_holders 18 = .ok (.ior, 1) := by decide +kernel
theorem dX10_holders_19 : decode cX10_holders 19 = .ok (.invokevirtual 317, 3) := by decide +kernel
theorem dX10_holders_2 : decode cX10_holders 2 = .ok (.lload_n 2, 1) := by decide +kernel
theorem dX10_holders_22 : decode cX10_holders 22 = .ok (.iconst 0, 1) := by decide +kernel
theorem dX10_holders_23 : decode cX10_holders 23 = .ok (.istore 5, 2) := by decide +kernel
theorem dX10_holders_25 : decode cX10_holders 25 = .ok (.iconst 0, 1) := by decide +kernel
theorem dX10_holders_26 : decode cX10_holders 26 = .ok (.istore 6, 2) := by decide +kernel
theorem dX10_holders_28 : decode cX10_holders 28 = .ok (.iload 6, 2) := by decide +kernel
theorem dX10_holders_3 : decode cX10_holders 3 = .ok (.bipush 48, 2) := by decide +kernel
theorem dX10_holders_30 : decode cX10_holders 30 = .ok (.aload_n 0, 1) := by decide +kernel
theorem dX10_holders_31 : decode cX10_holders 31 = .ok (.getfield 250, 3) := by decide +kernel
theorem dX10_holders_34 : decode cX10_holders 34 = .ok (.if_icmp .ge 44, 3) := by decide +kernel
theorem dX10_holders_37 : decode cX10_holders 37 = .ok (.iload 5, 2) := by decide +kernel
theorem dX10_holders_39 : decode cX10_holders 39 = .ok (.aload_n 0, 1) := by decide +kernel
theorem dX10_holders_40 : decode cX10_holders 40 = .ok (.getfield 55, 3) := by decide +kernel
theorem dX10_holders_43 : decode cX10_holders 43 = .ok (.iload 6, 2) := by decide +kernel
theorem dX10_holders_45 : decode cX10_holders 45 = .ok (.baload, 1) := by decide +kernel
theorem dX10_holders_46 : decode cX10_holders 46 = .ok (.ifCond .ne 22, 3) := by decide +kernel
theorem dX10_holders_49 : decode cX10_holders 49 = .ok (.aload_n 0, 1) := by decide +kernel
theorem dX10_holders_5 : decode cX10_holders 5 = .ok (.aload_n 0, 1) := by decide +kernel
theorem dX10_holders_50 : decode cX10_holders 50 = .ok (.getfield 59, 3) := by decide +kernel
theorem dX10_holders_53 : decode cX10_holders 53 = .ok (.iload 6, 2) := by decide +kernel
theorem dX10_holders_55 : decode cX10_holders 55 = .ok (.iaload, 1) := by decide +kernel
theorem dX10_holders_56 : decode cX10_holders 56 = .ok (.bipush 50, 2) := by decide +kernel
theorem dX10_holders_58 : decode cX10_holders 58 = .ok (.if_icmp .lt 10, 3) := by decide +kernel
theorem dX10_holders_6 : decode cX10_holders 6 = .ok (.invokevirtual 314, 3) := by decide +kernel
theorem dX10_holders_61 : decode cX10_holders 61 = .ok (.iconst 1, 1) := by decide +kernel
theorem dX10_holders_62 : decode cX10_holders 62 = .ok (.iload 6, 2) := by decide +kernel
theorem dX10_holders_64 : decode cX10_holders 64 = .ok (.ishl, 1) := by decide +kernel
theorem dX10_holders_65 : decode cX10_holders 65 = .ok (.goto 4, 3) := by decide +kernel
theorem dX10_holders_68 : decode cX10_holders 68 = .ok (.iconst 0, 1) := by decide +kernel
theorem dX10_holders_69 : decode cX10_holders 69 = .ok (.ior, 1) := by decide +kernel
theorem dX10_holders_70 : decode cX10_holders 70 = .ok (.istore 5, 2) := by decide +kernel
theorem dX10_holders_72 : decode cX10_holders 72 = .ok (.iinc 6 1, 3) := by decide +kernel
theorem dX10_holders_75 : decode cX10_holders 75 = .ok (.goto (-47), 3) := by decide +kernel
theorem dX10_holders_78 : decode cX10_holders 78 = .ok (.iload 5, 2) := by decide +kernel
theorem dX10_holders_80 : decode cX10_holders 80 = .ok (.ireturn, 1) := by decide +kernel
theorem dX10_holders_9 : decode cX10_holders 9 = .ok (.aload_n 0, 1) := by decide +kernel
