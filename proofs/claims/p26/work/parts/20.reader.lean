theorem dX4_look_0 : decode cX4_look 0 = .ok (.iconst 0, 1) := kDs0 kf_3 (by decide +kernel)
theorem dX4_look_1 : decode cX4_look 1 = .ok (.istore_n 1, 1) := kDs0 kf_60 (by decide +kernel)
theorem dX4_look_2 : decode cX4_look 2 = .ok (.iload_n 1, 1) := kDs0 kf_27 (by decide +kernel)
theorem dX4_look_3 : decode cX4_look 3 = .ok (.bipush 120, 2) := kDs3 kf_16 (by decide +kernel)
theorem dX4_look_5 : decode cX4_look 5 = .ok (.if_icmp .ge 35, 3) := kDs4 kf_162 (by decide +kernel)
theorem dX4_look_40 : decode cX4_look 40 = .ok (.aload_n 0, 1) := kDs0 kf_42 (by decide +kernel)
theorem dX4_look_41 : decode cX4_look 41 = .ok (.getfield 37, 3) := kDs2 kf_180 (by decide +kernel)
theorem dX4_look_44 : decode cX4_look 44 = .ok (.aload_n 0, 1) := kDs0 kf_42 (by decide +kernel)
theorem dX4_look_45 : decode cX4_look 45 = .ok (.getfield 25, 3) := kDs2 kf_180 (by decide +kernel)
theorem dX4_look_48 : decode cX4_look 48 = .ok (.invokevirtual 117, 3) := kDs2 kf_182 (by decide +kernel)
theorem dX4_look_51 : decode cX4_look 51 = .ok (.ireturn, 1) := kDs0 kf_172 (by decide +kernel)
theorem dX4_look_8 : decode cX4_look 8 = .ok (.aload_n 0, 1) := kDs0 kf_42 (by decide +kernel)
theorem dX4_look_9 : decode cX4_look 9 = .ok (.getfield 37, 3) := kDs2 kf_180 (by decide +kernel)
theorem dX4_look_12 : decode cX4_look 12 = .ok (.aload_n 0, 1) := kDs0 kf_42 (by decide +kernel)
theorem dX4_look_13 : decode cX4_look 13 = .ok (.getfield 25, 3) := kDs2 kf_180 (by decide +kernel)
theorem dX4_look_16 : decode cX4_look 16 = .ok (.invokevirtual 117, 3) := kDs2 kf_182 (by decide +kernel)
theorem dX4_look_19 : decode cX4_look 19 = .ok (.bipush 32, 2) := kDs3 kf_16 (by decide +kernel)
theorem dX4_look_21 : decode cX4_look 21 = .ok (.if_icmp .ne 19, 3) := kDs4 kf_160 (by decide +kernel)
theorem dX4_look_24 : decode cX4_look 24 = .ok (.aload_n 0, 1) := kDs0 kf_42 (by decide +kernel)
theorem dX4_look_25 : decode cX4_look 25 = .ok (.dup, 1) := kDs0 kf_89 (by decide +kernel)
theorem dX4_look_26 : decode cX4_look 26 = .ok (.getfield 25, 3) := kDs2 kf_180 (by decide +kernel)
theorem dX4_look_29 : decode cX4_look 29 = .ok (.iconst 1, 1) := kDs0 kf_4 (by decide +kernel)
theorem dX4_look_30 : decode cX4_look 30 = .ok (.iadd, 1) := kDs0 kf_96 (by decide +kernel)
theorem dX4_look_31 : decode cX4_look 31 = .ok (.putfield 25, 3) := kDs2 kf_181 (by decide +kernel)
theorem dX4_look_34 : decode cX4_look 34 = .ok (.iinc 1 1, 3) := kDs5 kf_132 (by decide +kernel)
theorem dX4_look_37 : decode cX4_look 37 = .ok (.goto (-35), 3) := kDs4 kf_167 (by decide +kernel)
theorem hd_X4_look : yX4_look.cls ≠ "java/lang/invoke/MethodHandle" ∧ yX4_look.cls ≠ "java/lang/invoke/VarHandle" ∧ (parseMethodDescriptor yX4_look.desc).map (fun d => d.parameters.length) = some 0 := by decide +kernel
theorem dX4_opens_0 : decode cX4_opens 0 = .ok (.iload_n 1, 1) := kDs0 kf_27 (by decide +kernel)
theorem dX4_opens_1 : decode cX4_opens 1 = .ok (.bipush 6, 2) := kDs3 kf_16 (by decide +kernel)
theorem dX4_opens_3 : decode cX4_opens 3 = .ok (.if_icmp .lt 5, 3) := kDs4 kf_161 (by decide +kernel)
theorem dX4_opens_6 : decode cX4_opens 6 = .ok (.iconst 0, 1) := kDs0 kf_3 (by decide +kernel)
theorem dX4_opens_7 : decode cX4_opens 7 = .ok (.ireturn, 1) := kDs0 kf_172 (by decide +kernel)
theorem hd_X4_opens : yX4_opens.cls ≠ "java/lang/invoke/MethodHandle" ∧ yX4_opens.cls ≠ "java/lang/invoke/VarHandle" ∧ (parseMethodDescriptor yX4_opens.desc).map (fun d => d.parameters.length) = some 1 := by decide +kernel
theorem dX4_write_0 : decode cX4_write 0 = .ok (.aload_n 0, 1) := kDs0 kf_42 (by decide +kernel)
theorem dX4_write_1 : decode cX4_write 1 = .ok (.getfield 18, 3) := kDs2 kf_180 (by decide +kernel)
theorem dX4_write_4 : decode cX4_write 4 = .ok (.aload_n 0, 1) := kDs0 kf_42 (by decide +kernel)
theorem dX4_write_5 : decode cX4_write 5 = .ok (.getfield 9, 3) := kDs2 kf_180 (by decide +kernel)
theorem dX4_write_8 : decode cX4_write 8 = .ok (.arraylength, 1) := kDs0 kf_190 (by decide +kernel)
theorem dX4_write_9 : decode cX4_write 9 = .ok (.if_icmp .lt 5, 3) := kDs4 kf_161 (by decide +kernel)
theorem dX4_write_14 : decode cX4_write 14 = .ok (.aload_n 0, 1) := kDs0 kf_42 (by decide +kernel)
theorem dX4_write_15 : decode cX4_write 15 = .ok (.getfield 9, 3) := kDs2 kf_180 (by decide +kernel)
theorem dX4_write_18 : decode cX4_write 18 = .ok (.aload_n 0, 1) := kDs0 kf_42 (by decide +kernel)
theorem dX4_write_19 : decode cX4_write 19 = .ok (.getfield 18, 3) := kDs2 kf_180 (by decide +kernel)
theorem dX4_write_22 : decode cX4_write 22 = .ok (.iload_n 1, 1) := kDs0 kf_27 (by decide +kernel)
theorem dX4_write_23 : decode cX4_write 23 = .ok (.iastore, 1) := kDs0 kf_79 (by decide +kernel)
theorem dX4_write_24 : decode cX4_write 24 = .ok (.aload_n 0, 1) := kDs0 kf_42 (by decide +kernel)
theorem dX4_write_25 : decode cX4_write 25 = .ok (.dup, 1) := kDs0 kf_89 (by decide +kernel)
theorem dX4_write_26 : decode cX4_write 26 = .ok (.getfield 18, 3) := kDs2 kf_180 (by decide +kernel)
theorem dX4_write_29 : decode cX4_write 29 = .ok (.iconst 1, 1) := kDs0 kf_4 (by decide +kernel)
theorem dX4_write_30 : decode cX4_write 30 = .ok (.iadd, 1) := kDs0 kf_96 (by decide +kernel)
theorem dX4_write_31 : decode cX4_write 31 = .ok (.putfield 18, 3) := kDs2 kf_181 (by decide +kernel)
theorem dX4_write_34 : decode cX4_write 34 = .ok (.iconst 1, 1) := kDs0 kf_4 (by decide +kernel)
theorem dX4_write_35 : decode cX4_write 35 = .ok (.ireturn, 1) := kDs0 kf_172 (by decide +kernel)
theorem dX4_write_12 : decode cX4_write 12 = .ok (.iconst 0, 1) := kDs0 kf_3 (by decide +kernel)
theorem dX4_write_13 : decode cX4_write 13 = .ok (.ireturn, 1) := kDs0 kf_172 (by decide +kernel)
theorem hd_X4_write : yX4_write.cls ≠ "java/lang/invoke/MethodHandle" ∧ yX4_write.cls ≠ "java/lang/invoke/VarHandle" ∧ (parseMethodDescriptor yX4_write.desc).map (fun d => d.parameters.length) = some 1 := by decide +kernel
theorem dX4_opens_8 : decode cX4_opens 8 = .ok (.aload_n 0, 1) := kDs0 kf_42 (by decide +kernel)
theorem dX4_opens_9 : decode cX4_opens 9 = .ok (.dup, 1) := kDs0 kf_89 (by decide +kernel)
theorem dX4_opens_10 : decode cX4_opens 10 = .ok (.getfield 25, 3) := kDs2 kf_180 (by decide +kernel)
theorem dX4_opens_13 : decode cX4_opens 13 = .ok (.iconst 1, 1) := kDs0 kf_4 (by decide +kernel)
theorem dX4_opens_14 : decode cX4_opens 14 = .ok (.iadd, 1) := kDs0 kf_96 (by decide +kernel)
theorem dX4_opens_15 : decode cX4_opens 15 = .ok (.putfield 25, 3) := kDs2 kf_181 (by decide +kernel)
theorem dX4_opens_18 : decode cX4_opens 18 = .ok (.iconst 1, 1) := kDs0 kf_4 (by decide +kernel)
theorem dX4_opens_19 : decode cX4_opens 19 = .ok (.ireturn, 1) := kDs0 kf_172 (by decide +kernel)
theorem dX4_take_0 : decode cX4_take 0 = .ok (.aload_n 0, 1) := kDs0 kf_42 (by decide +kernel)
theorem dX4_take_1 : decode cX4_take 1 = .ok (.invokevirtual 53, 3) := kDs2 kf_182 (by decide +kernel)
theorem dX4_take_4 : decode cX4_take 4 = .ok (.iload_n 1, 1) := kDs0 kf_27 (by decide +kernel)
theorem dX4_take_5 : decode cX4_take 5 = .ok (.if_icmp .eq 5, 3) := kDs4 kf_159 (by decide +kernel)
theorem dX4_take_10 : decode cX4_take 10 = .ok (.aload_n 0, 1) := kDs0 kf_42 (by decide +kernel)
theorem dX4_take_11 : decode cX4_take 11 = .ok (.dup, 1) := kDs0 kf_89 (by decide +kernel)
theorem dX4_take_12 : decode cX4_take 12 = .ok (.getfield 25, 3) := kDs2 kf_180 (by decide +kernel)
theorem dX4_take_15 : decode cX4_take 15 = .ok (.iconst 1, 1) := kDs0 kf_4 (by decide +kernel)
theorem dX4_take_16 : decode cX4_take 16 = .ok (.iadd, 1) := kDs0 kf_96 (by decide +kernel)
theorem dX4_take_17 : decode cX4_take 17 = .ok (.putfield 25, 3) := kDs2 kf_181 (by decide +kernel)
theorem dX4_take_20 : decode cX4_take 20 = .ok (.iconst 1, 1) := kDs0 kf_4 (by decide +kernel)
theorem dX4_take_21 : decode cX4_take 21 = .ok (.ireturn, 1) := kDs0 kf_172 (by decide +kernel)
theorem dX4_take_8 : decode cX4_take 8 = .ok (.iconst 0, 1) := kDs0 kf_3 (by decide +kernel)
theorem dX4_take_9 : decode cX4_take 9 = .ok (.ireturn, 1) := kDs0 kf_172 (by decide +kernel)
theorem hd_X4_take : yX4_take.cls ≠ "java/lang/invoke/MethodHandle" ∧ yX4_take.cls ≠ "java/lang/invoke/VarHandle" ∧ (parseMethodDescriptor yX4_take.desc).map (fun d => d.parameters.length) = some 1 := by decide +kernel
theorem dX4_keepClause_0 : decode cX4_keepClause 0 = .ok (.aload_n 0, 1) := kDs0 kf_42 (by decide +kernel)
theorem dX4_keepClause_1 : decode cX4_keepClause 1 = .ok (.getfield 22, 3) := kDs2 kf_180 (by decide +kernel)
theorem dX4_keepClause_4 : decode cX4_keepClause 4 = .ok (.iconst 4, 1) := kDs0 kf_7 (by decide +kernel)
theorem dX4_keepClause_5 : decode cX4_keepClause 5 = .ok (.iadd, 1) := kDs0 kf_96 (by decide +kernel)
theorem dX4_keepClause_6 : decode cX4_keepClause 6 = .ok (.aload_n 0, 1) := kDs0 kf_42 (by decide +kernel)
theorem dX4_keepClause_7 : decode cX4_keepClause 7 = .ok (.getfield 15, 3) := kDs2 kf_180 (by decide +kernel)
theorem dX4_keepClause_10 : decode cX4_keepClause 10 = .ok (.arraylength, 1) := kDs0 kf_190 (by decide +kernel)
theorem dX4_keepClause_11 : decode cX4_keepClause 11 = .ok (.if_icmp .le 5, 3) := kDs4 kf_164 (by decide +kernel)
theorem dX4_keepClause_16 : decode cX4_keepClause 16 = .ok (.aload_n 0, 1) := kDs0 kf_42 (by decide +kernel)
theorem dX4_keepClause_17 : decode cX4_keepClause 17 = .ok (.getfield 15, 3) := kDs2 kf_180 (by decide +kernel)
theorem dX4_keepClause_20 : decode cX4_keepClause 20 = .ok (.aload_n 0, 1) := kDs0 kf_42 (by decide +kernel)
theorem dX4_keepClause_21 : decode cX4_keepClause 21 = .ok (.getfield 22, 3) := kDs2 kf_180 (by decide +kernel)
theorem dX4_keepClause_24 : decode cX4_keepClause 24 = .ok (.iload_n 1, 1) := kDs0 kf_27 (by decide +kernel)
theorem dX4_keepClause_25 : decode cX4_keepClause 25 = .ok (.iastore, 1) := kDs0 kf_79 (by decide +kernel)
theorem dX4_keepClause_26 : decode cX4_keepClause 26 = .ok (.aload_n 0, 1) := kDs0 kf_42 (by decide +kernel)
theorem dX4_keepClause_27 : decode cX4_keepClause 27 = .ok (.getfield 15, 3) := kDs2 kf_180 (by decide +kernel)
theorem dX4_keepClause_30 : decode cX4_keepClause 30 = .ok (.aload_n 0, 1) := kDs0 kf_42 (by decide +kernel)
theorem dX4_keepClause_31 : decode cX4_keepClause 31 = .ok (.getfield 22, 3) := kDs2 kf_180 (by decide +kernel)
theorem dX4_keepClause_34 : decode cX4_keepClause 34 = .ok (.iconst 1, 1) := kDs0 kf_4 (by decide +kernel)
theorem dX4_keepClause_35 : decode cX4_keepClause 35 = .ok (.iadd, 1) := kDs0 kf_96 (by decide +kernel)
theorem dX4_keepClause_36 : decode cX4_keepClause 36 = .ok (.iload_n 2, 1) := kDs0 kf_28 (by decide +kernel)
theorem dX4_keepClause_37 : decode cX4_keepClause 37 = .ok (.iastore, 1) := kDs0 kf_79 (by decide +kernel)
theorem dX4_keepClause_38 : decode cX4_keepClause 38 = .ok (.aload_n 0, 1) := kDs0 kf_42 (by decide +kernel)
theorem dX4_keepClause_39 : decode cX4_keepClause 39 = .ok (.getfield 15, 3) := kDs2 kf_180 (by decide +kernel)
theorem dX4_keepClause_42 : decode cX4_keepClause 42 = .ok (.aload_n 0, 1) := kDs0 kf_42 (by decide +kernel)
theorem dX4_keepClause_43 : decode cX4_keepClause 43 = .ok (.getfield 22, 3) := kDs2 kf_180 (by decide +kernel)
theorem dX4_keepClause_46 : decode cX4_keepClause 46 = .ok (.iconst 2, 1) := kDs0 kf_5 (by decide +kernel)
theorem dX4_keepClause_47 : decode cX4_keepClause 47 = .ok (.iadd, 1) := kDs0 kf_96 (by decide +kernel)
theorem dX4_keepClause_48 : decode cX4_keepClause 48 = .ok (.iload_n 3, 1) := kDs0 kf_29 (by decide +kernel)
theorem dX4_keepClause_49 : decode cX4_keepClause 49 = .ok (.iastore, 1) := kDs0 kf_79 (by decide +kernel)
theorem dX4_keepClause_50 : decode cX4_keepClause 50 = .ok (.aload_n 0, 1) := kDs0 kf_42 (by decide +kernel)
theorem dX4_keepClause_51 : decode cX4_keepClause 51 = .ok (.getfield 15, 3) := kDs2 kf_180 (by decide +kernel)
theorem dX4_keepClause_54 : decode cX4_keepClause 54 = .ok (.aload_n 0, 1) := kDs0 kf_42 (by decide +kernel)
theorem dX4_keepClause_55 : decode cX4_keepClause 55 = .ok (.getfield 22, 3) := kDs2 kf_180 (by decide +kernel)
theorem dX4_keepClause_58 : decode cX4_keepClause 58 = .ok (.iconst 3, 1) := kDs0 kf_6 (by decide +kernel)
theorem dX4_keepClause_59 : decode cX4_keepClause 59 = .ok (.iadd, 1) := kDs0 kf_96 (by decide +kernel)
theorem dX4_keepClause_60 : decode cX4_keepClause 60 = .ok (.aload_n 0, 1) := kDs0 kf_42 (by decide +kernel)
theorem dX4_keepClause_61 : decode cX4_keepClause 61 = .ok (.getfield 18, 3) := kDs2 kf_180 (by decide +kernel)
theorem dX4_keepClause_64 : decode cX4_keepClause 64 = .ok (.iastore, 1) := kDs0 kf_79 (by decide +kernel)
theorem dX4_keepClause_65 : decode cX4_keepClause 65 = .ok (.aload_n 0, 1) := kDs0 kf_42 (by decide +kernel)
theorem dX4_keepClause_66 : decode cX4_keepClause 66 = .ok (.dup, 1) := kDs0 kf_89 (by decide +kernel)
theorem dX4_keepClause_67 : decode cX4_keepClause 67 = .ok (.getfield 22, 3) := kDs2 kf_180 (by decide +kernel)
theorem dX4_keepClause_70 : decode cX4_keepClause 70 = .ok (.iconst 4, 1) := kDs0 kf_7 (by decide +kernel)
theorem dX4_keepClause_71 : decode cX4_keepClause 71 = .ok (.iadd, 1) := kDs0 kf_96 (by decide +kernel)
theorem dX4_keepClause_72 : decode cX4_keepClause 72 = .ok (.putfield 22, 3) := kDs2 kf_181 (by decide +kernel)
theorem dX4_keepClause_75 : decode cX4_keepClause 75 = .ok (.iconst 1, 1) := kDs0 kf_4 (by decide +kernel)
theorem dX4_keepClause_76 : decode cX4_keepClause 76 = .ok (.ireturn, 1) := kDs0 kf_172 (by decide +kernel)
theorem dX4_keepClause_14 : decode cX4_keepClause 14 = .ok (.iconst 0, 1) := kDs0 kf_3 (by decide +kernel)
theorem dX4_keepClause_15 : decode cX4_keepClause 15 = .ok (.ireturn, 1) := kDs0 kf_172 (by decide +kernel)
theorem hd_X4_keepClause : yX4_keepClause.cls ≠ "java/lang/invoke/MethodHandle" ∧ yX4_keepClause.cls ≠ "java/lang/invoke/VarHandle" ∧ (parseMethodDescriptor yX4_keepClause.desc).map (fun d => d.parameters.length) = some 3 := by decide +kernel
theorem dX4_isDigit_0 : decode cX4_isDigit 0 = .ok (.iload_n 0, 1) := kDs0 kf_26 (by decide +kernel)
theorem dX4_isDigit_1 : decode cX4_isDigit 1 = .ok (.bipush 48, 2) := kDs3 kf_16 (by decide +kernel)
theorem dX4_isDigit_3 : decode cX4_isDigit 3 = .ok (.if_icmp .lt 13, 3) := kDs4 kf_161 (by decide +kernel)
theorem dX4_isDigit_16 : decode cX4_isDigit 16 = .ok (.iconst 0, 1) := kDs0 kf_3 (by decide +kernel)
theorem dX4_isDigit_17 : decode cX4_isDigit 17 = .ok (.ireturn, 1) := kDs0 kf_172 (by decide +kernel)
theorem dX4_isDigit_6 : decode cX4_isDigit 6 = .ok (.iload_n 0, 1) := kDs0 kf_26 (by decide +kernel)
theorem dX4_isDigit_7 : decode cX4_isDigit 7 = .ok (.bipush 57, 2) := kDs3 kf_16 (by decide +kernel)
theorem dX4_isDigit_9 : decode cX4_isDigit 9 = .ok (.if_icmp .gt 7, 3) := kDs4 kf_163 (by decide +kernel)
theorem dX4_isDigit_12 : decode cX4_isDigit 12 = .ok (.iconst 1, 1) := kDs0 kf_4 (by decide +kernel)
theorem dX4_isDigit_13 : decode cX4_isDigit 13 = .ok (.goto 4, 3) := kDs4 kf_167 (by decide +kernel)
theorem hd_X4_isDigit : yX4_isDigit.cls ≠ "java/lang/invoke/MethodHandle" ∧ yX4_isDigit.cls ≠ "java/lang/invoke/VarHandle" ∧ (parseMethodDescriptor yX4_isDigit.desc).map (fun d => d.parameters.length) = some 1 := by decide +kernel
theorem dX4_isComparison_0 : decode cX4_isComparison 0 = .ok (.iload_n 0, 1) := kDs0 kf_26 (by decide +kernel)
theorem dX4_isComparison_1 : decode cX4_isComparison 1 = .ok (.bipush 61, 2) := kDs3 kf_16 (by decide +kernel)
theorem dX4_isComparison_3 : decode cX4_isComparison 3 = .ok (.if_icmp .eq 15, 3) := kDs4 kf_159 (by decide +kernel)
theorem dX4_isComparison_18 : decode cX4_isComparison 18 = .ok (.iconst 1, 1) := kDs0 kf_4 (by decide +kernel)
theorem dX4_isComparison_19 : decode cX4_isComparison 19 = .ok (.goto 4, 3) := kDs4 kf_167 (by decide +kernel)
theorem dX4_isComparison_23 : decode cX4_isComparison 23 = .ok (.ireturn, 1) := kDs0 kf_172 (by decide +kernel)
theorem dX4_isComparison_6 : decode cX4_isComparison 6 = .ok (.iload_n 0, 1) := kDs0 kf_26 (by decide +kernel)
theorem dX4_isComparison_7 : decode cX4_isComparison 7 = .ok (.bipush 60, 2) := kDs3 kf_16 (by decide +kernel)
theorem dX4_isComparison_9 : decode cX4_isComparison 9 = .ok (.if_icmp .eq 9, 3) := kDs4 kf_159 (by decide +kernel)
theorem dX4_isComparison_12 : decode cX4_isComparison 12 = .ok (.iload_n 0, 1) := kDs0 kf_26 (by decide +kernel)
theorem dX4_isComparison_13 : decode cX4_isComparison 13 = .ok (.bipush 62, 2) := kDs3 kf_16 (by decide +kernel)
theorem dX4_isComparison_15 : decode cX4_isComparison 15 = .ok (.if_icmp .ne 7, 3) := kDs4 kf_160 (by decide +kernel)
theorem dX4_isComparison_22 : decode cX4_isComparison 22 = .ok (.iconst 0, 1) := kDs0 kf_3 (by decide +kernel)
theorem hd_X4_isComparison : yX4_isComparison.cls ≠ "java/lang/invoke/MethodHandle" ∧ yX4_isComparison.cls ≠ "java/lang/invoke/VarHandle" ∧ (parseMethodDescriptor yX4_isComparison.desc).map (fun d => d.parameters.length) = some 1 := by decide +kernel
theorem dX4_readNumber_0 : decode cX4_readNumber 0 = .ok (.iconst 0, 1) := kDs0 kf_3 (by decide +kernel)
theorem dX4_readNumber_1 : decode cX4_readNumber 1 = .ok (.istore_n 1, 1) := kDs0 kf_60 (by decide +kernel)
theorem dX4_readNumber_2 : decode cX4_readNumber 2 = .ok (.iconst 0, 1) := kDs0 kf_3 (by decide +kernel)
theorem dX4_readNumber_3 : decode cX4_readNumber 3 = .ok (.istore_n 2, 1) := kDs0 kf_61 (by decide +kernel)
theorem dX4_readNumber_4 : decode cX4_readNumber 4 = .ok (.iload_n 2, 1) := kDs0 kf_28 (by decide +kernel)
theorem dX4_readNumber_5 : decode cX4_readNumber 5 = .ok (.iconst 4, 1) := kDs0 kf_7 (by decide +kernel)
theorem dX4_readNumber_6 : decode cX4_readNumber 6 = .ok (.if_icmp .ge 56, 3) := kDs4 kf_162 (by decide +kernel)
theorem dX4_readNumber_62 : decode cX4_readNumber 62 = .ok (.aload_n 0, 1) := kDs0 kf_42 (by decide +kernel)
theorem dX4_readNumber_63 : decode cX4_readNumber 63 = .ok (.getfield 37, 3) := kDs2 kf_180 (by decide +kernel)
theorem dX4_readNumber_66 : decode cX4_readNumber 66 = .ok (.aload_n 0, 1) := kDs0 kf_42 (by decide +kernel)
theorem dX4_readNumber_67 : decode cX4_readNumber 67 = .ok (.getfield 25, 3) := kDs2 kf_180 (by decide +kernel)
theorem dX4_readNumber_70 : decode cX4_readNumber 70 = .ok (.invokevirtual 117, 3) := kDs2 kf_182 (by decide +kernel)
theorem dX4_readNumber_73 : decode cX4_readNumber 73 = .ok (.invokestatic 111, 3) := kDs2 kf_184 (by decide +kernel)
theorem dX4_readNumber_76 : decode cX4_readNumber 76 = .ok (.ifCond .ne 15, 3) := kDs4 kf_154 (by decide +kernel)
theorem dX4_readNumber_91 : decode cX4_readNumber 91 = .ok (.iconst 0, 1) := kDs0 kf_3 (by decide +kernel)
theorem dX4_readNumber_92 : decode cX4_readNumber 92 = .ok (.ireturn, 1) := kDs0 kf_172 (by decide +kernel)
theorem dX4_readNumber_79 : decode cX4_readNumber 79 = .ok (.aload_n 0, 1) := kDs0 kf_42 (by decide +kernel)
theorem dX4_readNumber_80 : decode cX4_readNumber 80 = .ok (.iload_n 1, 1) := kDs0 kf_27 (by decide +kernel)
theorem dX4_readNumber_81 : decode cX4_readNumber 81 = .ok (.invokevirtual 96, 3) := kDs2 kf_182 (by decide +kernel)
theorem dX4_readNumber_84 : decode cX4_readNumber 84 = .ok (.ifCond .eq 7, 3) := kDs4 kf_153 (by decide +kernel)
theorem dX4_readNumber_87 : decode cX4_readNumber 87 = .ok (.iconst 1, 1) := kDs0 kf_4 (by decide +kernel)
theorem dX4_readNumber_88 : decode cX4_readNumber 88 = .ok (.goto 4, 3) := kDs4 kf_167 (by decide +kernel)
theorem dX4_readNumber_9 : decode cX4_readNumber 9 = .ok (.aload_n 0, 1) := kDs0 kf_42 (by decide +kernel)
theorem dX4_readNumber_10 : decode cX4_readNumber 10 = .ok (.getfield 37, 3) := kDs2 kf_180 (by decide +kernel)
theorem dX4_readNumber_13 : decode cX4_readNumber 13 = .ok (.aload_n 0, 1) := kDs0 kf_42 (by decide +kernel)
theorem dX4_readNumber_14 : decode cX4_readNumber 14 = .ok (.getfield 25, 3) := kDs2 kf_180 (by decide +kernel)
theorem dX4_readNumber_17 : decode cX4_readNumber 17 = .ok (.invokevirtual 117, 3) := kDs2 kf_182 (by decide +kernel)
theorem dX4_readNumber_20 : decode cX4_readNumber 20 = .ok (.invokestatic 111, 3) := kDs2 kf_184 (by decide +kernel)
theorem dX4_readNumber_23 : decode cX4_readNumber 23 = .ok (.ifCond .eq 39, 3) := kDs4 kf_153 (by decide +kernel)
theorem dX4_readNumber_26 : decode cX4_readNumber 26 = .ok (.iload_n 1, 1) := kDs0 kf_27 (by decide +kernel)
theorem dX4_readNumber_27 : decode cX4_readNumber 27 = .ok (.bipush 10, 2) := kDs3 kf_16 (by decide +kernel)
theorem dX4_readNumber_29 : decode cX4_readNumber 29 = .ok (.imul, 1) := kDs0 kf_104 (by decide +kernel)
theorem dX4_readNumber_30 : decode cX4_readNumber 30 = .ok (.aload_n 0, 1) := kDs0 kf_42 (by decide +kernel)
theorem dX4_readNumber_31 : decode cX4_readNumber 31 = .ok (.getfield 37, 3) := kDs2 kf_180 (by decide +kernel)
theorem dX4_readNumber_34 : decode cX4_readNumber 34 = .ok (.aload_n 0, 1) := kDs0 kf_42 (by decide +kernel)
theorem dX4_readNumber_35 : decode cX4_readNumber 35 = .ok (.getfield 25, 3) := kDs2 kf_180 (by decide +kernel)
theorem dX4_readNumber_38 : decode cX4_readNumber 38 = .ok (.invokevirtual 117, 3) := kDs2 kf_182 (by decide +kernel)
theorem dX4_readNumber_41 : decode cX4_readNumber 41 = .ok (.bipush 48, 2) := kDs3 kf_16 (by decide +kernel)
theorem dX4_readNumber_43 : decode cX4_readNumber 43 = .ok (.isub, 1) := kDs0 kf_100 (by decide +kernel)
theorem dX4_readNumber_44 : decode cX4_readNumber 44 = .ok (.iadd, 1) := kDs0 kf_96 (by decide +kernel)
theorem dX4_readNumber_45 : decode cX4_readNumber 45 = .ok (.istore_n 1, 1) := kDs0 kf_60 (by decide +kernel)
theorem dX4_readNumber_46 : decode cX4_readNumber 46 = .ok (.aload_n 0, 1) := kDs0 kf_42 (by decide +kernel)
theorem dX4_readNumber_47 : decode cX4_readNumber 47 = .ok (.dup, 1) := kDs0 kf_89 (by decide +kernel)
theorem dX4_readNumber_48 : decode cX4_readNumber 48 = .ok (.getfield 25, 3) := kDs2 kf_180 (by decide +kernel)
theorem dX4_readNumber_51 : decode cX4_readNumber 51 = .ok (.iconst 1, 1) := kDs0 kf_4 (by decide +kernel)
theorem dX4_readNumber_52 : decode cX4_readNumber 52 = .ok (.iadd, 1) := kDs0 kf_96 (by decide +kernel)
theorem dX4_readNumber_53 : decode cX4_readNumber 53 = .ok (.putfield 25, 3) := kDs2 kf_181 (by decide +kernel)
theorem dX4_readNumber_56 : decode cX4_readNumber 56 = .ok (.iinc 2 1, 3) := kDs5 kf_132 (by decide +kernel)
theorem dX4_readNumber_59 : decode cX4_readNumber 59 = .ok (.goto (-55), 3) := kDs4 kf_167 (by decide +kernel)
theorem hd_X4_readNumber : yX4_readNumber.cls ≠ "java/lang/invoke/MethodHandle" ∧ yX4_readNumber.cls ≠ "java/lang/invoke/VarHandle" ∧ (parseMethodDescriptor yX4_readNumber.desc).map (fun d => d.parameters.length) = some 0 := by decide +kernel

theorem kFam {c : Cond} {ws : List Cond} {b : Cond} (h : c ∈ b :: ws) : ∀ w ∈ c :: ws, w ∈ b :: ws := fun w hw => (List.mem_cons.mp hw).elim (fun e => by rw [e]; exact h) (fun hw => List.mem_cons_of_mem _ hw)
theorem kFamG {c : Cond} {ws : List Cond} (h : goodWord c = true) (g : ws.all goodWord = true) : (c :: ws).all goodWord = true := by rw [List.all_cons, h, g]; rfl


theorem dX9_isLet_0 : decode cX9_isLet 0 = .ok (.iconst 0, 1) := kDs0 kf_3 (by decide +kernel)
theorem dX9_isLet_1 : decode cX9_isLet 1 = .ok (.istore_n 3, 1) := kDs0 kf_62 (by decide +kernel)
theorem dX9_isLet_2 : decode cX9_isLet 2 = .ok (.iload_n 3, 1) := kDs0 kf_29 (by decide +kernel)
theorem dX9_isLet_3 : decode cX9_isLet 3 = .ok (.iconst 5, 1) := kDs0 kf_8 (by decide +kernel)
theorem dX9_isLet_4 : decode cX9_isLet 4 = .ok (.if_icmp .ge 22, 3) := kDs4 kf_162 (by decide +kernel)
theorem dX9_isLet_26 : decode cX9_isLet 26 = .ok (.aload_n 0, 1) := kDs0 kf_42 (by decide +kernel)
theorem dX9_isLet_27 : decode cX9_isLet 27 = .ok (.getfield 28, 3) := kDs2 kf_180 (by decide +kernel)
theorem dX9_isLet_30 : decode cX9_isLet 30 = .ok (.aload_n 1, 1) := kDs0 kf_43 (by decide +kernel)
theorem dX9_isLet_31 : decode cX9_isLet 31 = .ok (.iconst 0, 1) := kDs0 kf_3 (by decide +kernel)
theorem dX9_isLet_32 : decode cX9_isLet 32 = .ok (.invokevirtual 267, 3) := kDs2 kf_182 (by decide +kernel)
theorem dX9_isLet_35 : decode cX9_isLet 35 = .ok (.ifCond .eq 7, 3) := kDs4 kf_153 (by decide +kernel)
theorem dX9_isLet_42 : decode cX9_isLet 42 = .ok (.iconst 0, 1) := kDs0 kf_3 (by decide +kernel)
theorem dX9_isLet_43 : decode cX9_isLet 43 = .ok (.ireturn, 1) := kDs0 kf_172 (by decide +kernel)
theorem dX9_isLet_38 : decode cX9_isLet 38 = .ok (.iconst 1, 1) := kDs0 kf_4 (by decide +kernel)
theorem dX9_isLet_39 : decode cX9_isLet 39 = .ok (.goto 4, 3) := kDs4 kf_167 (by decide +kernel)
theorem dX9_isLet_7 : decode cX9_isLet 7 = .ok (.aload_n 0, 1) := kDs0 kf_42 (by decide +kernel)
theorem dX9_isLet_8 : decode cX9_isLet 8 = .ok (.getfield 28, 3) := kDs2 kf_180 (by decide +kernel)
theorem dX9_isLet_11 : decode cX9_isLet 11 = .ok (.iload_n 3, 1) := kDs0 kf_29 (by decide +kernel)
theorem dX9_isLet_12 : decode cX9_isLet 12 = .ok (.iload_n 2, 1) := kDs0 kf_28 (by decide +kernel)
theorem dX9_isLet_13 : decode cX9_isLet 13 = .ok (.iload_n 3, 1) := kDs0 kf_29 (by decide +kernel)
theorem dX9_isLet_14 : decode cX9_isLet 14 = .ok (.ishr, 1) := kDs0 kf_122 (by decide +kernel)
theorem dX9_isLet_15 : decode cX9_isLet 15 = .ok (.iconst 1, 1) := kDs0 kf_4 (by decide +kernel)
theorem dX9_isLet_16 : decode cX9_isLet 16 = .ok (.iand, 1) := kDs0 kf_126 (by decide +kernel)
theorem dX9_isLet_17 : decode cX9_isLet 17 = .ok (.invokevirtual 264, 3) := kDs2 kf_182 (by decide +kernel)
theorem dX9_isLet_20 : decode cX9_isLet 20 = .ok (.iinc 3 1, 3) := kDs5 kf_132 (by decide +kernel)
theorem dX9_isLet_23 : decode cX9_isLet 23 = .ok (.goto (-21), 3) := kDs4 kf_167 (by decide +kernel)
def w_s_isLet9 : List Cond := .code yX9_isLet cX9_isLet 4 (some .boolean) :: ([.fieldLink RX9 28 "NotEnded" "reckoner" "LNotEnded$Reckoner;", .initialized RX5, .selects RX5 yX5_worthOf yX5_worthOf, .instanceMethod yX5_worthOf, .methodLink RX9 267 yX5_worthOf, .selects RX5 yX5_setLetter yX5_setLetter, .instanceMethod yX5_setLetter, .methodLink RX9 264 yX5_setLetter] ++ (wsX90 ++ (w_s_worthOf5 ++ (w_s_setLetter5))))
theorem gw_s_isLet9 : (w_s_isLet9).all goodWord = true := kGc rfl (kGa (by decide +kernel) (kGa gw_wsX90 (kGa gw_s_worthOf5 gw_s_setLetter5)))
theorem hd_X9_isLet : yX9_isLet.cls ≠ "java/lang/invoke/MethodHandle" ∧ yX9_isLet.cls ≠ "java/lang/invoke/VarHandle" ∧ (parseMethodDescriptor yX9_isLet.desc).map (fun d => d.parameters.length) = some 2 := by decide +kernel
set_option maxHeartbeats 4000000 in
set_option maxRecDepth 100000 in
theorem s_isLet9 (l : Launch) (dC : Nat → ClassId) (dI : Nat → Nat → Nat) (jX : Nat) (jT : Nat) (jR : Nat) (jL : Nat) (jU : Nat) (hN : Nat) (jA : Nat) (sd : Nat) (hF : Nat) (jC : Nat) (jK : Nat) (k0 : Nat) (k1 : Nat) (cK : ClassId) (cO : ClassId) (l0 : Nat → Int32) (l1 : Nat → Int32) (ru : Nat) (sA : Nat) (cl : Nat) (cS : ClassId) (cc : ClassId) (nS : Nat) (nC : Nat) (gS : Nat → Int32) (gC : Nat → Int32) (hnS : nS ≤ 200) (hnC : nC ≤ 200) (p1 : Int32) (sz : Nat) : Met l yX9_isLet w_s_isLet9 ({ frames := 4, cells := 0, slots := 0, locals := 240 }) (kW dC dI [.ref jX, .ref ru, .int p1] [(jX, .inr (9, [.ref jT, .ref jR, .ref jK, .ref jL, .ref jU, .ref hF, .ref jC, .ref hN, .ref jA, .ref sd])), (jK, .inr (5, [.ref k0, .ref k1])), (k0, .inl (cK, 8, .inl l0)), (k1, .inl (cO, 32, .inl l1))] [(cK, .int), (cO, .int), (cS, .int), (cc, .int)] (kNF dC dI [(ru, .inr (6, [.ref sA, .ref cl])), (sA, .inl (cS, nS, .inl gS)), (cl, .inl (cc, nC, .inl gC))] (va_A [(jX, .inr (9, [.ref jT, .ref jR, .ref jK, .ref jL, .ref jU, .ref hF, .ref jC, .ref hN, .ref jA, .ref sd])), (jK, .inr (5, [.ref k0, .ref k1])), (k0, .inl (cK, 8, .inl l0)), (k1, .inl (cO, 32, .inl l1))] sz)) sz) (va_Qi (fun (r : Int32) (u : (Nat → Int32) × (Nat → Int32)) => match u with | (L0, L1) => (r = 0 ∨ r = 1)) (fun (u : (Nat → Int32) × (Nat → Int32)) => match u with | (L0, L1) => fun t : State => kB dC dI [(jX, .inr (9, [.ref jT, .ref jR, .ref jK, .ref jL, .ref jU, .ref hF, .ref jC, .ref hN, .ref jA, .ref sd])), (jK, .inr (5, [.ref k0, .ref k1])), (k0, .inl (cK, 8, .inl L0)), (k1, .inl (cO, 32, .inl L1))] [(cK, .int), (cO, .int), (cS, .int), (cc, .int)] (va_A [(jX, .inr (9, [.ref jT, .ref jR, .ref jK, .ref jL, .ref jU, .ref hF, .ref jC, .ref hN, .ref jA, .ref sd])), (jK, .inr (5, [.ref k0, .ref k1])), (k0, .inl (cK, 8, .inl l0)), (k1, .inl (cO, 32, .inl l1))] sz) t) (va_A [(jX, .inr (9, [.ref jT, .ref jR, .ref jK, .ref jL, .ref jU, .ref hF, .ref jC, .ref hN, .ref jA, .ref sd])), (jK, .inr (5, [.ref k0, .ref k1])), (k0, .inl (cK, 8, .inl l0)), (k1, .inl (cO, 32, .inl l1))] sz)) 0 0 (va_A [(jX, .inr (9, [.ref jT, .ref jR, .ref jK, .ref jL, .ref jU, .ref hF, .ref jC, .ref hN, .ref jA, .ref sd])), (jK, .inr (5, [.ref k0, .ref k1])), (k0, .inl (cK, 8, .inl l0)), (k1, .inl (cO, 32, .inl l1))] sz) := by
  refine Met.ofW (cc := cX9_isLet) (maxL := 4) (ret := (some .boolean)) (by decide) rfl ?_
  intro p e s m args below meth c s₁ B hml hv
  obtain ⟨rfl, hsz, hP, hK, hD0, hX⟩ := hv
  have hx := B.exec
  have hb := B.bytes
  have hr := B.returns
  have hts := atoms_spec (ws := w_s_isLet9) B.pre
  have hown : s.vm.findClass RX9 = some m.cls := findClass_of_methodNamed B.named
  have hlocks := B.notSynchronized
  subst hsz
  have hD := hD0.self (sz := s.heap.size)
  generalize hAe : va_A [(jX, .inr (9, [.ref jT, .ref jR, .ref jK, .ref jL, .ref jU, .ref hF, .ref jC, .ref hN, .ref jA, .ref sd])), (jK, .inr (5, [.ref k0, .ref k1])), (k0, .inl (cK, 8, .inl l0)), (k1, .inl (cO, 32, .inl l1))] s.heap.size = A at hD hX ⊢
  have hA : ∀ q : Nat, s.heap.size ≤ q → A q := fun q h => by rw [← hAe]; exact Or.inr h
  have hS : va_S A s.heap s.heap [] := va_S.rf
  have hP : va_P (dC, dI) vwCl [(jX, .inr (9, [.ref jT, .ref jR, .ref jK, .ref jL, .ref jU, .ref hF, .ref jC, .ref hN, .ref jA, .ref sd])), (jK, .inr (5, [.ref k0, .ref k1])), (k0, .inl (cK, 8, .inl l0)), (k1, .inl (cO, 32, .inl l1))] s.heap := hP
  have hl := lv_entry ([.ref jX, .ref ru, .int p1]) (n := 4) (Nat.le_of_ble_eq_true rfl)
  rw [lg_entry_eq]
  generalize (lg_sl ([.ref jX, .ref ru, .int p1]) ++ List.replicate (4 - (lg_sl ([.ref jX, .ref ru, .int p1])).length) Slot.unset).toArray = ls at hl ⊢
  have hl : lv_has ls 4 [(0, .ref jX), (1, .ref ru), (2, .int p1)] := hl
  refine kQ (fun Q hQ => ?_)
  refine lv_iconst (v := 0) hx hb dX9_isLet_0 kc_i_0 ?_
  refine lv_istore_n hx hb dX9_isLet_1 rfl hl kc_l_3_4 (kTo [(3, .int 0), (0, .ref jX), (1, .ref ru), (2, .int p1)]) (fun ls hl => ?_)
  have lp_k_1 : ∀ (n9 : Nat) (i : Nat) (ll0 : Nat → Int32) (ll1 : Nat → Int32) (ivk_1_0 : i ≤ 5) (H : Heap) (locs : List Loc) (_ : va_P (dC, dI) vwCl [(jX, .inr (9, [.ref jT, .ref jR, .ref jK, .ref jL, .ref jU, .ref hF, .ref jC, .ref hN, .ref jA, .ref sd])), (jK, .inr (5, [.ref k0, .ref k1])), (k0, .inl (cK, 8, .inl ll0)), (k1, .inl (cO, 32, .inl ll1))] H) (_ : va_D A [(jX, .inr (9, [.ref jT, .ref jR, .ref jK, .ref jL, .ref jU, .ref hF, .ref jC, .ref hN, .ref jA, .ref sd])), (jK, .inr (5, [.ref k0, .ref k1])), (k0, .inl (cK, 8, .inl ll0)), (k1, .inl (cO, 32, .inl ll1))]) (_ : va_S A s.heap H locs) (ls : Array Slot) (_ : lv_has ls 4 [(3, .int (nI (i))), (0, .ref jX), (1, .ref ru), (2, .int p1)]) (_ : 5 - i < n9), W p l e (headSpec w_s_isLet9 ({ frames := 4, cells := 0, slots := 0, locals := 240 })).room s m (#[.ref jX, .ref ru, .int p1] : Array Value) below meth c H locs 0 0 Q (F0 m 2 ls []) := by
    intro n9
    induction n9 with
    | zero => intro i ll0 ll1 ivk_1_0 H locs hP hD hS ls hl hm9; exact absurd hm9 (Nat.not_lt_zero _)
    | succ n9 ih_k_1 =>
      intro i ll0 ll1 ivk_1_0 H locs hP hD hS ls hl hm9
      refine lv_iload_n hx hb dX9_isLet_2 rfl (lv_at hl 0 rfl) ?_
      refine lv_iconst (v := 5) hx hb dX9_isLet_3 kc_i_5 ?_
      refine lv_icmp_ge (tgt := 26) hx hb dX9_isLet_4 kc_t_4_22 (fun c_2 => ?_) (fun c_2 => ?_)
      · have bd_4 : i < 2147483648 := by omega
        have hn_3 := kle (a := 5) (b := i) kc_31_5 bd_4 c_2
        refine lv_aload_n hx hb dX9_isLet_26 rfl (lv_at hl 1 rfl) ?_
        refine va_get (D := (dC, dI)) (ci := 9) (v := .ref jK) (C := RX9) (T := TX9) (N := 10) hx hb hts (fun _ h => List.mem_cons_of_mem _ (List.mem_append_right _ (List.mem_append_left _ h))) hown hK hP 0 rfl rfl 2 kc_l_2_10 (hts (.fieldLink RX9 28 "NotEnded" "reckoner" "LNotEnded$Reckoner;") (List.mem_cons_of_mem _ (List.mem_append_left _ (List.mem_of_getElem? (i := 0) rfl)))) (fun _ h9 => h9) rfl dX9_isLet_27 ?_
        refine lv_aload_n hx hb dX9_isLet_30 rfl (lv_at hl 2 rfl) ?_
        refine lv_iconst (v := 0) hx hb dX9_isLet_31 kc_i_0 ?_
        have hCu := kCut (wc := [(jK, .inr (5, [.ref k0, .ref k1])), (k0, .inl (cK, 8, .inl ll0)), (k1, .inl (cO, 32, .inl ll1))]) hP hD hS hA [1, 2, 3] rfl kc_nd_419 rfl
        have hPc := hCu.1
        have hDc := hCu.2.1
        have hFc := hCu.2.2
        have hKc := hK.sb (tys2 := [(cK, .int), (cO, .int), (cS, .int), (cc, .int)]) [0, 1, 2, 3] rfl
        refine va_calli (va_runV (As := [.ref ru, .int 0]) (rest := []) ⟨hx, hb, hml, hown, hts⟩ (s_worthOf5 l dC dI jK k0 k1 cK cO ll0 ll1 ru sA cl cS cc nS nC gS gC hnS hnC 0 H.size) (cwV 2 hts (kG (List.forall_mem_cons.mpr ⟨(List.mem_cons_of_mem _ (List.mem_append_left _ (List.mem_of_getElem? (i := 4) rfl))), (List.forall_mem_cons.mpr ⟨(List.mem_cons_of_mem _ (List.mem_append_left _ (List.mem_of_getElem? (i := 3) rfl))), (List.forall_mem_cons.mpr ⟨(List.mem_cons_of_mem _ (List.mem_append_left _ (List.mem_of_getElem? (i := 2) rfl))), (List.forall_mem_cons.mpr ⟨(List.mem_cons_of_mem _ (List.mem_append_left _ (List.mem_of_getElem? (i := 1) rfl))), (fun _ h => absurd h List.not_mem_nil)⟩)⟩)⟩)⟩) (kGV _ _ _ _) (fun _ h => List.mem_cons_of_mem _ (List.mem_append_right _ (List.mem_append_right _ (List.mem_append_left _ h)))) gw_s_worthOf5) rfl rfl rfl ⟨rfl, hd_X5_worthOf⟩ ⟨(Nat.le_of_ble_eq_true rfl), (Nat.le_of_ble_eq_true rfl)⟩) (kW_V kNF_blind (kNF_give hX hS hFc) (va_recv hKc hPc (ci := 5) (q0 := 0) rfl rfl) hPc hKc hDc) rfl rfl hl.1 rfl (lv_room (Nat.le_of_ble_eq_true rfl)) dX9_isLet_32 ⟨(Nat.le_of_ble_eq_true rfl), (Nat.le_of_ble_eq_true rfl)⟩) hS (fun q _ h => hFc q h) hFc (fun r_5 m1_6 t H_7 locs ht hvm hw hB hz1 hk1 hS => ?_)
        have hPD : kPD dC dI A [(jX, .inr (9, [.ref jT, .ref jR, .ref jK, .ref jL, .ref jU, .ref hF, .ref jC, .ref hN, .ref jA, .ref sd])), (jK, .inr (5, [.ref k0, .ref k1])), (k0, .inl (cK, 8, .inl ll0)), (k1, .inl (cO, 32, .inl m1_6))] H_7 := kJoinX hP hD [1, 2, 3] rfl hk1 hFc hB.1 ht hB.2.2 rfl [none, some 0, some 1, some 2] rfl rfl
        have hP := hPD.1
        have hD := hPD.2
        refine lv_if_eq (tgt := 42) hx hb dX9_isLet_35 kc_t_35_7 (fun c_8 => ?_) (fun c_8 => ?_)
        · refine lv_iconst (v := 0) hx hb dX9_isLet_42 kc_i_0 ?_
          have hP9 := hP
          have hD9 := hD
          have hK9 := hK
          rw [hQ]
          exact W.zret (v := 0) hx hb hr rfl (fun t ht hW => ⟨⟨0, (ll0, m1_6), rfl, (Or.inl rfl),  by rw [ht]; exact hP9, va_K.moved hW.alike hK9, hD9⟩, hS.F ht⟩) hS.2.2 dX9_isLet_43
        · refine lv_iconst (v := 1) hx hb dX9_isLet_38 kc_i_1 ?_
          refine lv_goto (tgt := 43) hx hb dX9_isLet_39 kc_t_39_4 ?_
          have hP9 := hP
          have hD9 := hD
          have hK9 := hK
          rw [hQ]
          exact W.zret (v := 1) hx hb hr rfl (fun t ht hW => ⟨⟨1, (ll0, m1_6), rfl, (Or.inr rfl),  by rw [ht]; exact hP9, va_K.moved hW.alike hK9, hD9⟩, hS.F ht⟩) hS.2.2 dX9_isLet_43
      · have bd_10 : i < 2147483648 := by omega
        have hn_9 := knle (a := 5) (b := i) kc_31_5 bd_10 c_2
        refine lv_aload_n hx hb dX9_isLet_7 rfl (lv_at hl 1 rfl) ?_
        refine va_get (D := (dC, dI)) (ci := 9) (v := .ref jK) (C := RX9) (T := TX9) (N := 10) hx hb hts (fun _ h => List.mem_cons_of_mem _ (List.mem_append_right _ (List.mem_append_left _ h))) hown hK hP 0 rfl rfl 2 kc_l_2_10 (hts (.fieldLink RX9 28 "NotEnded" "reckoner" "LNotEnded$Reckoner;") (List.mem_cons_of_mem _ (List.mem_append_left _ (List.mem_of_getElem? (i := 0) rfl)))) (fun _ h9 => h9) rfl dX9_isLet_8 ?_
        refine lv_iload_n hx hb dX9_isLet_11 rfl (lv_at hl 0 rfl) ?_
        refine lv_iload_n hx hb dX9_isLet_12 rfl (lv_at hl 3 rfl) ?_
        refine lv_iload_n hx hb dX9_isLet_13 rfl (lv_at hl 0 rfl) ?_
        refine lv_ishr hx hb dX9_isLet_14 ?_
        refine lv_topi (fun x_11 ex_11 => ?_)
        refine lv_iconst (v := 1) hx hb dX9_isLet_15 kc_i_1 ?_
        refine lv_iand hx hb dX9_isLet_16 ?_
        refine lv_topi (fun x_12 ex_12 => ?_)
        have hCu := kCut (wc := [(jK, .inr (5, [.ref k0, .ref k1])), (k0, .inl (cK, 8, .inl ll0)), (k1, .inl (cO, 32, .inl ll1))]) hP hD hS hA [1, 2, 3] rfl kc_nd_419 rfl
        have hPc := hCu.1
        have hDc := hCu.2.1
        have hFc := hCu.2.2
        have hKc := hK.sb (tys2 := [(cK, .int), (cO, .int)]) [0, 1] rfl
        refine va_callv (va_runV (As := [.int (nI (i)), .int x_12]) (rest := []) ⟨hx, hb, hml, hown, hts⟩ (s_setLetter5 l dC dI jK k0 k1 cK cO ll0 ll1 (nI (i)) x_12 H.size) (cwV 2 hts (kG (List.forall_mem_cons.mpr ⟨(List.mem_cons_of_mem _ (List.mem_append_left _ (List.mem_of_getElem? (i := 7) rfl))), (List.forall_mem_cons.mpr ⟨(List.mem_cons_of_mem _ (List.mem_append_left _ (List.mem_of_getElem? (i := 6) rfl))), (List.forall_mem_cons.mpr ⟨(List.mem_cons_of_mem _ (List.mem_append_left _ (List.mem_of_getElem? (i := 5) rfl))), (List.forall_mem_cons.mpr ⟨(List.mem_cons_of_mem _ (List.mem_append_left _ (List.mem_of_getElem? (i := 1) rfl))), (fun _ h => absurd h List.not_mem_nil)⟩)⟩)⟩)⟩) (kGV _ _ _ _) (fun _ h => List.mem_cons_of_mem _ (List.mem_append_right _ (List.mem_append_right _ (List.mem_append_right _ h)))) gw_s_setLetter5) rfl rfl rfl ⟨rfl, hd_X5_setLetter⟩ ⟨(Nat.le_of_ble_eq_true rfl), (Nat.le_of_ble_eq_true rfl)⟩) (kW_V kT_blind kT_give (va_recv hKc hPc (ci := 5) (q0 := 0) rfl rfl) hPc hKc hDc) rfl rfl hl.1 rfl (lv_room (Nat.le_of_ble_eq_true rfl)) dX9_isLet_17 ⟨(Nat.le_of_ble_eq_true rfl), (Nat.le_of_ble_eq_true rfl)⟩) hS (fun q _ h => hFc q h) hFc (fun m0_13 t H_14 locs ht hvm hw hB hz1 hk1 hS => ?_)
        have hPD : kPD dC dI A [(jX, .inr (9, [.ref jT, .ref jR, .ref jK, .ref jL, .ref jU, .ref hF, .ref jC, .ref hN, .ref jA, .ref sd])), (jK, .inr (5, [.ref k0, .ref k1])), (k0, .inl (cK, 8, .inl m0_13)), (k1, .inl (cO, 32, .inl ll1))] H_14 := kJoinX hP hD [1, 2, 3] rfl hk1 hFc hB.1 ht hB.2.2 rfl [none, some 0, some 1, some 2] rfl rfl
        have hP := hPD.1
        have hD := hPD.2
        refine lv_iinc (v := nI (i + 1)) hx hb dX9_isLet_20 hl (k := 0) rfl (kInc _ 1) kc_l_3_4 (kTo [(3, .int (nI (i + 1))), (0, .ref jX), (1, .ref ru), (2, .int p1)]) (fun ls hl => ?_)
        refine lv_goto (tgt := 2) hx hb dX9_isLet_23 kc_t_23_m21 ?_
        exact ih_k_1 (i + 1) m0_13 ll1 (by omega) _ _ hP hD hS ls (lv_sub hl [0, 1, 2, 3] rfl) (by omega)
  exact lp_k_1 (5 - 0 + 1) 0 l0 l1 (by omega) _ _ hP hD hS ls (lv_sub hl [0, 1, 2, 3] rfl) (by omega)

theorem dX9_barredBy_0 : decode cX9_barredBy 0 = .ok (.iconst 0, 1) := kDs0 kf_3 (by decide +kernel)
theorem dX9_barredBy_1 : decode cX9_barredBy 1 = .ok (.istore_n 2, 1) := kDs0 kf_61 (by decide +kernel)
theorem dX9_barredBy_2 : decode cX9_barredBy 2 = .ok (.iconst 0, 1) := kDs0 kf_3 (by decide +kernel)
theorem dX9_barredBy_3 : decode cX9_barredBy 3 = .ok (.istore_n 3, 1) := kDs0 kf_62 (by decide +kernel)
theorem dX9_barredBy_4 : decode cX9_barredBy 4 = .ok (.iload_n 3, 1) := kDs0 kf_29 (by decide +kernel)
theorem dX9_barredBy_5 : decode cX9_barredBy 5 = .ok (.bipush 32, 2) := kDs3 kf_16 (by decide +kernel)
theorem dX9_barredBy_7 : decode cX9_barredBy 7 = .ok (.if_icmp .ge 24, 3) := kDs4 kf_162 (by decide +kernel)
theorem dX9_barredBy_31 : decode cX9_barredBy 31 = .ok (.iload_n 2, 1) := kDs0 kf_28 (by decide +kernel)
theorem dX9_barredBy_32 : decode cX9_barredBy 32 = .ok (.ireturn, 1) := kDs0 kf_172 (by decide +kernel)
theorem dX9_barredBy_10 : decode cX9_barredBy 10 = .ok (.aload_n 0, 1) := kDs0 kf_42 (by decide +kernel)
theorem dX9_barredBy_11 : decode cX9_barredBy 11 = .ok (.aload_n 1, 1) := kDs0 kf_43 (by decide +kernel)
theorem dX9_barredBy_12 : decode cX9_barredBy 12 = .ok (.iload_n 3, 1) := kDs0 kf_29 (by decide +kernel)
theorem dX9_barredBy_13 : decode cX9_barredBy 13 = .ok (.invokevirtual 226, 3) := kDs2 kf_182 (by decide +kernel)
theorem dX9_barredBy_16 : decode cX9_barredBy 16 = .ok (.ifCond .ne 9, 3) := kDs4 kf_154 (by decide +kernel)
theorem dX9_barredBy_25 : decode cX9_barredBy 25 = .ok (.iinc 3 1, 3) := kDs5 kf_132 (by decide +kernel)
theorem dX9_barredBy_28 : decode cX9_barredBy 28 = .ok (.goto (-24), 3) := kDs4 kf_167 (by decide +kernel)
theorem dX9_barredBy_19 : decode cX9_barredBy 19 = .ok (.iload_n 2, 1) := kDs0 kf_28 (by decide +kernel)
theorem dX9_barredBy_20 : decode cX9_barredBy 20 = .ok (.iconst 1, 1) := kDs0 kf_4 (by decide +kernel)
theorem dX9_barredBy_21 : decode cX9_barredBy 21 = .ok (.iload_n 3, 1) := kDs0 kf_29 (by decide +kernel)
theorem dX9_barredBy_22 : decode cX9_barredBy 22 = .ok (.ishl, 1) := kDs0 kf_120 (by decide +kernel)
theorem dX9_barredBy_23 : decode cX9_barredBy 23 = .ok (.ior, 1) := kDs0 kf_128 (by decide +kernel)
theorem dX9_barredBy_24 : decode cX9_barredBy 24 = .ok (.istore_n 2, 1) := kDs0 kf_61 (by decide +kernel)
def w_s_barred9 : List Cond := .code yX9_barredBy cX9_barredBy 4 (some .int) :: ([.initialized RX9, .selects RX9 yX9_isLet yX9_isLet, .instanceMethod yX9_isLet, .methodLink RX9 226 yX9_isLet] ++ (w_s_isLet9))
theorem gw_s_barred9 : (w_s_barred9).all goodWord = true := kGc rfl (kGa (by decide +kernel) gw_s_isLet9)
theorem hd_X9_barredBy : yX9_barredBy.cls ≠ "java/lang/invoke/MethodHandle" ∧ yX9_barredBy.cls ≠ "java/lang/invoke/VarHandle" ∧ (parseMethodDescriptor yX9_barredBy.desc).map (fun d => d.parameters.length) = some 1 := by decide +kernel
set_option maxHeartbeats 4000000 in
set_option maxRecDepth 100000 in
theorem s_barred9 (l : Launch) (dC : Nat → ClassId) (dI : Nat → Nat → Nat) (jX : Nat) (jT : Nat) (jR : Nat) (jL : Nat) (jU : Nat) (hN : Nat) (jA : Nat) (sd : Nat) (hF : Nat) (jC : Nat) (jK : Nat) (k0 : Nat) (k1 : Nat) (cK : ClassId) (cO : ClassId) (l0 : Nat → Int32) (l1 : Nat → Int32) (ru : Nat) (sA : Nat) (cl : Nat) (cS : ClassId) (cc : ClassId) (nS : Nat) (nC : Nat) (gS : Nat → Int32) (gC : Nat → Int32) (hnS : nS ≤ 200) (hnC : nC ≤ 200) (sz : Nat) : Met l yX9_barredBy w_s_barred9 ({ frames := 5, cells := 0, slots := 0, locals := 300 }) (kW dC dI [.ref jX, .ref ru] [(jX, .inr (9, [.ref jT, .ref jR, .ref jK, .ref jL, .ref jU, .ref hF, .ref jC, .ref hN, .ref jA, .ref sd])), (jK, .inr (5, [.ref k0, .ref k1])), (k0, .inl (cK, 8, .inl l0)), (k1, .inl (cO, 32, .inl l1))] [(cK, .int), (cO, .int), (cS, .int), (cc, .int)] (kNF dC dI [(ru, .inr (6, [.ref sA, .ref cl])), (sA, .inl (cS, nS, .inl gS)), (cl, .inl (cc, nC, .inl gC))] (va_A [(jX, .inr (9, [.ref jT, .ref jR, .ref jK, .ref jL, .ref jU, .ref hF, .ref jC, .ref hN, .ref jA, .ref sd])), (jK, .inr (5, [.ref k0, .ref k1])), (k0, .inl (cK, 8, .inl l0)), (k1, .inl (cO, 32, .inl l1))] sz)) sz) (va_Qi (fun (r : Int32) (u : (Nat → Int32) × (Nat → Int32)) => match u with | (L0, L1) => True) (fun (u : (Nat → Int32) × (Nat → Int32)) => match u with | (L0, L1) => fun t : State => kB dC dI [(jX, .inr (9, [.ref jT, .ref jR, .ref jK, .ref jL, .ref jU, .ref hF, .ref jC, .ref hN, .ref jA, .ref sd])), (jK, .inr (5, [.ref k0, .ref k1])), (k0, .inl (cK, 8, .inl L0)), (k1, .inl (cO, 32, .inl L1))] [(cK, .int), (cO, .int), (cS, .int), (cc, .int)] (va_A [(jX, .inr (9, [.ref jT, .ref jR, .ref jK, .ref jL, .ref jU, .ref hF, .ref jC, .ref hN, .ref jA, .ref sd])), (jK, .inr (5, [.ref k0, .ref k1])), (k0, .inl (cK, 8, .inl l0)), (k1, .inl (cO, 32, .inl l1))] sz) t) (va_A [(jX, .inr (9, [.ref jT, .ref jR, .ref jK, .ref jL, .ref jU, .ref hF, .ref jC, .ref hN, .ref jA, .ref sd])), (jK, .inr (5, [.ref k0, .ref k1])), (k0, .inl (cK, 8, .inl l0)), (k1, .inl (cO, 32, .inl l1))] sz)) 0 0 (va_A [(jX, .inr (9, [.ref jT, .ref jR, .ref jK, .ref jL, .ref jU, .ref hF, .ref jC, .ref hN, .ref jA, .ref sd])), (jK, .inr (5, [.ref k0, .ref k1])), (k0, .inl (cK, 8, .inl l0)), (k1, .inl (cO, 32, .inl l1))] sz) := by
  refine Met.ofW (cc := cX9_barredBy) (maxL := 4) (ret := (some .int)) (by decide) rfl ?_
  intro p e s m args below meth c s₁ B hml hv
  obtain ⟨rfl, hsz, hP, hK, hD0, hX⟩ := hv
  have hx := B.exec
  have hb := B.bytes
  have hr := B.returns
  have hts := atoms_spec (ws := w_s_barred9) B.pre
  have hown : s.vm.findClass RX9 = some m.cls := findClass_of_methodNamed B.named
  have hlocks := B.notSynchronized
  subst hsz
  have hD := hD0.self (sz := s.heap.size)
  generalize hAe : va_A [(jX, .inr (9, [.ref jT, .ref jR, .ref jK, .ref jL, .ref jU, .ref hF, .ref jC, .ref hN, .ref jA, .ref sd])), (jK, .inr (5, [.ref k0, .ref k1])), (k0, .inl (cK, 8, .inl l0)), (k1, .inl (cO, 32, .inl l1))] s.heap.size = A at hD hX ⊢
  have hA : ∀ q : Nat, s.heap.size ≤ q → A q := fun q h => by rw [← hAe]; exact Or.inr h
  have hS : va_S A s.heap s.heap [] := va_S.rf
  have hP : va_P (dC, dI) vwCl [(jX, .inr (9, [.ref jT, .ref jR, .ref jK, .ref jL, .ref jU, .ref hF, .ref jC, .ref hN, .ref jA, .ref sd])), (jK, .inr (5, [.ref k0, .ref k1])), (k0, .inl (cK, 8, .inl l0)), (k1, .inl (cO, 32, .inl l1))] s.heap := hP
  have hl := lv_entry ([.ref jX, .ref ru]) (n := 4) (Nat.le_of_ble_eq_true rfl)
  rw [lg_entry_eq]
  generalize (lg_sl ([.ref jX, .ref ru]) ++ List.replicate (4 - (lg_sl ([.ref jX, .ref ru])).length) Slot.unset).toArray = ls at hl ⊢
  have hl : lv_has ls 4 [(0, .ref jX), (1, .ref ru)] := hl
  refine kQ (fun Q hQ => ?_)
  refine lv_iconst (v := 0) hx hb dX9_barredBy_0 kc_i_0 ?_
  refine lv_istore_n hx hb dX9_barredBy_1 rfl hl kc_l_2_4 (kTo [(2, .int 0), (0, .ref jX), (1, .ref ru)]) (fun ls hl => ?_)
  refine lv_iconst (v := 0) hx hb dX9_barredBy_2 kc_i_0 ?_
  refine lv_istore_n hx hb dX9_barredBy_3 rfl hl kc_l_3_4 (kTo [(3, .int 0), (2, .int 0), (0, .ref jX), (1, .ref ru)]) (fun ls hl => ?_)
  have lp_k_1 : ∀ (n9 : Nat) (i : Nat) (ll0 : Nat → Int32) (ll1 : Nat → Int32) (x2 : Int32) (ivk_1_0 : i ≤ 32) (H : Heap) (locs : List Loc) (_ : va_P (dC, dI) vwCl [(jX, .inr (9, [.ref jT, .ref jR, .ref jK, .ref jL, .ref jU, .ref hF, .ref jC, .ref hN, .ref jA, .ref sd])), (jK, .inr (5, [.ref k0, .ref k1])), (k0, .inl (cK, 8, .inl ll0)), (k1, .inl (cO, 32, .inl ll1))] H) (_ : va_D A [(jX, .inr (9, [.ref jT, .ref jR, .ref jK, .ref jL, .ref jU, .ref hF, .ref jC, .ref hN, .ref jA, .ref sd])), (jK, .inr (5, [.ref k0, .ref k1])), (k0, .inl (cK, 8, .inl ll0)), (k1, .inl (cO, 32, .inl ll1))]) (_ : va_S A s.heap H locs) (ls : Array Slot) (_ : lv_has ls 4 [(3, .int (nI (i))), (2, .int x2), (0, .ref jX), (1, .ref ru)]) (_ : 32 - i < n9), W p l e (headSpec w_s_barred9 ({ frames := 5, cells := 0, slots := 0, locals := 300 })).room s m (#[.ref jX, .ref ru] : Array Value) below meth c H locs 0 0 Q (F0 m 4 ls []) := by
    intro n9
    induction n9 with
    | zero => intro i ll0 ll1 x2 ivk_1_0 H locs hP hD hS ls hl hm9; exact absurd hm9 (Nat.not_lt_zero _)
    | succ n9 ih_k_1 =>
      intro i ll0 ll1 x2 ivk_1_0 H locs hP hD hS ls hl hm9
      refine lv_iload_n hx hb dX9_barredBy_4 rfl (lv_at hl 0 rfl) ?_
      refine lv_bipush (v := 32) hx hb dX9_barredBy_5 kc_b_32 ?_
      refine lv_icmp_ge (tgt := 31) hx hb dX9_barredBy_7 kc_t_7_24 (fun c_2 => ?_) (fun c_2 => ?_)
      · have bd_4 : i < 2147483648 := by omega
        have hn_3 := kle (a := 32) (b := i) kc_31_32 bd_4 c_2
        refine lv_iload_n hx hb dX9_barredBy_31 rfl (lv_at hl 1 rfl) ?_
        have hP9 := hP
        have hD9 := hD
        have hK9 := hK
        rw [hQ]
        exact W.iret (v := x2) hx hb hr (fun t ht hW => ⟨⟨x2, (ll0, ll1), rfl, trivial,  by rw [ht]; exact hP9, va_K.moved hW.alike hK9, hD9⟩, hS.F ht⟩) hS.2.2 dX9_barredBy_32
      · have bd_6 : i < 2147483648 := by omega
        have hn_5 := knle (a := 32) (b := i) kc_31_32 bd_6 c_2
        refine lv_aload_n hx hb dX9_barredBy_10 rfl (lv_at hl 2 rfl) ?_
        refine lv_aload_n hx hb dX9_barredBy_11 rfl (lv_at hl 3 rfl) ?_
        refine lv_iload_n hx hb dX9_barredBy_12 rfl (lv_at hl 0 rfl) ?_
        have hCu := kCut (wc := [(jX, .inr (9, [.ref jT, .ref jR, .ref jK, .ref jL, .ref jU, .ref hF, .ref jC, .ref hN, .ref jA, .ref sd])), (jK, .inr (5, [.ref k0, .ref k1])), (k0, .inl (cK, 8, .inl ll0)), (k1, .inl (cO, 32, .inl ll1))]) hP hD hS hA [0, 1, 2, 3] rfl kc_nd_422 rfl
        have hPc := hCu.1
        have hDc := hCu.2.1
        have hFc := hCu.2.2
        have hKc := hK.sb (tys2 := [(cK, .int), (cO, .int), (cS, .int), (cc, .int)]) [0, 1, 2, 3] rfl
        refine va_calli (va_runV (As := [.ref ru, .int (nI (i))]) (rest := []) ⟨hx, hb, hml, hown, hts⟩ (s_isLet9 l dC dI jX jT jR jL jU hN jA sd hF jC jK k0 k1 cK cO ll0 ll1 ru sA cl cS cc nS nC gS gC hnS hnC (nI (i)) H.size) (cwV 2 hts (kG (List.forall_mem_cons.mpr ⟨(List.mem_cons_of_mem _ (List.mem_append_left _ (List.mem_of_getElem? (i := 3) rfl))), (List.forall_mem_cons.mpr ⟨(List.mem_cons_of_mem _ (List.mem_append_left _ (List.mem_of_getElem? (i := 2) rfl))), (List.forall_mem_cons.mpr ⟨(List.mem_cons_of_mem _ (List.mem_append_left _ (List.mem_of_getElem? (i := 1) rfl))), (List.forall_mem_cons.mpr ⟨(List.mem_cons_of_mem _ (List.mem_append_left _ (List.mem_of_getElem? (i := 0) rfl))), (fun _ h => absurd h List.not_mem_nil)⟩)⟩)⟩)⟩) (kGV _ _ _ _) (fun _ h => List.mem_cons_of_mem _ (List.mem_append_right _ h)) gw_s_isLet9) rfl rfl rfl ⟨rfl, hd_X9_isLet⟩ ⟨(Nat.le_of_ble_eq_true rfl), (Nat.le_of_ble_eq_true rfl)⟩) (kW_V kNF_blind (kNF_give hX hS hFc) (va_recv hKc hPc (ci := 9) (q0 := 0) rfl rfl) hPc hKc hDc) rfl rfl hl.1 rfl (lv_room (Nat.le_of_ble_eq_true rfl)) dX9_barredBy_13 ⟨(Nat.le_of_ble_eq_true rfl), (Nat.le_of_ble_eq_true rfl)⟩) hS (fun q _ h => hFc q h) hFc (fun r_7 => kU2 (fun L0_8 L1_9 t H_10 locs ht hvm hw hB hz1 hk1 hS => ?_))
        try dsimp only at hw
        have hPD : kPD dC dI A [(jX, .inr (9, [.ref jT, .ref jR, .ref jK, .ref jL, .ref jU, .ref hF, .ref jC, .ref hN, .ref jA, .ref sd])), (jK, .inr (5, [.ref k0, .ref k1])), (k0, .inl (cK, 8, .inl L0_8)), (k1, .inl (cO, 32, .inl L1_9))] H_10 := kJoinX hP hD [0, 1, 2, 3] rfl hk1 hFc hB.1 ht hB.2.2 rfl [some 0, some 1, some 2, some 3] rfl rfl
        have hP := hPD.1
        have hD := hPD.2
        have hw_11 := hw
        refine lv_if_ne (tgt := 25) hx hb dX9_barredBy_16 kc_t_16_9 (fun c_12 => ?_) (fun c_12 => ?_)
        · refine lv_iinc (v := nI (i + 1)) hx hb dX9_barredBy_25 hl (k := 0) rfl (kInc _ 1) kc_l_3_4 (kTo [(3, .int (nI (i + 1))), (2, .int x2), (0, .ref jX), (1, .ref ru)]) (fun ls hl => ?_)
          refine lv_goto (tgt := 4) hx hb dX9_barredBy_28 kc_t_28_m24 ?_
          exact ih_k_1 (i + 1) L0_8 L1_9 x2 (by omega) _ _ hP hD hS ls (lv_sub hl [0, 1, 2, 3] rfl) (by omega)
        · refine lv_iload_n hx hb dX9_barredBy_19 rfl (lv_at hl 1 rfl) ?_
          refine lv_iconst (v := 1) hx hb dX9_barredBy_20 kc_i_1 ?_
          refine lv_iload_n hx hb dX9_barredBy_21 rfl (lv_at hl 0 rfl) ?_
          refine lv_ishl hx hb dX9_barredBy_22 ?_
          refine lv_topi (fun x_13 ex_13 => ?_)
          refine lv_ior hx hb dX9_barredBy_23 ?_
          refine lv_topi (fun x_14 ex_14 => ?_)
          refine lv_istore_n hx hb dX9_barredBy_24 rfl hl kc_l_2_4 (kTo [(2, .int x_14), (3, .int (nI (i))), (0, .ref jX), (1, .ref ru)]) (fun ls hl => ?_)
          refine lv_iinc (v := nI (i + 1)) hx hb dX9_barredBy_25 hl (k := 1) rfl (kInc _ 1) kc_l_3_4 (kTo [(3, .int (nI (i + 1))), (2, .int x_14), (0, .ref jX), (1, .ref ru)]) (fun ls hl => ?_)
          refine lv_goto (tgt := 4) hx hb dX9_barredBy_28 kc_t_28_m24 ?_
          exact ih_k_1 (i + 1) L0_8 L1_9 x_14 (by omega) _ _ hP hD hS ls (lv_sub hl [0, 1, 2, 3] rfl) (by omega)
  exact lp_k_1 (32 - 0 + 1) 0 l0 l1 0 (by omega) _ _ hP hD hS ls (lv_sub hl [0, 1, 2, 3] rfl) (by omega)

theorem dX9_heldAtEnd_0 : decode cX9_heldAtEnd 0 = .ok (.aload_n 0, 1) := kDs0 kf_42 (by decide +kernel)
theorem dX9_heldAtEnd_1 : decode cX9_heldAtEnd 1 = .ok (.getfield 56, 3) := kDs2 kf_180 (by decide +kernel)
theorem dX9_heldAtEnd_4 : decode cX9_heldAtEnd 4 = .ok (.aload_n 1, 1) := kDs0 kf_43 (by decide +kernel)
theorem dX9_heldAtEnd_5 : decode cX9_heldAtEnd 5 = .ok (.lload_n 2, 1) := kDs0 kf_32 (by decide +kernel)
theorem dX9_heldAtEnd_6 : decode cX9_heldAtEnd 6 = .ok (.iload 4, 2) := kDs1 kf_21 (by decide +kernel)
theorem dX9_heldAtEnd_8 : decode cX9_heldAtEnd 8 = .ok (.invokevirtual 145, 3) := kDs2 kf_182 (by decide +kernel)
theorem dX9_heldAtEnd_11 : decode cX9_heldAtEnd 11 = .ok (.aload_n 0, 1) := kDs0 kf_42 (by decide +kernel)
theorem dX9_heldAtEnd_12 : decode cX9_heldAtEnd 12 = .ok (.getfield 56, 3) := kDs2 kf_180 (by decide +kernel)
theorem dX9_heldAtEnd_15 : decode cX9_heldAtEnd 15 = .ok (.bipush 48, 2) := kDs3 kf_16 (by decide +kernel)
theorem dX9_heldAtEnd_17 : decode cX9_heldAtEnd 17 = .ok (.invokevirtual 153, 3) := kDs2 kf_182 (by decide +kernel)
theorem dX9_heldAtEnd_20 : decode cX9_heldAtEnd 20 = .ok (.aload_n 0, 1) := kDs0 kf_42 (by decide +kernel)
theorem dX9_heldAtEnd_21 : decode cX9_heldAtEnd 21 = .ok (.getfield 56, 3) := kDs2 kf_180 (by decide +kernel)
theorem dX9_heldAtEnd_24 : decode cX9_heldAtEnd 24 = .ok (.iload 5, 2) := kDs1 kf_21 (by decide +kernel)
theorem dX9_heldAtEnd_26 : decode cX9_heldAtEnd 26 = .ok (.invokevirtual 156, 3) := kDs2 kf_182 (by decide +kernel)
theorem dX9_heldAtEnd_29 : decode cX9_heldAtEnd 29 = .ok (.ireturn, 1) := kDs0 kf_172 (by decide +kernel)
theorem hd_X9_heldAtEnd : yX9_heldAtEnd.cls ≠ "java/lang/invoke/MethodHandle" ∧ yX9_heldAtEnd.cls ≠ "java/lang/invoke/VarHandle" ∧ (parseMethodDescriptor yX9_heldAtEnd.desc).map (fun d => d.parameters.length) = some 4 := by decide +kernel
theorem dX9_holdersWithout_0 : decode cX9_holdersWithout 0 = .ok (.aload_n 0, 1) := kDs0 kf_42 (by decide +kernel)
theorem dX9_holdersWithout_1 : decode cX9_holdersWithout 1 = .ok (.getfield 56, 3) := kDs2 kf_180 (by decide +kernel)
theorem dX9_holdersWithout_4 : decode cX9_holdersWithout 4 = .ok (.aload_n 1, 1) := kDs0 kf_43 (by decide +kernel)
theorem dX9_holdersWithout_5 : decode cX9_holdersWithout 5 = .ok (.lload_n 2, 1) := kDs0 kf_32 (by decide +kernel)
theorem dX9_holdersWithout_6 : decode cX9_holdersWithout 6 = .ok (.iload 4, 2) := kDs1 kf_21 (by decide +kernel)
theorem dX9_holdersWithout_8 : decode cX9_holdersWithout 8 = .ok (.invokevirtual 145, 3) := kDs2 kf_182 (by decide +kernel)
theorem dX9_holdersWithout_11 : decode cX9_holdersWithout 11 = .ok (.aload_n 0, 1) := kDs0 kf_42 (by decide +kernel)
theorem dX9_holdersWithout_12 : decode cX9_holdersWithout 12 = .ok (.getfield 56, 3) := kDs2 kf_180 (by decide +kernel)
theorem dX9_holdersWithout_15 : decode cX9_holdersWithout 15 = .ok (.bipush 48, 2) := kDs3 kf_16 (by decide +kernel)
theorem dX9_holdersWithout_17 : decode cX9_holdersWithout 17 = .ok (.invokevirtual 153, 3) := kDs2 kf_182 (by decide +kernel)
theorem dX9_holdersWithout_20 : decode cX9_holdersWithout 20 = .ok (.aload_n 0, 1) := kDs0 kf_42 (by decide +kernel)
theorem dX9_holdersWithout_21 : decode cX9_holdersWithout 21 = .ok (.getfield 56, 3) := kDs2 kf_180 (by decide +kernel)
theorem dX9_holdersWithout_24 : decode cX9_holdersWithout 24 = .ok (.invokevirtual 290, 3) := kDs2 kf_182 (by decide +kernel)
theorem dX9_holdersWithout_27 : decode cX9_holdersWithout 27 = .ok (.ireturn, 1) := kDs0 kf_172 (by decide +kernel)
theorem hd_X9_holdersWithout : yX9_holdersWithout.cls ≠ "java/lang/invoke/MethodHandle" ∧ yX9_holdersWithout.cls ≠ "java/lang/invoke/VarHandle" ∧ (parseMethodDescriptor yX9_holdersWithout.desc).map (fun d => d.parameters.length) = some 3 := by decide +kernel
theorem dX9_givesUpBy_0 : decode cX9_givesUpBy 0 = .ok (.aload_n 0, 1) := kDs0 kf_42 (by decide +kernel)
theorem dX9_givesUpBy_1 : decode cX9_givesUpBy 1 = .ok (.getfield 56, 3) := kDs2 kf_180 (by decide +kernel)
theorem dX9_givesUpBy_4 : decode cX9_givesUpBy 4 = .ok (.aload_n 1, 1) := kDs0 kf_43 (by decide +kernel)
theorem dX9_givesUpBy_5 : decode cX9_givesUpBy 5 = .ok (.lload_n 2, 1) := kDs0 kf_32 (by decide +kernel)
theorem dX9_givesUpBy_6 : decode cX9_givesUpBy 6 = .ok (.aload_n 0, 1) := kDs0 kf_42 (by decide +kernel)
theorem dX9_givesUpBy_7 : decode cX9_givesUpBy 7 = .ok (.getfield 70, 3) := kDs2 kf_180 (by decide +kernel)
theorem dX9_givesUpBy_10 : decode cX9_givesUpBy 10 = .ok (.iload 5, 2) := kDs1 kf_21 (by decide +kernel)
theorem dX9_givesUpBy_12 : decode cX9_givesUpBy 12 = .ok (.invokevirtual 281, 3) := kDs2 kf_182 (by decide +kernel)
theorem dX9_givesUpBy_15 : decode cX9_givesUpBy 15 = .ok (.invokevirtual 145, 3) := kDs2 kf_182 (by decide +kernel)
theorem dX9_givesUpBy_18 : decode cX9_givesUpBy 18 = .ok (.aload_n 0, 1) := kDs0 kf_42 (by decide +kernel)
theorem dX9_givesUpBy_19 : decode cX9_givesUpBy 19 = .ok (.getfield 56, 3) := kDs2 kf_180 (by decide +kernel)
theorem dX9_givesUpBy_22 : decode cX9_givesUpBy 22 = .ok (.iload 4, 2) := kDs1 kf_21 (by decide +kernel)
theorem dX9_givesUpBy_24 : decode cX9_givesUpBy 24 = .ok (.aload_n 0, 1) := kDs0 kf_42 (by decide +kernel)
theorem dX9_givesUpBy_25 : decode cX9_givesUpBy 25 = .ok (.getfield 70, 3) := kDs2 kf_180 (by decide +kernel)
theorem dX9_givesUpBy_28 : decode cX9_givesUpBy 28 = .ok (.iload 5, 2) := kDs1 kf_21 (by decide +kernel)
theorem dX9_givesUpBy_30 : decode cX9_givesUpBy 30 = .ok (.invokevirtual 284, 3) := kDs2 kf_182 (by decide +kernel)
theorem dX9_givesUpBy_33 : decode cX9_givesUpBy 33 = .ok (.invokevirtual 188, 3) := kDs2 kf_182 (by decide +kernel)
theorem dX9_givesUpBy_36 : decode cX9_givesUpBy 36 = .ok (.aload_n 0, 1) := kDs0 kf_42 (by decide +kernel)
theorem dX9_givesUpBy_37 : decode cX9_givesUpBy 37 = .ok (.getfield 70, 3) := kDs2 kf_180 (by decide +kernel)
theorem dX9_givesUpBy_40 : decode cX9_givesUpBy 40 = .ok (.iload 5, 2) := kDs1 kf_21 (by decide +kernel)
theorem dX9_givesUpBy_42 : decode cX9_givesUpBy 42 = .ok (.invokevirtual 287, 3) := kDs2 kf_182 (by decide +kernel)
theorem dX9_givesUpBy_45 : decode cX9_givesUpBy 45 = .ok (.istore 6, 2) := kDs1 kf_54 (by decide +kernel)
theorem dX9_givesUpBy_47 : decode cX9_givesUpBy 47 = .ok (.iload 6, 2) := kDs1 kf_21 (by decide +kernel)
theorem dX9_givesUpBy_49 : decode cX9_givesUpBy 49 = .ok (.iconst (-1), 1) := kDs0 kf_2 (by decide +kernel)
theorem dX9_givesUpBy_50 : decode cX9_givesUpBy 50 = .ok (.if_icmp .eq 14, 3) := kDs4 kf_159 (by decide +kernel)
theorem dX9_givesUpBy_64 : decode cX9_givesUpBy 64 = .ok (.aload_n 0, 1) := kDs0 kf_42 (by decide +kernel)
theorem dX9_givesUpBy_65 : decode cX9_givesUpBy 65 = .ok (.getfield 56, 3) := kDs2 kf_180 (by decide +kernel)
theorem dX9_givesUpBy_68 : decode cX9_givesUpBy 68 = .ok (.bipush 48, 2) := kDs3 kf_16 (by decide +kernel)
theorem dX9_givesUpBy_70 : decode cX9_givesUpBy 70 = .ok (.invokevirtual 153, 3) := kDs2 kf_182 (by decide +kernel)
theorem dX9_givesUpBy_73 : decode cX9_givesUpBy 73 = .ok (.aload_n 0, 1) := kDs0 kf_42 (by decide +kernel)
theorem dX9_givesUpBy_74 : decode cX9_givesUpBy 74 = .ok (.getfield 56, 3) := kDs2 kf_180 (by decide +kernel)
theorem dX9_givesUpBy_77 : decode cX9_givesUpBy 77 = .ok (.iload 4, 2) := kDs1 kf_21 (by decide +kernel)
theorem dX9_givesUpBy_79 : decode cX9_givesUpBy 79 = .ok (.invokevirtual 156, 3) := kDs2 kf_182 (by decide +kernel)
theorem dX9_givesUpBy_82 : decode cX9_givesUpBy 82 = .ok (.bipush 20, 2) := kDs3 kf_16 (by decide +kernel)
theorem dX9_givesUpBy_84 : decode cX9_givesUpBy 84 = .ok (.if_icmp .ge 7, 3) := kDs4 kf_162 (by decide +kernel)
theorem dX9_givesUpBy_91 : decode cX9_givesUpBy 91 = .ok (.iconst 0, 1) := kDs0 kf_3 (by decide +kernel)
theorem dX9_givesUpBy_92 : decode cX9_givesUpBy 92 = .ok (.ireturn, 1) := kDs0 kf_172 (by decide +kernel)
theorem dX9_givesUpBy_87 : decode cX9_givesUpBy 87 = .ok (.iconst 1, 1) := kDs0 kf_4 (by decide +kernel)
theorem dX9_givesUpBy_88 : decode cX9_givesUpBy 88 = .ok (.goto 4, 3) := kDs4 kf_167 (by decide +kernel)
theorem dX9_givesUpBy_53 : decode cX9_givesUpBy 53 = .ok (.aload_n 0, 1) := kDs0 kf_42 (by decide +kernel)
theorem dX9_givesUpBy_54 : decode cX9_givesUpBy 54 = .ok (.getfield 56, 3) := kDs2 kf_180 (by decide +kernel)
theorem dX9_givesUpBy_57 : decode cX9_givesUpBy 57 = .ok (.iload 4, 2) := kDs1 kf_21 (by decide +kernel)
theorem dX9_givesUpBy_59 : decode cX9_givesUpBy 59 = .ok (.iload 6, 2) := kDs1 kf_21 (by decide +kernel)
theorem dX9_givesUpBy_61 : decode cX9_givesUpBy 61 = .ok (.invokevirtual 191, 3) := kDs2 kf_182 (by decide +kernel)
def w_s_givesUp9 : List Cond := .code yX9_givesUpBy cX9_givesUpBy 7 (some .boolean) :: ([.fieldLink RX9 56 "NotEnded" "course" "LNotEnded$Course;", .fieldLink RX9 70 "NotEnded" "acts" "LNotEnded$Acts;", .initialized RX0, .selects RX0 yX0_goneBy yX0_goneBy, .instanceMethod yX0_goneBy, .methodLink RX9 281 yX0_goneBy, .initialized RX1, .selects RX1 yX1_begin yX1_begin, .instanceMethod yX1_begin, .methodLink RX9 145 yX1_begin, .selects RX0 yX0_givenBackBy yX0_givenBackBy, .instanceMethod yX0_givenBackBy, .methodLink RX9 284 yX0_givenBackBy, .selects RX1 yX1_giveBack yX1_giveBack, .instanceMethod yX1_giveBack, .methodLink RX9 188 yX1_giveBack, .selects RX0 yX0_houseBy yX0_houseBy, .instanceMethod yX0_houseBy, .methodLink RX9 287 yX0_houseBy, .selects RX1 yX1_go yX1_go, .instanceMethod yX1_go, .methodLink RX9 153 yX1_go, .selects RX1 yX1_heldBy yX1_heldBy, .instanceMethod yX1_heldBy, .methodLink RX9 156 yX1_heldBy, .selects RX1 yX1_moveTo yX1_moveTo, .instanceMethod yX1_moveTo, .methodLink RX9 191 yX1_moveTo] ++ (wsX90 ++ (w_s_goneBy0 ++ (w_s_begin1 ++ (w_s_givenBackBy0 ++ (w_s_giveBack1 ++ (w_s_houseBy0 ++ (w_s_go1 ++ (w_s_heldBy1 ++ (w_s_moveTo1))))))))))
theorem gw_s_givesUp9 : (w_s_givesUp9).all goodWord = true := kGc rfl (kGa (by decide +kernel) (kGa gw_wsX90 (kGa gw_s_goneBy0 (kGa gw_s_begin1 (kGa gw_s_givenBackBy0 (kGa gw_s_giveBack1 (kGa gw_s_houseBy0 (kGa gw_s_go1 (kGa gw_s_heldBy1 gw_s_moveTo1)))))))))
theorem hd_X9_givesUpBy : yX9_givesUpBy.cls ≠ "java/lang/invoke/MethodHandle" ∧ yX9_givesUpBy.cls ≠ "java/lang/invoke/VarHandle" ∧ (parseMethodDescriptor yX9_givesUpBy.desc).map (fun d => d.parameters.length) = some 4 := by decide +kernel
set_option maxHeartbeats 4000000 in
set_option maxRecDepth 100000 in
theorem s_givesUp9 (l : Launch) (dC : Nat → ClassId) (dI : Nat → Nat → Nat) (jX : Nat) (jT : Nat) (jR : Nat) (jL : Nat) (jU : Nat) (hN : Nat) (jA : Nat) (sd : Nat) (jC : Nat) (d2 : Nat) (d3 : Nat) (d4 : Nat) (d5 : Nat) (d6 : Nat) (d7 : Nat) (d8 : Nat) (d9 : Nat) (d10 : Nat) (d11 : Nat) (d12 : Nat) (d13 : Nat) (w2 : ClassId) (w3 : ClassId) (w4 : ClassId) (w5 : ClassId) (w6 : ClassId) (w7 : ClassId) (w8 : ClassId) (w9 : ClassId) (w10 : ClassId) (w11 : ClassId) (w12 : ClassId) (w13 : ClassId) (e2 : Nat → Int32) (e3 : Nat → Int32) (e4 : Nat → Int32) (e5 : Nat → Int32) (e6 : Nat → Int32) (e7 : Nat → Int32) (e8 : Nat → Int32) (e9 : Nat → Int32) (e10 : Nat → Int32) (e11 : Nat → Int32) (e12 : Nat → Int32) (e13 : Nat → Int64) (dr : Int64) (pr : Int32) (mo : Int32) (ho : Int32) (hF : Nat) (f0 : Nat) (f1 : Nat) (f2 : Nat) (f3 : Nat) (f4 : Nat) (z0 : ClassId) (z1 : ClassId) (z2 : ClassId) (z3 : ClassId) (z4 : ClassId) (g0 : Nat → Int32) (g1 : Nat → Int32) (g2 : Nat → Int32) (g3 : Nat → Int32) (g4 : Nat → Int32) (sn : Int32) (ks : Nat) (kw : Nat) (hks : ks ≤ 10) (hkw : kw ≤ 4) (jK : Nat) (k0 : Nat) (k1 : Nat) (cK : ClassId) (cO : ClassId) (l0 : Nat → Int32) (l1 : Nat → Int32) (ru : Nat) (sA : Nat) (cl : Nat) (cS : ClassId) (cc : ClassId) (nS : Nat) (nC : Nat) (gS : Nat → Int32) (gC : Nat → Int32) (hnS : nS ≤ 200) (hnC : nC ≤ 200) (o0 : Nat) (o1 : Nat) (o2 : Nat) (o3 : Nat) (o4 : Nat) (y0 : ClassId) (y1 : ClassId) (y2 : ClassId) (y3 : ClassId) (y4 : ClassId) (q0 : Nat → Int32) (q1 : Nat → Int32) (q2 : Nat → Int32) (q3 : Nat → Int32) (q4 : Nat → Int32) (kn : Nat) (hkn : kn ≤ 20) (i0 : Nat) (i1 : Nat) (i2 : Nat) (i3 : Nat) (x0 : ClassId) (x1 : ClassId) (x2 : ClassId) (x3 : ClassId) (t0 : Nat → Int32) (t1 : Nat → Int32) (t2 : Nat → Int32) (t3 : Nat → Int32) (ka : Nat) (hka : ka ≤ 6) (lw : Value) (p1 : Int64) (p2 : Int32) (p3 : Int32) (sz : Nat) : Met l yX9_givesUpBy w_s_givesUp9 ({ frames := 7, cells := 0, slots := 0, locals := 420 }) (kW dC dI [.ref jX, .ref ru, .long p1, .int p2, .int p3] [(jX, .inr (9, [.ref jT, .ref jR, .ref jK, .ref jL, .ref jU, .ref hF, .ref jC, .ref hN, .ref jA, .ref sd])), (jC, .inr (1, [.ref hF, .ref jK, .ref d2, .ref d3, .ref d4, .ref d5, .ref d6, .ref d7, .ref d8, .ref d9, .ref d10, .ref d11, .ref d12, .ref d13, lw, .long dr, .int pr, .int mo, .int ho])), (d2, .inl (w2, 10, .inl e2)), (d3, .inl (w3, 10, .inl e3)), (d4, .inl (w4, 10, .inl e4)), (d5, .inl (w5, 10, .inl e5)), (d6, .inl (w6, 10, .inl e6)), (d7, .inl (w7, 10, .inl e7)), (d8, .inl (w8, 10, .inl e8)), (d9, .inl (w9, 10, .inl e9)), (d10, .inl (w10, 4, .inl e10)), (d11, .inl (w11, 4, .inl e11)), (d12, .inl (w12, 4, .inl e12)), (d13, .inl (w13, 9, .inr (.inl e13))), (hF, .inr (2, [.ref f0, .ref f1, .ref f2, .ref f3, .ref f4, .int sn, .int (nI (ks)), .int (nI (kw))])), (f0, .inl (z0, 10, .inl g0)), (f1, .inl (z1, 10, .inl g1)), (f2, .inl (z2, 10, .inl g2)), (f3, .inl (z3, 10, .inl g3)), (f4, .inl (z4, 4, .inl g4)), (jK, .inr (5, [.ref k0, .ref k1])), (k0, .inl (cK, 8, .inl l0)), (k1, .inl (cO, 32, .inl l1)), (hN, .inr (3, [.ref o0, .ref o1, .ref o2, .ref o3, .ref o4, .int (nI (kn))])), (o0, .inl (y0, 20, .inl q0)), (o1, .inl (y1, 20, .inl q1)), (o2, .inl (y2, 20, .inl q2)), (o3, .inl (y3, 20, .inl q3)), (o4, .inl (y4, 20, .inl q4)), (jA, .inr (0, [.ref i0, .ref i1, .ref i2, .ref i3, .int (nI (ka))])), (i0, .inl (x0, 6, .inl t0)), (i1, .inl (x1, 6, .inl t1)), (i2, .inl (x2, 6, .inl t2)), (i3, .inl (x3, 6, .inl t3))] [(w2, .int), (w3, .int), (w4, .int), (w5, .int), (w6, .int), (w7, .int), (w8, .int), (w9, .int), (w10, .int), (w11, .int), (w12, .int), (w13, .long), (z0, .int), (z1, .int), (z2, .int), (z3, .int), (z4, .int), (cK, .int), (cO, .int), (y0, .int), (y1, .int), (y2, .int), (y3, .int), (y4, .int), (x0, .int), (x1, .int), (x2, .int), (x3, .int), (cS, .int), (cc, .int)] (kNF dC dI [(ru, .inr (6, [.ref sA, .ref cl])), (sA, .inl (cS, nS, .inl gS)), (cl, .inl (cc, nC, .inl gC))] (va_A [(jX, .inr (9, [.ref jT, .ref jR, .ref jK, .ref jL, .ref jU, .ref hF, .ref jC, .ref hN, .ref jA, .ref sd])), (jC, .inr (1, [.ref hF, .ref jK, .ref d2, .ref d3, .ref d4, .ref d5, .ref d6, .ref d7, .ref d8, .ref d9, .ref d10, .ref d11, .ref d12, .ref d13, lw, .long dr, .int pr, .int mo, .int ho])), (d2, .inl (w2, 10, .inl e2)), (d3, .inl (w3, 10, .inl e3)), (d4, .inl (w4, 10, .inl e4)), (d5, .inl (w5, 10, .inl e5)), (d6, .inl (w6, 10, .inl e6)), (d7, .inl (w7, 10, .inl e7)), (d8, .inl (w8, 10, .inl e8)), (d9, .inl (w9, 10, .inl e9)), (d10, .inl (w10, 4, .inl e10)), (d11, .inl (w11, 4, .inl e11)), (d12, .inl (w12, 4, .inl e12)), (d13, .inl (w13, 9, .inr (.inl e13))), (hF, .inr (2, [.ref f0, .ref f1, .ref f2, .ref f3, .ref f4, .int sn, .int (nI (ks)), .int (nI (kw))])), (f0, .inl (z0, 10, .inl g0)), (f1, .inl (z1, 10, .inl g1)), (f2, .inl (z2, 10, .inl g2)), (f3, .inl (z3, 10, .inl g3)), (f4, .inl (z4, 4, .inl g4)), (jK, .inr (5, [.ref k0, .ref k1])), (k0, .inl (cK, 8, .inl l0)), (k1, .inl (cO, 32, .inl l1)), (hN, .inr (3, [.ref o0, .ref o1, .ref o2, .ref o3, .ref o4, .int (nI (kn))])), (o0, .inl (y0, 20, .inl q0)), (o1, .inl (y1, 20, .inl q1)), (o2, .inl (y2, 20, .inl q2)), (o3, .inl (y3, 20, .inl q3)), (o4, .inl (y4, 20, .inl q4)), (jA, .inr (0, [.ref i0, .ref i1, .ref i2, .ref i3, .int (nI (ka))])), (i0, .inl (x0, 6, .inl t0)), (i1, .inl (x1, 6, .inl t1)), (i2, .inl (x2, 6, .inl t2)), (i3, .inl (x3, 6, .inl t3))] sz)) sz) (va_Qi (fun (r : Int32) (u : (Nat → Int32) × (Nat → Int32) × (Nat → Int32) × (Nat → Int32) × (Nat → Int32) × (Nat → Int32) × (Nat → Int32) × (Nat → Int32) × (Nat → Int32) × (Nat → Int32) × (Nat → Int32) × (Nat → Int64) × (Nat → Int32) × (Nat → Int32) × Int32 × Int32 × Int32 × Int64 × Value) => match u with | (E2, E3, E4, E5, E6, E7, E8, E9, E10, E11, E12, E13, L0, L1, Pr, Mo, Ho, Dr, Lw) => (r = 0 ∨ r = 1)) (fun (u : (Nat → Int32) × (Nat → Int32) × (Nat → Int32) × (Nat → Int32) × (Nat → Int32) × (Nat → Int32) × (Nat → Int32) × (Nat → Int32) × (Nat → Int32) × (Nat → Int32) × (Nat → Int32) × (Nat → Int64) × (Nat → Int32) × (Nat → Int32) × Int32 × Int32 × Int32 × Int64 × Value) => match u with | (E2, E3, E4, E5, E6, E7, E8, E9, E10, E11, E12, E13, L0, L1, Pr, Mo, Ho, Dr, Lw) => fun t : State => kB dC dI [(jX, .inr (9, [.ref jT, .ref jR, .ref jK, .ref jL, .ref jU, .ref hF, .ref jC, .ref hN, .ref jA, .ref sd])), (jC, .inr (1, [.ref hF, .ref jK, .ref d2, .ref d3, .ref d4, .ref d5, .ref d6, .ref d7, .ref d8, .ref d9, .ref d10, .ref d11, .ref d12, .ref d13, Lw, .long Dr, .int Pr, .int Mo, .int Ho])), (d2, .inl (w2, 10, .inl E2)), (d3, .inl (w3, 10, .inl E3)), (d4, .inl (w4, 10, .inl E4)), (d5, .inl (w5, 10, .inl E5)), (d6, .inl (w6, 10, .inl E6)), (d7, .inl (w7, 10, .inl E7)), (d8, .inl (w8, 10, .inl E8)), (d9, .inl (w9, 10, .inl E9)), (d10, .inl (w10, 4, .inl E10)), (d11, .inl (w11, 4, .inl E11)), (d12, .inl (w12, 4, .inl E12)), (d13, .inl (w13, 9, .inr (.inl E13))), (hF, .inr (2, [.ref f0, .ref f1, .ref f2, .ref f3, .ref f4, .int sn, .int (nI (ks)), .int (nI (kw))])), (f0, .inl (z0, 10, .inl g0)), (f1, .inl (z1, 10, .inl g1)), (f2, .inl (z2, 10, .inl g2)), (f3, .inl (z3, 10, .inl g3)), (f4, .inl (z4, 4, .inl g4)), (jK, .inr (5, [.ref k0, .ref k1])), (k0, .inl (cK, 8, .inl L0)), (k1, .inl (cO, 32, .inl L1)), (hN, .inr (3, [.ref o0, .ref o1, .ref o2, .ref o3, .ref o4, .int (nI (kn))])), (o0, .inl (y0, 20, .inl q0)), (o1, .inl (y1, 20, .inl q1)), (o2, .inl (y2, 20, .inl q2)), (o3, .inl (y3, 20, .inl q3)), (o4, .inl (y4, 20, .inl q4)), (jA, .inr (0, [.ref i0, .ref i1, .ref i2, .ref i3, .int (nI (ka))])), (i0, .inl (x0, 6, .inl t0)), (i1, .inl (x1, 6, .inl t1)), (i2, .inl (x2, 6, .inl t2)), (i3, .inl (x3, 6, .inl t3))] [(w2, .int), (w3, .int), (w4, .int), (w5, .int), (w6, .int), (w7, .int), (w8, .int), (w9, .int), (w10, .int), (w11, .int), (w12, .int), (w13, .long), (z0, .int), (z1, .int), (z2, .int), (z3, .int), (z4, .int), (cK, .int), (cO, .int), (y0, .int), (y1, .int), (y2, .int), (y3, .int), (y4, .int), (x0, .int), (x1, .int), (x2, .int), (x3, .int), (cS, .int), (cc, .int)] (va_A [(jX, .inr (9, [.ref jT, .ref jR, .ref jK, .ref jL, .ref jU, .ref hF, .ref jC, .ref hN, .ref jA, .ref sd])), (jC, .inr (1, [.ref hF, .ref jK, .ref d2, .ref d3, .ref d4, .ref d5, .ref d6, .ref d7, .ref d8, .ref d9, .ref d10, .ref d11, .ref d12, .ref d13, lw, .long dr, .int pr, .int mo, .int ho])), (d2, .inl (w2, 10, .inl e2)), (d3, .inl (w3, 10, .inl e3)), (d4, .inl (w4, 10, .inl e4)), (d5, .inl (w5, 10, .inl e5)), (d6, .inl (w6, 10, .inl e6)), (d7, .inl (w7, 10, .inl e7)), (d8, .inl (w8, 10, .inl e8)), (d9, .inl (w9, 10, .inl e9)), (d10, .inl (w10, 4, .inl e10)), (d11, .inl (w11, 4, .inl e11)), (d12, .inl (w12, 4, .inl e12)), (d13, .inl (w13, 9, .inr (.inl e13))), (hF, .inr (2, [.ref f0, .ref f1, .ref f2, .ref f3, .ref f4, .int sn, .int (nI (ks)), .int (nI (kw))])), (f0, .inl (z0, 10, .inl g0)), (f1, .inl (z1, 10, .inl g1)), (f2, .inl (z2, 10, .inl g2)), (f3, .inl (z3, 10, .inl g3)), (f4, .inl (z4, 4, .inl g4)), (jK, .inr (5, [.ref k0, .ref k1])), (k0, .inl (cK, 8, .inl l0)), (k1, .inl (cO, 32, .inl l1)), (hN, .inr (3, [.ref o0, .ref o1, .ref o2, .ref o3, .ref o4, .int (nI (kn))])), (o0, .inl (y0, 20, .inl q0)), (o1, .inl (y1, 20, .inl q1)), (o2, .inl (y2, 20, .inl q2)), (o3, .inl (y3, 20, .inl q3)), (o4, .inl (y4, 20, .inl q4)), (jA, .inr (0, [.ref i0, .ref i1, .ref i2, .ref i3, .int (nI (ka))])), (i0, .inl (x0, 6, .inl t0)), (i1, .inl (x1, 6, .inl t1)), (i2, .inl (x2, 6, .inl t2)), (i3, .inl (x3, 6, .inl t3))] sz) t) (va_A [(jX, .inr (9, [.ref jT, .ref jR, .ref jK, .ref jL, .ref jU, .ref hF, .ref jC, .ref hN, .ref jA, .ref sd])), (jC, .inr (1, [.ref hF, .ref jK, .ref d2, .ref d3, .ref d4, .ref d5, .ref d6, .ref d7, .ref d8, .ref d9, .ref d10, .ref d11, .ref d12, .ref d13, lw, .long dr, .int pr, .int mo, .int ho])), (d2, .inl (w2, 10, .inl e2)), (d3, .inl (w3, 10, .inl e3)), (d4, .inl (w4, 10, .inl e4)), (d5, .inl (w5, 10, .inl e5)), (d6, .inl (w6, 10, .inl e6)), (d7, .inl (w7, 10, .inl e7)), (d8, .inl (w8, 10, .inl e8)), (d9, .inl (w9, 10, .inl e9)), (d10, .inl (w10, 4, .inl e10)), (d11, .inl (w11, 4, .inl e11)), (d12, .inl (w12, 4, .inl e12)), (d13, .inl (w13, 9, .inr (.inl e13))), (hF, .inr (2, [.ref f0, .ref f1, .ref f2, .ref f3, .ref f4, .int sn, .int (nI (ks)), .int (nI (kw))])), (f0, .inl (z0, 10, .inl g0)), (f1, .inl (z1, 10, .inl g1)), (f2, .inl (z2, 10, .inl g2)), (f3, .inl (z3, 10, .inl g3)), (f4, .inl (z4, 4, .inl g4)), (jK, .inr (5, [.ref k0, .ref k1])), (k0, .inl (cK, 8, .inl l0)), (k1, .inl (cO, 32, .inl l1)), (hN, .inr (3, [.ref o0, .ref o1, .ref o2, .ref o3, .ref o4, .int (nI (kn))])), (o0, .inl (y0, 20, .inl q0)), (o1, .inl (y1, 20, .inl q1)), (o2, .inl (y2, 20, .inl q2)), (o3, .inl (y3, 20, .inl q3)), (o4, .inl (y4, 20, .inl q4)), (jA, .inr (0, [.ref i0, .ref i1, .ref i2, .ref i3, .int (nI (ka))])), (i0, .inl (x0, 6, .inl t0)), (i1, .inl (x1, 6, .inl t1)), (i2, .inl (x2, 6, .inl t2)), (i3, .inl (x3, 6, .inl t3))] sz)) 0 0 (va_A [(jX, .inr (9, [.ref jT, .ref jR, .ref jK, .ref jL, .ref jU, .ref hF, .ref jC, .ref hN, .ref jA, .ref sd])), (jC, .inr (1, [.ref hF, .ref jK, .ref d2, .ref d3, .ref d4, .ref d5, .ref d6, .ref d7, .ref d8, .ref d9, .ref d10, .ref d11, .ref d12, .ref d13, lw, .long dr, .int pr, .int mo, .int ho])), (d2, .inl (w2, 10, .inl e2)), (d3, .inl (w3, 10, .inl e3)), (d4, .inl (w4, 10, .inl e4)), (d5, .inl (w5, 10, .inl e5)), (d6, .inl (w6, 10, .inl e6)), (d7, .inl (w7, 10, .inl e7)), (d8, .inl (w8, 10, .inl e8)), (d9, .inl (w9, 10, .inl e9)), (d10, .inl (w10, 4, .inl e10)), (d11, .inl (w11, 4, .inl e11)), (d12, .inl (w12, 4, .inl e12)), (d13, .inl (w13, 9, .inr (.inl e13))), (hF, .inr (2, [.ref f0, .ref f1, .ref f2, .ref f3, .ref f4, .int sn, .int (nI (ks)), .int (nI (kw))])), (f0, .inl (z0, 10, .inl g0)), (f1, .inl (z1, 10, .inl g1)), (f2, .inl (z2, 10, .inl g2)), (f3, .inl (z3, 10, .inl g3)), (f4, .inl (z4, 4, .inl g4)), (jK, .inr (5, [.ref k0, .ref k1])), (k0, .inl (cK, 8, .inl l0)), (k1, .inl (cO, 32, .inl l1)), (hN, .inr (3, [.ref o0, .ref o1, .ref o2, .ref o3, .ref o4, .int (nI (kn))])), (o0, .inl (y0, 20, .inl q0)), (o1, .inl (y1, 20, .inl q1)), (o2, .inl (y2, 20, .inl q2)), (o3, .inl (y3, 20, .inl q3)), (o4, .inl (y4, 20, .inl q4)), (jA, .inr (0, [.ref i0, .ref i1, .ref i2, .ref i3, .int (nI (ka))])), (i0, .inl (x0, 6, .inl t0)), (i1, .inl (x1, 6, .inl t1)), (i2, .inl (x2, 6, .inl t2)), (i3, .inl (x3, 6, .inl t3))] sz) := by
  refine Met.ofW (cc := cX9_givesUpBy) (maxL := 7) (ret := (some .boolean)) (by decide) rfl ?_
  intro p e s m args below meth c s₁ B hml hv
  obtain ⟨rfl, hsz, hP, hK, hD0, hX⟩ := hv
  have hx := B.exec
  have hb := B.bytes
  have hr := B.returns
  have hts := atoms_spec (ws := w_s_givesUp9) B.pre
  have hown : s.vm.findClass RX9 = some m.cls := findClass_of_methodNamed B.named
  have hlocks := B.notSynchronized
  subst hsz
  have hD := hD0.self (sz := s.heap.size)
  generalize hAe : va_A [(jX, .inr (9, [.ref jT, .ref jR, .ref jK, .ref jL, .ref jU, .ref hF, .ref jC, .ref hN, .ref jA, .ref sd])), (jC, .inr (1, [.ref hF, .ref jK, .ref d2, .ref d3, .ref d4, .ref d5, .ref d6, .ref d7, .ref d8, .ref d9, .ref d10, .ref d11, .ref d12, .ref d13, lw, .long dr, .int pr, .int mo, .int ho])), (d2, .inl (w2, 10, .inl e2)), (d3, .inl (w3, 10, .inl e3)), (d4, .inl (w4, 10, .inl e4)), (d5, .inl (w5, 10, .inl e5)), (d6, .inl (w6, 10, .inl e6)), (d7, .inl (w7, 10, .inl e7)), (d8, .inl (w8, 10, .inl e8)), (d9, .inl (w9, 10, .inl e9)), (d10, .inl (w10, 4, .inl e10)), (d11, .inl (w11, 4, .inl e11)), (d12, .inl (w12, 4, .inl e12)), (d13, .inl (w13, 9, .inr (.inl e13))), (hF, .inr (2, [.ref f0, .ref f1, .ref f2, .ref f3, .ref f4, .int sn, .int (nI (ks)), .int (nI (kw))])), (f0, .inl (z0, 10, .inl g0)), (f1, .inl (z1, 10, .inl g1)), (f2, .inl (z2, 10, .inl g2)), (f3, .inl (z3, 10, .inl g3)), (f4, .inl (z4, 4, .inl g4)), (jK, .inr (5, [.ref k0, .ref k1])), (k0, .inl (cK, 8, .inl l0)), (k1, .inl (cO, 32, .inl l1)), (hN, .inr (3, [.ref o0, .ref o1, .ref o2, .ref o3, .ref o4, .int (nI (kn))])), (o0, .inl (y0, 20, .inl q0)), (o1, .inl (y1, 20, .inl q1)), (o2, .inl (y2, 20, .inl q2)), (o3, .inl (y3, 20, .inl q3)), (o4, .inl (y4, 20, .inl q4)), (jA, .inr (0, [.ref i0, .ref i1, .ref i2, .ref i3, .int (nI (ka))])), (i0, .inl (x0, 6, .inl t0)), (i1, .inl (x1, 6, .inl t1)), (i2, .inl (x2, 6, .inl t2)), (i3, .inl (x3, 6, .inl t3))] s.heap.size = A at hD hX ⊢
  have hA : ∀ q : Nat, s.heap.size ≤ q → A q := fun q h => by rw [← hAe]; exact Or.inr h
  have hS : va_S A s.heap s.heap [] := va_S.rf
  have hP : va_P (dC, dI) vwCl [(jX, .inr (9, [.ref jT, .ref jR, .ref jK, .ref jL, .ref jU, .ref hF, .ref jC, .ref hN, .ref jA, .ref sd])), (jC, .inr (1, [.ref hF, .ref jK, .ref d2, .ref d3, .ref d4, .ref d5, .ref d6, .ref d7, .ref d8, .ref d9, .ref d10, .ref d11, .ref d12, .ref d13, lw, .long dr, .int pr, .int mo, .int ho])), (d2, .inl (w2, 10, .inl e2)), (d3, .inl (w3, 10, .inl e3)), (d4, .inl (w4, 10, .inl e4)), (d5, .inl (w5, 10, .inl e5)), (d6, .inl (w6, 10, .inl e6)), (d7, .inl (w7, 10, .inl e7)), (d8, .inl (w8, 10, .inl e8)), (d9, .inl (w9, 10, .inl e9)), (d10, .inl (w10, 4, .inl e10)), (d11, .inl (w11, 4, .inl e11)), (d12, .inl (w12, 4, .inl e12)), (d13, .inl (w13, 9, .inr (.inl e13))), (hF, .inr (2, [.ref f0, .ref f1, .ref f2, .ref f3, .ref f4, .int sn, .int (nI (ks)), .int (nI (kw))])), (f0, .inl (z0, 10, .inl g0)), (f1, .inl (z1, 10, .inl g1)), (f2, .inl (z2, 10, .inl g2)), (f3, .inl (z3, 10, .inl g3)), (f4, .inl (z4, 4, .inl g4)), (jK, .inr (5, [.ref k0, .ref k1])), (k0, .inl (cK, 8, .inl l0)), (k1, .inl (cO, 32, .inl l1)), (hN, .inr (3, [.ref o0, .ref o1, .ref o2, .ref o3, .ref o4, .int (nI (kn))])), (o0, .inl (y0, 20, .inl q0)), (o1, .inl (y1, 20, .inl q1)), (o2, .inl (y2, 20, .inl q2)), (o3, .inl (y3, 20, .inl q3)), (o4, .inl (y4, 20, .inl q4)), (jA, .inr (0, [.ref i0, .ref i1, .ref i2, .ref i3, .int (nI (ka))])), (i0, .inl (x0, 6, .inl t0)), (i1, .inl (x1, 6, .inl t1)), (i2, .inl (x2, 6, .inl t2)), (i3, .inl (x3, 6, .inl t3))] s.heap := hP
  have hl := lv_entry ([.ref jX, .ref ru, .long p1, .int p2, .int p3]) (n := 7) (Nat.le_of_ble_eq_true rfl)
  rw [lg_entry_eq]
  generalize (lg_sl ([.ref jX, .ref ru, .long p1, .int p2, .int p3]) ++ List.replicate (7 - (lg_sl ([.ref jX, .ref ru, .long p1, .int p2, .int p3])).length) Slot.unset).toArray = ls at hl ⊢
  have hl : lv_has ls 7 [(0, .ref jX), (1, .ref ru), (2, .long p1), (4, .int p2), (5, .int p3)] := hl
  refine kQ (fun Q hQ => ?_)
  refine lv_aload_n hx hb dX9_givesUpBy_0 rfl (lv_at hl 0 rfl) ?_
  refine va_get (D := (dC, dI)) (ci := 9) (v := .ref jC) (C := RX9) (T := TX9) (N := 10) hx hb hts (fun _ h => List.mem_cons_of_mem _ (List.mem_append_right _ (List.mem_append_left _ h))) hown hK hP 0 rfl rfl 6 kc_l_6_10 (hts (.fieldLink RX9 56 "NotEnded" "course" "LNotEnded$Course;") (List.mem_cons_of_mem _ (List.mem_append_left _ (List.mem_of_getElem? (i := 0) rfl)))) (fun _ h9 => h9) rfl dX9_givesUpBy_1 ?_
  refine lv_aload_n hx hb dX9_givesUpBy_4 rfl (lv_at hl 1 rfl) ?_
  refine lv_lload_n hx hb dX9_givesUpBy_5 rfl (lv_at hl 2 rfl) ?_
  refine lv_aload_n hx hb dX9_givesUpBy_6 rfl (lv_at hl 0 rfl) ?_
  refine va_get (D := (dC, dI)) (ci := 9) (v := .ref jA) (C := RX9) (T := TX9) (N := 10) hx hb hts (fun _ h => List.mem_cons_of_mem _ (List.mem_append_right _ (List.mem_append_left _ h))) hown hK hP 0 rfl rfl 8 kc_l_8_10 (hts (.fieldLink RX9 70 "NotEnded" "acts" "LNotEnded$Acts;") (List.mem_cons_of_mem _ (List.mem_append_left _ (List.mem_of_getElem? (i := 1) rfl)))) (fun _ h9 => h9) rfl dX9_givesUpBy_7 ?_
  refine lv_iload hx hb dX9_givesUpBy_10 (lv_at hl 4 rfl) ?_
  have hPc := hP.sb (ws2 := [(jA, .inr (0, [.ref i0, .ref i1, .ref i2, .ref i3, .int (nI (ka))])), (i0, .inl (x0, 6, .inl t0)), (i1, .inl (x1, 6, .inl t1)), (i2, .inl (x2, 6, .inl t2)), (i3, .inl (x3, 6, .inl t3))]) [29, 30, 31, 32, 33] rfl
  have hKc := hK.sb (tys2 := [(x0, .int), (x1, .int), (x2, .int), (x3, .int)]) [24, 25, 26, 27] rfl
  refine vp_callSi (va_runV (As := [.int p3]) (rest := [.long p1, .ref ru, .ref jC]) ⟨hx, hb, hml, hown, hts⟩ (s_goneBy0 l dC dI jA i0 i1 i2 i3 x0 x1 x2 x3 t0 t1 t2 t3 ka hka p3) (cwV 1 hts (kG (List.forall_mem_cons.mpr ⟨(List.mem_cons_of_mem _ (List.mem_append_left _ (List.mem_of_getElem? (i := 5) rfl))), (List.forall_mem_cons.mpr ⟨(List.mem_cons_of_mem _ (List.mem_append_left _ (List.mem_of_getElem? (i := 4) rfl))), (List.forall_mem_cons.mpr ⟨(List.mem_cons_of_mem _ (List.mem_append_left _ (List.mem_of_getElem? (i := 3) rfl))), (List.forall_mem_cons.mpr ⟨(List.mem_cons_of_mem _ (List.mem_append_left _ (List.mem_of_getElem? (i := 2) rfl))), (fun _ h => absurd h List.not_mem_nil)⟩)⟩)⟩)⟩) (kGV _ _ _ _) (fun _ h => List.mem_cons_of_mem _ (List.mem_append_right _ (List.mem_append_right _ (List.mem_append_left _ h)))) gw_s_goneBy0) rfl rfl rfl ⟨rfl, hd_X0_goneBy⟩ ⟨(Nat.le_of_ble_eq_true rfl), (Nat.le_of_ble_eq_true rfl)⟩) (kR_V kNL_blind (kNL_give hX.2) (va_recv hKc hPc (ci := 0) (q0 := 0) rfl rfl) hPc hKc) rfl rfl hl.1 rfl (lv_room (Nat.le_of_ble_eq_true rfl)) dX9_givesUpBy_12 ⟨(Nat.le_of_ble_eq_true rfl), (Nat.le_of_ble_eq_true rfl)⟩).run (fun r_1 hw => ?_)
  have hCu := kCut (wc := [(jC, .inr (1, [.ref hF, .ref jK, .ref d2, .ref d3, .ref d4, .ref d5, .ref d6, .ref d7, .ref d8, .ref d9, .ref d10, .ref d11, .ref d12, .ref d13, lw, .long dr, .int pr, .int mo, .int ho])), (d2, .inl (w2, 10, .inl e2)), (d3, .inl (w3, 10, .inl e3)), (d4, .inl (w4, 10, .inl e4)), (d5, .inl (w5, 10, .inl e5)), (d6, .inl (w6, 10, .inl e6)), (d7, .inl (w7, 10, .inl e7)), (d8, .inl (w8, 10, .inl e8)), (d9, .inl (w9, 10, .inl e9)), (d10, .inl (w10, 4, .inl e10)), (d11, .inl (w11, 4, .inl e11)), (d12, .inl (w12, 4, .inl e12)), (d13, .inl (w13, 9, .inr (.inl e13))), (hF, .inr (2, [.ref f0, .ref f1, .ref f2, .ref f3, .ref f4, .int sn, .int (nI (ks)), .int (nI (kw))])), (f0, .inl (z0, 10, .inl g0)), (f1, .inl (z1, 10, .inl g1)), (f2, .inl (z2, 10, .inl g2)), (f3, .inl (z3, 10, .inl g3)), (f4, .inl (z4, 4, .inl g4)), (jK, .inr (5, [.ref k0, .ref k1])), (k0, .inl (cK, 8, .inl l0)), (k1, .inl (cO, 32, .inl l1))]) hP hD hS hA [1, 2, 3, 4, 5, 6, 7, 8, 9, 10, 11, 12, 13, 14, 15, 16, 17, 18, 19, 20, 21, 22] rfl kc_nd_425 rfl
  have hPc := hCu.1
  have hDc := hCu.2.1
  have hFc := hCu.2.2
  have hKc := hK.sb (tys2 := [(w2, .int), (w3, .int), (w4, .int), (w5, .int), (w6, .int), (w7, .int), (w8, .int), (w9, .int), (w10, .int), (w11, .int), (w12, .int), (w13, .long), (z0, .int), (z1, .int), (z2, .int), (z3, .int), (z4, .int), (cK, .int), (cO, .int), (cS, .int), (cc, .int)]) [0, 1, 2, 3, 4, 5, 6, 7, 8, 9, 10, 11, 12, 13, 14, 15, 16, 17, 18, 28, 29] rfl
  refine va_callv (va_runV (As := [.ref ru, .long p1, .int r_1]) (rest := []) ⟨hx, hb, hml, hown, hts⟩ (s_begin1 l dC dI jC d2 d3 d4 d5 d6 d7 d8 d9 d10 d11 d12 d13 w2 w3 w4 w5 w6 w7 w8 w9 w10 w11 w12 w13 e2 e3 e4 e5 e6 e7 e8 e9 e10 e11 e12 e13 dr pr mo ho hF f0 f1 f2 f3 f4 z0 z1 z2 z3 z4 g0 g1 g2 g3 g4 sn ks kw hks hkw jK k0 k1 cK cO l0 l1 ru sA cl cS cc nS nC gS gC hnS hnC (lw : Value) p1 r_1 s.heap.size) (cwV 3 hts (kG (List.forall_mem_cons.mpr ⟨(List.mem_cons_of_mem _ (List.mem_append_left _ (List.mem_of_getElem? (i := 9) rfl))), (List.forall_mem_cons.mpr ⟨(List.mem_cons_of_mem _ (List.mem_append_left _ (List.mem_of_getElem? (i := 8) rfl))), (List.forall_mem_cons.mpr ⟨(List.mem_cons_of_mem _ (List.mem_append_left _ (List.mem_of_getElem? (i := 7) rfl))), (List.forall_mem_cons.mpr ⟨(List.mem_cons_of_mem _ (List.mem_append_left _ (List.mem_of_getElem? (i := 6) rfl))), (fun _ h => absurd h List.not_mem_nil)⟩)⟩)⟩)⟩) (kGV _ _ _ _) (fun _ h => List.mem_cons_of_mem _ (List.mem_append_right _ (List.mem_append_right _ (List.mem_append_right _ (List.mem_append_left _ h))))) gw_s_begin1) rfl rfl rfl ⟨rfl, hd_X1_begin⟩ ⟨(Nat.le_of_ble_eq_true rfl), (Nat.le_of_ble_eq_true rfl)⟩) (kW_V kNF_blind (kNF_give hX hS hFc) (va_recv hKc hPc (ci := 1) (q0 := 0) rfl rfl) hPc hKc hDc) rfl rfl hl.1 rfl (lv_room (Nat.le_of_ble_eq_true rfl)) dX9_givesUpBy_15 ⟨(Nat.le_of_ble_eq_true rfl), (Nat.le_of_ble_eq_true rfl)⟩) hS (fun q _ h => hFc q h) hFc (kU18 (fun E2_2 E3_3 E4_4 E5_5 E6_6 E7_7 E8_8 E9_9 E10_10 E11_11 E12_12 E13_13 L0_14 L1_15 Pr_16 Mo_17 Ho_18 Dr_19 t H_20 locs ht hvm hw hB hz1 hk1 hS => ?_))
  have hPD : kPD dC dI A [(jX, .inr (9, [.ref jT, .ref jR, .ref jK, .ref jL, .ref jU, .ref hF, .ref jC, .ref hN, .ref jA, .ref sd])), (jC, .inr (1, [.ref hF, .ref jK, .ref d2, .ref d3, .ref d4, .ref d5, .ref d6, .ref d7, .ref d8, .ref d9, .ref d10, .ref d11, .ref d12, .ref d13, .ref ru, .long Dr_19, .int Pr_16, .int Mo_17, .int Ho_18])), (d2, .inl (w2, 10, .inl E2_2)), (d3, .inl (w3, 10, .inl E3_3)), (d4, .inl (w4, 10, .inl E4_4)), (d5, .inl (w5, 10, .inl E5_5)), (d6, .inl (w6, 10, .inl E6_6)), (d7, .inl (w7, 10, .inl E7_7)), (d8, .inl (w8, 10, .inl E8_8)), (d9, .inl (w9, 10, .inl E9_9)), (d10, .inl (w10, 4, .inl E10_10)), (d11, .inl (w11, 4, .inl E11_11)), (d12, .inl (w12, 4, .inl E12_12)), (d13, .inl (w13, 9, .inr (.inl E13_13))), (hF, .inr (2, [.ref f0, .ref f1, .ref f2, .ref f3, .ref f4, .int sn, .int (nI (ks)), .int (nI (kw))])), (f0, .inl (z0, 10, .inl g0)), (f1, .inl (z1, 10, .inl g1)), (f2, .inl (z2, 10, .inl g2)), (f3, .inl (z3, 10, .inl g3)), (f4, .inl (z4, 4, .inl g4)), (jK, .inr (5, [.ref k0, .ref k1])), (k0, .inl (cK, 8, .inl L0_14)), (k1, .inl (cO, 32, .inl L1_15)), (hN, .inr (3, [.ref o0, .ref o1, .ref o2, .ref o3, .ref o4, .int (nI (kn))])), (o0, .inl (y0, 20, .inl q0)), (o1, .inl (y1, 20, .inl q1)), (o2, .inl (y2, 20, .inl q2)), (o3, .inl (y3, 20, .inl q3)), (o4, .inl (y4, 20, .inl q4)), (jA, .inr (0, [.ref i0, .ref i1, .ref i2, .ref i3, .int (nI (ka))])), (i0, .inl (x0, 6, .inl t0)), (i1, .inl (x1, 6, .inl t1)), (i2, .inl (x2, 6, .inl t2)), (i3, .inl (x3, 6, .inl t3))] H_20 := kJoinX hP hD [1, 2, 3, 4, 5, 6, 7, 8, 9, 10, 11, 12, 13, 14, 15, 16, 17, 18, 19, 20, 21, 22] rfl hk1 hFc hB.1 ht hB.2.2 rfl [none, some 0, some 1, some 2, some 3, some 4, some 5, some 6, some 7, some 8, some 9, some 10, some 11, some 12, some 13, some 14, some 15, some 16, some 17, some 18, some 19, some 20, some 21, none, none, none, none, none, none, none, none, none, none, none] rfl rfl
  have hP := hPD.1
  have hD := hPD.2
  refine lv_aload_n hx hb dX9_givesUpBy_18 rfl (lv_at hl 0 rfl) ?_
  refine va_get (D := (dC, dI)) (ci := 9) (v := .ref jC) (C := RX9) (T := TX9) (N := 10) hx hb hts (fun _ h => List.mem_cons_of_mem _ (List.mem_append_right _ (List.mem_append_left _ h))) hown hK hP 0 rfl rfl 6 kc_l_6_10 (hts (.fieldLink RX9 56 "NotEnded" "course" "LNotEnded$Course;") (List.mem_cons_of_mem _ (List.mem_append_left _ (List.mem_of_getElem? (i := 0) rfl)))) (fun _ h9 => h9) rfl dX9_givesUpBy_19 ?_
  refine lv_iload hx hb dX9_givesUpBy_22 (lv_at hl 3 rfl) ?_
  refine lv_aload_n hx hb dX9_givesUpBy_24 rfl (lv_at hl 0 rfl) ?_
  refine va_get (D := (dC, dI)) (ci := 9) (v := .ref jA) (C := RX9) (T := TX9) (N := 10) hx hb hts (fun _ h => List.mem_cons_of_mem _ (List.mem_append_right _ (List.mem_append_left _ h))) hown hK hP 0 rfl rfl 8 kc_l_8_10 (hts (.fieldLink RX9 70 "NotEnded" "acts" "LNotEnded$Acts;") (List.mem_cons_of_mem _ (List.mem_append_left _ (List.mem_of_getElem? (i := 1) rfl)))) (fun _ h9 => h9) rfl dX9_givesUpBy_25 ?_
  refine lv_iload hx hb dX9_givesUpBy_28 (lv_at hl 4 rfl) ?_
  have hPc := hP.sb (ws2 := [(jA, .inr (0, [.ref i0, .ref i1, .ref i2, .ref i3, .int (nI (ka))])), (i0, .inl (x0, 6, .inl t0)), (i1, .inl (x1, 6, .inl t1)), (i2, .inl (x2, 6, .inl t2)), (i3, .inl (x3, 6, .inl t3))]) [29, 30, 31, 32, 33] rfl
  have hKc := hK.sb (tys2 := [(x0, .int), (x1, .int), (x2, .int), (x3, .int)]) [24, 25, 26, 27] rfl
  refine vp_callSi (va_runV (As := [.int p3]) (rest := [.int p2, .ref jC]) ⟨hx, hb, hml, hown, hts⟩ (s_givenBackBy0 l dC dI jA i0 i1 i2 i3 x0 x1 x2 x3 t0 t1 t2 t3 ka hka p3) (cwV 1 hts (kG (List.forall_mem_cons.mpr ⟨(List.mem_cons_of_mem _ (List.mem_append_left _ (List.mem_of_getElem? (i := 12) rfl))), (List.forall_mem_cons.mpr ⟨(List.mem_cons_of_mem _ (List.mem_append_left _ (List.mem_of_getElem? (i := 11) rfl))), (List.forall_mem_cons.mpr ⟨(List.mem_cons_of_mem _ (List.mem_append_left _ (List.mem_of_getElem? (i := 10) rfl))), (List.forall_mem_cons.mpr ⟨(List.mem_cons_of_mem _ (List.mem_append_left _ (List.mem_of_getElem? (i := 2) rfl))), (fun _ h => absurd h List.not_mem_nil)⟩)⟩)⟩)⟩) (kGV _ _ _ _) (fun _ h => List.mem_cons_of_mem _ (List.mem_append_right _ (List.mem_append_right _ (List.mem_append_right _ (List.mem_append_right _ (List.mem_append_left _ h)))))) gw_s_givenBackBy0) rfl rfl rfl ⟨rfl, hd_X0_givenBackBy⟩ ⟨(Nat.le_of_ble_eq_true rfl), (Nat.le_of_ble_eq_true rfl)⟩) (kR_V kNL_blind (kNL_give hX.2) (va_recv hKc hPc (ci := 0) (q0 := 0) rfl rfl) hPc hKc) rfl rfl hl.1 rfl (lv_room (Nat.le_of_ble_eq_true rfl)) dX9_givesUpBy_30 ⟨(Nat.le_of_ble_eq_true rfl), (Nat.le_of_ble_eq_true rfl)⟩).run (fun r_22 hw => ?_)
  have hCu := kCut (wc := [(jC, .inr (1, [.ref hF, .ref jK, .ref d2, .ref d3, .ref d4, .ref d5, .ref d6, .ref d7, .ref d8, .ref d9, .ref d10, .ref d11, .ref d12, .ref d13, .ref ru, .long Dr_19, .int Pr_16, .int Mo_17, .int Ho_18])), (d2, .inl (w2, 10, .inl E2_2)), (d3, .inl (w3, 10, .inl E3_3)), (d4, .inl (w4, 10, .inl E4_4)), (d5, .inl (w5, 10, .inl E5_5)), (d6, .inl (w6, 10, .inl E6_6)), (d7, .inl (w7, 10, .inl E7_7)), (d8, .inl (w8, 10, .inl E8_8)), (d9, .inl (w9, 10, .inl E9_9)), (d10, .inl (w10, 4, .inl E10_10)), (d11, .inl (w11, 4, .inl E11_11)), (d12, .inl (w12, 4, .inl E12_12)), (d13, .inl (w13, 9, .inr (.inl E13_13))), (hF, .inr (2, [.ref f0, .ref f1, .ref f2, .ref f3, .ref f4, .int sn, .int (nI (ks)), .int (nI (kw))])), (f0, .inl (z0, 10, .inl g0)), (f1, .inl (z1, 10, .inl g1)), (f2, .inl (z2, 10, .inl g2)), (f3, .inl (z3, 10, .inl g3)), (f4, .inl (z4, 4, .inl g4)), (jK, .inr (5, [.ref k0, .ref k1])), (k0, .inl (cK, 8, .inl L0_14)), (k1, .inl (cO, 32, .inl L1_15))]) hP hD hS hA [1, 2, 3, 4, 5, 6, 7, 8, 9, 10, 11, 12, 13, 14, 15, 16, 17, 18, 19, 20, 21, 22] rfl kc_nd_425 rfl
  have hPc := hCu.1
  have hDc := hCu.2.1
  have hFc := hCu.2.2
  have hKc := hK.sb (tys2 := [(w2, .int), (w3, .int), (w4, .int), (w5, .int), (w6, .int), (w7, .int), (w8, .int), (w9, .int), (w10, .int), (w11, .int), (w12, .int), (w13, .long), (z0, .int), (z1, .int), (z2, .int), (z3, .int), (z4, .int), (cK, .int), (cO, .int), (cS, .int), (cc, .int)]) [0, 1, 2, 3, 4, 5, 6, 7, 8, 9, 10, 11, 12, 13, 14, 15, 16, 17, 18, 28, 29] rfl
  refine va_callv (va_runV (As := [.int p2, .int r_22]) (rest := []) ⟨hx, hb, hml, hown, hts⟩ (s_giveBack1 l dC dI jC d2 d3 d4 d5 d6 d7 d8 d9 d10 d11 d12 d13 w2 w3 w4 w5 w6 w7 w8 w9 w10 w11 w12 w13 E2_2 E3_3 E4_4 E5_5 E6_6 E7_7 E8_8 E9_9 E10_10 E11_11 E12_12 E13_13 Dr_19 Pr_16 Mo_17 Ho_18 hF f0 f1 f2 f3 f4 z0 z1 z2 z3 z4 g0 g1 g2 g3 g4 sn ks kw hks hkw jK k0 k1 cK cO L0_14 L1_15 ru sA cl cS cc nS nC gS gC hnS hnC p2 r_22 H_20.size) (cwV 2 hts (kG (List.forall_mem_cons.mpr ⟨(List.mem_cons_of_mem _ (List.mem_append_left _ (List.mem_of_getElem? (i := 15) rfl))), (List.forall_mem_cons.mpr ⟨(List.mem_cons_of_mem _ (List.mem_append_left _ (List.mem_of_getElem? (i := 14) rfl))), (List.forall_mem_cons.mpr ⟨(List.mem_cons_of_mem _ (List.mem_append_left _ (List.mem_of_getElem? (i := 13) rfl))), (List.forall_mem_cons.mpr ⟨(List.mem_cons_of_mem _ (List.mem_append_left _ (List.mem_of_getElem? (i := 6) rfl))), (fun _ h => absurd h List.not_mem_nil)⟩)⟩)⟩)⟩) (kGV _ _ _ _) (fun _ h => List.mem_cons_of_mem _ (List.mem_append_right _ (List.mem_append_right _ (List.mem_append_right _ (List.mem_append_right _ (List.mem_append_right _ (List.mem_append_left _ h))))))) gw_s_giveBack1) rfl rfl rfl ⟨rfl, hd_X1_giveBack⟩ ⟨(Nat.le_of_ble_eq_true rfl), (Nat.le_of_ble_eq_true rfl)⟩) (kW_V kNF_blind (kNF_give hX hS hFc) (va_recv hKc hPc (ci := 1) (q0 := 0) rfl rfl) hPc hKc hDc) rfl rfl hl.1 rfl (lv_room (Nat.le_of_ble_eq_true rfl)) dX9_givesUpBy_33 ⟨(Nat.le_of_ble_eq_true rfl), (Nat.le_of_ble_eq_true rfl)⟩) hS (fun q _ h => hFc q h) hFc (kU18 (fun E2_23 E3_24 E4_25 E5_26 E6_27 E7_28 E8_29 E9_30 E10_31 E11_32 E12_33 E13_34 L0_35 L1_36 Pr_37 Mo_38 Ho_39 Dr_40 t H_41 locs ht hvm hw hB hz1 hk1 hS => ?_))
  have hPD : kPD dC dI A [(jX, .inr (9, [.ref jT, .ref jR, .ref jK, .ref jL, .ref jU, .ref hF, .ref jC, .ref hN, .ref jA, .ref sd])), (jC, .inr (1, [.ref hF, .ref jK, .ref d2, .ref d3, .ref d4, .ref d5, .ref d6, .ref d7, .ref d8, .ref d9, .ref d10, .ref d11, .ref d12, .ref d13, .ref ru, .long Dr_40, .int Pr_37, .int Mo_38, .int Ho_39])), (d2, .inl (w2, 10, .inl E2_23)), (d3, .inl (w3, 10, .inl E3_24)), (d4, .inl (w4, 10, .inl E4_25)), (d5, .inl (w5, 10, .inl E5_26)), (d6, .inl (w6, 10, .inl E6_27)), (d7, .inl (w7, 10, .inl E7_28)), (d8, .inl (w8, 10, .inl E8_29)), (d9, .inl (w9, 10, .inl E9_30)), (d10, .inl (w10, 4, .inl E10_31)), (d11, .inl (w11, 4, .inl E11_32)), (d12, .inl (w12, 4, .inl E12_33)), (d13, .inl (w13, 9, .inr (.inl E13_34))), (hF, .inr (2, [.ref f0, .ref f1, .ref f2, .ref f3, .ref f4, .int sn, .int (nI (ks)), .int (nI (kw))])), (f0, .inl (z0, 10, .inl g0)), (f1, .inl (z1, 10, .inl g1)), (f2, .inl (z2, 10, .inl g2)), (f3, .inl (z3, 10, .inl g3)), (f4, .inl (z4, 4, .inl g4)), (jK, .inr (5, [.ref k0, .ref k1])), (k0, .inl (cK, 8, .inl L0_35)), (k1, .inl (cO, 32, .inl L1_36)), (hN, .inr (3, [.ref o0, .ref o1, .ref o2, .ref o3, .ref o4, .int (nI (kn))])), (o0, .inl (y0, 20, .inl q0)), (o1, .inl (y1, 20, .inl q1)), (o2, .inl (y2, 20, .inl q2)), (o3, .inl (y3, 20, .inl q3)), (o4, .inl (y4, 20, .inl q4)), (jA, .inr (0, [.ref i0, .ref i1, .ref i2, .ref i3, .int (nI (ka))])), (i0, .inl (x0, 6, .inl t0)), (i1, .inl (x1, 6, .inl t1)), (i2, .inl (x2, 6, .inl t2)), (i3, .inl (x3, 6, .inl t3))] H_41 := kJoinX hP hD [1, 2, 3, 4, 5, 6, 7, 8, 9, 10, 11, 12, 13, 14, 15, 16, 17, 18, 19, 20, 21, 22] rfl hk1 hFc hB.1 ht hB.2.2 rfl [none, some 0, some 1, some 2, some 3, some 4, some 5, some 6, some 7, some 8, some 9, some 10, some 11, some 12, some 13, some 14, some 15, some 16, some 17, some 18, some 19, some 20, some 21, none, none, none, none, none, none, none, none, none, none, none] rfl rfl
  have hP := hPD.1
  have hD := hPD.2
  refine lv_aload_n hx hb dX9_givesUpBy_36 rfl (lv_at hl 0 rfl) ?_
  refine va_get (D := (dC, dI)) (ci := 9) (v := .ref jA) (C := RX9) (T := TX9) (N := 10) hx hb hts (fun _ h => List.mem_cons_of_mem _ (List.mem_append_right _ (List.mem_append_left _ h))) hown hK hP 0 rfl rfl 8 kc_l_8_10 (hts (.fieldLink RX9 70 "NotEnded" "acts" "LNotEnded$Acts;") (List.mem_cons_of_mem _ (List.mem_append_left _ (List.mem_of_getElem? (i := 1) rfl)))) (fun _ h9 => h9) rfl dX9_givesUpBy_37 ?_
  refine lv_iload hx hb dX9_givesUpBy_40 (lv_at hl 4 rfl) ?_
  have hPc := hP.sb (ws2 := [(jA, .inr (0, [.ref i0, .ref i1, .ref i2, .ref i3, .int (nI (ka))])), (i0, .inl (x0, 6, .inl t0)), (i1, .inl (x1, 6, .inl t1)), (i2, .inl (x2, 6, .inl t2)), (i3, .inl (x3, 6, .inl t3))]) [29, 30, 31, 32, 33] rfl
  have hKc := hK.sb (tys2 := [(x0, .int), (x1, .int), (x2, .int), (x3, .int)]) [24, 25, 26, 27] rfl
  refine vp_callSi (va_runV (As := [.int p3]) (rest := []) ⟨hx, hb, hml, hown, hts⟩ (s_houseBy0 l dC dI jA i0 i1 i2 i3 x0 x1 x2 x3 t0 t1 t2 t3 ka hka p3) (cwV 1 hts (kG (List.forall_mem_cons.mpr ⟨(List.mem_cons_of_mem _ (List.mem_append_left _ (List.mem_of_getElem? (i := 18) rfl))), (List.forall_mem_cons.mpr ⟨(List.mem_cons_of_mem _ (List.mem_append_left _ (List.mem_of_getElem? (i := 17) rfl))), (List.forall_mem_cons.mpr ⟨(List.mem_cons_of_mem _ (List.mem_append_left _ (List.mem_of_getElem? (i := 16) rfl))), (List.forall_mem_cons.mpr ⟨(List.mem_cons_of_mem _ (List.mem_append_left _ (List.mem_of_getElem? (i := 2) rfl))), (fun _ h => absurd h List.not_mem_nil)⟩)⟩)⟩)⟩) (kGV _ _ _ _) (fun _ h => List.mem_cons_of_mem _ (List.mem_append_right _ (List.mem_append_right _ (List.mem_append_right _ (List.mem_append_right _ (List.mem_append_right _ (List.mem_append_right _ (List.mem_append_left _ h)))))))) gw_s_houseBy0) rfl rfl rfl ⟨rfl, hd_X0_houseBy⟩ ⟨(Nat.le_of_ble_eq_true rfl), (Nat.le_of_ble_eq_true rfl)⟩) (kR_V kNL_blind (kNL_give hX.2) (va_recv hKc hPc (ci := 0) (q0 := 0) rfl rfl) hPc hKc) rfl rfl hl.1 rfl (lv_room (Nat.le_of_ble_eq_true rfl)) dX9_givesUpBy_42 ⟨(Nat.le_of_ble_eq_true rfl), (Nat.le_of_ble_eq_true rfl)⟩).run (fun r_43 hw => ?_)
  refine lv_istore hx hb dX9_givesUpBy_45 hl kc_l_6_7 (kTo [(6, .int r_43), (0, .ref jX), (1, .ref ru), (2, .long p1), (4, .int p2), (5, .int p3)]) (fun ls hl => ?_)
  refine lv_iload hx hb dX9_givesUpBy_47 (lv_at hl 0 rfl) ?_
  refine lv_iconst (v := (-1)) hx hb dX9_givesUpBy_49 kc_i_m1 ?_
  refine lv_icmp_eq (tgt := 64) hx hb dX9_givesUpBy_50 kc_t_50_14 (fun c_44 => ?_) (fun c_44 => ?_)
  · refine lv_aload_n hx hb dX9_givesUpBy_64 rfl (lv_at hl 1 rfl) ?_
    refine va_get (D := (dC, dI)) (ci := 9) (v := .ref jC) (C := RX9) (T := TX9) (N := 10) hx hb hts (fun _ h => List.mem_cons_of_mem _ (List.mem_append_right _ (List.mem_append_left _ h))) hown hK hP 0 rfl rfl 6 kc_l_6_10 (hts (.fieldLink RX9 56 "NotEnded" "course" "LNotEnded$Course;") (List.mem_cons_of_mem _ (List.mem_append_left _ (List.mem_of_getElem? (i := 0) rfl)))) (fun _ h9 => h9) rfl dX9_givesUpBy_65 ?_
    refine lv_bipush (v := 48) hx hb dX9_givesUpBy_68 kc_b_48 ?_
    have hCu := kCut (wc := [(jC, .inr (1, [.ref hF, .ref jK, .ref d2, .ref d3, .ref d4, .ref d5, .ref d6, .ref d7, .ref d8, .ref d9, .ref d10, .ref d11, .ref d12, .ref d13, .ref ru, .long Dr_40, .int Pr_37, .int Mo_38, .int Ho_39])), (d2, .inl (w2, 10, .inl E2_23)), (d3, .inl (w3, 10, .inl E3_24)), (d4, .inl (w4, 10, .inl E4_25)), (d5, .inl (w5, 10, .inl E5_26)), (d6, .inl (w6, 10, .inl E6_27)), (d7, .inl (w7, 10, .inl E7_28)), (d8, .inl (w8, 10, .inl E8_29)), (d9, .inl (w9, 10, .inl E9_30)), (d10, .inl (w10, 4, .inl E10_31)), (d11, .inl (w11, 4, .inl E11_32)), (d12, .inl (w12, 4, .inl E12_33)), (d13, .inl (w13, 9, .inr (.inl E13_34))), (hF, .inr (2, [.ref f0, .ref f1, .ref f2, .ref f3, .ref f4, .int sn, .int (nI (ks)), .int (nI (kw))])), (f0, .inl (z0, 10, .inl g0)), (f1, .inl (z1, 10, .inl g1)), (f2, .inl (z2, 10, .inl g2)), (f3, .inl (z3, 10, .inl g3)), (f4, .inl (z4, 4, .inl g4)), (jK, .inr (5, [.ref k0, .ref k1])), (k0, .inl (cK, 8, .inl L0_35)), (k1, .inl (cO, 32, .inl L1_36))]) hP hD hS hA [1, 2, 3, 4, 5, 6, 7, 8, 9, 10, 11, 12, 13, 14, 15, 16, 17, 18, 19, 20, 21, 22] rfl kc_nd_425 rfl
    have hPc := hCu.1
    have hDc := hCu.2.1
    have hFc := hCu.2.2
    have hKc := hK.sb (tys2 := [(w2, .int), (w3, .int), (w4, .int), (w5, .int), (w6, .int), (w7, .int), (w8, .int), (w9, .int), (w10, .int), (w11, .int), (w12, .int), (w13, .long), (z0, .int), (z1, .int), (z2, .int), (z3, .int), (z4, .int), (cK, .int), (cO, .int), (cS, .int), (cc, .int)]) [0, 1, 2, 3, 4, 5, 6, 7, 8, 9, 10, 11, 12, 13, 14, 15, 16, 17, 18, 28, 29] rfl
    refine va_callv (va_runV (As := [.int 48]) (rest := []) ⟨hx, hb, hml, hown, hts⟩ (s_go1 l dC dI jC d2 d3 d4 d5 d6 d7 d8 d9 d10 d11 d12 d13 w2 w3 w4 w5 w6 w7 w8 w9 w10 w11 w12 w13 E2_23 E3_24 E4_25 E5_26 E6_27 E7_28 E8_29 E9_30 E10_31 E11_32 E12_33 E13_34 Dr_40 Pr_37 Mo_38 Ho_39 hF f0 f1 f2 f3 f4 z0 z1 z2 z3 z4 g0 g1 g2 g3 g4 sn ks kw hks hkw jK k0 k1 cK cO L0_35 L1_36 ru sA cl cS cc nS nC gS gC hnS hnC 48 H_41.size) (cwV 1 hts (kG (List.forall_mem_cons.mpr ⟨(List.mem_cons_of_mem _ (List.mem_append_left _ (List.mem_of_getElem? (i := 21) rfl))), (List.forall_mem_cons.mpr ⟨(List.mem_cons_of_mem _ (List.mem_append_left _ (List.mem_of_getElem? (i := 20) rfl))), (List.forall_mem_cons.mpr ⟨(List.mem_cons_of_mem _ (List.mem_append_left _ (List.mem_of_getElem? (i := 19) rfl))), (List.forall_mem_cons.mpr ⟨(List.mem_cons_of_mem _ (List.mem_append_left _ (List.mem_of_getElem? (i := 6) rfl))), (fun _ h => absurd h List.not_mem_nil)⟩)⟩)⟩)⟩) (kGV _ _ _ _) (fun _ h => List.mem_cons_of_mem _ (List.mem_append_right _ (List.mem_append_right _ (List.mem_append_right _ (List.mem_append_right _ (List.mem_append_right _ (List.mem_append_right _ (List.mem_append_right _ (List.mem_append_left _ h))))))))) gw_s_go1) rfl rfl rfl ⟨rfl, hd_X1_go⟩ ⟨(Nat.le_of_ble_eq_true rfl), (Nat.le_of_ble_eq_true rfl)⟩) (kW_V kNF_blind (kNF_give hX hS hFc) (va_recv hKc hPc (ci := 1) (q0 := 0) rfl rfl) hPc hKc hDc) rfl rfl hl.1 rfl (lv_room (Nat.le_of_ble_eq_true rfl)) dX9_givesUpBy_70 ⟨(Nat.le_of_ble_eq_true rfl), (Nat.le_of_ble_eq_true rfl)⟩) hS (fun q _ h => hFc q h) hFc (kU18 (fun E2_45 E3_46 E4_47 E5_48 E6_49 E7_50 E8_51 E9_52 E10_53 E11_54 E12_55 E13_56 L0_57 L1_58 Pr_59 Mo_60 Ho_61 Dr_62 t H_63 locs ht hvm hw hB hz1 hk1 hS => ?_))
    have hPD : kPD dC dI A [(jX, .inr (9, [.ref jT, .ref jR, .ref jK, .ref jL, .ref jU, .ref hF, .ref jC, .ref hN, .ref jA, .ref sd])), (jC, .inr (1, [.ref hF, .ref jK, .ref d2, .ref d3, .ref d4, .ref d5, .ref d6, .ref d7, .ref d8, .ref d9, .ref d10, .ref d11, .ref d12, .ref d13, .ref ru, .long Dr_62, .int Pr_59, .int Mo_60, .int Ho_61])), (d2, .inl (w2, 10, .inl E2_45)), (d3, .inl (w3, 10, .inl E3_46)), (d4, .inl (w4, 10, .inl E4_47)), (d5, .inl (w5, 10, .inl E5_48)), (d6, .inl (w6, 10, .inl E6_49)), (d7, .inl (w7, 10, .inl E7_50)), (d8, .inl (w8, 10, .inl E8_51)), (d9, .inl (w9, 10, .inl E9_52)), (d10, .inl (w10, 4, .inl E10_53)), (d11, .inl (w11, 4, .inl E11_54)), (d12, .inl (w12, 4, .inl E12_55)), (d13, .inl (w13, 9, .inr (.inl E13_56))), (hF, .inr (2, [.ref f0, .ref f1, .ref f2, .ref f3, .ref f4, .int sn, .int (nI (ks)), .int (nI (kw))])), (f0, .inl (z0, 10, .inl g0)), (f1, .inl (z1, 10, .inl g1)), (f2, .inl (z2, 10, .inl g2)), (f3, .inl (z3, 10, .inl g3)), (f4, .inl (z4, 4, .inl g4)), (jK, .inr (5, [.ref k0, .ref k1])), (k0, .inl (cK, 8, .inl L0_57)), (k1, .inl (cO, 32, .inl L1_58)), (hN, .inr (3, [.ref o0, .ref o1, .ref o2, .ref o3, .ref o4, .int (nI (kn))])), (o0, .inl (y0, 20, .inl q0)), (o1, .inl (y1, 20, .inl q1)), (o2, .inl (y2, 20, .inl q2)), (o3, .inl (y3, 20, .inl q3)), (o4, .inl (y4, 20, .inl q4)), (jA, .inr (0, [.ref i0, .ref i1, .ref i2, .ref i3, .int (nI (ka))])), (i0, .inl (x0, 6, .inl t0)), (i1, .inl (x1, 6, .inl t1)), (i2, .inl (x2, 6, .inl t2)), (i3, .inl (x3, 6, .inl t3))] H_63 := kJoinX hP hD [1, 2, 3, 4, 5, 6, 7, 8, 9, 10, 11, 12, 13, 14, 15, 16, 17, 18, 19, 20, 21, 22] rfl hk1 hFc hB.1 ht hB.2.2 rfl [none, some 0, some 1, some 2, some 3, some 4, some 5, some 6, some 7, some 8, some 9, some 10, some 11, some 12, some 13, some 14, some 15, some 16, some 17, some 18, some 19, some 20, some 21, none, none, none, none, none, none, none, none, none, none, none] rfl rfl
    have hP := hPD.1
    have hD := hPD.2
    refine lv_aload_n hx hb dX9_givesUpBy_73 rfl (lv_at hl 1 rfl) ?_
    refine va_get (D := (dC, dI)) (ci := 9) (v := .ref jC) (C := RX9) (T := TX9) (N := 10) hx hb hts (fun _ h => List.mem_cons_of_mem _ (List.mem_append_right _ (List.mem_append_left _ h))) hown hK hP 0 rfl rfl 6 kc_l_6_10 (hts (.fieldLink RX9 56 "NotEnded" "course" "LNotEnded$Course;") (List.mem_cons_of_mem _ (List.mem_append_left _ (List.mem_of_getElem? (i := 0) rfl)))) (fun _ h9 => h9) rfl dX9_givesUpBy_74 ?_
    refine lv_iload hx hb dX9_givesUpBy_77 (lv_at hl 4 rfl) ?_
    have hPc := hP.sb (ws2 := [(jC, .inr (1, [.ref hF, .ref jK, .ref d2, .ref d3, .ref d4, .ref d5, .ref d6, .ref d7, .ref d8, .ref d9, .ref d10, .ref d11, .ref d12, .ref d13, .ref ru, .long Dr_62, .int Pr_59, .int Mo_60, .int Ho_61])), (d2, .inl (w2, 10, .inl E2_45)), (d3, .inl (w3, 10, .inl E3_46)), (d4, .inl (w4, 10, .inl E4_47)), (d5, .inl (w5, 10, .inl E5_48)), (d6, .inl (w6, 10, .inl E6_49)), (d7, .inl (w7, 10, .inl E7_50)), (d8, .inl (w8, 10, .inl E8_51)), (d9, .inl (w9, 10, .inl E9_52)), (d10, .inl (w10, 4, .inl E10_53)), (d11, .inl (w11, 4, .inl E11_54)), (d12, .inl (w12, 4, .inl E12_55)), (d13, .inl (w13, 9, .inr (.inl E13_56))), (hF, .inr (2, [.ref f0, .ref f1, .ref f2, .ref f3, .ref f4, .int sn, .int (nI (ks)), .int (nI (kw))])), (f0, .inl (z0, 10, .inl g0)), (f1, .inl (z1, 10, .inl g1)), (f2, .inl (z2, 10, .inl g2)), (f3, .inl (z3, 10, .inl g3)), (f4, .inl (z4, 4, .inl g4)), (jK, .inr (5, [.ref k0, .ref k1])), (k0, .inl (cK, 8, .inl L0_57)), (k1, .inl (cO, 32, .inl L1_58))]) [1, 2, 3, 4, 5, 6, 7, 8, 9, 10, 11, 12, 13, 14, 15, 16, 17, 18, 19, 20, 21, 22] rfl
    have hKc := hK.sb (tys2 := [(w2, .int), (w3, .int), (w4, .int), (w5, .int), (w6, .int), (w7, .int), (w8, .int), (w9, .int), (w10, .int), (w11, .int), (w12, .int), (w13, .long), (z0, .int), (z1, .int), (z2, .int), (z3, .int), (z4, .int), (cK, .int), (cO, .int), (cS, .int), (cc, .int)]) [0, 1, 2, 3, 4, 5, 6, 7, 8, 9, 10, 11, 12, 13, 14, 15, 16, 17, 18, 28, 29] rfl
    refine vp_callSi (va_runV (As := [.int p2]) (rest := []) ⟨hx, hb, hml, hown, hts⟩ (s_heldBy1 l dC dI jC d2 d3 d4 d5 d6 d7 d8 d9 d10 d11 d12 d13 w2 w3 w4 w5 w6 w7 w8 w9 w10 w11 w12 w13 E2_45 E3_46 E4_47 E5_48 E6_49 E7_50 E8_51 E9_52 E10_53 E11_54 E12_55 E13_56 Dr_62 Pr_59 Mo_60 Ho_61 hF f0 f1 f2 f3 f4 z0 z1 z2 z3 z4 g0 g1 g2 g3 g4 sn ks kw hks hkw jK k0 k1 cK cO L0_57 L1_58 ru sA cl cS cc nS nC gS gC hnS hnC A p2) (cwV 1 hts (kG (List.forall_mem_cons.mpr ⟨(List.mem_cons_of_mem _ (List.mem_append_left _ (List.mem_of_getElem? (i := 24) rfl))), (List.forall_mem_cons.mpr ⟨(List.mem_cons_of_mem _ (List.mem_append_left _ (List.mem_of_getElem? (i := 23) rfl))), (List.forall_mem_cons.mpr ⟨(List.mem_cons_of_mem _ (List.mem_append_left _ (List.mem_of_getElem? (i := 22) rfl))), (List.forall_mem_cons.mpr ⟨(List.mem_cons_of_mem _ (List.mem_append_left _ (List.mem_of_getElem? (i := 6) rfl))), (fun _ h => absurd h List.not_mem_nil)⟩)⟩)⟩)⟩) (kGV _ _ _ _) (fun _ h => List.mem_cons_of_mem _ (List.mem_append_right _ (List.mem_append_right _ (List.mem_append_right _ (List.mem_append_right _ (List.mem_append_right _ (List.mem_append_right _ (List.mem_append_right _ (List.mem_append_right _ (List.mem_append_left _ h)))))))))) gw_s_heldBy1) rfl rfl rfl ⟨rfl, hd_X1_heldBy⟩ ⟨(Nat.le_of_ble_eq_true rfl), (Nat.le_of_ble_eq_true rfl)⟩) (kR_V kNF_blind (kNF_give hX hS (fun _ h => h)) (va_recv hKc hPc (ci := 1) (q0 := 0) rfl rfl) hPc hKc) rfl rfl hl.1 rfl (lv_room (Nat.le_of_ble_eq_true rfl)) dX9_givesUpBy_79 ⟨(Nat.le_of_ble_eq_true rfl), (Nat.le_of_ble_eq_true rfl)⟩).run (fun r_65 hw => ?_)
    refine lv_bipush (v := 20) hx hb dX9_givesUpBy_82 kc_b_20 ?_
    refine lv_icmp_ge (tgt := 91) hx hb dX9_givesUpBy_84 kc_t_84_7 (fun c_66 => ?_) (fun c_66 => ?_)
    · refine lv_iconst (v := 0) hx hb dX9_givesUpBy_91 kc_i_0 ?_
      have hP9 := hP
      have hD9 := hD
      have hK9 := hK
      rw [hQ]
      exact W.zret (v := 0) hx hb hr rfl (fun t ht hW => ⟨⟨0, (E2_45, E3_46, E4_47, E5_48, E6_49, E7_50, E8_51, E9_52, E10_53, E11_54, E12_55, E13_56, L0_57, L1_58, Pr_59, Mo_60, Ho_61, Dr_62, (.ref ru : Value)), rfl, (Or.inl rfl),  by rw [ht]; exact hP9, va_K.moved hW.alike hK9, hD9⟩, hS.F ht⟩) hS.2.2 dX9_givesUpBy_92
    · refine lv_iconst (v := 1) hx hb dX9_givesUpBy_87 kc_i_1 ?_
      refine lv_goto (tgt := 92) hx hb dX9_givesUpBy_88 kc_t_88_4 ?_
      have hP9 := hP
      have hD9 := hD
      have hK9 := hK
      rw [hQ]
      exact W.zret (v := 1) hx hb hr rfl (fun t ht hW => ⟨⟨1, (E2_45, E3_46, E4_47, E5_48, E6_49, E7_50, E8_51, E9_52, E10_53, E11_54, E12_55, E13_56, L0_57, L1_58, Pr_59, Mo_60, Ho_61, Dr_62, (.ref ru : Value)), rfl, (Or.inr rfl),  by rw [ht]; exact hP9, va_K.moved hW.alike hK9, hD9⟩, hS.F ht⟩) hS.2.2 dX9_givesUpBy_92
  · refine lv_aload_n hx hb dX9_givesUpBy_53 rfl (lv_at hl 1 rfl) ?_
    refine va_get (D := (dC, dI)) (ci := 9) (v := .ref jC) (C := RX9) (T := TX9) (N := 10) hx hb hts (fun _ h => List.mem_cons_of_mem _ (List.mem_append_right _ (List.mem_append_left _ h))) hown hK hP 0 rfl rfl 6 kc_l_6_10 (hts (.fieldLink RX9 56 "NotEnded" "course" "LNotEnded$Course;") (List.mem_cons_of_mem _ (List.mem_append_left _ (List.mem_of_getElem? (i := 0) rfl)))) (fun _ h9 => h9) rfl dX9_givesUpBy_54 ?_
    refine lv_iload hx hb dX9_givesUpBy_57 (lv_at hl 4 rfl) ?_
    refine lv_iload hx hb dX9_givesUpBy_59 (lv_at hl 0 rfl) ?_
    have hCu := kCut (wc := [(jC, .inr (1, [.ref hF, .ref jK, .ref d2, .ref d3, .ref d4, .ref d5, .ref d6, .ref d7, .ref d8, .ref d9, .ref d10, .ref d11, .ref d12, .ref d13, .ref ru, .long Dr_40, .int Pr_37, .int Mo_38, .int Ho_39])), (d2, .inl (w2, 10, .inl E2_23)), (d3, .inl (w3, 10, .inl E3_24)), (d4, .inl (w4, 10, .inl E4_25)), (d5, .inl (w5, 10, .inl E5_26)), (d6, .inl (w6, 10, .inl E6_27)), (d7, .inl (w7, 10, .inl E7_28)), (d8, .inl (w8, 10, .inl E8_29)), (d9, .inl (w9, 10, .inl E9_30)), (d10, .inl (w10, 4, .inl E10_31)), (d11, .inl (w11, 4, .inl E11_32)), (d12, .inl (w12, 4, .inl E12_33)), (d13, .inl (w13, 9, .inr (.inl E13_34))), (hF, .inr (2, [.ref f0, .ref f1, .ref f2, .ref f3, .ref f4, .int sn, .int (nI (ks)), .int (nI (kw))])), (f0, .inl (z0, 10, .inl g0)), (f1, .inl (z1, 10, .inl g1)), (f2, .inl (z2, 10, .inl g2)), (f3, .inl (z3, 10, .inl g3)), (f4, .inl (z4, 4, .inl g4)), (jK, .inr (5, [.ref k0, .ref k1])), (k0, .inl (cK, 8, .inl L0_35)), (k1, .inl (cO, 32, .inl L1_36))]) hP hD hS hA [1, 2, 3, 4, 5, 6, 7, 8, 9, 10, 11, 12, 13, 14, 15, 16, 17, 18, 19, 20, 21, 22] rfl kc_nd_425 rfl
    have hPc := hCu.1
    have hDc := hCu.2.1
    have hFc := hCu.2.2
    have hKc := hK.sb (tys2 := [(w2, .int), (w3, .int), (w4, .int), (w5, .int), (w6, .int), (w7, .int), (w8, .int), (w9, .int), (w10, .int), (w11, .int), (w12, .int), (w13, .long), (z0, .int), (z1, .int), (z2, .int), (z3, .int), (z4, .int), (cK, .int), (cO, .int), (cS, .int), (cc, .int)]) [0, 1, 2, 3, 4, 5, 6, 7, 8, 9, 10, 11, 12, 13, 14, 15, 16, 17, 18, 28, 29] rfl
    refine va_callv (va_runV (As := [.int p2, .int r_43]) (rest := []) ⟨hx, hb, hml, hown, hts⟩ (s_moveTo1 l dC dI jC d2 d3 d4 d5 d6 d7 d8 d9 d10 d11 d12 d13 w2 w3 w4 w5 w6 w7 w8 w9 w10 w11 w12 w13 E2_23 E3_24 E4_25 E5_26 E6_27 E7_28 E8_29 E9_30 E10_31 E11_32 E12_33 E13_34 Dr_40 Pr_37 Mo_38 Ho_39 hF f0 f1 f2 f3 f4 z0 z1 z2 z3 z4 g0 g1 g2 g3 g4 sn ks kw hks hkw jK k0 k1 cK cO L0_35 L1_36 ru sA cl cS cc nS nC gS gC hnS hnC p2 r_43 H_41.size) (cwV 2 hts (kG (List.forall_mem_cons.mpr ⟨(List.mem_cons_of_mem _ (List.mem_append_left _ (List.mem_of_getElem? (i := 27) rfl))), (List.forall_mem_cons.mpr ⟨(List.mem_cons_of_mem _ (List.mem_append_left _ (List.mem_of_getElem? (i := 26) rfl))), (List.forall_mem_cons.mpr ⟨(List.mem_cons_of_mem _ (List.mem_append_left _ (List.mem_of_getElem? (i := 25) rfl))), (List.forall_mem_cons.mpr ⟨(List.mem_cons_of_mem _ (List.mem_append_left _ (List.mem_of_getElem? (i := 6) rfl))), (fun _ h => absurd h List.not_mem_nil)⟩)⟩)⟩)⟩) (kGV _ _ _ _) (fun _ h => List.mem_cons_of_mem _ (List.mem_append_right _ (List.mem_append_right _ (List.mem_append_right _ (List.mem_append_right _ (List.mem_append_right _ (List.mem_append_right _ (List.mem_append_right _ (List.mem_append_right _ (List.mem_append_right _ h)))))))))) gw_s_moveTo1) rfl rfl rfl ⟨rfl, hd_X1_moveTo⟩ ⟨(Nat.le_of_ble_eq_true rfl), (Nat.le_of_ble_eq_true rfl)⟩) (kW_V kNF_blind (kNF_give hX hS hFc) (va_recv hKc hPc (ci := 1) (q0 := 0) rfl rfl) hPc hKc hDc) rfl rfl hl.1 rfl (lv_room (Nat.le_of_ble_eq_true rfl)) dX9_givesUpBy_61 ⟨(Nat.le_of_ble_eq_true rfl), (Nat.le_of_ble_eq_true rfl)⟩) hS (fun q _ h => hFc q h) hFc (kU18 (fun E2_67 E3_68 E4_69 E5_70 E6_71 E7_72 E8_73 E9_74 E10_75 E11_76 E12_77 E13_78 L0_79 L1_80 Pr_81 Mo_82 Ho_83 Dr_84 t H_85 locs ht hvm hw hB hz1 hk1 hS => ?_))
    have hPD : kPD dC dI A [(jX, .inr (9, [.ref jT, .ref jR, .ref jK, .ref jL, .ref jU, .ref hF, .ref jC, .ref hN, .ref jA, .ref sd])), (jC, .inr (1, [.ref hF, .ref jK, .ref d2, .ref d3, .ref d4, .ref d5, .ref d6, .ref d7, .ref d8, .ref d9, .ref d10, .ref d11, .ref d12, .ref d13, .ref ru, .long Dr_84, .int Pr_81, .int Mo_82, .int Ho_83])), (d2, .inl (w2, 10, .inl E2_67)), (d3, .inl (w3, 10, .inl E3_68)), (d4, .inl (w4, 10, .inl E4_69)), (d5, .inl (w5, 10, .inl E5_70)), (d6, .inl (w6, 10, .inl E6_71)), (d7, .inl (w7, 10, .inl E7_72)), (d8, .inl (w8, 10, .inl E8_73)), (d9, .inl (w9, 10, .inl E9_74)), (d10, .inl (w10, 4, .inl E10_75)), (d11, .inl (w11, 4, .inl E11_76)), (d12, .inl (w12, 4, .inl E12_77)), (d13, .inl (w13, 9, .inr (.inl E13_78))), (hF, .inr (2, [.ref f0, .ref f1, .ref f2, .ref f3, .ref f4, .int sn, .int (nI (ks)), .int (nI (kw))])), (f0, .inl (z0, 10, .inl g0)), (f1, .inl (z1, 10, .inl g1)), (f2, .inl (z2, 10, .inl g2)), (f3, .inl (z3, 10, .inl g3)), (f4, .inl (z4, 4, .inl g4)), (jK, .inr (5, [.ref k0, .ref k1])), (k0, .inl (cK, 8, .inl L0_79)), (k1, .inl (cO, 32, .inl L1_80)), (hN, .inr (3, [.ref o0, .ref o1, .ref o2, .ref o3, .ref o4, .int (nI (kn))])), (o0, .inl (y0, 20, .inl q0)), (o1, .inl (y1, 20, .inl q1)), (o2, .inl (y2, 20, .inl q2)), (o3, .inl (y3, 20, .inl q3)), (o4, .inl (y4, 20, .inl q4)), (jA, .inr (0, [.ref i0, .ref i1, .ref i2, .ref i3, .int (nI (ka))])), (i0, .inl (x0, 6, .inl t0)), (i1, .inl (x1, 6, .inl t1)), (i2, .inl (x2, 6, .inl t2)), (i3, .inl (x3, 6, .inl t3))] H_85 := kJoinX hP hD [1, 2, 3, 4, 5, 6, 7, 8, 9, 10, 11, 12, 13, 14, 15, 16, 17, 18, 19, 20, 21, 22] rfl hk1 hFc hB.1 ht hB.2.2 rfl [none, some 0, some 1, some 2, some 3, some 4, some 5, some 6, some 7, some 8, some 9, some 10, some 11, some 12, some 13, some 14, some 15, some 16, some 17, some 18, some 19, some 20, some 21, none, none, none, none, none, none, none, none, none, none, none] rfl rfl
    have hP := hPD.1
    have hD := hPD.2
    refine lv_aload_n hx hb dX9_givesUpBy_64 rfl (lv_at hl 1 rfl) ?_
    refine va_get (D := (dC, dI)) (ci := 9) (v := .ref jC) (C := RX9) (T := TX9) (N := 10) hx hb hts (fun _ h => List.mem_cons_of_mem _ (List.mem_append_right _ (List.mem_append_left _ h))) hown hK hP 0 rfl rfl 6 kc_l_6_10 (hts (.fieldLink RX9 56 "NotEnded" "course" "LNotEnded$Course;") (List.mem_cons_of_mem _ (List.mem_append_left _ (List.mem_of_getElem? (i := 0) rfl)))) (fun _ h9 => h9) rfl dX9_givesUpBy_65 ?_
    refine lv_bipush (v := 48) hx hb dX9_givesUpBy_68 kc_b_48 ?_
    have hCu := kCut (wc := [(jC, .inr (1, [.ref hF, .ref jK, .ref d2, .ref d3, .ref d4, .ref d5, .ref d6, .ref d7, .ref d8, .ref d9, .ref d10, .ref d11, .ref d12, .ref d13, .ref ru, .long Dr_84, .int Pr_81, .int Mo_82, .int Ho_83])), (d2, .inl (w2, 10, .inl E2_67)), (d3, .inl (w3, 10, .inl E3_68)), (d4, .inl (w4, 10, .inl E4_69)), (d5, .inl (w5, 10, .inl E5_70)), (d6, .inl (w6, 10, .inl E6_71)), (d7, .inl (w7, 10, .inl E7_72)), (d8, .inl (w8, 10, .inl E8_73)), (d9, .inl (w9, 10, .inl E9_74)), (d10, .inl (w10, 4, .inl E10_75)), (d11, .inl (w11, 4, .inl E11_76)), (d12, .inl (w12, 4, .inl E12_77)), (d13, .inl (w13, 9, .inr (.inl E13_78))), (hF, .inr (2, [.ref f0, .ref f1, .ref f2, .ref f3, .ref f4, .int sn, .int (nI (ks)), .int (nI (kw))])), (f0, .inl (z0, 10, .inl g0)), (f1, .inl (z1, 10, .inl g1)), (f2, .inl (z2, 10, .inl g2)), (f3, .inl (z3, 10, .inl g3)), (f4, .inl (z4, 4, .inl g4)), (jK, .inr (5, [.ref k0, .ref k1])), (k0, .inl (cK, 8, .inl L0_79)), (k1, .inl (cO, 32, .inl L1_80))]) hP hD hS hA [1, 2, 3, 4, 5, 6, 7, 8, 9, 10, 11, 12, 13, 14, 15, 16, 17, 18, 19, 20, 21, 22] rfl kc_nd_425 rfl
    have hPc := hCu.1
    have hDc := hCu.2.1
    have hFc := hCu.2.2
    have hKc := hK.sb (tys2 := [(w2, .int), (w3, .int), (w4, .int), (w5, .int), (w6, .int), (w7, .int), (w8, .int), (w9, .int), (w10, .int), (w11, .int), (w12, .int), (w13, .long), (z0, .int), (z1, .int), (z2, .int), (z3, .int), (z4, .int), (cK, .int), (cO, .int), (cS, .int), (cc, .int)]) [0, 1, 2, 3, 4, 5, 6, 7, 8, 9, 10, 11, 12, 13, 14, 15, 16, 17, 18, 28, 29] rfl
    refine va_callv (va_runV (As := [.int 48]) (rest := []) ⟨hx, hb, hml, hown, hts⟩ (s_go1 l dC dI jC d2 d3 d4 d5 d6 d7 d8 d9 d10 d11 d12 d13 w2 w3 w4 w5 w6 w7 w8 w9 w10 w11 w12 w13 E2_67 E3_68 E4_69 E5_70 E6_71 E7_72 E8_73 E9_74 E10_75 E11_76 E12_77 E13_78 Dr_84 Pr_81 Mo_82 Ho_83 hF f0 f1 f2 f3 f4 z0 z1 z2 z3 z4 g0 g1 g2 g3 g4 sn ks kw hks hkw jK k0 k1 cK cO L0_79 L1_80 ru sA cl cS cc nS nC gS gC hnS hnC 48 H_85.size) (cwV 1 hts (kG (List.forall_mem_cons.mpr ⟨(List.mem_cons_of_mem _ (List.mem_append_left _ (List.mem_of_getElem? (i := 21) rfl))), (List.forall_mem_cons.mpr ⟨(List.mem_cons_of_mem _ (List.mem_append_left _ (List.mem_of_getElem? (i := 20) rfl))), (List.forall_mem_cons.mpr ⟨(List.mem_cons_of_mem _ (List.mem_append_left _ (List.mem_of_getElem? (i := 19) rfl))), (List.forall_mem_cons.mpr ⟨(List.mem_cons_of_mem _ (List.mem_append_left _ (List.mem_of_getElem? (i := 6) rfl))), (fun _ h => absurd h List.not_mem_nil)⟩)⟩)⟩)⟩) (kGV _ _ _ _) (fun _ h => List.mem_cons_of_mem _ (List.mem_append_right _ (List.mem_append_right _ (List.mem_append_right _ (List.mem_append_right _ (List.mem_append_right _ (List.mem_append_right _ (List.mem_append_right _ (List.mem_append_left _ h))))))))) gw_s_go1) rfl rfl rfl ⟨rfl, hd_X1_go⟩ ⟨(Nat.le_of_ble_eq_true rfl), (Nat.le_of_ble_eq_true rfl)⟩) (kW_V kNF_blind (kNF_give hX hS hFc) (va_recv hKc hPc (ci := 1) (q0 := 0) rfl rfl) hPc hKc hDc) rfl rfl hl.1 rfl (lv_room (Nat.le_of_ble_eq_true rfl)) dX9_givesUpBy_70 ⟨(Nat.le_of_ble_eq_true rfl), (Nat.le_of_ble_eq_true rfl)⟩) hS (fun q _ h => hFc q h) hFc (kU18 (fun E2_87 E3_88 E4_89 E5_90 E6_91 E7_92 E8_93 E9_94 E10_95 E11_96 E12_97 E13_98 L0_99 L1_100 Pr_101 Mo_102 Ho_103 Dr_104 t H_105 locs ht hvm hw hB hz1 hk1 hS => ?_))
    have hPD : kPD dC dI A [(jX, .inr (9, [.ref jT, .ref jR, .ref jK, .ref jL, .ref jU, .ref hF, .ref jC, .ref hN, .ref jA, .ref sd])), (jC, .inr (1, [.ref hF, .ref jK, .ref d2, .ref d3, .ref d4, .ref d5, .ref d6, .ref d7, .ref d8, .ref d9, .ref d10, .ref d11, .ref d12, .ref d13, .ref ru, .long Dr_104, .int Pr_101, .int Mo_102, .int Ho_103])), (d2, .inl (w2, 10, .inl E2_87)), (d3, .inl (w3, 10, .inl E3_88)), (d4, .inl (w4, 10, .inl E4_89)), (d5, .inl (w5, 10, .inl E5_90)), (d6, .inl (w6, 10, .inl E6_91)), (d7, .inl (w7, 10, .inl E7_92)), (d8, .inl (w8, 10, .inl E8_93)), (d9, .inl (w9, 10, .inl E9_94)), (d10, .inl (w10, 4, .inl E10_95)), (d11, .inl (w11, 4, .inl E11_96)), (d12, .inl (w12, 4, .inl E12_97)), (d13, .inl (w13, 9, .inr (.inl E13_98))), (hF, .inr (2, [.ref f0, .ref f1, .ref f2, .ref f3, .ref f4, .int sn, .int (nI (ks)), .int (nI (kw))])), (f0, .inl (z0, 10, .inl g0)), (f1, .inl (z1, 10, .inl g1)), (f2, .inl (z2, 10, .inl g2)), (f3, .inl (z3, 10, .inl g3)), (f4, .inl (z4, 4, .inl g4)), (jK, .inr (5, [.ref k0, .ref k1])), (k0, .inl (cK, 8, .inl L0_99)), (k1, .inl (cO, 32, .inl L1_100)), (hN, .inr (3, [.ref o0, .ref o1, .ref o2, .ref o3, .ref o4, .int (nI (kn))])), (o0, .inl (y0, 20, .inl q0)), (o1, .inl (y1, 20, .inl q1)), (o2, .inl (y2, 20, .inl q2)), (o3, .inl (y3, 20, .inl q3)), (o4, .inl (y4, 20, .inl q4)), (jA, .inr (0, [.ref i0, .ref i1, .ref i2, .ref i3, .int (nI (ka))])), (i0, .inl (x0, 6, .inl t0)), (i1, .inl (x1, 6, .inl t1)), (i2, .inl (x2, 6, .inl t2)), (i3, .inl (x3, 6, .inl t3))] H_105 := kJoinX hP hD [1, 2, 3, 4, 5, 6, 7, 8, 9, 10, 11, 12, 13, 14, 15, 16, 17, 18, 19, 20, 21, 22] rfl hk1 hFc hB.1 ht hB.2.2 rfl [none, some 0, some 1, some 2, some 3, some 4, some 5, some 6, some 7, some 8, some 9, some 10, some 11, some 12, some 13, some 14, some 15, some 16, some 17, some 18, some 19, some 20, some 21, none, none, none, none, none, none, none, none, none, none, none] rfl rfl
    have hP := hPD.1
    have hD := hPD.2
    refine lv_aload_n hx hb dX9_givesUpBy_73 rfl (lv_at hl 1 rfl) ?_
    refine va_get (D := (dC, dI)) (ci := 9) (v := .ref jC) (C := RX9) (T := TX9) (N := 10) hx hb hts (fun _ h => List.mem_cons_of_mem _ (List.mem_append_right _ (List.mem_append_left _ h))) hown hK hP 0 rfl rfl 6 kc_l_6_10 (hts (.fieldLink RX9 56 "NotEnded" "course" "LNotEnded$Course;") (List.mem_cons_of_mem _ (List.mem_append_left _ (List.mem_of_getElem? (i := 0) rfl)))) (fun _ h9 => h9) rfl dX9_givesUpBy_74 ?_
    refine lv_iload hx hb dX9_givesUpBy_77 (lv_at hl 4 rfl) ?_
    have hPc := hP.sb (ws2 := [(jC, .inr (1, [.ref hF, .ref jK, .ref d2, .ref d3, .ref d4, .ref d5, .ref d6, .ref d7, .ref d8, .ref d9, .ref d10, .ref d11, .ref d12, .ref d13, .ref ru, .long Dr_104, .int Pr_101, .int Mo_102, .int Ho_103])), (d2, .inl (w2, 10, .inl E2_87)), (d3, .inl (w3, 10, .inl E3_88)), (d4, .inl (w4, 10, .inl E4_89)), (d5, .inl (w5, 10, .inl E5_90)), (d6, .inl (w6, 10, .inl E6_91)), (d7, .inl (w7, 10, .inl E7_92)), (d8, .inl (w8, 10, .inl E8_93)), (d9, .inl (w9, 10, .inl E9_94)), (d10, .inl (w10, 4, .inl E10_95)), (d11, .inl (w11, 4, .inl E11_96)), (d12, .inl (w12, 4, .inl E12_97)), (d13, .inl (w13, 9, .inr (.inl E13_98))), (hF, .inr (2, [.ref f0, .ref f1, .ref f2, .ref f3, .ref f4, .int sn, .int (nI (ks)), .int (nI (kw))])), (f0, .inl (z0, 10, .inl g0)), (f1, .inl (z1, 10, .inl g1)), (f2, .inl (z2, 10, .inl g2)), (f3, .inl (z3, 10, .inl g3)), (f4, .inl (z4, 4, .inl g4)), (jK, .inr (5, [.ref k0, .ref k1])), (k0, .inl (cK, 8, .inl L0_99)), (k1, .inl (cO, 32, .inl L1_100))]) [1, 2, 3, 4, 5, 6, 7, 8, 9, 10, 11, 12, 13, 14, 15, 16, 17, 18, 19, 20, 21, 22] rfl
    have hKc := hK.sb (tys2 := [(w2, .int), (w3, .int), (w4, .int), (w5, .int), (w6, .int), (w7, .int), (w8, .int), (w9, .int), (w10, .int), (w11, .int), (w12, .int), (w13, .long), (z0, .int), (z1, .int), (z2, .int), (z3, .int), (z4, .int), (cK, .int), (cO, .int), (cS, .int), (cc, .int)]) [0, 1, 2, 3, 4, 5, 6, 7, 8, 9, 10, 11, 12, 13, 14, 15, 16, 17, 18, 28, 29] rfl
    refine vp_callSi (va_runV (As := [.int p2]) (rest := []) ⟨hx, hb, hml, hown, hts⟩ (s_heldBy1 l dC dI jC d2 d3 d4 d5 d6 d7 d8 d9 d10 d11 d12 d13 w2 w3 w4 w5 w6 w7 w8 w9 w10 w11 w12 w13 E2_87 E3_88 E4_89 E5_90 E6_91 E7_92 E8_93 E9_94 E10_95 E11_96 E12_97 E13_98 Dr_104 Pr_101 Mo_102 Ho_103 hF f0 f1 f2 f3 f4 z0 z1 z2 z3 z4 g0 g1 g2 g3 g4 sn ks kw hks hkw jK k0 k1 cK cO L0_99 L1_100 ru sA cl cS cc nS nC gS gC hnS hnC A p2) (cwV 1 hts (kG (List.forall_mem_cons.mpr ⟨(List.mem_cons_of_mem _ (List.mem_append_left _ (List.mem_of_getElem? (i := 24) rfl))), (List.forall_mem_cons.mpr ⟨(List.mem_cons_of_mem _ (List.mem_append_left _ (List.mem_of_getElem? (i := 23) rfl))), (List.forall_mem_cons.mpr ⟨(List.mem_cons_of_mem _ (List.mem_append_left _ (List.mem_of_getElem? (i := 22) rfl))), (List.forall_mem_cons.mpr ⟨(List.mem_cons_of_mem _ (List.mem_append_left _ (List.mem_of_getElem? (i := 6) rfl))), (fun _ h => absurd h List.not_mem_nil)⟩)⟩)⟩)⟩) (kGV _ _ _ _) (fun _ h => List.mem_cons_of_mem _ (List.mem_append_right _ (List.mem_append_right _ (List.mem_append_right _ (List.mem_append_right _ (List.mem_append_right _ (List.mem_append_right _ (List.mem_append_right _ (List.mem_append_right _ (List.mem_append_left _ h)))))))))) gw_s_heldBy1) rfl rfl rfl ⟨rfl, hd_X1_heldBy⟩ ⟨(Nat.le_of_ble_eq_true rfl), (Nat.le_of_ble_eq_true rfl)⟩) (kR_V kNF_blind (kNF_give hX hS (fun _ h => h)) (va_recv hKc hPc (ci := 1) (q0 := 0) rfl rfl) hPc hKc) rfl rfl hl.1 rfl (lv_room (Nat.le_of_ble_eq_true rfl)) dX9_givesUpBy_79 ⟨(Nat.le_of_ble_eq_true rfl), (Nat.le_of_ble_eq_true rfl)⟩).run (fun r_107 hw => ?_)
    refine lv_bipush (v := 20) hx hb dX9_givesUpBy_82 kc_b_20 ?_
    refine lv_icmp_ge (tgt := 91) hx hb dX9_givesUpBy_84 kc_t_84_7 (fun c_108 => ?_) (fun c_108 => ?_)
    · refine lv_iconst (v := 0) hx hb dX9_givesUpBy_91 kc_i_0 ?_
      have hP9 := hP
      have hD9 := hD
      have hK9 := hK
      rw [hQ]
      exact W.zret (v := 0) hx hb hr rfl (fun t ht hW => ⟨⟨0, (E2_87, E3_88, E4_89, E5_90, E6_91, E7_92, E8_93, E9_94, E10_95, E11_96, E12_97, E13_98, L0_99, L1_100, Pr_101, Mo_102, Ho_103, Dr_104, (.ref ru : Value)), rfl, (Or.inl rfl),  by rw [ht]; exact hP9, va_K.moved hW.alike hK9, hD9⟩, hS.F ht⟩) hS.2.2 dX9_givesUpBy_92
    · refine lv_iconst (v := 1) hx hb dX9_givesUpBy_87 kc_i_1 ?_
      refine lv_goto (tgt := 92) hx hb dX9_givesUpBy_88 kc_t_88_4 ?_
      have hP9 := hP
      have hD9 := hD
      have hK9 := hK
      rw [hQ]
      exact W.zret (v := 1) hx hb hr rfl (fun t ht hW => ⟨⟨1, (E2_87, E3_88, E4_89, E5_90, E6_91, E7_92, E8_93, E9_94, E10_95, E11_96, E12_97, E13_98, L0_99, L1_100, Pr_101, Mo_102, Ho_103, Dr_104, (.ref ru : Value)), rfl, (Or.inr rfl),  by rw [ht]; exact hP9, va_K.moved hW.alike hK9, hD9⟩, hS.F ht⟩) hS.2.2 dX9_givesUpBy_92

theorem dX9_isNoted_0 : decode cX9_isNoted 0 = .ok (.aload_n 0, 1) := kDs0 kf_42 (by decide +kernel)
theorem dX9_isNoted_1 : decode cX9_isNoted 1 = .ok (.getfield 56, 3) := kDs2 kf_180 (by decide +kernel)
theorem dX9_isNoted_4 : decode cX9_isNoted 4 = .ok (.aload_n 1, 1) := kDs0 kf_43 (by decide +kernel)
theorem dX9_isNoted_5 : decode cX9_isNoted 5 = .ok (.lload_n 2, 1) := kDs0 kf_32 (by decide +kernel)
theorem dX9_isNoted_6 : decode cX9_isNoted 6 = .ok (.iconst 0, 1) := kDs0 kf_3 (by decide +kernel)
theorem dX9_isNoted_7 : decode cX9_isNoted 7 = .ok (.invokevirtual 145, 3) := kDs2 kf_182 (by decide +kernel)
theorem dX9_isNoted_10 : decode cX9_isNoted 10 = .ok (.iconst 0, 1) := kDs0 kf_3 (by decide +kernel)
theorem dX9_isNoted_11 : decode cX9_isNoted 11 = .ok (.istore 5, 2) := kDs1 kf_54 (by decide +kernel)
theorem dX9_isNoted_13 : decode cX9_isNoted 13 = .ok (.iload 5, 2) := kDs1 kf_21 (by decide +kernel)
theorem dX9_isNoted_15 : decode cX9_isNoted 15 = .ok (.bipush 48, 2) := kDs3 kf_16 (by decide +kernel)
theorem dX9_isNoted_17 : decode cX9_isNoted 17 = .ok (.if_icmp .gt 44, 3) := kDs4 kf_163 (by decide +kernel)
theorem dX9_isNoted_61 : decode cX9_isNoted 61 = .ok (.iconst 1, 1) := kDs0 kf_4 (by decide +kernel)
theorem dX9_isNoted_62 : decode cX9_isNoted 62 = .ok (.ireturn, 1) := kDs0 kf_172 (by decide +kernel)
theorem dX9_isNoted_20 : decode cX9_isNoted 20 = .ok (.aload_n 0, 1) := kDs0 kf_42 (by decide +kernel)
theorem dX9_isNoted_21 : decode cX9_isNoted 21 = .ok (.getfield 63, 3) := kDs2 kf_180 (by decide +kernel)
theorem dX9_isNoted_24 : decode cX9_isNoted 24 = .ok (.aload_n 0, 1) := kDs0 kf_42 (by decide +kernel)
theorem dX9_isNoted_25 : decode cX9_isNoted 25 = .ok (.getfield 56, 3) := kDs2 kf_180 (by decide +kernel)
theorem dX9_isNoted_28 : decode cX9_isNoted 28 = .ok (.iload 5, 2) := kDs1 kf_21 (by decide +kernel)
theorem dX9_isNoted_30 : decode cX9_isNoted 30 = .ok (.iload 4, 2) := kDs1 kf_21 (by decide +kernel)
theorem dX9_isNoted_32 : decode cX9_isNoted 32 = .ok (.invokevirtual 260, 3) := kDs2 kf_182 (by decide +kernel)
theorem dX9_isNoted_35 : decode cX9_isNoted 35 = .ok (.ifCond .ne 5, 3) := kDs4 kf_154 (by decide +kernel)
theorem dX9_isNoted_40 : decode cX9_isNoted 40 = .ok (.iload 5, 2) := kDs1 kf_21 (by decide +kernel)
theorem dX9_isNoted_42 : decode cX9_isNoted 42 = .ok (.bipush 48, 2) := kDs3 kf_16 (by decide +kernel)
theorem dX9_isNoted_44 : decode cX9_isNoted 44 = .ok (.if_icmp .ge 11, 3) := kDs4 kf_162 (by decide +kernel)
theorem dX9_isNoted_55 : decode cX9_isNoted 55 = .ok (.iinc 5 1, 3) := kDs5 kf_132 (by decide +kernel)
theorem dX9_isNoted_58 : decode cX9_isNoted 58 = .ok (.goto (-45), 3) := kDs4 kf_167 (by decide +kernel)
theorem dX9_isNoted_47 : decode cX9_isNoted 47 = .ok (.aload_n 0, 1) := kDs0 kf_42 (by decide +kernel)
theorem dX9_isNoted_48 : decode cX9_isNoted 48 = .ok (.getfield 56, 3) := kDs2 kf_180 (by decide +kernel)
theorem dX9_isNoted_51 : decode cX9_isNoted 51 = .ok (.iconst 1, 1) := kDs0 kf_4 (by decide +kernel)
theorem dX9_isNoted_52 : decode cX9_isNoted 52 = .ok (.invokevirtual 153, 3) := kDs2 kf_182 (by decide +kernel)
theorem dX9_isNoted_38 : decode cX9_isNoted 38 = .ok (.iconst 0, 1) := kDs0 kf_3 (by decide +kernel)
theorem dX9_isNoted_39 : decode cX9_isNoted 39 = .ok (.ireturn, 1) := kDs0 kf_172 (by decide +kernel)
def w_s_isNoted9 : List Cond := .code yX9_isNoted cX9_isNoted 6 (some .boolean) :: ([.fieldLink RX9 56 "NotEnded" "course" "LNotEnded$Course;", .initialized RX1, .selects RX1 yX1_begin yX1_begin, .instanceMethod yX1_begin, .methodLink RX9 145 yX1_begin, .fieldLink RX9 63 "NotEnded" "notebook" "LNotEnded$Notebook;", .initialized RX3, .selects RX3 yX3_agrees yX3_agrees, .instanceMethod yX3_agrees, .methodLink RX9 260 yX3_agrees, .selects RX1 yX1_go yX1_go, .instanceMethod yX1_go, .methodLink RX9 153 yX1_go] ++ (wsX90 ++ (w_s_begin1 ++ (w_s_agrees3 ++ (w_s_go1)))))
theorem gw_s_isNoted9 : (w_s_isNoted9).all goodWord = true := kGc rfl (kGa (by decide +kernel) (kGa gw_wsX90 (kGa gw_s_begin1 (kGa gw_s_agrees3 gw_s_go1))))
theorem hd_X9_isNoted : yX9_isNoted.cls ≠ "java/lang/invoke/MethodHandle" ∧ yX9_isNoted.cls ≠ "java/lang/invoke/VarHandle" ∧ (parseMethodDescriptor yX9_isNoted.desc).map (fun d => d.parameters.length) = some 3 := by decide +kernel
set_option maxHeartbeats 4000000 in
set_option maxRecDepth 100000 in
theorem s_isNoted9 (l : Launch) (dC : Nat → ClassId) (dI : Nat → Nat → Nat) (jX : Nat) (jT : Nat) (jR : Nat) (jL : Nat) (jU : Nat) (hN : Nat) (jA : Nat) (sd : Nat) (jC : Nat) (d2 : Nat) (d3 : Nat) (d4 : Nat) (d5 : Nat) (d6 : Nat) (d7 : Nat) (d8 : Nat) (d9 : Nat) (d10 : Nat) (d11 : Nat) (d12 : Nat) (d13 : Nat) (w2 : ClassId) (w3 : ClassId) (w4 : ClassId) (w5 : ClassId) (w6 : ClassId) (w7 : ClassId) (w8 : ClassId) (w9 : ClassId) (w10 : ClassId) (w11 : ClassId) (w12 : ClassId) (w13 : ClassId) (e2 : Nat → Int32) (e3 : Nat → Int32) (e4 : Nat → Int32) (e5 : Nat → Int32) (e6 : Nat → Int32) (e7 : Nat → Int32) (e8 : Nat → Int32) (e9 : Nat → Int32) (e10 : Nat → Int32) (e11 : Nat → Int32) (e12 : Nat → Int32) (e13 : Nat → Int64) (dr : Int64) (pr : Int32) (mo : Int32) (ho : Int32) (hF : Nat) (f0 : Nat) (f1 : Nat) (f2 : Nat) (f3 : Nat) (f4 : Nat) (z0 : ClassId) (z1 : ClassId) (z2 : ClassId) (z3 : ClassId) (z4 : ClassId) (g0 : Nat → Int32) (g1 : Nat → Int32) (g2 : Nat → Int32) (g3 : Nat → Int32) (g4 : Nat → Int32) (sn : Int32) (ks : Nat) (kw : Nat) (hks : ks ≤ 10) (hkw : kw ≤ 4) (jK : Nat) (k0 : Nat) (k1 : Nat) (cK : ClassId) (cO : ClassId) (l0 : Nat → Int32) (l1 : Nat → Int32) (ru : Nat) (sA : Nat) (cl : Nat) (cS : ClassId) (cc : ClassId) (nS : Nat) (nC : Nat) (gS : Nat → Int32) (gC : Nat → Int32) (hnS : nS ≤ 200) (hnC : nC ≤ 200) (o0 : Nat) (o1 : Nat) (o2 : Nat) (o3 : Nat) (o4 : Nat) (y0 : ClassId) (y1 : ClassId) (y2 : ClassId) (y3 : ClassId) (y4 : ClassId) (q0 : Nat → Int32) (q1 : Nat → Int32) (q2 : Nat → Int32) (q3 : Nat → Int32) (q4 : Nat → Int32) (kn : Nat) (hkn : kn ≤ 20) (i0 : Nat) (i1 : Nat) (i2 : Nat) (i3 : Nat) (x0 : ClassId) (x1 : ClassId) (x2 : ClassId) (x3 : ClassId) (t0 : Nat → Int32) (t1 : Nat → Int32) (t2 : Nat → Int32) (t3 : Nat → Int32) (ka : Nat) (hka : ka ≤ 6) (lw : Value) (p1 : Int64) (p2 : Int32) (sz : Nat) : Met l yX9_isNoted w_s_isNoted9 ({ frames := 7, cells := 0, slots := 0, locals := 420 }) (kW dC dI [.ref jX, .ref ru, .long p1, .int p2] [(jX, .inr (9, [.ref jT, .ref jR, .ref jK, .ref jL, .ref jU, .ref hF, .ref jC, .ref hN, .ref jA, .ref sd])), (jC, .inr (1, [.ref hF, .ref jK, .ref d2, .ref d3, .ref d4, .ref d5, .ref d6, .ref d7, .ref d8, .ref d9, .ref d10, .ref d11, .ref d12, .ref d13, lw, .long dr, .int pr, .int mo, .int ho])), (d2, .inl (w2, 10, .inl e2)), (d3, .inl (w3, 10, .inl e3)), (d4, .inl (w4, 10, .inl e4)), (d5, .inl (w5, 10, .inl e5)), (d6, .inl (w6, 10, .inl e6)), (d7, .inl (w7, 10, .inl e7)), (d8, .inl (w8, 10, .inl e8)), (d9, .inl (w9, 10, .inl e9)), (d10, .inl (w10, 4, .inl e10)), (d11, .inl (w11, 4, .inl e11)), (d12, .inl (w12, 4, .inl e12)), (d13, .inl (w13, 9, .inr (.inl e13))), (hF, .inr (2, [.ref f0, .ref f1, .ref f2, .ref f3, .ref f4, .int sn, .int (nI (ks)), .int (nI (kw))])), (f0, .inl (z0, 10, .inl g0)), (f1, .inl (z1, 10, .inl g1)), (f2, .inl (z2, 10, .inl g2)), (f3, .inl (z3, 10, .inl g3)), (f4, .inl (z4, 4, .inl g4)), (jK, .inr (5, [.ref k0, .ref k1])), (k0, .inl (cK, 8, .inl l0)), (k1, .inl (cO, 32, .inl l1)), (hN, .inr (3, [.ref o0, .ref o1, .ref o2, .ref o3, .ref o4, .int (nI (kn))])), (o0, .inl (y0, 20, .inl q0)), (o1, .inl (y1, 20, .inl q1)), (o2, .inl (y2, 20, .inl q2)), (o3, .inl (y3, 20, .inl q3)), (o4, .inl (y4, 20, .inl q4)), (jA, .inr (0, [.ref i0, .ref i1, .ref i2, .ref i3, .int (nI (ka))])), (i0, .inl (x0, 6, .inl t0)), (i1, .inl (x1, 6, .inl t1)), (i2, .inl (x2, 6, .inl t2)), (i3, .inl (x3, 6, .inl t3))] [(w2, .int), (w3, .int), (w4, .int), (w5, .int), (w6, .int), (w7, .int), (w8, .int), (w9, .int), (w10, .int), (w11, .int), (w12, .int), (w13, .long), (z0, .int), (z1, .int), (z2, .int), (z3, .int), (z4, .int), (cK, .int), (cO, .int), (y0, .int), (y1, .int), (y2, .int), (y3, .int), (y4, .int), (x0, .int), (x1, .int), (x2, .int), (x3, .int), (cS, .int), (cc, .int)] (kNF dC dI [(ru, .inr (6, [.ref sA, .ref cl])), (sA, .inl (cS, nS, .inl gS)), (cl, .inl (cc, nC, .inl gC))] (va_A [(jX, .inr (9, [.ref jT, .ref jR, .ref jK, .ref jL, .ref jU, .ref hF, .ref jC, .ref hN, .ref jA, .ref sd])), (jC, .inr (1, [.ref hF, .ref jK, .ref d2, .ref d3, .ref d4, .ref d5, .ref d6, .ref d7, .ref d8, .ref d9, .ref d10, .ref d11, .ref d12, .ref d13, lw, .long dr, .int pr, .int mo, .int ho])), (d2, .inl (w2, 10, .inl e2)), (d3, .inl (w3, 10, .inl e3)), (d4, .inl (w4, 10, .inl e4)), (d5, .inl (w5, 10, .inl e5)), (d6, .inl (w6, 10, .inl e6)), (d7, .inl (w7, 10, .inl e7)), (d8, .inl (w8, 10, .inl e8)), (d9, .inl (w9, 10, .inl e9)), (d10, .inl (w10, 4, .inl e10)), (d11, .inl (w11, 4, .inl e11)), (d12, .inl (w12, 4, .inl e12)), (d13, .inl (w13, 9, .inr (.inl e13))), (hF, .inr (2, [.ref f0, .ref f1, .ref f2, .ref f3, .ref f4, .int sn, .int (nI (ks)), .int (nI (kw))])), (f0, .inl (z0, 10, .inl g0)), (f1, .inl (z1, 10, .inl g1)), (f2, .inl (z2, 10, .inl g2)), (f3, .inl (z3, 10, .inl g3)), (f4, .inl (z4, 4, .inl g4)), (jK, .inr (5, [.ref k0, .ref k1])), (k0, .inl (cK, 8, .inl l0)), (k1, .inl (cO, 32, .inl l1)), (hN, .inr (3, [.ref o0, .ref o1, .ref o2, .ref o3, .ref o4, .int (nI (kn))])), (o0, .inl (y0, 20, .inl q0)), (o1, .inl (y1, 20, .inl q1)), (o2, .inl (y2, 20, .inl q2)), (o3, .inl (y3, 20, .inl q3)), (o4, .inl (y4, 20, .inl q4)), (jA, .inr (0, [.ref i0, .ref i1, .ref i2, .ref i3, .int (nI (ka))])), (i0, .inl (x0, 6, .inl t0)), (i1, .inl (x1, 6, .inl t1)), (i2, .inl (x2, 6, .inl t2)), (i3, .inl (x3, 6, .inl t3))] sz)) sz) (va_Qi (fun (r : Int32) (u : (Nat → Int32) × (Nat → Int32) × (Nat → Int32) × (Nat → Int32) × (Nat → Int32) × (Nat → Int32) × (Nat → Int32) × (Nat → Int32) × (Nat → Int32) × (Nat → Int32) × (Nat → Int32) × (Nat → Int64) × (Nat → Int32) × (Nat → Int32) × Int32 × Int32 × Int32 × Int64 × Value) => match u with | (E2, E3, E4, E5, E6, E7, E8, E9, E10, E11, E12, E13, L0, L1, Pr, Mo, Ho, Dr, Lw) => (r = 0 ∨ r = 1)) (fun (u : (Nat → Int32) × (Nat → Int32) × (Nat → Int32) × (Nat → Int32) × (Nat → Int32) × (Nat → Int32) × (Nat → Int32) × (Nat → Int32) × (Nat → Int32) × (Nat → Int32) × (Nat → Int32) × (Nat → Int64) × (Nat → Int32) × (Nat → Int32) × Int32 × Int32 × Int32 × Int64 × Value) => match u with | (E2, E3, E4, E5, E6, E7, E8, E9, E10, E11, E12, E13, L0, L1, Pr, Mo, Ho, Dr, Lw) => fun t : State => kB dC dI [(jX, .inr (9, [.ref jT, .ref jR, .ref jK, .ref jL, .ref jU, .ref hF, .ref jC, .ref hN, .ref jA, .ref sd])), (jC, .inr (1, [.ref hF, .ref jK, .ref d2, .ref d3, .ref d4, .ref d5, .ref d6, .ref d7, .ref d8, .ref d9, .ref d10, .ref d11, .ref d12, .ref d13, Lw, .long Dr, .int Pr, .int Mo, .int Ho])), (d2, .inl (w2, 10, .inl E2)), (d3, .inl (w3, 10, .inl E3)), (d4, .inl (w4, 10, .inl E4)), (d5, .inl (w5, 10, .inl E5)), (d6, .inl (w6, 10, .inl E6)), (d7, .inl (w7, 10, .inl E7)), (d8, .inl (w8, 10, .inl E8)), (d9, .inl (w9, 10, .inl E9)), (d10, .inl (w10, 4, .inl E10)), (d11, .inl (w11, 4, .inl E11)), (d12, .inl (w12, 4, .inl E12)), (d13, .inl (w13, 9, .inr (.inl E13))), (hF, .inr (2, [.ref f0, .ref f1, .ref f2, .ref f3, .ref f4, .int sn, .int (nI (ks)), .int (nI (kw))])), (f0, .inl (z0, 10, .inl g0)), (f1, .inl (z1, 10, .inl g1)), (f2, .inl (z2, 10, .inl g2)), (f3, .inl (z3, 10, .inl g3)), (f4, .inl (z4, 4, .inl g4)), (jK, .inr (5, [.ref k0, .ref k1])), (k0, .inl (cK, 8, .inl L0)), (k1, .inl (cO, 32, .inl L1)), (hN, .inr (3, [.ref o0, .ref o1, .ref o2, .ref o3, .ref o4, .int (nI (kn))])), (o0, .inl (y0, 20, .inl q0)), (o1, .inl (y1, 20, .inl q1)), (o2, .inl (y2, 20, .inl q2)), (o3, .inl (y3, 20, .inl q3)), (o4, .inl (y4, 20, .inl q4)), (jA, .inr (0, [.ref i0, .ref i1, .ref i2, .ref i3, .int (nI (ka))])), (i0, .inl (x0, 6, .inl t0)), (i1, .inl (x1, 6, .inl t1)), (i2, .inl (x2, 6, .inl t2)), (i3, .inl (x3, 6, .inl t3))] [(w2, .int), (w3, .int), (w4, .int), (w5, .int), (w6, .int), (w7, .int), (w8, .int), (w9, .int), (w10, .int), (w11, .int), (w12, .int), (w13, .long), (z0, .int), (z1, .int), (z2, .int), (z3, .int), (z4, .int), (cK, .int), (cO, .int), (y0, .int), (y1, .int), (y2, .int), (y3, .int), (y4, .int), (x0, .int), (x1, .int), (x2, .int), (x3, .int), (cS, .int), (cc, .int)] (va_A [(jX, .inr (9, [.ref jT, .ref jR, .ref jK, .ref jL, .ref jU, .ref hF, .ref jC, .ref hN, .ref jA, .ref sd])), (jC, .inr (1, [.ref hF, .ref jK, .ref d2, .ref d3, .ref d4, .ref d5, .ref d6, .ref d7, .ref d8, .ref d9, .ref d10, .ref d11, .ref d12, .ref d13, lw, .long dr, .int pr, .int mo, .int ho])), (d2, .inl (w2, 10, .inl e2)), (d3, .inl (w3, 10, .inl e3)), (d4, .inl (w4, 10, .inl e4)), (d5, .inl (w5, 10, .inl e5)), (d6, .inl (w6, 10, .inl e6)), (d7, .inl (w7, 10, .inl e7)), (d8, .inl (w8, 10, .inl e8)), (d9, .inl (w9, 10, .inl e9)), (d10, .inl (w10, 4, .inl e10)), (d11, .inl (w11, 4, .inl e11)), (d12, .inl (w12, 4, .inl e12)), (d13, .inl (w13, 9, .inr (.inl e13))), (hF, .inr (2, [.ref f0, .ref f1, .ref f2, .ref f3, .ref f4, .int sn, .int (nI (ks)), .int (nI (kw))])), (f0, .inl (z0, 10, .inl g0)), (f1, .inl (z1, 10, .inl g1)), (f2, .inl (z2, 10, .inl g2)), (f3, .inl (z3, 10, .inl g3)), (f4, .inl (z4, 4, .inl g4)), (jK, .inr (5, [.ref k0, .ref k1])), (k0, .inl (cK, 8, .inl l0)), (k1, .inl (cO, 32, .inl l1)), (hN, .inr (3, [.ref o0, .ref o1, .ref o2, .ref o3, .ref o4, .int (nI (kn))])), (o0, .inl (y0, 20, .inl q0)), (o1, .inl (y1, 20, .inl q1)), (o2, .inl (y2, 20, .inl q2)), (o3, .inl (y3, 20, .inl q3)), (o4, .inl (y4, 20, .inl q4)), (jA, .inr (0, [.ref i0, .ref i1, .ref i2, .ref i3, .int (nI (ka))])), (i0, .inl (x0, 6, .inl t0)), (i1, .inl (x1, 6, .inl t1)), (i2, .inl (x2, 6, .inl t2)), (i3, .inl (x3, 6, .inl t3))] sz) t) (va_A [(jX, .inr (9, [.ref jT, .ref jR, .ref jK, .ref jL, .ref jU, .ref hF, .ref jC, .ref hN, .ref jA, .ref sd])), (jC, .inr (1, [.ref hF, .ref jK, .ref d2, .ref d3, .ref d4, .ref d5, .ref d6, .ref d7, .ref d8, .ref d9, .ref d10, .ref d11, .ref d12, .ref d13, lw, .long dr, .int pr, .int mo, .int ho])), (d2, .inl (w2, 10, .inl e2)), (d3, .inl (w3, 10, .inl e3)), (d4, .inl (w4, 10, .inl e4)), (d5, .inl (w5, 10, .inl e5)), (d6, .inl (w6, 10, .inl e6)), (d7, .inl (w7, 10, .inl e7)), (d8, .inl (w8, 10, .inl e8)), (d9, .inl (w9, 10, .inl e9)), (d10, .inl (w10, 4, .inl e10)), (d11, .inl (w11, 4, .inl e11)), (d12, .inl (w12, 4, .inl e12)), (d13, .inl (w13, 9, .inr (.inl e13))), (hF, .inr (2, [.ref f0, .ref f1, .ref f2, .ref f3, .ref f4, .int sn, .int (nI (ks)), .int (nI (kw))])), (f0, .inl (z0, 10, .inl g0)), (f1, .inl (z1, 10, .inl g1)), (f2, .inl (z2, 10, .inl g2)), (f3, .inl (z3, 10, .inl g3)), (f4, .inl (z4, 4, .inl g4)), (jK, .inr (5, [.ref k0, .ref k1])), (k0, .inl (cK, 8, .inl l0)), (k1, .inl (cO, 32, .inl l1)), (hN, .inr (3, [.ref o0, .ref o1, .ref o2, .ref o3, .ref o4, .int (nI (kn))])), (o0, .inl (y0, 20, .inl q0)), (o1, .inl (y1, 20, .inl q1)), (o2, .inl (y2, 20, .inl q2)), (o3, .inl (y3, 20, .inl q3)), (o4, .inl (y4, 20, .inl q4)), (jA, .inr (0, [.ref i0, .ref i1, .ref i2, .ref i3, .int (nI (ka))])), (i0, .inl (x0, 6, .inl t0)), (i1, .inl (x1, 6, .inl t1)), (i2, .inl (x2, 6, .inl t2)), (i3, .inl (x3, 6, .inl t3))] sz)) 0 0 (va_A [(jX, .inr (9, [.ref jT, .ref jR, .ref jK, .ref jL, .ref jU, .ref hF, .ref jC, .ref hN, .ref jA, .ref sd])), (jC, .inr (1, [.ref hF, .ref jK, .ref d2, .ref d3, .ref d4, .ref d5, .ref d6, .ref d7, .ref d8, .ref d9, .ref d10, .ref d11, .ref d12, .ref d13, lw, .long dr, .int pr, .int mo, .int ho])), (d2, .inl (w2, 10, .inl e2)), (d3, .inl (w3, 10, .inl e3)), (d4, .inl (w4, 10, .inl e4)), (d5, .inl (w5, 10, .inl e5)), (d6, .inl (w6, 10, .inl e6)), (d7, .inl (w7, 10, .inl e7)), (d8, .inl (w8, 10, .inl e8)), (d9, .inl (w9, 10, .inl e9)), (d10, .inl (w10, 4, .inl e10)), (d11, .inl (w11, 4, .inl e11)), (d12, .inl (w12, 4, .inl e12)), (d13, .inl (w13, 9, .inr (.inl e13))), (hF, .inr (2, [.ref f0, .ref f1, .ref f2, .ref f3, .ref f4, .int sn, .int (nI (ks)), .int (nI (kw))])), (f0, .inl (z0, 10, .inl g0)), (f1, .inl (z1, 10, .inl g1)), (f2, .inl (z2, 10, .inl g2)), (f3, .inl (z3, 10, .inl g3)), (f4, .inl (z4, 4, .inl g4)), (jK, .inr (5, [.ref k0, .ref k1])), (k0, .inl (cK, 8, .inl l0)), (k1, .inl (cO, 32, .inl l1)), (hN, .inr (3, [.ref o0, .ref o1, .ref o2, .ref o3, .ref o4, .int (nI (kn))])), (o0, .inl (y0, 20, .inl q0)), (o1, .inl (y1, 20, .inl q1)), (o2, .inl (y2, 20, .inl q2)), (o3, .inl (y3, 20, .inl q3)), (o4, .inl (y4, 20, .inl q4)), (jA, .inr (0, [.ref i0, .ref i1, .ref i2, .ref i3, .int (nI (ka))])), (i0, .inl (x0, 6, .inl t0)), (i1, .inl (x1, 6, .inl t1)), (i2, .inl (x2, 6, .inl t2)), (i3, .inl (x3, 6, .inl t3))] sz) := by
  refine Met.ofW (cc := cX9_isNoted) (maxL := 6) (ret := (some .boolean)) (by decide) rfl ?_
  intro p e s m args below meth c s₁ B hml hv
  obtain ⟨rfl, hsz, hP, hK, hD0, hX⟩ := hv
  have hx := B.exec
  have hb := B.bytes
  have hr := B.returns
  have hts := atoms_spec (ws := w_s_isNoted9) B.pre
  have hown : s.vm.findClass RX9 = some m.cls := findClass_of_methodNamed B.named
  have hlocks := B.notSynchronized
  subst hsz
  have hD := hD0.self (sz := s.heap.size)
  generalize hAe : va_A [(jX, .inr (9, [.ref jT, .ref jR, .ref jK, .ref jL, .ref jU, .ref hF, .ref jC, .ref hN, .ref jA, .ref sd])), (jC, .inr (1, [.ref hF, .ref jK, .ref d2, .ref d3, .ref d4, .ref d5, .ref d6, .ref d7, .ref d8, .ref d9, .ref d10, .ref d11, .ref d12, .ref d13, lw, .long dr, .int pr, .int mo, .int ho])), (d2, .inl (w2, 10, .inl e2)), (d3, .inl (w3, 10, .inl e3)), (d4, .inl (w4, 10, .inl e4)), (d5, .inl (w5, 10, .inl e5)), (d6, .inl (w6, 10, .inl e6)), (d7, .inl (w7, 10, .inl e7)), (d8, .inl (w8, 10, .inl e8)), (d9, .inl (w9, 10, .inl e9)), (d10, .inl (w10, 4, .inl e10)), (d11, .inl (w11, 4, .inl e11)), (d12, .inl (w12, 4, .inl e12)), (d13, .inl (w13, 9, .inr (.inl e13))), (hF, .inr (2, [.ref f0, .ref f1, .ref f2, .ref f3, .ref f4, .int sn, .int (nI (ks)), .int (nI (kw))])), (f0, .inl (z0, 10, .inl g0)), (f1, .inl (z1, 10, .inl g1)), (f2, .inl (z2, 10, .inl g2)), (f3, .inl (z3, 10, .inl g3)), (f4, .inl (z4, 4, .inl g4)), (jK, .inr (5, [.ref k0, .ref k1])), (k0, .inl (cK, 8, .inl l0)), (k1, .inl (cO, 32, .inl l1)), (hN, .inr (3, [.ref o0, .ref o1, .ref o2, .ref o3, .ref o4, .int (nI (kn))])), (o0, .inl (y0, 20, .inl q0)), (o1, .inl (y1, 20, .inl q1)), (o2, .inl (y2, 20, .inl q2)), (o3, .inl (y3, 20, .inl q3)), (o4, .inl (y4, 20, .inl q4)), (jA, .inr (0, [.ref i0, .ref i1, .ref i2, .ref i3, .int (nI (ka))])), (i0, .inl (x0, 6, .inl t0)), (i1, .inl (x1, 6, .inl t1)), (i2, .inl (x2, 6, .inl t2)), (i3, .inl (x3, 6, .inl t3))] s.heap.size = A at hD hX ⊢
  have hA : ∀ q : Nat, s.heap.size ≤ q → A q := fun q h => by rw [← hAe]; exact Or.inr h
  have hS : va_S A s.heap s.heap [] := va_S.rf
  have hP : va_P (dC, dI) vwCl [(jX, .inr (9, [.ref jT, .ref jR, .ref jK, .ref jL, .ref jU, .ref hF, .ref jC, .ref hN, .ref jA, .ref sd])), (jC, .inr (1, [.ref hF, .ref jK, .ref d2, .ref d3, .ref d4, .ref d5, .ref d6, .ref d7, .ref d8, .ref d9, .ref d10, .ref d11, .ref d12, .ref d13, lw, .long dr, .int pr, .int mo, .int ho])), (d2, .inl (w2, 10, .inl e2)), (d3, .inl (w3, 10, .inl e3)), (d4, .inl (w4, 10, .inl e4)), (d5, .inl (w5, 10, .inl e5)), (d6, .inl (w6, 10, .inl e6)), (d7, .inl (w7, 10, .inl e7)), (d8, .inl (w8, 10, .inl e8)), (d9, .inl (w9, 10, .inl e9)), (d10, .inl (w10, 4, .inl e10)), (d11, .inl (w11, 4, .inl e11)), (d12, .inl (w12, 4, .inl e12)), (d13, .inl (w13, 9, .inr (.inl e13))), (hF, .inr (2, [.ref f0, .ref f1, .ref f2, .ref f3, .ref f4, .int sn, .int (nI (ks)), .int (nI (kw))])), (f0, .inl (z0, 10, .inl g0)), (f1, .inl (z1, 10, .inl g1)), (f2, .inl (z2, 10, .inl g2)), (f3, .inl (z3, 10, .inl g3)), (f4, .inl (z4, 4, .inl g4)), (jK, .inr (5, [.ref k0, .ref k1])), (k0, .inl (cK, 8, .inl l0)), (k1, .inl (cO, 32, .inl l1)), (hN, .inr (3, [.ref o0, .ref o1, .ref o2, .ref o3, .ref o4, .int (nI (kn))])), (o0, .inl (y0, 20, .inl q0)), (o1, .inl (y1, 20, .inl q1)), (o2, .inl (y2, 20, .inl q2)), (o3, .inl (y3, 20, .inl q3)), (o4, .inl (y4, 20, .inl q4)), (jA, .inr (0, [.ref i0, .ref i1, .ref i2, .ref i3, .int (nI (ka))])), (i0, .inl (x0, 6, .inl t0)), (i1, .inl (x1, 6, .inl t1)), (i2, .inl (x2, 6, .inl t2)), (i3, .inl (x3, 6, .inl t3))] s.heap := hP
  have hl := lv_entry ([.ref jX, .ref ru, .long p1, .int p2]) (n := 6) (Nat.le_of_ble_eq_true rfl)
  rw [lg_entry_eq]
  generalize (lg_sl ([.ref jX, .ref ru, .long p1, .int p2]) ++ List.replicate (6 - (lg_sl ([.ref jX, .ref ru, .long p1, .int p2])).length) Slot.unset).toArray = ls at hl ⊢
  have hl : lv_has ls 6 [(0, .ref jX), (1, .ref ru), (2, .long p1), (4, .int p2)] := hl
  refine kQ (fun Q hQ => ?_)
  refine lv_aload_n hx hb dX9_isNoted_0 rfl (lv_at hl 0 rfl) ?_
  refine va_get (D := (dC, dI)) (ci := 9) (v := .ref jC) (C := RX9) (T := TX9) (N := 10) hx hb hts (fun _ h => List.mem_cons_of_mem _ (List.mem_append_right _ (List.mem_append_left _ h))) hown hK hP 0 rfl rfl 6 kc_l_6_10 (hts (.fieldLink RX9 56 "NotEnded" "course" "LNotEnded$Course;") (List.mem_cons_of_mem _ (List.mem_append_left _ (List.mem_of_getElem? (i := 0) rfl)))) (fun _ h9 => h9) rfl dX9_isNoted_1 ?_
  refine lv_aload_n hx hb dX9_isNoted_4 rfl (lv_at hl 1 rfl) ?_
  refine lv_lload_n hx hb dX9_isNoted_5 rfl (lv_at hl 2 rfl) ?_
  refine lv_iconst (v := 0) hx hb dX9_isNoted_6 kc_i_0 ?_
  have hCu := kCut (wc := [(jC, .inr (1, [.ref hF, .ref jK, .ref d2, .ref d3, .ref d4, .ref d5, .ref d6, .ref d7, .ref d8, .ref d9, .ref d10, .ref d11, .ref d12, .ref d13, lw, .long dr, .int pr, .int mo, .int ho])), (d2, .inl (w2, 10, .inl e2)), (d3, .inl (w3, 10, .inl e3)), (d4, .inl (w4, 10, .inl e4)), (d5, .inl (w5, 10, .inl e5)), (d6, .inl (w6, 10, .inl e6)), (d7, .inl (w7, 10, .inl e7)), (d8, .inl (w8, 10, .inl e8)), (d9, .inl (w9, 10, .inl e9)), (d10, .inl (w10, 4, .inl e10)), (d11, .inl (w11, 4, .inl e11)), (d12, .inl (w12, 4, .inl e12)), (d13, .inl (w13, 9, .inr (.inl e13))), (hF, .inr (2, [.ref f0, .ref f1, .ref f2, .ref f3, .ref f4, .int sn, .int (nI (ks)), .int (nI (kw))])), (f0, .inl (z0, 10, .inl g0)), (f1, .inl (z1, 10, .inl g1)), (f2, .inl (z2, 10, .inl g2)), (f3, .inl (z3, 10, .inl g3)), (f4, .inl (z4, 4, .inl g4)), (jK, .inr (5, [.ref k0, .ref k1])), (k0, .inl (cK, 8, .inl l0)), (k1, .inl (cO, 32, .inl l1))]) hP hD hS hA [1, 2, 3, 4, 5, 6, 7, 8, 9, 10, 11, 12, 13, 14, 15, 16, 17, 18, 19, 20, 21, 22] rfl kc_nd_425 rfl
  have hPc := hCu.1
  have hDc := hCu.2.1
  have hFc := hCu.2.2
  have hKc := hK.sb (tys2 := [(w2, .int), (w3, .int), (w4, .int), (w5, .int), (w6, .int), (w7, .int), (w8, .int), (w9, .int), (w10, .int), (w11, .int), (w12, .int), (w13, .long), (z0, .int), (z1, .int), (z2, .int), (z3, .int), (z4, .int), (cK, .int), (cO, .int), (cS, .int), (cc, .int)]) [0, 1, 2, 3, 4, 5, 6, 7, 8, 9, 10, 11, 12, 13, 14, 15, 16, 17, 18, 28, 29] rfl
  refine va_callv (va_runV (As := [.ref ru, .long p1, .int 0]) (rest := []) ⟨hx, hb, hml, hown, hts⟩ (s_begin1 l dC dI jC d2 d3 d4 d5 d6 d7 d8 d9 d10 d11 d12 d13 w2 w3 w4 w5 w6 w7 w8 w9 w10 w11 w12 w13 e2 e3 e4 e5 e6 e7 e8 e9 e10 e11 e12 e13 dr pr mo ho hF f0 f1 f2 f3 f4 z0 z1 z2 z3 z4 g0 g1 g2 g3 g4 sn ks kw hks hkw jK k0 k1 cK cO l0 l1 ru sA cl cS cc nS nC gS gC hnS hnC (lw : Value) p1 0 s.heap.size) (cwV 3 hts (kG (List.forall_mem_cons.mpr ⟨(List.mem_cons_of_mem _ (List.mem_append_left _ (List.mem_of_getElem? (i := 4) rfl))), (List.forall_mem_cons.mpr ⟨(List.mem_cons_of_mem _ (List.mem_append_left _ (List.mem_of_getElem? (i := 3) rfl))), (List.forall_mem_cons.mpr ⟨(List.mem_cons_of_mem _ (List.mem_append_left _ (List.mem_of_getElem? (i := 2) rfl))), (List.forall_mem_cons.mpr ⟨(List.mem_cons_of_mem _ (List.mem_append_left _ (List.mem_of_getElem? (i := 1) rfl))), (fun _ h => absurd h List.not_mem_nil)⟩)⟩)⟩)⟩) (kGV _ _ _ _) (fun _ h => List.mem_cons_of_mem _ (List.mem_append_right _ (List.mem_append_right _ (List.mem_append_left _ h)))) gw_s_begin1) rfl rfl rfl ⟨rfl, hd_X1_begin⟩ ⟨(Nat.le_of_ble_eq_true rfl), (Nat.le_of_ble_eq_true rfl)⟩) (kW_V kNF_blind (kNF_give hX hS hFc) (va_recv hKc hPc (ci := 1) (q0 := 0) rfl rfl) hPc hKc hDc) rfl rfl hl.1 rfl (lv_room (Nat.le_of_ble_eq_true rfl)) dX9_isNoted_7 ⟨(Nat.le_of_ble_eq_true rfl), (Nat.le_of_ble_eq_true rfl)⟩) hS (fun q _ h => hFc q h) hFc (kU18 (fun E2_1 E3_2 E4_3 E5_4 E6_5 E7_6 E8_7 E9_8 E10_9 E11_10 E12_11 E13_12 L0_13 L1_14 Pr_15 Mo_16 Ho_17 Dr_18 t H_19 locs ht hvm hw hB hz1 hk1 hS => ?_))
  have hPD : kPD dC dI A [(jX, .inr (9, [.ref jT, .ref jR, .ref jK, .ref jL, .ref jU, .ref hF, .ref jC, .ref hN, .ref jA, .ref sd])), (jC, .inr (1, [.ref hF, .ref jK, .ref d2, .ref d3, .ref d4, .ref d5, .ref d6, .ref d7, .ref d8, .ref d9, .ref d10, .ref d11, .ref d12, .ref d13, .ref ru, .long Dr_18, .int Pr_15, .int Mo_16, .int Ho_17])), (d2, .inl (w2, 10, .inl E2_1)), (d3, .inl (w3, 10, .inl E3_2)), (d4, .inl (w4, 10, .inl E4_3)), (d5, .inl (w5, 10, .inl E5_4)), (d6, .inl (w6, 10, .inl E6_5)), (d7, .inl (w7, 10, .inl E7_6)), (d8, .inl (w8, 10, .inl E8_7)), (d9, .inl (w9, 10, .inl E9_8)), (d10, .inl (w10, 4, .inl E10_9)), (d11, .inl (w11, 4, .inl E11_10)), (d12, .inl (w12, 4, .inl E12_11)), (d13, .inl (w13, 9, .inr (.inl E13_12))), (hF, .inr (2, [.ref f0, .ref f1, .ref f2, .ref f3, .ref f4, .int sn, .int (nI (ks)), .int (nI (kw))])), (f0, .inl (z0, 10, .inl g0)), (f1, .inl (z1, 10, .inl g1)), (f2, .inl (z2, 10, .inl g2)), (f3, .inl (z3, 10, .inl g3)), (f4, .inl (z4, 4, .inl g4)), (jK, .inr (5, [.ref k0, .ref k1])), (k0, .inl (cK, 8, .inl L0_13)), (k1, .inl (cO, 32, .inl L1_14)), (hN, .inr (3, [.ref o0, .ref o1, .ref o2, .ref o3, .ref o4, .int (nI (kn))])), (o0, .inl (y0, 20, .inl q0)), (o1, .inl (y1, 20, .inl q1)), (o2, .inl (y2, 20, .inl q2)), (o3, .inl (y3, 20, .inl q3)), (o4, .inl (y4, 20, .inl q4)), (jA, .inr (0, [.ref i0, .ref i1, .ref i2, .ref i3, .int (nI (ka))])), (i0, .inl (x0, 6, .inl t0)), (i1, .inl (x1, 6, .inl t1)), (i2, .inl (x2, 6, .inl t2)), (i3, .inl (x3, 6, .inl t3))] H_19 := kJoinX hP hD [1, 2, 3, 4, 5, 6, 7, 8, 9, 10, 11, 12, 13, 14, 15, 16, 17, 18, 19, 20, 21, 22] rfl hk1 hFc hB.1 ht hB.2.2 rfl [none, some 0, some 1, some 2, some 3, some 4, some 5, some 6, some 7, some 8, some 9, some 10, some 11, some 12, some 13, some 14, some 15, some 16, some 17, some 18, some 19, some 20, some 21, none, none, none, none, none, none, none, none, none, none, none] rfl rfl
  have hP := hPD.1
  have hD := hPD.2
  refine lv_iconst (v := 0) hx hb dX9_isNoted_10 kc_i_0 ?_
  refine lv_istore hx hb dX9_isNoted_11 hl kc_l_5_6 (kTo [(5, .int 0), (0, .ref jX), (1, .ref ru), (2, .long p1), (4, .int p2)]) (fun ls hl => ?_)
  have lp_k_21 : ∀ (n9 : Nat) (i : Nat) (le2 : Nat → Int32) (le3 : Nat → Int32) (le4 : Nat → Int32) (le5 : Nat → Int32) (le6 : Nat → Int32) (le7 : Nat → Int32) (le8 : Nat → Int32) (le9 : Nat → Int32) (le10 : Nat → Int32) (le11 : Nat → Int32) (le12 : Nat → Int32) (le13 : Nat → Int64) (ll0 : Nat → Int32) (ll1 : Nat → Int32) (ldr : Int64) (lpr : Int32) (lmo : Int32) (lho : Int32) (ivk_21_0 : i ≤ 49) (H : Heap) (locs : List Loc) (_ : va_P (dC, dI) vwCl [(jX, .inr (9, [.ref jT, .ref jR, .ref jK, .ref jL, .ref jU, .ref hF, .ref jC, .ref hN, .ref jA, .ref sd])), (jC, .inr (1, [.ref hF, .ref jK, .ref d2, .ref d3, .ref d4, .ref d5, .ref d6, .ref d7, .ref d8, .ref d9, .ref d10, .ref d11, .ref d12, .ref d13, .ref ru, .long ldr, .int lpr, .int lmo, .int lho])), (d2, .inl (w2, 10, .inl le2)), (d3, .inl (w3, 10, .inl le3)), (d4, .inl (w4, 10, .inl le4)), (d5, .inl (w5, 10, .inl le5)), (d6, .inl (w6, 10, .inl le6)), (d7, .inl (w7, 10, .inl le7)), (d8, .inl (w8, 10, .inl le8)), (d9, .inl (w9, 10, .inl le9)), (d10, .inl (w10, 4, .inl le10)), (d11, .inl (w11, 4, .inl le11)), (d12, .inl (w12, 4, .inl le12)), (d13, .inl (w13, 9, .inr (.inl le13))), (hF, .inr (2, [.ref f0, .ref f1, .ref f2, .ref f3, .ref f4, .int sn, .int (nI (ks)), .int (nI (kw))])), (f0, .inl (z0, 10, .inl g0)), (f1, .inl (z1, 10, .inl g1)), (f2, .inl (z2, 10, .inl g2)), (f3, .inl (z3, 10, .inl g3)), (f4, .inl (z4, 4, .inl g4)), (jK, .inr (5, [.ref k0, .ref k1])), (k0, .inl (cK, 8, .inl ll0)), (k1, .inl (cO, 32, .inl ll1)), (hN, .inr (3, [.ref o0, .ref o1, .ref o2, .ref o3, .ref o4, .int (nI (kn))])), (o0, .inl (y0, 20, .inl q0)), (o1, .inl (y1, 20, .inl q1)), (o2, .inl (y2, 20, .inl q2)), (o3, .inl (y3, 20, .inl q3)), (o4, .inl (y4, 20, .inl q4)), (jA, .inr (0, [.ref i0, .ref i1, .ref i2, .ref i3, .int (nI (ka))])), (i0, .inl (x0, 6, .inl t0)), (i1, .inl (x1, 6, .inl t1)), (i2, .inl (x2, 6, .inl t2)), (i3, .inl (x3, 6, .inl t3))] H) (_ : va_D A [(jX, .inr (9, [.ref jT, .ref jR, .ref jK, .ref jL, .ref jU, .ref hF, .ref jC, .ref hN, .ref jA, .ref sd])), (jC, .inr (1, [.ref hF, .ref jK, .ref d2, .ref d3, .ref d4, .ref d5, .ref d6, .ref d7, .ref d8, .ref d9, .ref d10, .ref d11, .ref d12, .ref d13, .ref ru, .long ldr, .int lpr, .int lmo, .int lho])), (d2, .inl (w2, 10, .inl le2)), (d3, .inl (w3, 10, .inl le3)), (d4, .inl (w4, 10, .inl le4)), (d5, .inl (w5, 10, .inl le5)), (d6, .inl (w6, 10, .inl le6)), (d7, .inl (w7, 10, .inl le7)), (d8, .inl (w8, 10, .inl le8)), (d9, .inl (w9, 10, .inl le9)), (d10, .inl (w10, 4, .inl le10)), (d11, .inl (w11, 4, .inl le11)), (d12, .inl (w12, 4, .inl le12)), (d13, .inl (w13, 9, .inr (.inl le13))), (hF, .inr (2, [.ref f0, .ref f1, .ref f2, .ref f3, .ref f4, .int sn, .int (nI (ks)), .int (nI (kw))])), (f0, .inl (z0, 10, .inl g0)), (f1, .inl (z1, 10, .inl g1)), (f2, .inl (z2, 10, .inl g2)), (f3, .inl (z3, 10, .inl g3)), (f4, .inl (z4, 4, .inl g4)), (jK, .inr (5, [.ref k0, .ref k1])), (k0, .inl (cK, 8, .inl ll0)), (k1, .inl (cO, 32, .inl ll1)), (hN, .inr (3, [.ref o0, .ref o1, .ref o2, .ref o3, .ref o4, .int (nI (kn))])), (o0, .inl (y0, 20, .inl q0)), (o1, .inl (y1, 20, .inl q1)), (o2, .inl (y2, 20, .inl q2)), (o3, .inl (y3, 20, .inl q3)), (o4, .inl (y4, 20, .inl q4)), (jA, .inr (0, [.ref i0, .ref i1, .ref i2, .ref i3, .int (nI (ka))])), (i0, .inl (x0, 6, .inl t0)), (i1, .inl (x1, 6, .inl t1)), (i2, .inl (x2, 6, .inl t2)), (i3, .inl (x3, 6, .inl t3))]) (_ : va_S A s.heap H locs) (ls : Array Slot) (_ : lv_has ls 6 [(5, .int (nI (i))), (0, .ref jX), (1, .ref ru), (2, .long p1), (4, .int p2)]) (_ : 49 - i < n9), W p l e (headSpec w_s_isNoted9 ({ frames := 7, cells := 0, slots := 0, locals := 420 })).room s m (#[.ref jX, .ref ru, .long p1, .int p2] : Array Value) below meth c H locs 0 0 Q (F0 m 13 ls []) := by
    intro n9
    induction n9 with
    | zero => intro i le2 le3 le4 le5 le6 le7 le8 le9 le10 le11 le12 le13 ll0 ll1 ldr lpr lmo lho ivk_21_0 H locs hP hD hS ls hl hm9; exact absurd hm9 (Nat.not_lt_zero _)
    | succ n9 ih_k_21 =>
      intro i le2 le3 le4 le5 le6 le7 le8 le9 le10 le11 le12 le13 ll0 ll1 ldr lpr lmo lho ivk_21_0 H locs hP hD hS ls hl hm9
      refine lv_iload hx hb dX9_isNoted_13 (lv_at hl 0 rfl) ?_
      refine lv_bipush (v := 48) hx hb dX9_isNoted_15 kc_b_48 ?_
      refine lv_icmp_gt (tgt := 61) hx hb dX9_isNoted_17 kc_t_17_44 (fun c_22 => ?_) (fun c_22 => ?_)
      · have bd_24 : i < 2147483648 := by omega
        have hn_23 := klt (a := 48) (b := i) kc_31_48 bd_24 c_22
        refine lv_iconst (v := 1) hx hb dX9_isNoted_61 kc_i_1 ?_
        have hP9 := hP
        have hD9 := hD
        have hK9 := hK
        rw [hQ]
        exact W.zret (v := 1) hx hb hr rfl (fun t ht hW => ⟨⟨1, (le2, le3, le4, le5, le6, le7, le8, le9, le10, le11, le12, le13, ll0, ll1, lpr, lmo, lho, ldr, (.ref ru : Value)), rfl, (Or.inr rfl),  by rw [ht]; exact hP9, va_K.moved hW.alike hK9, hD9⟩, hS.F ht⟩) hS.2.2 dX9_isNoted_62
      · have bd_26 : i < 2147483648 := by omega
        have hn_25 := knlt (a := 48) (b := i) kc_31_48 bd_26 c_22
        refine lv_aload_n hx hb dX9_isNoted_20 rfl (lv_at hl 1 rfl) ?_
        refine va_get (D := (dC, dI)) (ci := 9) (v := .ref hN) (C := RX9) (T := TX9) (N := 10) hx hb hts (fun _ h => List.mem_cons_of_mem _ (List.mem_append_right _ (List.mem_append_left _ h))) hown hK hP 0 rfl rfl 7 kc_l_7_10 (hts (.fieldLink RX9 63 "NotEnded" "notebook" "LNotEnded$Notebook;") (List.mem_cons_of_mem _ (List.mem_append_left _ (List.mem_of_getElem? (i := 5) rfl)))) (fun _ h9 => h9) rfl dX9_isNoted_21 ?_
        refine lv_aload_n hx hb dX9_isNoted_24 rfl (lv_at hl 1 rfl) ?_
        refine va_get (D := (dC, dI)) (ci := 9) (v := .ref jC) (C := RX9) (T := TX9) (N := 10) hx hb hts (fun _ h => List.mem_cons_of_mem _ (List.mem_append_right _ (List.mem_append_left _ h))) hown hK hP 0 rfl rfl 6 kc_l_6_10 (hts (.fieldLink RX9 56 "NotEnded" "course" "LNotEnded$Course;") (List.mem_cons_of_mem _ (List.mem_append_left _ (List.mem_of_getElem? (i := 0) rfl)))) (fun _ h9 => h9) rfl dX9_isNoted_25 ?_
        refine lv_iload hx hb dX9_isNoted_28 (lv_at hl 0 rfl) ?_
        refine lv_iload hx hb dX9_isNoted_30 (lv_at hl 4 rfl) ?_
        have hPc := hP.sb (ws2 := [(hN, .inr (3, [.ref o0, .ref o1, .ref o2, .ref o3, .ref o4, .int (nI (kn))])), (o0, .inl (y0, 20, .inl q0)), (o1, .inl (y1, 20, .inl q1)), (o2, .inl (y2, 20, .inl q2)), (o3, .inl (y3, 20, .inl q3)), (o4, .inl (y4, 20, .inl q4)), (jC, .inr (1, [.ref hF, .ref jK, .ref d2, .ref d3, .ref d4, .ref d5, .ref d6, .ref d7, .ref d8, .ref d9, .ref d10, .ref d11, .ref d12, .ref d13, .ref ru, .long ldr, .int lpr, .int lmo, .int lho])), (d2, .inl (w2, 10, .inl le2)), (d3, .inl (w3, 10, .inl le3)), (d4, .inl (w4, 10, .inl le4)), (d5, .inl (w5, 10, .inl le5)), (d6, .inl (w6, 10, .inl le6)), (d7, .inl (w7, 10, .inl le7)), (d8, .inl (w8, 10, .inl le8)), (d9, .inl (w9, 10, .inl le9)), (d10, .inl (w10, 4, .inl le10)), (d11, .inl (w11, 4, .inl le11)), (d12, .inl (w12, 4, .inl le12)), (d13, .inl (w13, 9, .inr (.inl le13))), (hF, .inr (2, [.ref f0, .ref f1, .ref f2, .ref f3, .ref f4, .int sn, .int (nI (ks)), .int (nI (kw))])), (f0, .inl (z0, 10, .inl g0)), (f1, .inl (z1, 10, .inl g1)), (f2, .inl (z2, 10, .inl g2)), (f3, .inl (z3, 10, .inl g3)), (f4, .inl (z4, 4, .inl g4)), (jK, .inr (5, [.ref k0, .ref k1])), (k0, .inl (cK, 8, .inl ll0)), (k1, .inl (cO, 32, .inl ll1))]) [23, 24, 25, 26, 27, 28, 1, 2, 3, 4, 5, 6, 7, 8, 9, 10, 11, 12, 13, 14, 15, 16, 17, 18, 19, 20, 21, 22] rfl
        have hKc := hK.sb (tys2 := [(y0, .int), (y1, .int), (y2, .int), (y3, .int), (y4, .int), (w2, .int), (w3, .int), (w4, .int), (w5, .int), (w6, .int), (w7, .int), (w8, .int), (w9, .int), (w10, .int), (w11, .int), (w12, .int), (w13, .long), (z0, .int), (z1, .int), (z2, .int), (z3, .int), (z4, .int), (cK, .int), (cO, .int), (cS, .int), (cc, .int)]) [19, 20, 21, 22, 23, 0, 1, 2, 3, 4, 5, 6, 7, 8, 9, 10, 11, 12, 13, 14, 15, 16, 17, 18, 28, 29] rfl
        refine vp_callSi (va_runV (As := [.ref jC, .int (nI (i)), .int p2]) (rest := []) ⟨hx, hb, hml, hown, hts⟩ (s_agrees3 l dC dI jC d2 d3 d4 d5 d6 d7 d8 d9 d10 d11 d12 d13 w2 w3 w4 w5 w6 w7 w8 w9 w10 w11 w12 w13 le2 le3 le4 le5 le6 le7 le8 le9 le10 le11 le12 le13 ldr lpr lmo lho hF f0 f1 f2 f3 f4 z0 z1 z2 z3 z4 g0 g1 g2 g3 g4 sn ks kw hks hkw jK k0 k1 cK cO ll0 ll1 ru sA cl cS cc nS nC gS gC hnS hnC A hN o0 o1 o2 o3 o4 y0 y1 y2 y3 y4 q0 q1 q2 q3 q4 kn hkn (nI (i)) p2) (cwV 3 hts (kG (List.forall_mem_cons.mpr ⟨(List.mem_cons_of_mem _ (List.mem_append_left _ (List.mem_of_getElem? (i := 9) rfl))), (List.forall_mem_cons.mpr ⟨(List.mem_cons_of_mem _ (List.mem_append_left _ (List.mem_of_getElem? (i := 8) rfl))), (List.forall_mem_cons.mpr ⟨(List.mem_cons_of_mem _ (List.mem_append_left _ (List.mem_of_getElem? (i := 7) rfl))), (List.forall_mem_cons.mpr ⟨(List.mem_cons_of_mem _ (List.mem_append_left _ (List.mem_of_getElem? (i := 6) rfl))), (fun _ h => absurd h List.not_mem_nil)⟩)⟩)⟩)⟩) (kGV _ _ _ _) (fun _ h => List.mem_cons_of_mem _ (List.mem_append_right _ (List.mem_append_right _ (List.mem_append_right _ (List.mem_append_left _ h))))) gw_s_agrees3) rfl rfl rfl ⟨rfl, hd_X3_agrees⟩ ⟨(Nat.le_of_ble_eq_true rfl), (Nat.le_of_ble_eq_true rfl)⟩) (kR_V kNF_blind (kNF_give hX hS (fun _ h => h)) (va_recv hKc hPc (ci := 3) (q0 := 0) rfl rfl) hPc hKc) rfl rfl hl.1 rfl (lv_room (Nat.le_of_ble_eq_true rfl)) dX9_isNoted_32 ⟨(Nat.le_of_ble_eq_true rfl), (Nat.le_of_ble_eq_true rfl)⟩).run (fun r_27 hw => ?_)
        have hw_28 := hw
        refine lv_if_ne (tgt := 40) hx hb dX9_isNoted_35 kc_t_35_5 (fun c_29 => ?_) (fun c_29 => ?_)
        · refine lv_iload hx hb dX9_isNoted_40 (lv_at hl 0 rfl) ?_
          refine lv_bipush (v := 48) hx hb dX9_isNoted_42 kc_b_48 ?_
          refine lv_icmp_ge (tgt := 55) hx hb dX9_isNoted_44 kc_t_44_11 (fun c_30 => ?_) (fun c_30 => ?_)
          · have hn_31 := kle (a := 48) (b := i) kc_31_48 bd_26 c_30
            refine lv_iinc (v := nI (i + 1)) hx hb dX9_isNoted_55 hl (k := 0) rfl (kInc _ 1) kc_l_5_6 (kTo [(5, .int (nI (i + 1))), (0, .ref jX), (1, .ref ru), (2, .long p1), (4, .int p2)]) (fun ls hl => ?_)
            refine lv_goto (tgt := 13) hx hb dX9_isNoted_58 kc_t_58_m45 ?_
            exact ih_k_21 (i + 1) le2 le3 le4 le5 le6 le7 le8 le9 le10 le11 le12 le13 ll0 ll1 ldr lpr lmo lho (by omega) _ _ hP hD hS ls (lv_sub hl [0, 1, 2, 3, 4] rfl) (by omega)
          · have hn_32 := knle (a := 48) (b := i) kc_31_48 bd_26 c_30
            refine lv_aload_n hx hb dX9_isNoted_47 rfl (lv_at hl 1 rfl) ?_
            refine va_get (D := (dC, dI)) (ci := 9) (v := .ref jC) (C := RX9) (T := TX9) (N := 10) hx hb hts (fun _ h => List.mem_cons_of_mem _ (List.mem_append_right _ (List.mem_append_left _ h))) hown hK hP 0 rfl rfl 6 kc_l_6_10 (hts (.fieldLink RX9 56 "NotEnded" "course" "LNotEnded$Course;") (List.mem_cons_of_mem _ (List.mem_append_left _ (List.mem_of_getElem? (i := 0) rfl)))) (fun _ h9 => h9) rfl dX9_isNoted_48 ?_
            refine lv_iconst (v := 1) hx hb dX9_isNoted_51 kc_i_1 ?_
            have hCu := kCut (wc := [(jC, .inr (1, [.ref hF, .ref jK, .ref d2, .ref d3, .ref d4, .ref d5, .ref d6, .ref d7, .ref d8, .ref d9, .ref d10, .ref d11, .ref d12, .ref d13, .ref ru, .long ldr, .int lpr, .int lmo, .int lho])), (d2, .inl (w2, 10, .inl le2)), (d3, .inl (w3, 10, .inl le3)), (d4, .inl (w4, 10, .inl le4)), (d5, .inl (w5, 10, .inl le5)), (d6, .inl (w6, 10, .inl le6)), (d7, .inl (w7, 10, .inl le7)), (d8, .inl (w8, 10, .inl le8)), (d9, .inl (w9, 10, .inl le9)), (d10, .inl (w10, 4, .inl le10)), (d11, .inl (w11, 4, .inl le11)), (d12, .inl (w12, 4, .inl le12)), (d13, .inl (w13, 9, .inr (.inl le13))), (hF, .inr (2, [.ref f0, .ref f1, .ref f2, .ref f3, .ref f4, .int sn, .int (nI (ks)), .int (nI (kw))])), (f0, .inl (z0, 10, .inl g0)), (f1, .inl (z1, 10, .inl g1)), (f2, .inl (z2, 10, .inl g2)), (f3, .inl (z3, 10, .inl g3)), (f4, .inl (z4, 4, .inl g4)), (jK, .inr (5, [.ref k0, .ref k1])), (k0, .inl (cK, 8, .inl ll0)), (k1, .inl (cO, 32, .inl ll1))]) hP hD hS hA [1, 2, 3, 4, 5, 6, 7, 8, 9, 10, 11, 12, 13, 14, 15, 16, 17, 18, 19, 20, 21, 22] rfl kc_nd_425 rfl
            have hPc := hCu.1
            have hDc := hCu.2.1
            have hFc := hCu.2.2
            have hKc := hK.sb (tys2 := [(w2, .int), (w3, .int), (w4, .int), (w5, .int), (w6, .int), (w7, .int), (w8, .int), (w9, .int), (w10, .int), (w11, .int), (w12, .int), (w13, .long), (z0, .int), (z1, .int), (z2, .int), (z3, .int), (z4, .int), (cK, .int), (cO, .int), (cS, .int), (cc, .int)]) [0, 1, 2, 3, 4, 5, 6, 7, 8, 9, 10, 11, 12, 13, 14, 15, 16, 17, 18, 28, 29] rfl
            refine va_callv (va_runV (As := [.int 1]) (rest := []) ⟨hx, hb, hml, hown, hts⟩ (s_go1 l dC dI jC d2 d3 d4 d5 d6 d7 d8 d9 d10 d11 d12 d13 w2 w3 w4 w5 w6 w7 w8 w9 w10 w11 w12 w13 le2 le3 le4 le5 le6 le7 le8 le9 le10 le11 le12 le13 ldr lpr lmo lho hF f0 f1 f2 f3 f4 z0 z1 z2 z3 z4 g0 g1 g2 g3 g4 sn ks kw hks hkw jK k0 k1 cK cO ll0 ll1 ru sA cl cS cc nS nC gS gC hnS hnC 1 H.size) (cwV 1 hts (kG (List.forall_mem_cons.mpr ⟨(List.mem_cons_of_mem _ (List.mem_append_left _ (List.mem_of_getElem? (i := 12) rfl))), (List.forall_mem_cons.mpr ⟨(List.mem_cons_of_mem _ (List.mem_append_left _ (List.mem_of_getElem? (i := 11) rfl))), (List.forall_mem_cons.mpr ⟨(List.mem_cons_of_mem _ (List.mem_append_left _ (List.mem_of_getElem? (i := 10) rfl))), (List.forall_mem_cons.mpr ⟨(List.mem_cons_of_mem _ (List.mem_append_left _ (List.mem_of_getElem? (i := 1) rfl))), (fun _ h => absurd h List.not_mem_nil)⟩)⟩)⟩)⟩) (kGV _ _ _ _) (fun _ h => List.mem_cons_of_mem _ (List.mem_append_right _ (List.mem_append_right _ (List.mem_append_right _ (List.mem_append_right _ h))))) gw_s_go1) rfl rfl rfl ⟨rfl, hd_X1_go⟩ ⟨(Nat.le_of_ble_eq_true rfl), (Nat.le_of_ble_eq_true rfl)⟩) (kW_V kNF_blind (kNF_give hX hS hFc) (va_recv hKc hPc (ci := 1) (q0 := 0) rfl rfl) hPc hKc hDc) rfl rfl hl.1 rfl (lv_room (Nat.le_of_ble_eq_true rfl)) dX9_isNoted_52 ⟨(Nat.le_of_ble_eq_true rfl), (Nat.le_of_ble_eq_true rfl)⟩) hS (fun q _ h => hFc q h) hFc (kU18 (fun E2_33 E3_34 E4_35 E5_36 E6_37 E7_38 E8_39 E9_40 E10_41 E11_42 E12_43 E13_44 L0_45 L1_46 Pr_47 Mo_48 Ho_49 Dr_50 t H_51 locs ht hvm hw hB hz1 hk1 hS => ?_))
            have hPD : kPD dC dI A [(jX, .inr (9, [.ref jT, .ref jR, .ref jK, .ref jL, .ref jU, .ref hF, .ref jC, .ref hN, .ref jA, .ref sd])), (jC, .inr (1, [.ref hF, .ref jK, .ref d2, .ref d3, .ref d4, .ref d5, .ref d6, .ref d7, .ref d8, .ref d9, .ref d10, .ref d11, .ref d12, .ref d13, .ref ru, .long Dr_50, .int Pr_47, .int Mo_48, .int Ho_49])), (d2, .inl (w2, 10, .inl E2_33)), (d3, .inl (w3, 10, .inl E3_34)), (d4, .inl (w4, 10, .inl E4_35)), (d5, .inl (w5, 10, .inl E5_36)), (d6, .inl (w6, 10, .inl E6_37)), (d7, .inl (w7, 10, .inl E7_38)), (d8, .inl (w8, 10, .inl E8_39)), (d9, .inl (w9, 10, .inl E9_40)), (d10, .inl (w10, 4, .inl E10_41)), (d11, .inl (w11, 4, .inl E11_42)), (d12, .inl (w12, 4, .inl E12_43)), (d13, .inl (w13, 9, .inr (.inl E13_44))), (hF, .inr (2, [.ref f0, .ref f1, .ref f2, .ref f3, .ref f4, .int sn, .int (nI (ks)), .int (nI (kw))])), (f0, .inl (z0, 10, .inl g0)), (f1, .inl (z1, 10, .inl g1)), (f2, .inl (z2, 10, .inl g2)), (f3, .inl (z3, 10, .inl g3)), (f4, .inl (z4, 4, .inl g4)), (jK, .inr (5, [.ref k0, .ref k1])), (k0, .inl (cK, 8, .inl L0_45)), (k1, .inl (cO, 32, .inl L1_46)), (hN, .inr (3, [.ref o0, .ref o1, .ref o2, .ref o3, .ref o4, .int (nI (kn))])), (o0, .inl (y0, 20, .inl q0)), (o1, .inl (y1, 20, .inl q1)), (o2, .inl (y2, 20, .inl q2)), (o3, .inl (y3, 20, .inl q3)), (o4, .inl (y4, 20, .inl q4)), (jA, .inr (0, [.ref i0, .ref i1, .ref i2, .ref i3, .int (nI (ka))])), (i0, .inl (x0, 6, .inl t0)), (i1, .inl (x1, 6, .inl t1)), (i2, .inl (x2, 6, .inl t2)), (i3, .inl (x3, 6, .inl t3))] H_51 := kJoinX hP hD [1, 2, 3, 4, 5, 6, 7, 8, 9, 10, 11, 12, 13, 14, 15, 16, 17, 18, 19, 20, 21, 22] rfl hk1 hFc hB.1 ht hB.2.2 rfl [none, some 0, some 1, some 2, some 3, some 4, some 5, some 6, some 7, some 8, some 9, some 10, some 11, some 12, some 13, some 14, some 15, some 16, some 17, some 18, some 19, some 20, some 21, none, none, none, none, none, none, none, none, none, none, none] rfl rfl
            have hP := hPD.1
            have hD := hPD.2
            refine lv_iinc (v := nI (i + 1)) hx hb dX9_isNoted_55 hl (k := 0) rfl (kInc _ 1) kc_l_5_6 (kTo [(5, .int (nI (i + 1))), (0, .ref jX), (1, .ref ru), (2, .long p1), (4, .int p2)]) (fun ls hl => ?_)
            refine lv_goto (tgt := 13) hx hb dX9_isNoted_58 kc_t_58_m45 ?_
            exact ih_k_21 (i + 1) E2_33 E3_34 E4_35 E5_36 E6_37 E7_38 E8_39 E9_40 E10_41 E11_42 E12_43 E13_44 L0_45 L1_46 Dr_50 Pr_47 Mo_48 Ho_49 (by omega) _ _ hP hD hS ls (lv_sub hl [0, 1, 2, 3, 4] rfl) (by omega)
        · refine lv_iconst (v := 0) hx hb dX9_isNoted_38 kc_i_0 ?_
          have hP9 := hP
          have hD9 := hD
          have hK9 := hK
          rw [hQ]
          exact W.zret (v := 0) hx hb hr rfl (fun t ht hW => ⟨⟨0, (le2, le3, le4, le5, le6, le7, le8, le9, le10, le11, le12, le13, ll0, ll1, lpr, lmo, lho, ldr, (.ref ru : Value)), rfl, (Or.inl rfl),  by rw [ht]; exact hP9, va_K.moved hW.alike hK9, hD9⟩, hS.F ht⟩) hS.2.2 dX9_isNoted_39
  exact lp_k_21 (49 - 0 + 1) 0 E2_1 E3_2 E4_3 E5_4 E6_5 E7_6 E8_7 E9_8 E10_9 E11_10 E12_11 E13_12 L0_13 L1_14 Dr_18 Pr_15 Mo_16 Ho_17 (by omega) _ _ hP hD hS ls (lv_sub hl [0, 1, 2, 3, 4] rfl) (by omega)

/-- where the text constants lie -/
def kLit (ad : Nat → Nat) (U : State) : Prop := vk_R RX4 28 "" (ad 0) U ∧ vk_R RX4 41 "ygx" (ad 1) U ∧ vk_R RX4 43 "w" (ad 2) U ∧ vk_R RX4 45 "vpnmsudi" (ad 3) U ∧ vk_R RX4 47 "abcde" (ad 4) U ∧ vk_R RX10 26 "ygx" (ad 5) U ∧ vk_R RX10 229 "w" (ad 6) U ∧ vk_R RX10 32 "vpnmsudi" (ad 7) U ∧ vk_R RX10 231 "abcde" (ad 8) U
theorem kLit_same {ad : Nat → Nat} {u U : State} (hv : U.vm = u.vm) (h : kLit ad u) : kLit ad U := by
  obtain ⟨h0, h1, h2, h3, h4, h5, h6, h7, h8⟩ := h
  exact ⟨h0.same hv, h1.same hv, h2.same hv, h3.same hv, h4.same hv, h5.same hv, h6.same hv, h7.same hv, h8.same hv⟩
theorem kLit_warm {ad : Nat → Nat} {s U : State} (hW : s.WarmedH U.vm) (h : kLit ad s) : kLit ad U := by
  obtain ⟨h0, h1, h2, h3, h4, h5, h6, h7, h8⟩ := h
  exact ⟨h0.warm hW, h1.warm hW, h2.warm hW, h3.warm hW, h4.warm hW, h5.warm hW, h6.warm hW, h7.warm hW, h8.warm hW⟩
theorem kLit_blind {ad : Nat → Nat} : ∀ (U : State) (g : JFrame) (mk : MethodId) (a : Array Value), kLit ad U → kLit ad (U.calling g mk a) := fun _ _ _ _ h => kLit_same rfl h
theorem kLit_give {ad : Nat → Nat} {s : State} {H : Heap} (h : kLit ad s) : ∀ U : State, U.heap = H → s.WarmedH U.vm → kLit ad U := fun _ _ hW => kLit_warm hW h
def kAO (U : State) : Prop := va_AO RX6 U
theorem kAO_blind : ∀ (U : State) (g : JFrame) (mk : MethodId) (a : Array Value), kAO U → kAO (U.calling g mk a) := fun U _ _ _ h => va_AO.moved (u := U) (Vm.Alike.refl U.vm) h
theorem kAO_give {s : State} {H : Heap} (h : kAO s) : ∀ U : State, U.heap = H → s.WarmedH U.vm → kAO U := fun _ _ hW => va_AO.moved hW.alike h
/-- where the texts lie, and two of them -/
def kRd (ad : Nat → Nat) (i j b6 n6 : Nat) (g6 : Nat → Int32) (b7 n7 : Nat) (g7 : Nat → Int32) (A : Nat → Prop) (U : State) : Prop := kLit ad U ∧ kS2 (ad i) b6 n6 g6 (ad j) b7 n7 g7 A U
theorem kRd_blind {ad : Nat → Nat} {i j b6 n6 : Nat} {g6 : Nat → Int32} {b7 n7 : Nat} {g7 : Nat → Int32} {A : Nat → Prop} : ∀ (U : State) (k : JFrame) (mk : MethodId) (a : Array Value), kRd ad i j b6 n6 g6 b7 n7 g7 A U → kRd ad i j b6 n6 g6 b7 n7 g7 A (U.calling k mk a) := fun U k mk a h => ⟨kLit_blind U k mk a h.1, kS2_blind U k mk a h.2⟩
theorem kRd_give {ad : Nat → Nat} {i j b6 n6 : Nat} {g6 : Nat → Int32} {b7 n7 : Nat} {g7 : Nat → Int32} {A B : Nat → Prop} {s : State} {H : Heap} {locs : List Loc} (h : kRd ad i j b6 n6 g6 b7 n7 g7 A s) (hS : va_S A s.heap H locs) (hB : ∀ q, B q → A q) : ∀ U : State, U.heap = H → s.WarmedH U.vm → kRd ad i j b6 n6 g6 b7 n7 g7 B U := fun U hU hW => ⟨kLit_give h.1 U hU hW, kS2_give h.2 hS hB U hU hW⟩

/-- a byte at a place, 0 behind the end -/
def kAt (b : Nat → Nat) (n p : Nat) : Nat := if p < n then b p else 0
/-- over blanks, so many at most -/
def kSk (b : Nat → Nat) (n : Nat) : Nat → Nat → Nat
  | 0, p => p
  | f + 1, p => if kAt b n p = 32 then kSk b n f (p + 1) else p
def kSp (b : Nat → Nat) (n p : Nat) : Nat := kSk b n 120 p
def kLk (b : Nat → Nat) (n p : Nat) : Nat := kAt b n (kSp b n p)
theorem kAt_lt {b : Nat → Nat} {n p : Nat} (h : ¬ kAt b n p = 0) : p < n := by
  unfold kAt at h
  by_cases z : p < n
  · exact z
  · rw [if_neg z] at h; exact absurd rfl h
theorem kAt_ge {b : Nat → Nat} {n p : Nat} (h : n ≤ p) : kAt b n p = 0 := by unfold kAt; rw [if_neg (by omega)]
theorem kAt_b {b : Nat → Nat} (hb : ∀ j, b j < 256) (n p : Nat) : kAt b n p < 256 := by
  unfold kAt
  split
  · exact hb p
  · omega
theorem kSk_ge (b : Nat → Nat) (n : Nat) : ∀ f p, p ≤ kSk b n f p := by
  intro f
  induction f with
  | zero => intro p; exact Nat.le_refl p
  | succ f ih =>
    intro p
    unfold kSk
    split
    · exact Nat.le_trans (Nat.le_succ p) (ih (p + 1))
    · exact Nat.le_refl p
theorem kSk_le {b : Nat → Nat} {n : Nat} : ∀ {f p}, p ≤ n → kSk b n f p ≤ n := by
  intro f
  induction f with
  | zero => intro p h; exact h
  | succ f ih =>
    intro p h
    unfold kSk
    by_cases z : kAt b n p = 32
    · rw [if_pos z]
      have := kAt_lt (b := b) (n := n) (p := p) (by rw [z]; decide)
      exact ih (by omega)
    · rw [if_neg z]; exact h
theorem kSk_stop {b : Nat → Nat} {n : Nat} : ∀ {f p}, n ≤ p + f → ¬ kAt b n (kSk b n f p) = 32 := by
  intro f
  induction f with
  | zero => intro p h; show ¬ kAt b n p = 32; rw [kAt_ge (by omega)]; decide
  | succ f ih =>
    intro p h
    unfold kSk
    by_cases z : kAt b n p = 32
    · rw [if_pos z]; exact ih (by omega)
    · rw [if_neg z]; exact z
theorem kSk_id {b : Nat → Nat} {n f p : Nat} (h : ¬ kAt b n p = 32) : kSk b n f p = p := by
  cases f with
  | zero => rfl
  | succ f => unfold kSk; rw [if_neg h]
theorem kSk_more {b : Nat → Nat} {n : Nat} : ∀ {f p}, n ≤ p + f → kSk b n (f + 1) p = kSk b n f p := by
  intro f
  induction f with
  | zero => intro p h; show kSk b n 1 p = p; exact kSk_id (by rw [kAt_ge (by omega)]; decide)
  | succ f ih =>
    intro p h
    show (if kAt b n p = 32 then kSk b n (f + 1) (p + 1) else p) = (if kAt b n p = 32 then kSk b n f (p + 1) else p)
    by_cases z : kAt b n p = 32
    · rw [if_pos z, if_pos z]; exact ih (by omega)
    · rw [if_neg z, if_neg z]
theorem kSk_s {b : Nat → Nat} {n f p : Nat} (h : kAt b n p = 32) : kSk b n (f + 1) p = kSk b n f (p + 1) := if_pos h
theorem kSp_ge (b : Nat → Nat) (n p : Nat) : p ≤ kSp b n p := kSk_ge b n 120 p
theorem kSp_le {b : Nat → Nat} {n p : Nat} (h : p ≤ n) : kSp b n p ≤ n := kSk_le h
theorem kLk_n {b : Nat → Nat} {n p : Nat} (hn : n ≤ 120) : ¬ kLk b n p = 32 := kSk_stop (by omega)
theorem kSp_id {b : Nat → Nat} {n p : Nat} (h : ¬ kAt b n p = 32) : kSp b n p = p := kSk_id h
theorem kSp_sp {b : Nat → Nat} {n p : Nat} (hn : n ≤ 120) : kSp b n (kSp b n p) = kSp b n p := kSp_id (kLk_n hn)
theorem kLk_sp {b : Nat → Nat} {n p : Nat} (hn : n ≤ 120) : kLk b n (kSp b n p) = kLk b n p := by unfold kLk; rw [kSp_sp hn]
/-- a blank is stepped over -/
theorem kSp_step {b : Nat → Nat} {n p : Nat} (hn : n ≤ 120) (h : kAt b n p = 32) : kSp b n (p + 1) = kSp b n p := by
  unfold kSp
  show kSk b n 120 (p + 1) = (if kAt b n p = 32 then kSk b n 119 (p + 1) else p)
  rw [if_pos h]
  exact kSk_more (by omega)
theorem kLk_lt {b : Nat → Nat} {n p : Nat} (h : ¬ kLk b n p = 0) : kSp b n p < n := kAt_lt h
/-- ok, where it stands, what was written -/
abbrev kRes : Type := Bool × Nat × List Int32
def kBo (x : Bool) : Int32 := if x then 1 else 0
theorem kBo_t {x : Bool} (h : ¬ kBo x = 0) : x = true := by cases x with
  | true => rfl
  | false => exact absurd rfl h
theorem kBo_f {x : Bool} (h : kBo x = 0) : x = false := by cases x with
  | true => exact absurd h (by decide)
  | false => rfl
theorem kBo_nar (x : Bool) : narrow .boolean (.int (kBo x)) = .int (kBo x) := by cases x <;> rfl
def kTh (r : kRes) (k : Nat → List Int32 → kRes) : kRes := if r.1 then k r.2.1 r.2.2 else (false, r.2.1, [])
theorem kTh_t (p : Nat) (l : List Int32) (k : Nat → List Int32 → kRes) : kTh (true, p, l) k = k p l := rfl
def kTk (b : Nat → Nat) (n c p : Nat) (l : List Int32) : kRes := if kLk b n p = c then (true, kSp b n p + 1, l) else (false, kSp b n p, [])
def kDg (c : Nat) : Bool := Nat.ble 48 c && Nat.ble c 57
theorem kDg_t {c : Nat} : kDg c = true ↔ 48 ≤ c ∧ c ≤ 57 := by
  unfold kDg
  rw [Bool.and_eq_true, Nat.ble_eq, Nat.ble_eq]
/-- up to so many digits -/
def kNumL (b : Nat → Nat) (n : Nat) : Nat → Nat → Nat → Nat × Nat
  | 0, p, v => (p, v)
  | f + 1, p, v => if kDg (kAt b n p) then kNumL b n f (p + 1) (v * 10 + (kAt b n p - 48)) else (p, v)
def kNum (b : Nat → Nat) (n p : Nat) : kRes := if kDg (kAt b n (kNumL b n 4 p 0).1) then (false, (kNumL b n 4 p 0).1, []) else (true, (kNumL b n 4 p 0).1, [nI (kNumL b n 4 p 0).2])
/-- where a sign stands in a text of n; n: nowhere -/
def kFd (g : Nat → Int32) (c : Int32) : Nat → Nat → Nat
  | 0, j => j
  | f + 1, j => if g j = c then j else kFd g c f (j + 1)
def kIx (g : Nat → Int32) (n : Nat) (c : Int32) : Nat := kFd g c n 0
def kAtomF (b : Nat → Nat) (n : Nat) (g : Nat → Int32) (m : Nat) (op : Bool) (sm : Nat → kRes) (p : Nat) : kRes :=
  if kLk b n p = 91 then (if op then kTh (sm (kSp b n p + 1)) (fun q l => kTk b n 93 q l) else (false, kSp b n p, []))
  else if kDg (kLk b n p) then kNum b n (kSp b n p)
  else if kIx g m (nI (kLk b n p)) < m then (true, kSp b n p + 1, [nI (10000 + kIx g m (nI (kLk b n p)))]) else (false, kSp b n p, [])
/-- while one of two signs stands there -/
def kLoop (b : Nat → Nat) (n c1 c2 : Nat) (a : Nat → kRes) : Nat → Nat → List Int32 → kRes
  | 0, p, l => (true, p, l)
  | f + 1, p, l => if kLk b n p = c1 ∨ kLk b n p = c2 then kTh (a (kSp b n p + 1)) (fun q m => kLoop b n c1 c2 a f q (l ++ m ++ [nI (20000 + kLk b n p)])) else (true, kSp b n p, l)
def kMany (b : Nat → Nat) (n c1 c2 : Nat) (a z : Nat → kRes) (p : Nat) : kRes := kTh (z p) (fun q l => kLoop b n c1 c2 a 120 q l)
def kSumF (b : Nat → Nat) (n : Nat) (a : Nat → kRes) (p : Nat) : kRes := kMany b n 43 45 (kMany b n 42 47 a a) (kMany b n 42 47 a a) p
def kAtomD (b : Nat → Nat) (n : Nat) (g : Nat → Int32) (m : Nat) : Nat → Nat → kRes
  | 0 => kAtomF b n g m false (fun p => (false, p, []))
  | e + 1 => kAtomF b n g m true (kSumF b n (kAtomD b n g m e))
def kTermD (b : Nat → Nat) (n : Nat) (g : Nat → Int32) (m e p : Nat) : kRes := kMany b n 42 47 (kAtomD b n g m e) (kAtomD b n g m e) p
def kSumD (b : Nat → Nat) (n : Nat) (g : Nat → Int32) (m e p : Nat) : kRes := kMany b n 43 45 (kTermD b n g m e) (kTermD b n g m e) p
def kCmp (b : Nat → Nat) (n : Nat) (g : Nat → Int32) (m e p : Nat) (l : List Int32) : kRes :=
  if kLk b n p = 61 ∨ kLk b n p = 60 ∨ kLk b n p = 62 then kTh (kSumD b n g m e (kSp b n p + 1)) (fun q k => (true, q, l ++ k ++ [nI (20000 + kLk b n p)])) else (false, kSp b n p, [])
def kUnitF (b : Nat → Nat) (n : Nat) (g : Nat → Int32) (m e : Nat) (op : Bool) (u c : Nat → kRes) (p : Nat) : kRes :=
  if kLk b n p = 33 then (if op then kTh (u (kSp b n p + 1)) (fun q l => (true, q, l ++ [20033])) else (false, kSp b n p, []))
  else if kLk b n p = 40 then (if op then kTh (c (kSp b n p + 1)) (fun q l => kTk b n 41 q l) else (false, kSp b n p, []))
  else kTh (kSumD b n g m e (kSp b n p)) (fun q l => kCmp b n g m e q l)
def kTruF (b : Nat → Nat) (n : Nat) (u z : Nat → kRes) (p : Nat) : kRes := kMany b n 38 38 u z p
def kConF (b : Nat → Nat) (n : Nat) (t z : Nat → kRes) (p : Nat) : kRes := kMany b n 124 124 t z p
def kUnitD (b : Nat → Nat) (n : Nat) (g : Nat → Int32) (m : Nat) : Nat → Nat → kRes
  | 0 => kUnitF b n g m 0 false (fun p => (false, p, [])) (fun p => (false, p, []))
  | e + 1 => kUnitF b n g m (e + 1) true (kUnitD b n g m e) (kConF b n (kTruF b n (kUnitD b n g m e) (kUnitD b n g m e)) (kTruF b n (kUnitD b n g m e) (kUnitD b n g m e)))
def kTruD (b : Nat → Nat) (n : Nat) (g : Nat → Int32) (m e p : Nat) : kRes := kTruF b n (kUnitD b n g m e) (kUnitD b n g m e) p
def kConD (b : Nat → Nat) (n : Nat) (g : Nat → Int32) (m e p : Nat) : kRes := kConF b n (kTruD b n g m e) (kTruD b n g m e) p
/-- the same where the first sum is read -/
def kUnitZ (b : Nat → Nat) (n : Nat) (g : Nat → Int32) (m e p : Nat) : kRes := kCmp b n g m e p []
def kTruZ (b : Nat → Nat) (n : Nat) (g : Nat → Int32) (m e p : Nat) : kRes := kTruF b n (kUnitD b n g m e) (kUnitZ b n g m e) p
def kConZ (b : Nat → Nat) (n : Nat) (g : Nat → Int32) (m e p : Nat) : kRes := kConF b n (kTruD b n g m e) (kTruZ b n g m e) p
/-- what is written, into a row -/
def kWrt (s : Nat → Int32) : Nat → List Int32 → Nat → Int32
  | _, [] => s
  | k, x :: l => kWrt (upd s k x) (k + 1) l
theorem kWrt_app (l2 : List Int32) : ∀ (l1 : List Int32) (s : Nat → Int32) (k : Nat), kWrt (kWrt s k l1) (k + l1.length) l2 = kWrt s k (l1 ++ l2) := by
  intro l1
  induction l1 with
  | nil => intro s k; rfl
  | cons x l1 ih =>
    intro s k
    show kWrt (kWrt (upd s k x) (k + 1) l1) (k + (l1.length + 1)) l2 = kWrt (upd s k x) (k + 1) (l1 ++ l2)
    rw [show k + (l1.length + 1) = k + 1 + l1.length by omega]
    exact ih (upd s k x) (k + 1)
theorem kWrt_one (s : Nat → Int32) (k : Nat) (x : Int32) : kWrt s k [x] = upd s k x := rfl
/-- a reading that goes on and stays within -/
def kGood (n : Nat) (a : Nat → kRes) : Prop := ∀ p, p ≤ n → (a p).2.1 ≤ n ∧ ((a p).1 = true → p + (a p).2.2.length ≤ (a p).2.1 ∧ p < (a p).2.1)
theorem kNumL_b {b : Nat → Nat} {n : Nat} : ∀ (f p v : Nat), p ≤ n → p ≤ (kNumL b n f p v).1 ∧ (kNumL b n f p v).1 ≤ n := by
  intro f
  induction f with
  | zero => intro p v h; exact ⟨Nat.le_refl p, h⟩
  | succ f ih =>
    intro p v h
    unfold kNumL
    by_cases z : kDg (kAt b n p) = true
    · rw [if_pos z]
      have hz := kDg_t.mp z
      have hp := kAt_lt (b := b) (n := n) (p := p) (by omega)
      have := ih (p + 1) (v * 10 + (kAt b n p - 48)) (by omega)
      omega
    · rw [if_neg z]; exact ⟨Nat.le_refl p, h⟩
theorem kNum_good {b : Nat → Nat} {n p : Nat} (h : p ≤ n) (hd : kDg (kAt b n p) = true) : (kNum b n p).2.1 ≤ n ∧ ((kNum b n p).1 = true → p + (kNum b n p).2.2.length ≤ (kNum b n p).2.1 ∧ p < (kNum b n p).2.1) := by
  have hz := kDg_t.mp hd
  have hp := kAt_lt (b := b) (n := n) (p := p) (by omega)
  have h1 : (kNumL b n 4 p 0) = kNumL b n 3 (p + 1) (0 * 10 + (kAt b n p - 48)) := by
    show (if kDg (kAt b n p) then kNumL b n 3 (p + 1) (0 * 10 + (kAt b n p - 48)) else (p, 0)) = _
    rw [if_pos hd]
  have h2 := kNumL_b (b := b) (n := n) 3 (p + 1) (0 * 10 + (kAt b n p - 48)) (by omega)
  rw [← h1] at h2
  unfold kNum
  split
  · exact ⟨h2.2, fun z => (Bool.false_ne_true z).elim⟩
  · exact ⟨h2.2, fun _ => ⟨by show p + 1 ≤ (kNumL b n 4 p 0).1; omega, by show p < (kNumL b n 4 p 0).1; omega⟩⟩
theorem kTh_good {n p : Nat} {r : kRes} {k : Nat → List Int32 → kRes} (hr : r.2.1 ≤ n) (hk : r.1 = true → (k r.2.1 r.2.2).2.1 ≤ n ∧ ((k r.2.1 r.2.2).1 = true → p + (k r.2.1 r.2.2).2.2.length ≤ (k r.2.1 r.2.2).2.1 ∧ p < (k r.2.1 r.2.2).2.1)) : (kTh r k).2.1 ≤ n ∧ ((kTh r k).1 = true → p + (kTh r k).2.2.length ≤ (kTh r k).2.1 ∧ p < (kTh r k).2.1) := by
  unfold kTh
  by_cases z : r.1 = true
  · rw [if_pos z]; exact hk z
  · rw [if_neg z]; exact ⟨hr, fun h => (Bool.false_ne_true h).elim⟩
theorem kTk_good {b : Nat → Nat} {n c p q : Nat} {l : List Int32} (hc : ¬ c = 0) (hq : q ≤ n) (hl : p + l.length ≤ q) : (kTk b n c q l).2.1 ≤ n ∧ ((kTk b n c q l).1 = true → p + (kTk b n c q l).2.2.length ≤ (kTk b n c q l).2.1 ∧ p < (kTk b n c q l).2.1) := by
  unfold kTk
  have h1 := kSp_ge b n q
  by_cases z : kLk b n q = c
  · rw [if_pos z]
    have h2 := kLk_lt (b := b) (n := n) (p := q) (by rw [z]; exact hc)
    exact ⟨by show kSp b n q + 1 ≤ n; omega, fun _ => ⟨by show p + l.length ≤ kSp b n q + 1; omega, by show p < kSp b n q + 1; omega⟩⟩
  · rw [if_neg z]; exact ⟨kSp_le hq, fun h => (Bool.false_ne_true h).elim⟩
theorem kAtomF_good {b : Nat → Nat} {n : Nat} {g : Nat → Int32} {m : Nat} {op : Bool} {sm : Nat → kRes} (hs : kGood n sm) (hg : kIx g m (nI 0) = m) : kGood n (kAtomF b n g m op sm) := by
  intro p hp
  have h1 := kSp_ge b n p
  have h0 := kSp_le (b := b) hp
  unfold kAtomF
  by_cases z : kLk b n p = 91
  · rw [if_pos z]
    have h2 := kLk_lt (b := b) (n := n) (p := p) (by rw [z]; decide)
    cases op with
    | false => exact ⟨h0, fun h => (Bool.false_ne_true h).elim⟩
    | true =>
      have h3 := hs (kSp b n p + 1) (by omega)
      exact kTh_good h3.1 (fun e => kTk_good (by decide) h3.1 (by have := (h3.2 e).1; omega))
  · rw [if_neg z]
    by_cases y : kDg (kLk b n p) = true
    · rw [if_pos y]
      have h3 := kNum_good (b := b) h0 y
      exact ⟨h3.1, fun e => ⟨by have := (h3.2 e).1; omega, by have := (h3.2 e).2; omega⟩⟩
    · rw [if_neg y]
      by_cases x : kIx g m (nI (kLk b n p)) < m
      · rw [if_pos x]
        have h2 := kLk_lt (b := b) (n := n) (p := p) (fun e => by rw [e, hg] at x; omega)
        exact ⟨by show kSp b n p + 1 ≤ n; omega, fun _ => ⟨by show p + 1 ≤ kSp b n p + 1; omega, by show p < kSp b n p + 1; omega⟩⟩
      · rw [if_neg x]; exact ⟨h0, fun h => (Bool.false_ne_true h).elim⟩
theorem kLoop_good {b : Nat → Nat} {n c1 c2 : Nat} {a : Nat → kRes} (hc1 : ¬ c1 = 0) (hc2 : ¬ c2 = 0) (ha : kGood n a) {p : Nat} : ∀ (f q : Nat) (l : List Int32), q ≤ n → p + l.length ≤ q → p < q → (kLoop b n c1 c2 a f q l).2.1 ≤ n ∧ ((kLoop b n c1 c2 a f q l).1 = true → p + (kLoop b n c1 c2 a f q l).2.2.length ≤ (kLoop b n c1 c2 a f q l).2.1 ∧ p < (kLoop b n c1 c2 a f q l).2.1) := by
  intro f
  induction f with
  | zero => intro q l h1 h2 h3; exact ⟨h1, fun _ => ⟨h2, h3⟩⟩
  | succ f ih =>
    intro q l h1 h2 h3
    have h4 := kSp_ge b n q
    have h5 := kSp_le (b := b) h1
    unfold kLoop
    by_cases z : kLk b n q = c1 ∨ kLk b n q = c2
    · rw [if_pos z]
      have h6 := kLk_lt (b := b) (n := n) (p := q) (fun e => by rcases z with z | z <;> (rw [e] at z; omega))
      have h7 := ha (kSp b n q + 1) (by omega)
      refine kTh_good h7.1 (fun e => ih _ _ h7.1 ?_ ?_)
      · have := (h7.2 e).1
        simp only [List.length_append, List.length_cons, List.length_nil]
        omega
      · have := (h7.2 e).2; omega
    · rw [if_neg z]; exact ⟨h5, fun _ => ⟨by show p + l.length ≤ kSp b n q; omega, by show p < kSp b n q; omega⟩⟩
theorem kMany_good {b : Nat → Nat} {n c1 c2 : Nat} {a z : Nat → kRes} (hc1 : ¬ c1 = 0) (hc2 : ¬ c2 = 0) (ha : kGood n a) (hz : kGood n z) : kGood n (kMany b n c1 c2 a z) := by
  intro p hp
  have h := hz p hp
  exact kTh_good h.1 (fun e => kLoop_good hc1 hc2 ha 120 _ _ h.1 (h.2 e).1 (h.2 e).2)
theorem kSumF_good {b : Nat → Nat} {n : Nat} {a : Nat → kRes} (ha : kGood n a) : kGood n (kSumF b n a) :=
  kMany_good (by decide) (by decide) (kMany_good (by decide) (by decide) ha ha) (kMany_good (by decide) (by decide) ha ha)
theorem kFail_good (n : Nat) : kGood n (fun p => (false, p, [])) := fun _ hp => ⟨hp, fun h => (Bool.false_ne_true h).elim⟩
theorem kAtomD_good {b : Nat → Nat} {n : Nat} {g : Nat → Int32} {m : Nat} (hg : kIx g m (nI 0) = m) : ∀ e, kGood n (kAtomD b n g m e) := by
  intro e
  induction e with
  | zero => exact kAtomF_good (kFail_good n) hg
  | succ e ih => exact kAtomF_good (kSumF_good ih) hg
theorem kTermD_good {b : Nat → Nat} {n : Nat} {g : Nat → Int32} {m : Nat} (hg : kIx g m (nI 0) = m) (e : Nat) : kGood n (kTermD b n g m e) := kMany_good (by decide) (by decide) (kAtomD_good hg e) (kAtomD_good hg e)
theorem kSumD_good {b : Nat → Nat} {n : Nat} {g : Nat → Int32} {m : Nat} (hg : kIx g m (nI 0) = m) (e : Nat) : kGood n (kSumD b n g m e) := kMany_good (by decide) (by decide) (kTermD_good hg e) (kTermD_good hg e)
theorem kCmp_good {b : Nat → Nat} {n : Nat} {g : Nat → Int32} {m : Nat} (hg : kIx g m (nI 0) = m) (e : Nat) {p q : Nat} {l : List Int32} (hq : q ≤ n) (hl : p + l.length ≤ q) : (kCmp b n g m e q l).2.1 ≤ n ∧ ((kCmp b n g m e q l).1 = true → p + (kCmp b n g m e q l).2.2.length ≤ (kCmp b n g m e q l).2.1 ∧ p < (kCmp b n g m e q l).2.1) := by
  have h4 := kSp_ge b n q
  unfold kCmp
  by_cases z : kLk b n q = 61 ∨ kLk b n q = 60 ∨ kLk b n q = 62
  · rw [if_pos z]
    have h6 := kLk_lt (b := b) (n := n) (p := q) (by omega)
    have h7 := kSumD_good (b := b) (n := n) hg e (kSp b n q + 1) (by omega)
    refine kTh_good (k := fun q2 k => (true, q2, l ++ k ++ [nI (20000 + kLk b n q)])) h7.1 (fun e => ⟨h7.1, fun _ => ⟨?_, ?_⟩⟩)
    · have := (h7.2 e).1
      show p + (l ++ _ ++ [_]).length ≤ _
      simp only [List.length_append, List.length_cons, List.length_nil]
      omega
    · have := (h7.2 e).2
      dsimp only
      omega
  · rw [if_neg z]; exact ⟨kSp_le hq, fun h => (Bool.false_ne_true h).elim⟩
theorem kUnitF_good {b : Nat → Nat} {n : Nat} {g : Nat → Int32} {m : Nat} (hg : kIx g m (nI 0) = m) {e : Nat} {op : Bool} {u c : Nat → kRes} (hu : kGood n u) (hc : kGood n c) : kGood n (kUnitF b n g m e op u c) := by
  intro p hp
  have h1 := kSp_ge b n p
  have h0 := kSp_le (b := b) hp
  unfold kUnitF
  by_cases z : kLk b n p = 33
  · rw [if_pos z]
    have h2 := kLk_lt (b := b) (n := n) (p := p) (by rw [z]; decide)
    cases op with
    | false => exact ⟨h0, fun h => (Bool.false_ne_true h).elim⟩
    | true =>
      have h3 := hu (kSp b n p + 1) (by omega)
      refine kTh_good (k := fun q l => (true, q, l ++ [20033])) h3.1 (fun e => ⟨h3.1, fun _ => ⟨?_, ?_⟩⟩)
      · have := (h3.2 e).1
        show p + (_ ++ [_]).length ≤ _
        simp only [List.length_append, List.length_cons, List.length_nil]
        omega
      · have := (h3.2 e).2
        dsimp only
        omega
  · rw [if_neg z]
    by_cases y : kLk b n p = 40
    · rw [if_pos y]
      have h2 := kLk_lt (b := b) (n := n) (p := p) (by rw [y]; decide)
      cases op with
      | false => exact ⟨h0, fun h => (Bool.false_ne_true h).elim⟩
      | true =>
        have h3 := hc (kSp b n p + 1) (by omega)
        exact kTh_good h3.1 (fun e => kTk_good (by decide) h3.1 (by have := (h3.2 e).1; omega))
    · rw [if_neg y]
      have h3 := kSumD_good (b := b) hg e (kSp b n p) h0
      exact kTh_good h3.1 (fun e => kCmp_good hg _ h3.1 (by have := (h3.2 e).1; omega))
theorem kUnitD_good {b : Nat → Nat} {n : Nat} {g : Nat → Int32} {m : Nat} (hg : kIx g m (nI 0) = m) : ∀ e, kGood n (kUnitD b n g m e) := by
  intro e
  induction e with
  | zero => exact kUnitF_good hg (kFail_good n) (kFail_good n)
  | succ e ih =>
    have ht : kGood n (kTruF b n (kUnitD b n g m e) (kUnitD b n g m e)) := kMany_good (by decide) (by decide) ih ih
    exact kUnitF_good hg ih (kMany_good (by decide) (by decide) ht ht)
theorem kTruD_good {b : Nat → Nat} {n : Nat} {g : Nat → Int32} {m : Nat} (hg : kIx g m (nI 0) = m) (e : Nat) : kGood n (kTruD b n g m e) := kMany_good (by decide) (by decide) (kUnitD_good hg e) (kUnitD_good hg e)
theorem kConD_good {b : Nat → Nat} {n : Nat} {g : Nat → Int32} {m : Nat} (hg : kIx g m (nI 0) = m) (e : Nat) : kGood n (kConD b n g m e) := kMany_good (by decide) (by decide) (kTruD_good hg e) (kTruD_good hg e)
theorem kUnitZ_good {b : Nat → Nat} {n : Nat} {g : Nat → Int32} {m : Nat} (hg : kIx g m (nI 0) = m) (e : Nat) : kGood n (kUnitZ b n g m e) := fun p hp => kCmp_good hg e hp (Nat.le_refl p)
theorem kTruZ_good {b : Nat → Nat} {n : Nat} {g : Nat → Int32} {m : Nat} (hg : kIx g m (nI 0) = m) (e : Nat) : kGood n (kTruZ b n g m e) := kMany_good (by decide) (by decide) (kUnitD_good hg e) (kUnitZ_good hg e)
theorem kConZ_good {b : Nat → Nat} {n : Nat} {g : Nat → Int32} {m : Nat} (hg : kIx g m (nI 0) = m) (e : Nat) : kGood n (kConZ b n g m e) := kMany_good (by decide) (by decide) (kTruD_good hg e) (kTruZ_good hg e)
theorem kTk_l {b : Nat → Nat} {n c q P : Nat} (l : List Int32) (h : kTk b n c q [] = (true, P, [])) : kTk b n c q l = (true, P, l) := by
  unfold kTk at h ⊢
  by_cases z : kLk b n q = c
  · rw [if_pos z] at h ⊢
    have := (Prod.mk.inj (Prod.mk.inj h).2).1
    rw [this]
  · rw [if_neg z] at h; exact absurd (Prod.mk.inj h).1 (by decide)
theorem kTk_n {b : Nat → Nat} {n c q P : Nat} (l : List Int32) (h : kTk b n c q [] = (false, P, [])) : kTk b n c q l = (false, P, []) := by
  unfold kTk at h ⊢
  by_cases z : kLk b n q = c
  · rw [if_pos z] at h; exact absurd (Prod.mk.inj h).1 (by decide)
  · rw [if_neg z] at h ⊢; exact h
theorem kNumL_s {b : Nat → Nat} {n f p v : Nat} (h : 48 ≤ kAt b n p ∧ kAt b n p ≤ 57) : kNumL b n (f + 1) p v = kNumL b n f (p + 1) (v * 10 + (kAt b n p - 48)) := if_pos (kDg_t.mpr h)
theorem kNumL_n {b : Nat → Nat} {n f p v : Nat} (h : ¬ (48 ≤ kAt b n p ∧ kAt b n p ≤ 57)) : kNumL b n f p v = (p, v) := by
  cases f with
  | zero => rfl
  | succ f => exact if_neg (fun z => h (kDg_t.mp z))
theorem kNum_t {b : Nat → Nat} {n p q v : Nat} (h : kNumL b n 4 p 0 = (q, v)) (hd : ¬ (48 ≤ kAt b n q ∧ kAt b n q ≤ 57)) : kNum b n p = (true, q, [nI v]) := by
  unfold kNum
  rw [h]
  exact if_neg (fun z => hd (kDg_t.mp z))
theorem kNum_f {b : Nat → Nat} {n p q v : Nat} (h : kNumL b n 4 p 0 = (q, v)) (hd : 48 ≤ kAt b n q ∧ kAt b n q ≤ 57) : kNum b n p = (false, q, []) := by
  unfold kNum
  rw [h]
  exact if_pos (kDg_t.mpr hd)
/-- what a reading method says of its reading -/
def kPR (X : kRes) (pn kt wr : Nat) (s1 : Nat → Int32) (xo : Bool) (P : Nat) (xl : List Int32) (W : Nat) (S : Nat → Int32) : Prop := X = (xo, P, xl) ∧ P ≤ kt ∧ (xo = true → W = wr + xl.length ∧ S = kWrt s1 wr xl ∧ pn + xl.length ≤ P ∧ pn < P)
theorem kPR_f {X : kRes} {pn kt wr P W : Nat} {s1 S : Nat → Int32} (h : X = (false, P, [])) (hP : P ≤ kt) : kPR X pn kt wr s1 false P [] W S := ⟨h, hP, fun z => (Bool.false_ne_true z).elim⟩
theorem kPR_t {X : kRes} {n pn wr P W : Nat} {s1 S : Nat → Int32} {xl : List Int32} {a : Nat → kRes} (hX : X = a pn) (hg : kGood n a) (hp : pn ≤ n) (h : X = (true, P, xl)) (hW : W = wr + xl.length) (hS : S = kWrt s1 wr xl) : kPR X pn n wr s1 true P xl W S := by
  have h1 := hg pn hp
  rw [← hX, h] at h1
  exact ⟨h, h1.1, fun _ => ⟨hW, hS, (h1.2 rfl).1, (h1.2 rfl).2⟩⟩
theorem kLoop_e {b : Nat → Nat} {n c1 c2 : Nat} {a : Nat → kRes} {f p : Nat} {l : List Int32} (h : ¬ (kLk b n p = c1 ∨ kLk b n p = c2)) : kLoop b n c1 c2 a (f + 1) p l = (true, kSp b n p, l) := if_neg h
theorem kLoop_f {b : Nat → Nat} {n c1 c2 : Nat} {a : Nat → kRes} {f p q : Nat} {l m : List Int32} (h : kLk b n p = c1 ∨ kLk b n p = c2) (ha : a (kSp b n p + 1) = (false, q, m)) : kLoop b n c1 c2 a (f + 1) p l = (false, q, []) := (if_pos h).trans (by rw [ha]; rfl)
theorem kLoop_t {b : Nat → Nat} {n c1 c2 : Nat} {a : Nat → kRes} {f p q : Nat} {l m : List Int32} (h : kLk b n p = c1 ∨ kLk b n p = c2) (ha : a (kSp b n p + 1) = (true, q, m)) : kLoop b n c1 c2 a (f + 1) p l = kLoop b n c1 c2 a f q (l ++ m ++ [nI (20000 + kLk b n p)]) := (if_pos h).trans (by rw [ha]; rfl)
theorem kMany_f {b : Nat → Nat} {n c1 c2 : Nat} {a z : Nat → kRes} {p q : Nat} {l : List Int32} (h : z p = (false, q, l)) : kMany b n c1 c2 a z p = (false, q, []) := by unfold kMany; rw [h]; rfl
theorem kMany_t {b : Nat → Nat} {n c1 c2 : Nat} {a z : Nat → kRes} {p q : Nat} {l : List Int32} (h : z p = (true, q, l)) : kMany b n c1 c2 a z p = kLoop b n c1 c2 a 120 q l := by unfold kMany; rw [h]; rfl
theorem kFd_s {g : Nat → Int32} {c : Int32} {f j : Nat} (h : ¬ g j = c) : kFd g c (f + 1) j = kFd g c f (j + 1) := if_neg h
theorem kFd_h {g : Nat → Int32} {c : Int32} {f j : Nat} (h : g j = c) : kFd g c (f + 1) j = j := if_pos h
theorem kNarChF : ∀ v : Fin 256, narrow .char (.int (nI v.val)) = .int (nI v.val) := by decide +kernel
theorem kNarCh {v : Nat} (h : v < 256) : narrow .char (.int (nI v)) = .int (nI v) := kNarChF ⟨v, h⟩
/-- a clause: ok, place, its steps, the label's number, how long the condition is -/
abbrev kClR : Type := Bool × Nat × List Int32 × Nat × Nat
def kThC (r : kRes) (k : Nat → List Int32 → kClR) : kClR := if r.1 then k r.2.1 r.2.2 else (false, r.2.1, [], 0, 0)
theorem kThC_t (p : Nat) (l : List Int32) (k : Nat → List Int32 → kClR) : kThC (true, p, l) k = k p l := rfl
/-- behind a condition: '?' and the sum -/
def kCla2 (b : Nat → Nat) (n : Nat) (g : Nat → Int32) (m j p : Nat) (l : List Int32) : kClR :=
  kThC (kTk b n 63 p []) (fun q _ => kThC (kSumD b n g m 6 q) (fun q2 k => (true, q2, l ++ k, j, l.length)))
/-- behind the label -/
def kCla1 (b : Nat → Nat) (n : Nat) (g : Nat → Int32) (m j p : Nat) : kClR :=
  if kLk b n p = 33 ∨ kLk b n p = 40 then kThC (kConD b n g m 6 (kSp b n p)) (fun q l => kCla2 b n g m j q l)
  else kThC (kSumD b n g m 6 (kSp b n p)) (fun q l =>
    if kLk b n q = 61 ∨ kLk b n q = 60 ∨ kLk b n q = 62 then kThC (kConZ b n g m 6 (kSp b n q)) (fun q2 k => kCla2 b n g m j q2 (l ++ k))
    else (true, kSp b n q, l, j, 0))
def kCla (b : Nat → Nat) (n : Nat) (g6 : Nat → Int32) (n6 : Nat) (g : Nat → Int32) (m p : Nat) : kClR :=
  if kIx g6 n6 (nI (kLk b n p)) < n6 then kThC (kTk b n 58 (kSp b n p + 1) []) (fun q _ => kCla1 b n g m (kIx g6 n6 (nI (kLk b n p))) q)
  else (false, kSp b n p, [], 0, 0)
/-- a text: ok, the fault's place, all steps, the rows of the clauses -/
def kRdL (b : Nat → Nat) (n : Nat) (g6 : Nat → Int32) (n6 : Nat) (g : Nat → Int32) (m : Nat) : Nat → Nat → List Int32 → List Int32 → Bool × Nat × List Int32 × List Int32
  | 0, p, _, _ => (false, p, [], [])
  | f + 1, p, l, c =>
    if (kCla b n g6 n6 g m p).1 then
      (if kLk b n (kCla b n g6 n6 g m p).2.1 = 0 then (true, kSp b n (kCla b n g6 n6 g m p).2.1, l ++ (kCla b n g6 n6 g m p).2.2.1, c ++ [nI (kCla b n g6 n6 g m p).2.2.2.1, nI l.length, nI (l.length + (kCla b n g6 n6 g m p).2.2.2.2), nI (l.length + (kCla b n g6 n6 g m p).2.2.1.length)])
       else if kLk b n (kCla b n g6 n6 g m p).2.1 = 59 then kRdL b n g6 n6 g m f (kSp b n (kCla b n g6 n6 g m p).2.1 + 1) (l ++ (kCla b n g6 n6 g m p).2.2.1) (c ++ [nI (kCla b n g6 n6 g m p).2.2.2.1, nI l.length, nI (l.length + (kCla b n g6 n6 g m p).2.2.2.2), nI (l.length + (kCla b n g6 n6 g m p).2.2.1.length)])
       else (false, kSp b n (kCla b n g6 n6 g m p).2.1, [], []))
    else (false, (kCla b n g6 n6 g m p).2.1, [], [])
def kRead (b : Nat → Nat) (n : Nat) (g6 : Nat → Int32) (n6 : Nat) (g : Nat → Int32) (m : Nat) : Bool × Nat × List Int32 × List Int32 := kRdL b n g6 n6 g m 31 0 [] []
/-- behind a clause that stands: the end, or a semicolon and more -/
def kRdA (b : Nat → Nat) (n : Nat) (g6 : Nat → Int32) (n6 : Nat) (g : Nat → Int32) (m : Nat) (f q : Nat) (l c : List Int32) : Bool × Nat × List Int32 × List Int32 :=
  if kLk b n q = 0 then (true, kSp b n q, l, c) else if kLk b n q = 59 then kRdL b n g6 n6 g m f (kSp b n q + 1) l c else (false, kSp b n q, [], [])
theorem kRdL_t {b : Nat → Nat} {n : Nat} {g6 : Nat → Int32} {n6 : Nat} {g : Nat → Int32} {m f p q j k : Nat} {l c x : List Int32} (h : kCla b n g6 n6 g m p = (true, q, x, j, k)) : kRdL b n g6 n6 g m (f + 1) p l c = kRdA b n g6 n6 g m f q (l ++ x) (c ++ [nI j, nI l.length, nI (l.length + k), nI (l.length + x.length)]) := by
  unfold kRdL
  rw [h]
  rfl
theorem kRdL_f {b : Nat → Nat} {n : Nat} {g6 : Nat → Int32} {n6 : Nat} {g : Nat → Int32} {m f p q j k : Nat} {l c x : List Int32} (h : kCla b n g6 n6 g m p = (false, q, x, j, k)) : kRdL b n g6 n6 g m (f + 1) p l c = (false, q, [], []) := by
  unfold kRdL
  rw [h]
  rfl
theorem kRdA_0 {b : Nat → Nat} {n : Nat} {g6 : Nat → Int32} {n6 : Nat} {g : Nat → Int32} {m f q : Nat} {l c : List Int32} (h : kLk b n q = 0) : kRdA b n g6 n6 g m f q l c = (true, kSp b n q, l, c) := if_pos h
theorem kRdA_s {b : Nat → Nat} {n : Nat} {g6 : Nat → Int32} {n6 : Nat} {g : Nat → Int32} {m f q : Nat} {l c : List Int32} (h : kLk b n q = 59) : kRdA b n g6 n6 g m f q l c = kRdL b n g6 n6 g m f (kSp b n q + 1) l c := (if_neg (by omega)).trans (if_pos h)
theorem kRdA_f {b : Nat → Nat} {n : Nat} {g6 : Nat → Int32} {n6 : Nat} {g : Nat → Int32} {m f q : Nat} {l c : List Int32} (h : ¬ kLk b n q = 0) (h2 : ¬ kLk b n q = 59) : kRdA b n g6 n6 g m f q l c = (false, kSp b n q, [], []) := (if_neg h).trans (if_neg h2)
/-- the fault by a reading -/
def kFt (xo : Bool) (p : Nat) : Int32 := if xo then -1 else nI p
theorem kKeep {S2 s2 : Nat → Int32} {fi j wr a b x y : Nat} (h : S2 = kWrt s2 fi [nI j, nI wr, nI a, nI b]) (ha : a = x) (hb : b = y) : S2 = kWrt s2 fi [nI j, nI wr, nI x, nI y] := by subst ha; subst hb; exact h
theorem kWrtN {s s1 s2 : Nat → Int32} {l1 l2 : List Int32} {k : Nat} (h1 : s1 = kWrt s 0 l1) (hk : k = l1.length) (h2 : s2 = kWrt s1 k l2) : s2 = kWrt s 0 (l1 ++ l2) := by
  subst h1; subst hk; subst h2
  rw [← kWrt_app l2 l1 s 0, Nat.zero_add]
theorem kBy8F : ∀ v : Fin 256, (Int32.toInt8 (nI v.val)).toInt32 = if v.val < 128 then nI v.val else nI v.val - 256 := by decide +kernel
theorem kByNF : ∀ v : Fin 256, 128 ≤ v.val → (nI v.val - 256) < 0 := by decide +kernel
theorem kByEq {x : Int32} {pc : Nat} (hv : ∃ v : Nat, v < 128 ∧ x = nI v) (hpc : pc < 256) : (x = (Int32.toInt8 (nI pc)).toInt32 ↔ x = nI pc) := by
  obtain ⟨v, hv, rfl⟩ := hv
  rw [kBy8F ⟨pc, hpc⟩]
  by_cases z : pc < 128
  · rw [if_pos z]
  · rw [if_neg z]
    constructor
    · intro e
      have h := kByNF ⟨pc, hpc⟩ (by show 128 ≤ pc; omega)
      rw [← e] at h
      exact absurd h (nI_pos (n := v) (by omega))
    · intro e
      have := keq (a := v) (b := pc) (by omega) (by omega) e
      omega
theorem kIx_0 {g : Nat → Int32} {n : Nat} {c : Int32} (h : n = 0) : kIx g n c = n := by subst h; rfl
theorem kAtomD_s {b : Nat → Nat} {n : Nat} {g : Nat → Int32} {m : Nat} (e p : Nat) : kAtomD b n g m (e + 1) p = kAtomF b n g m true (kSumD b n g m e) p := rfl
theorem kAtomD_z {b : Nat → Nat} {n : Nat} {g : Nat → Int32} {m : Nat} (p : Nat) : kAtomD b n g m 0 p = kAtomF b n g m false (fun p => (false, p, [])) p := rfl
theorem kUnitD_s {b : Nat → Nat} {n : Nat} {g : Nat → Int32} {m : Nat} (e p : Nat) : kUnitD b n g m (e + 1) p = kUnitF b n g m (e + 1) true (kUnitD b n g m e) (kConD b n g m e) p := rfl
theorem kUnitD_z {b : Nat → Nat} {n : Nat} {g : Nat → Int32} {m : Nat} (p : Nat) : kUnitD b n g m 0 p = kUnitF b n g m 0 false (fun p => (false, p, [])) (fun p => (false, p, [])) p := rfl
theorem kPR_up {X Y : kRes} {pn p2 kt wr P W : Nat} {s1 S : Nat → Int32} {xo : Bool} {xl : List Int32} (hX : X = Y) (h : kPR Y p2 kt wr s1 xo P xl W S) (hp : pn ≤ p2) : kPR X pn kt wr s1 xo P xl W S := ⟨hX.trans h.1, h.2.1, fun z => ⟨(h.2.2 z).1, (h.2.2 z).2.1, by have := (h.2.2 z).2.2.1; omega, by have := (h.2.2 z).2.2.2; omega⟩⟩
theorem kWrt3 {s1 xs1 S1 S2 : Nat → Int32} {wr xwr W1 : Nat} {xl m : List Int32} {x : Int32} (h5 : xs1 = kWrt s1 wr xl) (h4 : xwr = wr + xl.length) (hS : S1 = kWrt xs1 xwr m) (hW : W1 = xwr + m.length) (hw : S2 = upd S1 W1 x) : S2 = kWrt s1 wr (xl ++ m ++ [x]) := by
  subst h5; subst h4; subst hS; subst hW; subst hw
  rw [kWrt_app]
  rw [← kWrt_app [x] (xl ++ m) s1 wr, kWrt_one, List.length_append, Nat.add_assoc]
theorem kWrt2 {s1 S1 S2 : Nat → Int32} {wr W1 : Nat} {m : List Int32} {x : Int32} (hS : S1 = kWrt s1 wr m) (hW : W1 = wr + m.length) (hw : S2 = upd S1 W1 x) : S2 = kWrt s1 wr (m ++ [x]) := by
  subst hS; subst hW; subst hw
  rw [← kWrt_app [x] m s1 wr, kWrt_one]
theorem kWrtC {s1 xs1 S1 : Nat → Int32} {wr xwr : Nat} {xl m : List Int32} (h5 : xs1 = kWrt s1 wr xl) (h4 : xwr = wr + xl.length) (hS : S1 = kWrt xs1 xwr m) : S1 = kWrt s1 wr (xl ++ m) := by
  subst h5; subst h4; subst hS
  rw [kWrt_app]

def w_s_at8x : List Cond := .code yX8_at cX8_at 2 (some .char) :: ([.fieldLink RX8 15 "NotEnded$Tape" "length" "I", .fieldLink RX8 9 "NotEnded$Tape" "signs" "[C"] ++ (wsX80))
theorem gw_s_at8x : (w_s_at8x).all goodWord = true := kGc rfl (kGa (by decide +kernel) gw_wsX80)
set_option maxHeartbeats 4000000 in
set_option maxRecDepth 100000 in
theorem s_at8x (l : Launch) (dC : Nat → ClassId) (dI : Nat → Nat → Nat) (jT : Nat) (t0 : Nat) (cC : ClassId) (gT : Nat → Int32) (kt : Nat) (hkt : kt ≤ 120) (hgT : ∀ j : Nat, narrow .char (.int (gT j)) = .int (gT j)) (bt : Nat → Nat) (hbt : ∀ j : Nat, gT j = nI (bt j)) (hb8 : ∀ j : Nat, bt j < 256) (pp : Nat) (hpp : pp ≤ 120) : Met l yX8_at w_s_at8x ({ frames := 1, cells := 0, slots := 0, locals := 60 }) (kR dC dI [.ref jT, .int (nI (pp))] [(jT, .inr (8, [.ref t0, .int (nI (kt))])), (t0, .inl (cC, 120, .inl gT))] [(cC, .char)] kT) (vp_Si (fun r : Int32 => r = nI (kAt bt kt pp))) 0 0 (fun _ => False) := by
  refine Met.ofW (cc := cX8_at) (maxL := 2) (ret := (some .char)) (by decide) rfl ?_
  intro p e s m args below meth c s₁ B hml hv
  obtain ⟨rfl, hP, hK, hX⟩ := hv
  have hx := B.exec
  have hb := B.bytes
  have hr := B.returns
  have hts := atoms_spec (ws := w_s_at8x) B.pre
  have hown : s.vm.findClass RX8 = some m.cls := findClass_of_methodNamed B.named
  have hlocks := B.notSynchronized
  have hP : va_P (dC, dI) vwCl [(jT, .inr (8, [.ref t0, .int (nI (kt))])), (t0, .inl (cC, 120, .inl gT))] s.heap := hP
  have hl := lv_entry ([.ref jT, .int (nI (pp))]) (n := 2) (Nat.le_of_ble_eq_true rfl)
  rw [lg_entry_eq]
  generalize (lg_sl ([.ref jT, .int (nI (pp))]) ++ List.replicate (2 - (lg_sl ([.ref jT, .int (nI (pp))])).length) Slot.unset).toArray = ls at hl ⊢
  have hl : lv_has ls 2 [(0, .ref jT), (1, .int (nI (pp)))] := hl
  refine kQ (fun Q hQ => ?_)
  refine lv_iload_n hx hb dX8_at_0 rfl (lv_at hl 1 rfl) ?_
  have bd_1 : pp < 2147483648 := by omega
  refine lv_if_lt (tgt := 30) hx hb dX8_at_1 kc_t_1_29 (fun c_2 => absurd c_2 (nI_pos (n := pp) bd_1)) (fun c_2 => ?_)
  refine lv_iload_n hx hb dX8_at_4 rfl (lv_at hl 1 rfl) ?_
  refine lv_aload_n hx hb dX8_at_5 rfl (lv_at hl 0 rfl) ?_
  refine va_get (D := (dC, dI)) (ci := 8) (v := .int (nI (kt))) (C := RX8) (T := TX8) (N := 2) hx hb hts (fun _ h => List.mem_cons_of_mem _ (List.mem_append_right _ h)) hown hK hP 0 rfl rfl 1 kc_l_1_2 (hts (.fieldLink RX8 15 "NotEnded$Tape" "length" "I") (List.mem_cons_of_mem _ (List.mem_append_left _ (List.mem_of_getElem? (i := 0) rfl)))) (fun _ h9 => h9) rfl dX8_at_6 ?_
  refine lv_icmp_ge (tgt := 30) hx hb dX8_at_9 kc_t_9_21 (fun c_3 => ?_) (fun c_3 => ?_)
  · have bd_5 : kt < 2147483648 := by omega
    have hn_4 := kle (a := kt) (b := pp) bd_5 bd_1 c_3
    refine lv_iconst (v := 0) hx hb dX8_at_30 kc_i_0 ?_
    rw [hQ]
    exact W.zret (v := 0) hx hb hr rfl (fun t ht hW => ⟨0, rfl, (by first | (rw [kAt_ge (by omega)]; rfl) | (exfalso; omega)), ht⟩) (fun _ h => nomatch h) dX8_at_31
  · have bd_7 : kt < 2147483648 := by omega
    have hn_6 := knle (a := kt) (b := pp) bd_7 bd_1 c_3
    refine lv_iload_n hx hb dX8_at_12 rfl (lv_at hl 1 rfl) ?_
    refine lv_aload_n hx hb dX8_at_13 rfl (lv_at hl 0 rfl) ?_
    refine va_get (D := (dC, dI)) (ci := 8) (v := .ref t0) (C := RX8) (T := TX8) (N := 2) hx hb hts (fun _ h => List.mem_cons_of_mem _ (List.mem_append_right _ h)) hown hK hP 0 rfl rfl 0 kc_l_0_2 (hts (.fieldLink RX8 9 "NotEnded$Tape" "signs" "[C") (List.mem_cons_of_mem _ (List.mem_append_left _ (List.mem_of_getElem? (i := 1) rfl)))) (fun _ h9 => h9) rfl dX8_at_14 ?_
    refine va_alen hx hb hK hP 1 0 rfl rfl (v := 120) rfl dX8_at_17 ?_
    refine lv_icmp_ge (tgt := 30) hx hb dX8_at_18 kc_t_18_12 (fun c_8 => ?_) (fun c_8 => ?_)
    · have hn_9 := kle (a := 120) (b := pp) kc_31_120 bd_1 c_8
      refine lv_iconst (v := 0) hx hb dX8_at_30 kc_i_0 ?_
      rw [hQ]
      exact W.zret (v := 0) hx hb hr rfl (fun t ht hW => ⟨0, rfl, (by first | (rw [kAt_ge (by omega)]; rfl) | (exfalso; omega)), ht⟩) (fun _ h => nomatch h) dX8_at_31
    · have hn_10 := knle (a := 120) (b := pp) kc_31_120 bd_1 c_8
      refine lv_aload_n hx hb dX8_at_21 rfl (lv_at hl 0 rfl) ?_
      refine va_get (D := (dC, dI)) (ci := 8) (v := .ref t0) (C := RX8) (T := TX8) (N := 2) hx hb hts (fun _ h => List.mem_cons_of_mem _ (List.mem_append_right _ h)) hown hK hP 0 rfl rfl 0 kc_l_0_2 (hts (.fieldLink RX8 9 "NotEnded$Tape" "signs" "[C") (List.mem_cons_of_mem _ (List.mem_append_left _ (List.mem_of_getElem? (i := 1) rfl)))) (fun _ h9 => h9) rfl dX8_at_22 ?_
      refine lv_iload_n hx hb dX8_at_25 rfl (lv_at hl 1 rfl) ?_
      have bd_11 : pp < 120 := by omega
      refine va_cald hx hb hK hP 1 0 rfl rfl (vp_in_nI (n := pp) (N := 120) bd_11 kc_31_120) dX8_at_26 ?_
      refine lv_topi (fun x_12 ex_12 => ?_)
      refine lv_goto (tgt := 31) hx hb dX8_at_27 kc_t_27_4 ?_
      rw [hQ]
      exact W.zret (v := x_12) hx hb hr (by rw [ex_12]; exact hgT _) (fun t ht hW => ⟨x_12, rfl, (by rw [ex_12, nI_clamp (n := pp) (by omega), hbt]; unfold kAt; rw [if_pos (by omega)]), ht⟩) (fun _ h => nomatch h) dX8_at_31

def w_s_look4x : List Cond := .code yX4_look cX4_look 2 (some .char) :: ([.fieldLink RX4 37 "NotEnded$Reader" "tape" "LNotEnded$Tape;", .fieldLink RX4 25 "NotEnded$Reader" "place" "I", .initialized RX8, .selects RX8 yX8_at yX8_at, .instanceMethod yX8_at, .methodLink RX4 117 yX8_at] ++ (wsX40 ++ (w_s_at8x)))
theorem gw_s_look4x : (w_s_look4x).all goodWord = true := kGc rfl (kGa (by decide +kernel) (kGa gw_wsX40 gw_s_at8x))
set_option maxHeartbeats 4000000 in
set_option maxRecDepth 100000 in
theorem s_look4x (l : Launch) (dC : Nat → ClassId) (dI : Nat → Nat → Nat) (jT : Nat) (t0 : Nat) (cC : ClassId) (gT : Nat → Int32) (kt : Nat) (hkt : kt ≤ 120) (hgT : ∀ j : Nat, narrow .char (.int (gT j)) = .int (gT j)) (bt : Nat → Nat) (hbt : ∀ j : Nat, gT j = nI (bt j)) (hb8 : ∀ j : Nat, bt j < 256) (jR : Nat) (r1 : Nat) (r2 : Nat) (c1 : ClassId) (c2 : ClassId) (s1 : Nat → Int32) (s2 : Nat → Int32) (wr : Nat) (fi : Nat) (q6 : Nat) (q7 : Nat) (hwr : wr ≤ 120) (hfi : fi ≤ 124) (pn : Nat) (hpn : pn ≤ kt) (sz : Nat) : Met l yX4_look w_s_look4x ({ frames := 2, cells := 0, slots := 0, locals := 120 }) (kW dC dI [.ref jR] [(jR, .inr (4, [.ref jT, .ref r1, .ref r2, .int (nI (wr)), .int (nI (fi)), .int (nI (pn)), .ref q6, .ref q7])), (r1, .inl (c1, 120, .inl s1)), (r2, .inl (c2, 124, .inl s2)), (jT, .inr (8, [.ref t0, .int (nI (kt))])), (t0, .inl (cC, 120, .inl gT))] [(c1, .int), (c2, .int), (cC, .char)] kT sz) (va_Qi (fun (r : Int32) (u : Nat × Nat) => match u with | (Pn, ch) => (r = nI ch ∧ ch = kLk bt kt pn ∧ Pn = kSp bt kt pn ∧ ch < 256 ∧ pn ≤ Pn ∧ Pn ≤ kt ∧ (ch = 0 ∨ Pn < kt) ∧ kAt bt kt Pn = ch)) (fun (u : Nat × Nat) => match u with | (Pn, ch) => fun t : State => kB dC dI [(jR, .inr (4, [.ref jT, .ref r1, .ref r2, .int (nI (wr)), .int (nI (fi)), .int (nI (Pn)), .ref q6, .ref q7])), (r1, .inl (c1, 120, .inl s1)), (r2, .inl (c2, 124, .inl s2)), (jT, .inr (8, [.ref t0, .int (nI (kt))])), (t0, .inl (cC, 120, .inl gT))] [(c1, .int), (c2, .int), (cC, .char)] (va_A [(jR, .inr (4, [.ref jT, .ref r1, .ref r2, .int (nI (wr)), .int (nI (fi)), .int (nI (pn)), .ref q6, .ref q7])), (r1, .inl (c1, 120, .inl s1)), (r2, .inl (c2, 124, .inl s2)), (jT, .inr (8, [.ref t0, .int (nI (kt))])), (t0, .inl (cC, 120, .inl gT))] sz) t) (va_A [(jR, .inr (4, [.ref jT, .ref r1, .ref r2, .int (nI (wr)), .int (nI (fi)), .int (nI (pn)), .ref q6, .ref q7])), (r1, .inl (c1, 120, .inl s1)), (r2, .inl (c2, 124, .inl s2)), (jT, .inr (8, [.ref t0, .int (nI (kt))])), (t0, .inl (cC, 120, .inl gT))] sz)) 0 0 (va_A [(jR, .inr (4, [.ref jT, .ref r1, .ref r2, .int (nI (wr)), .int (nI (fi)), .int (nI (pn)), .ref q6, .ref q7])), (r1, .inl (c1, 120, .inl s1)), (r2, .inl (c2, 124, .inl s2)), (jT, .inr (8, [.ref t0, .int (nI (kt))])), (t0, .inl (cC, 120, .inl gT))] sz) := by
  refine Met.ofW (cc := cX4_look) (maxL := 2) (ret := (some .char)) (by decide) rfl ?_
  intro p e s m args below meth c s₁ B hml hv
  obtain ⟨rfl, hsz, hP, hK, hD0, hX⟩ := hv
  have hx := B.exec
  have hb := B.bytes
  have hr := B.returns
  have hts := atoms_spec (ws := w_s_look4x) B.pre
  have hown : s.vm.findClass RX4 = some m.cls := findClass_of_methodNamed B.named
  have hlocks := B.notSynchronized
  subst hsz
  have hD := hD0.self (sz := s.heap.size)
  generalize hAe : va_A [(jR, .inr (4, [.ref jT, .ref r1, .ref r2, .int (nI (wr)), .int (nI (fi)), .int (nI (pn)), .ref q6, .ref q7])), (r1, .inl (c1, 120, .inl s1)), (r2, .inl (c2, 124, .inl s2)), (jT, .inr (8, [.ref t0, .int (nI (kt))])), (t0, .inl (cC, 120, .inl gT))] s.heap.size = A at hD ⊢
  have hA : ∀ q : Nat, s.heap.size ≤ q → A q := fun q h => by rw [← hAe]; exact Or.inr h
  have hS : va_S A s.heap s.heap [] := va_S.rf
  have hP : va_P (dC, dI) vwCl [(jR, .inr (4, [.ref jT, .ref r1, .ref r2, .int (nI (wr)), .int (nI (fi)), .int (nI (pn)), .ref q6, .ref q7])), (r1, .inl (c1, 120, .inl s1)), (r2, .inl (c2, 124, .inl s2)), (jT, .inr (8, [.ref t0, .int (nI (kt))])), (t0, .inl (cC, 120, .inl gT))] s.heap := hP
  have hl := lv_entry ([.ref jR]) (n := 2) (Nat.le_of_ble_eq_true rfl)
  rw [lg_entry_eq]
  generalize (lg_sl ([.ref jR]) ++ List.replicate (2 - (lg_sl ([.ref jR])).length) Slot.unset).toArray = ls at hl ⊢
  have hl : lv_has ls 2 [(0, .ref jR)] := hl
  refine kQ (fun Q hQ => ?_)
  refine lv_iconst (v := 0) hx hb dX4_look_0 kc_i_0 ?_
  refine lv_istore_n hx hb dX4_look_1 rfl hl kc_l_1_2 (kTo [(1, .int 0), (0, .ref jR)]) (fun ls hl => ?_)
  have lp_k_1 : ∀ (n9 : Nat) (i : Nat) (xpn : Nat) (ivk_1_0 : i ≤ 120) (ivk_1_1 : xpn ≤ kt) (ivk_1_2 : kSk bt kt (120 - i) xpn = kSp bt kt pn) (ivk_1_3 : pn ≤ xpn) (H : Heap) (locs : List Loc) (_ : va_P (dC, dI) vwCl [(jR, .inr (4, [.ref jT, .ref r1, .ref r2, .int (nI (wr)), .int (nI (fi)), .int (nI (xpn)), .ref q6, .ref q7])), (r1, .inl (c1, 120, .inl s1)), (r2, .inl (c2, 124, .inl s2)), (jT, .inr (8, [.ref t0, .int (nI (kt))])), (t0, .inl (cC, 120, .inl gT))] H) (_ : va_D A [(jR, .inr (4, [.ref jT, .ref r1, .ref r2, .int (nI (wr)), .int (nI (fi)), .int (nI (xpn)), .ref q6, .ref q7])), (r1, .inl (c1, 120, .inl s1)), (r2, .inl (c2, 124, .inl s2)), (jT, .inr (8, [.ref t0, .int (nI (kt))])), (t0, .inl (cC, 120, .inl gT))]) (_ : va_S A s.heap H locs) (ls : Array Slot) (_ : lv_has ls 2 [(1, .int (nI (i))), (0, .ref jR)]) (_ : 120 - i < n9), W p l e (headSpec w_s_look4x ({ frames := 2, cells := 0, slots := 0, locals := 120 })).room s m (#[.ref jR] : Array Value) below meth c H locs 0 0 Q (F0 m 2 ls []) := by
    intro n9
    induction n9 with
    | zero => intro i xpn ivk_1_0 ivk_1_1 ivk_1_2 ivk_1_3 H locs hP hD hS ls hl hm9; exact absurd hm9 (Nat.not_lt_zero _)
    | succ n9 ih_k_1 =>
      intro i xpn ivk_1_0 ivk_1_1 ivk_1_2 ivk_1_3 H locs hP hD hS ls hl hm9
      refine lv_iload_n hx hb dX4_look_2 rfl (lv_at hl 0 rfl) ?_
      refine lv_bipush (v := 120) hx hb dX4_look_3 kc_b_120 ?_
      refine lv_icmp_ge (tgt := 40) hx hb dX4_look_5 kc_t_5_35 (fun c_2 => ?_) (fun c_2 => ?_)
      · have bd_4 : i < 2147483648 := by omega
        have hn_3 := kle (a := 120) (b := i) kc_31_120 bd_4 c_2
        refine lv_aload_n hx hb dX4_look_40 rfl (lv_at hl 1 rfl) ?_
        refine va_get (D := (dC, dI)) (ci := 4) (v := .ref jT) (C := RX4) (T := TX4) (N := 8) hx hb hts (fun _ h => List.mem_cons_of_mem _ (List.mem_append_right _ (List.mem_append_left _ h))) hown hK hP 0 rfl rfl 0 kc_l_0_8 (hts (.fieldLink RX4 37 "NotEnded$Reader" "tape" "LNotEnded$Tape;") (List.mem_cons_of_mem _ (List.mem_append_left _ (List.mem_of_getElem? (i := 0) rfl)))) (fun _ h9 => h9) rfl dX4_look_41 ?_
        refine lv_aload_n hx hb dX4_look_44 rfl (lv_at hl 1 rfl) ?_
        refine va_get (D := (dC, dI)) (ci := 4) (v := .int (nI (xpn))) (C := RX4) (T := TX4) (N := 8) hx hb hts (fun _ h => List.mem_cons_of_mem _ (List.mem_append_right _ (List.mem_append_left _ h))) hown hK hP 0 rfl rfl 5 kc_l_5_8 (hts (.fieldLink RX4 25 "NotEnded$Reader" "place" "I") (List.mem_cons_of_mem _ (List.mem_append_left _ (List.mem_of_getElem? (i := 1) rfl)))) (fun _ h9 => h9) rfl dX4_look_45 ?_
        have bd_5 : xpn ≤ 120 := by omega
        have hPc := hP.sb (ws2 := [(jT, .inr (8, [.ref t0, .int (nI (kt))])), (t0, .inl (cC, 120, .inl gT))]) [3, 4] rfl
        have hKc := hK.sb (tys2 := [(cC, .char)]) [2] rfl
        refine vp_callSi (va_runV (As := [.int (nI (xpn))]) (rest := []) ⟨hx, hb, hml, hown, hts⟩ (s_at8x l dC dI jT t0 cC gT kt hkt hgT bt hbt hb8 xpn bd_5) (cwV 1 hts (kG (List.forall_mem_cons.mpr ⟨(List.mem_cons_of_mem _ (List.mem_append_left _ (List.mem_of_getElem? (i := 5) rfl))), (List.forall_mem_cons.mpr ⟨(List.mem_cons_of_mem _ (List.mem_append_left _ (List.mem_of_getElem? (i := 4) rfl))), (List.forall_mem_cons.mpr ⟨(List.mem_cons_of_mem _ (List.mem_append_left _ (List.mem_of_getElem? (i := 3) rfl))), (List.forall_mem_cons.mpr ⟨(List.mem_cons_of_mem _ (List.mem_append_left _ (List.mem_of_getElem? (i := 2) rfl))), (fun _ h => absurd h List.not_mem_nil)⟩)⟩)⟩)⟩) (kGV _ _ _ _) (fun _ h => List.mem_cons_of_mem _ (List.mem_append_right _ (List.mem_append_right _ h))) gw_s_at8x) rfl rfl rfl ⟨rfl, hd_X8_at⟩ ⟨(Nat.le_of_ble_eq_true rfl), (Nat.le_of_ble_eq_true rfl)⟩) (kR_V kT_blind kT_give (va_recv hKc hPc (ci := 8) (q0 := 0) rfl rfl) hPc hKc) rfl rfl hl.1 rfl (lv_room (Nat.le_of_ble_eq_true rfl)) dX4_look_48 ⟨(Nat.le_of_ble_eq_true rfl), (Nat.le_of_ble_eq_true rfl)⟩).run (fun r_6 hw => ?_)
        obtain rfl : r_6 = nI (kAt bt kt (xpn)) := hw
        have hk_7 := kAt_b hb8 kt xpn
        have hP9 := hP
        have hD9 := hD
        have hK9 := hK
        rw [hQ]
        exact W.zret (v := nI (kAt bt kt (xpn))) hx hb hr (kNarCh (kAt_b hb8 _ _)) (fun t ht hW => ⟨⟨nI (kAt bt kt (xpn)), (xpn, (kAt bt kt (xpn))), rfl, ⟨rfl, (by have h9 : xpn = kSp bt kt pn := (by first | (rw [← ivk_1_2, show 120 - i = 0 by omega]; rfl) | (rw [← ivk_1_2]; exact (kSk_id (by omega)).symm)); unfold kLk; rw [← h9]), (by first | (rw [← ivk_1_2, show 120 - i = 0 by omega]; rfl) | (rw [← ivk_1_2]; exact (kSk_id (by omega)).symm)), kAt_b hb8 _ _, by omega, by omega, by by_cases z : kAt bt kt xpn = 0; exact Or.inl z; exact Or.inr (kAt_lt z), rfl⟩,  by rw [ht]; exact hP9, va_K.moved hW.alike hK9, hD9⟩, hS.F ht⟩) hS.2.2 dX4_look_51
      · have bd_9 : i < 2147483648 := by omega
        have hn_8 := knle (a := 120) (b := i) kc_31_120 bd_9 c_2
        refine lv_aload_n hx hb dX4_look_8 rfl (lv_at hl 1 rfl) ?_
        refine va_get (D := (dC, dI)) (ci := 4) (v := .ref jT) (C := RX4) (T := TX4) (N := 8) hx hb hts (fun _ h => List.mem_cons_of_mem _ (List.mem_append_right _ (List.mem_append_left _ h))) hown hK hP 0 rfl rfl 0 kc_l_0_8 (hts (.fieldLink RX4 37 "NotEnded$Reader" "tape" "LNotEnded$Tape;") (List.mem_cons_of_mem _ (List.mem_append_left _ (List.mem_of_getElem? (i := 0) rfl)))) (fun _ h9 => h9) rfl dX4_look_9 ?_
        refine lv_aload_n hx hb dX4_look_12 rfl (lv_at hl 1 rfl) ?_
        refine va_get (D := (dC, dI)) (ci := 4) (v := .int (nI (xpn))) (C := RX4) (T := TX4) (N := 8) hx hb hts (fun _ h => List.mem_cons_of_mem _ (List.mem_append_right _ (List.mem_append_left _ h))) hown hK hP 0 rfl rfl 5 kc_l_5_8 (hts (.fieldLink RX4 25 "NotEnded$Reader" "place" "I") (List.mem_cons_of_mem _ (List.mem_append_left _ (List.mem_of_getElem? (i := 1) rfl)))) (fun _ h9 => h9) rfl dX4_look_13 ?_
        have bd_10 : xpn ≤ 120 := by omega
        have hPc := hP.sb (ws2 := [(jT, .inr (8, [.ref t0, .int (nI (kt))])), (t0, .inl (cC, 120, .inl gT))]) [3, 4] rfl
        have hKc := hK.sb (tys2 := [(cC, .char)]) [2] rfl
        refine vp_callSi (va_runV (As := [.int (nI (xpn))]) (rest := []) ⟨hx, hb, hml, hown, hts⟩ (s_at8x l dC dI jT t0 cC gT kt hkt hgT bt hbt hb8 xpn bd_10) (cwV 1 hts (kG (List.forall_mem_cons.mpr ⟨(List.mem_cons_of_mem _ (List.mem_append_left _ (List.mem_of_getElem? (i := 5) rfl))), (List.forall_mem_cons.mpr ⟨(List.mem_cons_of_mem _ (List.mem_append_left _ (List.mem_of_getElem? (i := 4) rfl))), (List.forall_mem_cons.mpr ⟨(List.mem_cons_of_mem _ (List.mem_append_left _ (List.mem_of_getElem? (i := 3) rfl))), (List.forall_mem_cons.mpr ⟨(List.mem_cons_of_mem _ (List.mem_append_left _ (List.mem_of_getElem? (i := 2) rfl))), (fun _ h => absurd h List.not_mem_nil)⟩)⟩)⟩)⟩) (kGV _ _ _ _) (fun _ h => List.mem_cons_of_mem _ (List.mem_append_right _ (List.mem_append_right _ h))) gw_s_at8x) rfl rfl rfl ⟨rfl, hd_X8_at⟩ ⟨(Nat.le_of_ble_eq_true rfl), (Nat.le_of_ble_eq_true rfl)⟩) (kR_V kT_blind kT_give (va_recv hKc hPc (ci := 8) (q0 := 0) rfl rfl) hPc hKc) rfl rfl hl.1 rfl (lv_room (Nat.le_of_ble_eq_true rfl)) dX4_look_16 ⟨(Nat.le_of_ble_eq_true rfl), (Nat.le_of_ble_eq_true rfl)⟩).run (fun r_11 hw => ?_)
        obtain rfl : r_11 = nI (kAt bt kt (xpn)) := hw
        have hk_12 := kAt_b hb8 kt xpn
        refine lv_bipush (v := 32) hx hb dX4_look_19 kc_b_32 ?_
        refine lv_icmp_ne (tgt := 40) hx hb dX4_look_21 kc_t_21_19 (fun c_13 => ?_) (fun c_13 => ?_)
        · have bd_15 : kAt bt kt (xpn) < 2147483648 := by omega
          have hn_14 := kneq (a := kAt bt kt (xpn)) (b := 32) bd_15 kc_31_32 c_13
          refine lv_aload_n hx hb dX4_look_40 rfl (lv_at hl 1 rfl) ?_
          refine va_get (D := (dC, dI)) (ci := 4) (v := .ref jT) (C := RX4) (T := TX4) (N := 8) hx hb hts (fun _ h => List.mem_cons_of_mem _ (List.mem_append_right _ (List.mem_append_left _ h))) hown hK hP 0 rfl rfl 0 kc_l_0_8 (hts (.fieldLink RX4 37 "NotEnded$Reader" "tape" "LNotEnded$Tape;") (List.mem_cons_of_mem _ (List.mem_append_left _ (List.mem_of_getElem? (i := 0) rfl)))) (fun _ h9 => h9) rfl dX4_look_41 ?_
          refine lv_aload_n hx hb dX4_look_44 rfl (lv_at hl 1 rfl) ?_
          refine va_get (D := (dC, dI)) (ci := 4) (v := .int (nI (xpn))) (C := RX4) (T := TX4) (N := 8) hx hb hts (fun _ h => List.mem_cons_of_mem _ (List.mem_append_right _ (List.mem_append_left _ h))) hown hK hP 0 rfl rfl 5 kc_l_5_8 (hts (.fieldLink RX4 25 "NotEnded$Reader" "place" "I") (List.mem_cons_of_mem _ (List.mem_append_left _ (List.mem_of_getElem? (i := 1) rfl)))) (fun _ h9 => h9) rfl dX4_look_45 ?_
          have hPc := hP.sb (ws2 := [(jT, .inr (8, [.ref t0, .int (nI (kt))])), (t0, .inl (cC, 120, .inl gT))]) [3, 4] rfl
          have hKc := hK.sb (tys2 := [(cC, .char)]) [2] rfl
          refine vp_callSi (va_runV (As := [.int (nI (xpn))]) (rest := []) ⟨hx, hb, hml, hown, hts⟩ (s_at8x l dC dI jT t0 cC gT kt hkt hgT bt hbt hb8 xpn bd_10) (cwV 1 hts (kG (List.forall_mem_cons.mpr ⟨(List.mem_cons_of_mem _ (List.mem_append_left _ (List.mem_of_getElem? (i := 5) rfl))), (List.forall_mem_cons.mpr ⟨(List.mem_cons_of_mem _ (List.mem_append_left _ (List.mem_of_getElem? (i := 4) rfl))), (List.forall_mem_cons.mpr ⟨(List.mem_cons_of_mem _ (List.mem_append_left _ (List.mem_of_getElem? (i := 3) rfl))), (List.forall_mem_cons.mpr ⟨(List.mem_cons_of_mem _ (List.mem_append_left _ (List.mem_of_getElem? (i := 2) rfl))), (fun _ h => absurd h List.not_mem_nil)⟩)⟩)⟩)⟩) (kGV _ _ _ _) (fun _ h => List.mem_cons_of_mem _ (List.mem_append_right _ (List.mem_append_right _ h))) gw_s_at8x) rfl rfl rfl ⟨rfl, hd_X8_at⟩ ⟨(Nat.le_of_ble_eq_true rfl), (Nat.le_of_ble_eq_true rfl)⟩) (kR_V kT_blind kT_give (va_recv hKc hPc (ci := 8) (q0 := 0) rfl rfl) hPc hKc) rfl rfl hl.1 rfl (lv_room (Nat.le_of_ble_eq_true rfl)) dX4_look_48 ⟨(Nat.le_of_ble_eq_true rfl), (Nat.le_of_ble_eq_true rfl)⟩).run (fun r_16 hw => ?_)
          obtain rfl : r_16 = nI (kAt bt kt (xpn)) := hw
          have hk_17 := kAt_b hb8 kt xpn
          have hP9 := hP
          have hD9 := hD
          have hK9 := hK
          rw [hQ]
          exact W.zret (v := nI (kAt bt kt (xpn))) hx hb hr (kNarCh (kAt_b hb8 _ _)) (fun t ht hW => ⟨⟨nI (kAt bt kt (xpn)), (xpn, (kAt bt kt (xpn))), rfl, ⟨rfl, (by have h9 : xpn = kSp bt kt pn := (by first | (rw [← ivk_1_2, show 120 - i = 0 by omega]; rfl) | (rw [← ivk_1_2]; exact (kSk_id (by omega)).symm)); unfold kLk; rw [← h9]), (by first | (rw [← ivk_1_2, show 120 - i = 0 by omega]; rfl) | (rw [← ivk_1_2]; exact (kSk_id (by omega)).symm)), kAt_b hb8 _ _, by omega, by omega, by by_cases z : kAt bt kt xpn = 0; exact Or.inl z; exact Or.inr (kAt_lt z), rfl⟩,  by rw [ht]; exact hP9, va_K.moved hW.alike hK9, hD9⟩, hS.F ht⟩) hS.2.2 dX4_look_51
        · have bd_19 : kAt bt kt (xpn) < 2147483648 := by omega
          have hn_18 := keq (a := kAt bt kt (xpn)) (b := 32) bd_19 kc_31_32 c_13
          refine lv_aload_n hx hb dX4_look_24 rfl (lv_at hl 1 rfl) ?_
          refine lv_dup hx hb dX4_look_25 rfl ?_
          refine va_get (D := (dC, dI)) (ci := 4) (v := .int (nI (xpn))) (C := RX4) (T := TX4) (N := 8) hx hb hts (fun _ h => List.mem_cons_of_mem _ (List.mem_append_right _ (List.mem_append_left _ h))) hown hK hP 0 rfl rfl 5 kc_l_5_8 (hts (.fieldLink RX4 25 "NotEnded$Reader" "place" "I") (List.mem_cons_of_mem _ (List.mem_append_left _ (List.mem_of_getElem? (i := 1) rfl)))) (fun _ h9 => h9) rfl dX4_look_26 ?_
          refine lv_iconst (v := 1) hx hb dX4_look_29 kc_i_1 ?_
          refine lv_iadd hx hb dX4_look_30 ?_
          refine lv_topi (fun y_20 ey_20 => ?_)
          obtain rfl : y_20 = nI (xpn + 1) := ey_20.trans (nI_add (xpn) (1))
          refine va_put (D := (dC, dI)) (ci := 4) (v := .int (nI (xpn + 1))) (ty := tyX4 5) (C := RX4) (T := TX4) (N := 8) hx hb hts (fun _ h => List.mem_cons_of_mem _ (List.mem_append_right _ (List.mem_append_left _ h))) tyX4 tyX4_ok nmX4 hown hK hP hD hS 0 rfl rfl 5 kc_l_5_8 (hts (.fieldLink RX4 25 "NotEnded$Reader" "place" "I") (List.mem_cons_of_mem _ (List.mem_append_left _ (List.mem_of_getElem? (i := 1) rfl)))) (fun _ h9 => h9) rfl (tyX4_ok 5 kc_l_5_8) rfl rfl (Nat.le_of_ble_eq_true rfl) dX4_look_31 (fun H locs hP hD hS => ?_)
          have hPD : kPD dC dI A [(jR, .inr (4, [.ref jT, .ref r1, .ref r2, .int (nI (wr)), .int (nI (fi)), .int (nI (xpn + 1)), .ref q6, .ref q7])), (r1, .inl (c1, 120, .inl s1)), (r2, .inl (c2, 124, .inl s2)), (jT, .inr (8, [.ref t0, .int (nI (kt))])), (t0, .inl (cC, 120, .inl gT))] H := ⟨hP, hD⟩
          have hP := hPD.1
          have hD := hPD.2
          refine lv_iinc (v := nI (i + 1)) hx hb dX4_look_34 hl (k := 0) rfl (kInc _ 1) kc_l_1_2 (kTo [(1, .int (nI (i + 1))), (0, .ref jR)]) (fun ls hl => ?_)
          refine lv_goto (tgt := 2) hx hb dX4_look_37 kc_t_37_m35 ?_
          exact ih_k_1 (i + 1) (xpn + 1) (by omega) (by have h9 := kAt_lt (b := bt) (n := kt) (p := xpn) (by omega); omega) (by rw [← ivk_1_2, show 120 - i = (120 - (i + 1)) + 1 by omega]; exact (kSk_s (by omega)).symm) (by omega) _ _ hP hD hS ls (lv_sub hl [0, 1] rfl) (by omega)
  exact lp_k_1 (120 - 0 + 1) 0 pn (by omega) (by omega) rfl (by omega) _ _ hP hD hS ls (lv_sub hl [0, 1] rfl) (by omega)

def w_s_take4_58 : List Cond := .code yX4_take cX4_take 2 (some .boolean) :: ([.initialized RX4, .selects RX4 yX4_look yX4_look, .instanceMethod yX4_look, .methodLink RX4 53 yX4_look, .fieldLink RX4 25 "NotEnded$Reader" "place" "I"] ++ (w_s_look4x ++ (wsX40)))
theorem gw_s_take4_58 : (w_s_take4_58).all goodWord = true := kGc rfl (kGa (by decide +kernel) (kGa gw_s_look4x gw_wsX40))
set_option maxHeartbeats 4000000 in
set_option maxRecDepth 100000 in
theorem s_take4_58 (l : Launch) (dC : Nat → ClassId) (dI : Nat → Nat → Nat) (jT : Nat) (t0 : Nat) (cC : ClassId) (gT : Nat → Int32) (kt : Nat) (hkt : kt ≤ 120) (hgT : ∀ j : Nat, narrow .char (.int (gT j)) = .int (gT j)) (bt : Nat → Nat) (hbt : ∀ j : Nat, gT j = nI (bt j)) (hb8 : ∀ j : Nat, bt j < 256) (jR : Nat) (r1 : Nat) (r2 : Nat) (c1 : ClassId) (c2 : ClassId) (s1 : Nat → Int32) (s2 : Nat → Int32) (wr : Nat) (fi : Nat) (q6 : Nat) (q7 : Nat) (hwr : wr ≤ 120) (hfi : fi ≤ 124) (pn : Nat) (hpn : pn ≤ kt) (sz : Nat) : Met l yX4_take w_s_take4_58 ({ frames := 3, cells := 0, slots := 0, locals := 180 }) (kW dC dI [.ref jR, .int 58] [(jR, .inr (4, [.ref jT, .ref r1, .ref r2, .int (nI (wr)), .int (nI (fi)), .int (nI (pn)), .ref q6, .ref q7])), (r1, .inl (c1, 120, .inl s1)), (r2, .inl (c2, 124, .inl s2)), (jT, .inr (8, [.ref t0, .int (nI (kt))])), (t0, .inl (cC, 120, .inl gT))] [(c1, .int), (c2, .int), (cC, .char)] kT sz) (va_Qi (fun (r : Int32) (u : Nat × Bool) => match u with | (Pn, xo) => (r = kBo xo ∧ kTk bt kt 58 pn [] = (xo, Pn, []) ∧ pn ≤ Pn ∧ Pn ≤ kt ∧ (xo = true → pn < Pn))) (fun (u : Nat × Bool) => match u with | (Pn, xo) => fun t : State => kB dC dI [(jR, .inr (4, [.ref jT, .ref r1, .ref r2, .int (nI (wr)), .int (nI (fi)), .int (nI (Pn)), .ref q6, .ref q7])), (r1, .inl (c1, 120, .inl s1)), (r2, .inl (c2, 124, .inl s2)), (jT, .inr (8, [.ref t0, .int (nI (kt))])), (t0, .inl (cC, 120, .inl gT))] [(c1, .int), (c2, .int), (cC, .char)] (va_A [(jR, .inr (4, [.ref jT, .ref r1, .ref r2, .int (nI (wr)), .int (nI (fi)), .int (nI (pn)), .ref q6, .ref q7])), (r1, .inl (c1, 120, .inl s1)), (r2, .inl (c2, 124, .inl s2)), (jT, .inr (8, [.ref t0, .int (nI (kt))])), (t0, .inl (cC, 120, .inl gT))] sz) t) (va_A [(jR, .inr (4, [.ref jT, .ref r1, .ref r2, .int (nI (wr)), .int (nI (fi)), .int (nI (pn)), .ref q6, .ref q7])), (r1, .inl (c1, 120, .inl s1)), (r2, .inl (c2, 124, .inl s2)), (jT, .inr (8, [.ref t0, .int (nI (kt))])), (t0, .inl (cC, 120, .inl gT))] sz)) 0 0 (va_A [(jR, .inr (4, [.ref jT, .ref r1, .ref r2, .int (nI (wr)), .int (nI (fi)), .int (nI (pn)), .ref q6, .ref q7])), (r1, .inl (c1, 120, .inl s1)), (r2, .inl (c2, 124, .inl s2)), (jT, .inr (8, [.ref t0, .int (nI (kt))])), (t0, .inl (cC, 120, .inl gT))] sz) := by
  refine Met.ofW (cc := cX4_take) (maxL := 2) (ret := (some .boolean)) (by decide) rfl ?_
  intro p e s m args below meth c s₁ B hml hv
  obtain ⟨rfl, hsz, hP, hK, hD0, hX⟩ := hv
  have hx := B.exec
  have hb := B.bytes
  have hr := B.returns
  have hts := atoms_spec (ws := w_s_take4_58) B.pre
  have hown : s.vm.findClass RX4 = some m.cls := findClass_of_methodNamed B.named
  have hlocks := B.notSynchronized
  subst hsz
  have hD := hD0.self (sz := s.heap.size)
  generalize hAe : va_A [(jR, .inr (4, [.ref jT, .ref r1, .ref r2, .int (nI (wr)), .int (nI (fi)), .int (nI (pn)), .ref q6, .ref q7])), (r1, .inl (c1, 120, .inl s1)), (r2, .inl (c2, 124, .inl s2)), (jT, .inr (8, [.ref t0, .int (nI (kt))])), (t0, .inl (cC, 120, .inl gT))] s.heap.size = A at hD ⊢
  have hA : ∀ q : Nat, s.heap.size ≤ q → A q := fun q h => by rw [← hAe]; exact Or.inr h
  have hS : va_S A s.heap s.heap [] := va_S.rf
  have hP : va_P (dC, dI) vwCl [(jR, .inr (4, [.ref jT, .ref r1, .ref r2, .int (nI (wr)), .int (nI (fi)), .int (nI (pn)), .ref q6, .ref q7])), (r1, .inl (c1, 120, .inl s1)), (r2, .inl (c2, 124, .inl s2)), (jT, .inr (8, [.ref t0, .int (nI (kt))])), (t0, .inl (cC, 120, .inl gT))] s.heap := hP
  have hl := lv_entry ([.ref jR, .int 58]) (n := 2) (Nat.le_of_ble_eq_true rfl)
  rw [lg_entry_eq]
  generalize (lg_sl ([.ref jR, .int 58]) ++ List.replicate (2 - (lg_sl ([.ref jR, .int 58])).length) Slot.unset).toArray = ls at hl ⊢
  have hl : lv_has ls 2 [(0, .ref jR), (1, .int 58)] := hl
  refine kQ (fun Q hQ => ?_)
  refine lv_aload_n hx hb dX4_take_0 rfl (lv_at hl 0 rfl) ?_
  have hCu := kCut (wc := [(jR, .inr (4, [.ref jT, .ref r1, .ref r2, .int (nI (wr)), .int (nI (fi)), .int (nI (pn)), .ref q6, .ref q7])), (r1, .inl (c1, 120, .inl s1)), (r2, .inl (c2, 124, .inl s2)), (jT, .inr (8, [.ref t0, .int (nI (kt))])), (t0, .inl (cC, 120, .inl gT))]) hP hD hS hA [0, 1, 2, 3, 4] rfl kc_nd_311 rfl
  have hPc := hCu.1
  have hDc := hCu.2.1
  have hFc := hCu.2.2
  have hKc := hK.sb (tys2 := [(c1, .int), (c2, .int), (cC, .char)]) [0, 1, 2] rfl
  refine va_calli (va_runV (As := []) (rest := []) ⟨hx, hb, hml, hown, hts⟩ (s_look4x l dC dI jT t0 cC gT kt hkt hgT bt hbt hb8 jR r1 r2 c1 c2 s1 s2 wr fi q6 q7 hwr hfi pn hpn s.heap.size) (cwV 0 hts (kG (List.forall_mem_cons.mpr ⟨(List.mem_cons_of_mem _ (List.mem_append_left _ (List.mem_of_getElem? (i := 3) rfl))), (List.forall_mem_cons.mpr ⟨(List.mem_cons_of_mem _ (List.mem_append_left _ (List.mem_of_getElem? (i := 2) rfl))), (List.forall_mem_cons.mpr ⟨(List.mem_cons_of_mem _ (List.mem_append_left _ (List.mem_of_getElem? (i := 1) rfl))), (List.forall_mem_cons.mpr ⟨(List.mem_cons_of_mem _ (List.mem_append_left _ (List.mem_of_getElem? (i := 0) rfl))), (fun _ h => absurd h List.not_mem_nil)⟩)⟩)⟩)⟩) (kGV _ _ _ _) (fun _ h => List.mem_cons_of_mem _ (List.mem_append_right _ (List.mem_append_left _ h))) gw_s_look4x) rfl rfl rfl ⟨rfl, hd_X4_look⟩ ⟨(Nat.le_of_ble_eq_true rfl), (Nat.le_of_ble_eq_true rfl)⟩) (kW_V kT_blind kT_give (va_recv hKc hPc (ci := 4) (q0 := 0) rfl rfl) hPc hKc hDc) rfl rfl hl.1 rfl (lv_room (Nat.le_of_ble_eq_true rfl)) dX4_take_1 ⟨(Nat.le_of_ble_eq_true rfl), (Nat.le_of_ble_eq_true rfl)⟩) hS (fun q _ h => hFc q h) hFc (fun r_1 => kU2 (fun Pn_2 ch_3 t H_4 locs ht hvm hw hB hz1 hk1 hS => ?_))
  try dsimp only at hw
  have hPD : kPD dC dI A [(jR, .inr (4, [.ref jT, .ref r1, .ref r2, .int (nI (wr)), .int (nI (fi)), .int (nI (Pn_2)), .ref q6, .ref q7])), (r1, .inl (c1, 120, .inl s1)), (r2, .inl (c2, 124, .inl s2)), (jT, .inr (8, [.ref t0, .int (nI (kt))])), (t0, .inl (cC, 120, .inl gT))] H_4 := kJoinX hP hD [0, 1, 2, 3, 4] rfl hk1 hFc hB.1 ht hB.2.2 rfl [some 0, some 1, some 2, some 3, some 4] rfl rfl
  have hP := hPD.1
  have hD := hPD.2
  obtain ⟨rfl, hw_5_0, hw_5_1, hw_5_2, hw_5_3, hw_5_4, hw_5_5, hw_5_6⟩ := hw
  refine lv_iload_n hx hb dX4_take_4 rfl (lv_at hl 1 rfl) ?_
  refine lv_icmp_eq (tgt := 10) hx hb dX4_take_5 kc_t_5_5 (fun c_6 => ?_) (fun c_6 => ?_)
  · have bd_8 : ch_3 < 2147483648 := by omega
    have hn_7 := keq (a := ch_3) (b := 58) bd_8 kc_31_58 c_6
    refine lv_aload_n hx hb dX4_take_10 rfl (lv_at hl 0 rfl) ?_
    refine lv_dup hx hb dX4_take_11 rfl ?_
    refine va_get (D := (dC, dI)) (ci := 4) (v := .int (nI (Pn_2))) (C := RX4) (T := TX4) (N := 8) hx hb hts (fun _ h => List.mem_cons_of_mem _ (List.mem_append_right _ (List.mem_append_right _ h))) hown hK hP 0 rfl rfl 5 kc_l_5_8 (hts (.fieldLink RX4 25 "NotEnded$Reader" "place" "I") (List.mem_cons_of_mem _ (List.mem_append_left _ (List.mem_of_getElem? (i := 4) rfl)))) (fun _ h9 => h9) rfl dX4_take_12 ?_
    refine lv_iconst (v := 1) hx hb dX4_take_15 kc_i_1 ?_
    refine lv_iadd hx hb dX4_take_16 ?_
    refine lv_topi (fun y_9 ey_9 => ?_)
    obtain rfl : y_9 = nI (Pn_2 + 1) := ey_9.trans (nI_add (Pn_2) (1))
    refine va_put (D := (dC, dI)) (ci := 4) (v := .int (nI (Pn_2 + 1))) (ty := tyX4 5) (C := RX4) (T := TX4) (N := 8) hx hb hts (fun _ h => List.mem_cons_of_mem _ (List.mem_append_right _ (List.mem_append_right _ h))) tyX4 tyX4_ok nmX4 hown hK hP hD hS 0 rfl rfl 5 kc_l_5_8 (hts (.fieldLink RX4 25 "NotEnded$Reader" "place" "I") (List.mem_cons_of_mem _ (List.mem_append_left _ (List.mem_of_getElem? (i := 4) rfl)))) (fun _ h9 => h9) rfl (tyX4_ok 5 kc_l_5_8) rfl rfl (Nat.le_of_ble_eq_true rfl) dX4_take_17 (fun H locs hP hD hS => ?_)
    have hPD : kPD dC dI A [(jR, .inr (4, [.ref jT, .ref r1, .ref r2, .int (nI (wr)), .int (nI (fi)), .int (nI (Pn_2 + 1)), .ref q6, .ref q7])), (r1, .inl (c1, 120, .inl s1)), (r2, .inl (c2, 124, .inl s2)), (jT, .inr (8, [.ref t0, .int (nI (kt))])), (t0, .inl (cC, 120, .inl gT))] H := ⟨hP, hD⟩
    have hP := hPD.1
    have hD := hPD.2
    refine lv_iconst (v := 1) hx hb dX4_take_20 kc_i_1 ?_
    have hP9 := hP
    have hD9 := hD
    have hK9 := hK
    rw [hQ]
    exact W.zret (v := 1) hx hb hr rfl (fun t ht hW => ⟨⟨1, ((Pn_2 + 1), true), rfl, ⟨rfl, by unfold kTk; rw [← hw_5_0, ← hw_5_1, if_pos (by omega)], by omega, by omega, fun _ => by omega⟩,  by rw [ht]; exact hP9, va_K.moved hW.alike hK9, hD9⟩, hS.F ht⟩) hS.2.2 dX4_take_21
  · have bd_11 : ch_3 < 2147483648 := by omega
    have hn_10 := kneq (a := ch_3) (b := 58) bd_11 kc_31_58 c_6
    refine lv_iconst (v := 0) hx hb dX4_take_8 kc_i_0 ?_
    have hP9 := hP
    have hD9 := hD
    have hK9 := hK
    rw [hQ]
    exact W.zret (v := 0) hx hb hr rfl (fun t ht hW => ⟨⟨0, (Pn_2, false), rfl, ⟨rfl, by unfold kTk; rw [← hw_5_0, ← hw_5_1, if_neg (by omega)], by omega, by omega, fun h => absurd h (by decide)⟩,  by rw [ht]; exact hP9, va_K.moved hW.alike hK9, hD9⟩, hS.F ht⟩) hS.2.2 dX4_take_9

def w_s_take4_63 : List Cond := .code yX4_take cX4_take 2 (some .boolean) :: ([.initialized RX4, .selects RX4 yX4_look yX4_look, .instanceMethod yX4_look, .methodLink RX4 53 yX4_look, .fieldLink RX4 25 "NotEnded$Reader" "place" "I"] ++ (w_s_look4x ++ (wsX40)))
theorem gw_s_take4_63 : (w_s_take4_63).all goodWord = true := kGc rfl (kGa (by decide +kernel) (kGa gw_s_look4x gw_wsX40))
set_option maxHeartbeats 4000000 in
set_option maxRecDepth 100000 in
theorem s_take4_63 (l : Launch) (dC : Nat → ClassId) (dI : Nat → Nat → Nat) (jT : Nat) (t0 : Nat) (cC : ClassId) (gT : Nat → Int32) (kt : Nat) (hkt : kt ≤ 120) (hgT : ∀ j : Nat, narrow .char (.int (gT j)) = .int (gT j)) (bt : Nat → Nat) (hbt : ∀ j : Nat, gT j = nI (bt j)) (hb8 : ∀ j : Nat, bt j < 256) (jR : Nat) (r1 : Nat) (r2 : Nat) (c1 : ClassId) (c2 : ClassId) (s1 : Nat → Int32) (s2 : Nat → Int32) (wr : Nat) (fi : Nat) (q6 : Nat) (q7 : Nat) (hwr : wr ≤ 120) (hfi : fi ≤ 124) (pn : Nat) (hpn : pn ≤ kt) (sz : Nat) : Met l yX4_take w_s_take4_63 ({ frames := 3, cells := 0, slots := 0, locals := 180 }) (kW dC dI [.ref jR, .int 63] [(jR, .inr (4, [.ref jT, .ref r1, .ref r2, .int (nI (wr)), .int (nI (fi)), .int (nI (pn)), .ref q6, .ref q7])), (r1, .inl (c1, 120, .inl s1)), (r2, .inl (c2, 124, .inl s2)), (jT, .inr (8, [.ref t0, .int (nI (kt))])), (t0, .inl (cC, 120, .inl gT))] [(c1, .int), (c2, .int), (cC, .char)] kT sz) (va_Qi (fun (r : Int32) (u : Nat × Bool) => match u with | (Pn, xo) => (r = kBo xo ∧ kTk bt kt 63 pn [] = (xo, Pn, []) ∧ pn ≤ Pn ∧ Pn ≤ kt ∧ (xo = true → pn < Pn))) (fun (u : Nat × Bool) => match u with | (Pn, xo) => fun t : State => kB dC dI [(jR, .inr (4, [.ref jT, .ref r1, .ref r2, .int (nI (wr)), .int (nI (fi)), .int (nI (Pn)), .ref q6, .ref q7])), (r1, .inl (c1, 120, .inl s1)), (r2, .inl (c2, 124, .inl s2)), (jT, .inr (8, [.ref t0, .int (nI (kt))])), (t0, .inl (cC, 120, .inl gT))] [(c1, .int), (c2, .int), (cC, .char)] (va_A [(jR, .inr (4, [.ref jT, .ref r1, .ref r2, .int (nI (wr)), .int (nI (fi)), .int (nI (pn)), .ref q6, .ref q7])), (r1, .inl (c1, 120, .inl s1)), (r2, .inl (c2, 124, .inl s2)), (jT, .inr (8, [.ref t0, .int (nI (kt))])), (t0, .inl (cC, 120, .inl gT))] sz) t) (va_A [(jR, .inr (4, [.ref jT, .ref r1, .ref r2, .int (nI (wr)), .int (nI (fi)), .int (nI (pn)), .ref q6, .ref q7])), (r1, .inl (c1, 120, .inl s1)), (r2, .inl (c2, 124, .inl s2)), (jT, .inr (8, [.ref t0, .int (nI (kt))])), (t0, .inl (cC, 120, .inl gT))] sz)) 0 0 (va_A [(jR, .inr (4, [.ref jT, .ref r1, .ref r2, .int (nI (wr)), .int (nI (fi)), .int (nI (pn)), .ref q6, .ref q7])), (r1, .inl (c1, 120, .inl s1)), (r2, .inl (c2, 124, .inl s2)), (jT, .inr (8, [.ref t0, .int (nI (kt))])), (t0, .inl (cC, 120, .inl gT))] sz) := by
  refine Met.ofW (cc := cX4_take) (maxL := 2) (ret := (some .boolean)) (by decide) rfl ?_
  intro p e s m args below meth c s₁ B hml hv
  obtain ⟨rfl, hsz, hP, hK, hD0, hX⟩ := hv
  have hx := B.exec
  have hb := B.bytes
  have hr := B.returns
  have hts := atoms_spec (ws := w_s_take4_63) B.pre
  have hown : s.vm.findClass RX4 = some m.cls := findClass_of_methodNamed B.named
  have hlocks := B.notSynchronized
  subst hsz
  have hD := hD0.self (sz := s.heap.size)
  generalize hAe : va_A [(jR, .inr (4, [.ref jT, .ref r1, .ref r2, .int (nI (wr)), .int (nI (fi)), .int (nI (pn)), .ref q6, .ref q7])), (r1, .inl (c1, 120, .inl s1)), (r2, .inl (c2, 124, .inl s2)), (jT, .inr (8, [.ref t0, .int (nI (kt))])), (t0, .inl (cC, 120, .inl gT))] s.heap.size = A at hD ⊢
  have hA : ∀ q : Nat, s.heap.size ≤ q → A q := fun q h => by rw [← hAe]; exact Or.inr h
  have hS : va_S A s.heap s.heap [] := va_S.rf
  have hP : va_P (dC, dI) vwCl [(jR, .inr (4, [.ref jT, .ref r1, .ref r2, .int (nI (wr)), .int (nI (fi)), .int (nI (pn)), .ref q6, .ref q7])), (r1, .inl (c1, 120, .inl s1)), (r2, .inl (c2, 124, .inl s2)), (jT, .inr (8, [.ref t0, .int (nI (kt))])), (t0, .inl (cC, 120, .inl gT))] s.heap := hP
  have hl := lv_entry ([.ref jR, .int 63]) (n := 2) (Nat.le_of_ble_eq_true rfl)
  rw [lg_entry_eq]
  generalize (lg_sl ([.ref jR, .int 63]) ++ List.replicate (2 - (lg_sl ([.ref jR, .int 63])).length) Slot.unset).toArray = ls at hl ⊢
  have hl : lv_has ls 2 [(0, .ref jR), (1, .int 63)] := hl
  refine kQ (fun Q hQ => ?_)
  refine lv_aload_n hx hb dX4_take_0 rfl (lv_at hl 0 rfl) ?_
  have hCu := kCut (wc := [(jR, .inr (4, [.ref jT, .ref r1, .ref r2, .int (nI (wr)), .int (nI (fi)), .int (nI (pn)), .ref q6, .ref q7])), (r1, .inl (c1, 120, .inl s1)), (r2, .inl (c2, 124, .inl s2)), (jT, .inr (8, [.ref t0, .int (nI (kt))])), (t0, .inl (cC, 120, .inl gT))]) hP hD hS hA [0, 1, 2, 3, 4] rfl kc_nd_311 rfl
  have hPc := hCu.1
  have hDc := hCu.2.1
  have hFc := hCu.2.2
  have hKc := hK.sb (tys2 := [(c1, .int), (c2, .int), (cC, .char)]) [0, 1, 2] rfl
  refine va_calli (va_runV (As := []) (rest := []) ⟨hx, hb, hml, hown, hts⟩ (s_look4x l dC dI jT t0 cC gT kt hkt hgT bt hbt hb8 jR r1 r2 c1 c2 s1 s2 wr fi q6 q7 hwr hfi pn hpn s.heap.size) (cwV 0 hts (kG (List.forall_mem_cons.mpr ⟨(List.mem_cons_of_mem _ (List.mem_append_left _ (List.mem_of_getElem? (i := 3) rfl))), (List.forall_mem_cons.mpr ⟨(List.mem_cons_of_mem _ (List.mem_append_left _ (List.mem_of_getElem? (i := 2) rfl))), (List.forall_mem_cons.mpr ⟨(List.mem_cons_of_mem _ (List.mem_append_left _ (List.mem_of_getElem? (i := 1) rfl))), (List.forall_mem_cons.mpr ⟨(List.mem_cons_of_mem _ (List.mem_append_left _ (List.mem_of_getElem? (i := 0) rfl))), (fun _ h => absurd h List.not_mem_nil)⟩)⟩)⟩)⟩) (kGV _ _ _ _) (fun _ h => List.mem_cons_of_mem _ (List.mem_append_right _ (List.mem_append_left _ h))) gw_s_look4x) rfl rfl rfl ⟨rfl, hd_X4_look⟩ ⟨(Nat.le_of_ble_eq_true rfl), (Nat.le_of_ble_eq_true rfl)⟩) (kW_V kT_blind kT_give (va_recv hKc hPc (ci := 4) (q0 := 0) rfl rfl) hPc hKc hDc) rfl rfl hl.1 rfl (lv_room (Nat.le_of_ble_eq_true rfl)) dX4_take_1 ⟨(Nat.le_of_ble_eq_true rfl), (Nat.le_of_ble_eq_true rfl)⟩) hS (fun q _ h => hFc q h) hFc (fun r_1 => kU2 (fun Pn_2 ch_3 t H_4 locs ht hvm hw hB hz1 hk1 hS => ?_))
  try dsimp only at hw
  have hPD : kPD dC dI A [(jR, .inr (4, [.ref jT, .ref r1, .ref r2, .int (nI (wr)), .int (nI (fi)), .int (nI (Pn_2)), .ref q6, .ref q7])), (r1, .inl (c1, 120, .inl s1)), (r2, .inl (c2, 124, .inl s2)), (jT, .inr (8, [.ref t0, .int (nI (kt))])), (t0, .inl (cC, 120, .inl gT))] H_4 := kJoinX hP hD [0, 1, 2, 3, 4] rfl hk1 hFc hB.1 ht hB.2.2 rfl [some 0, some 1, some 2, some 3, some 4] rfl rfl
  have hP := hPD.1
  have hD := hPD.2
  obtain ⟨rfl, hw_5_0, hw_5_1, hw_5_2, hw_5_3, hw_5_4, hw_5_5, hw_5_6⟩ := hw
  refine lv_iload_n hx hb dX4_take_4 rfl (lv_at hl 1 rfl) ?_
  refine lv_icmp_eq (tgt := 10) hx hb dX4_take_5 kc_t_5_5 (fun c_6 => ?_) (fun c_6 => ?_)
  · have bd_8 : ch_3 < 2147483648 := by omega
    have hn_7 := keq (a := ch_3) (b := 63) bd_8 kc_31_63 c_6
    refine lv_aload_n hx hb dX4_take_10 rfl (lv_at hl 0 rfl) ?_
    refine lv_dup hx hb dX4_take_11 rfl ?_
    refine va_get (D := (dC, dI)) (ci := 4) (v := .int (nI (Pn_2))) (C := RX4) (T := TX4) (N := 8) hx hb hts (fun _ h => List.mem_cons_of_mem _ (List.mem_append_right _ (List.mem_append_right _ h))) hown hK hP 0 rfl rfl 5 kc_l_5_8 (hts (.fieldLink RX4 25 "NotEnded$Reader" "place" "I") (List.mem_cons_of_mem _ (List.mem_append_left _ (List.mem_of_getElem? (i := 4) rfl)))) (fun _ h9 => h9) rfl dX4_take_12 ?_
    refine lv_iconst (v := 1) hx hb dX4_take_15 kc_i_1 ?_
    refine lv_iadd hx hb dX4_take_16 ?_
    refine lv_topi (fun y_9 ey_9 => ?_)
    obtain rfl : y_9 = nI (Pn_2 + 1) := ey_9.trans (nI_add (Pn_2) (1))
    refine va_put (D := (dC, dI)) (ci := 4) (v := .int (nI (Pn_2 + 1))) (ty := tyX4 5) (C := RX4) (T := TX4) (N := 8) hx hb hts (fun _ h => List.mem_cons_of_mem _ (List.mem_append_right _ (List.mem_append_right _ h))) tyX4 tyX4_ok nmX4 hown hK hP hD hS 0 rfl rfl 5 kc_l_5_8 (hts (.fieldLink RX4 25 "NotEnded$Reader" "place" "I") (List.mem_cons_of_mem _ (List.mem_append_left _ (List.mem_of_getElem? (i := 4) rfl)))) (fun _ h9 => h9) rfl (tyX4_ok 5 kc_l_5_8) rfl rfl (Nat.le_of_ble_eq_true rfl) dX4_take_17 (fun H locs hP hD hS => ?_)
    have hPD : kPD dC dI A [(jR, .inr (4, [.ref jT, .ref r1, .ref r2, .int (nI (wr)), .int (nI (fi)), .int (nI (Pn_2 + 1)), .ref q6, .ref q7])), (r1, .inl (c1, 120, .inl s1)), (r2, .inl (c2, 124, .inl s2)), (jT, .inr (8, [.ref t0, .int (nI (kt))])), (t0, .inl (cC, 120, .inl gT))] H := ⟨hP, hD⟩
    have hP := hPD.1
    have hD := hPD.2
    refine lv_iconst (v := 1) hx hb dX4_take_20 kc_i_1 ?_
    have hP9 := hP
    have hD9 := hD
    have hK9 := hK
    rw [hQ]
    exact W.zret (v := 1) hx hb hr rfl (fun t ht hW => ⟨⟨1, ((Pn_2 + 1), true), rfl, ⟨rfl, by unfold kTk; rw [← hw_5_0, ← hw_5_1, if_pos (by omega)], by omega, by omega, fun _ => by omega⟩,  by rw [ht]; exact hP9, va_K.moved hW.alike hK9, hD9⟩, hS.F ht⟩) hS.2.2 dX4_take_21
  · have bd_11 : ch_3 < 2147483648 := by omega
    have hn_10 := kneq (a := ch_3) (b := 63) bd_11 kc_31_63 c_6
    refine lv_iconst (v := 0) hx hb dX4_take_8 kc_i_0 ?_
    have hP9 := hP
    have hD9 := hD
    have hK9 := hK
    rw [hQ]
    exact W.zret (v := 0) hx hb hr rfl (fun t ht hW => ⟨⟨0, (Pn_2, false), rfl, ⟨rfl, by unfold kTk; rw [← hw_5_0, ← hw_5_1, if_neg (by omega)], by omega, by omega, fun h => absurd h (by decide)⟩,  by rw [ht]; exact hP9, va_K.moved hW.alike hK9, hD9⟩, hS.F ht⟩) hS.2.2 dX4_take_9

def w_s_take4_41 : List Cond := .code yX4_take cX4_take 2 (some .boolean) :: ([.initialized RX4, .selects RX4 yX4_look yX4_look, .instanceMethod yX4_look, .methodLink RX4 53 yX4_look, .fieldLink RX4 25 "NotEnded$Reader" "place" "I"] ++ (w_s_look4x ++ (wsX40)))
theorem gw_s_take4_41 : (w_s_take4_41).all goodWord = true := kGc rfl (kGa (by decide +kernel) (kGa gw_s_look4x gw_wsX40))
set_option maxHeartbeats 4000000 in
set_option maxRecDepth 100000 in
theorem s_take4_41 (l : Launch) (dC : Nat → ClassId) (dI : Nat → Nat → Nat) (jT : Nat) (t0 : Nat) (cC : ClassId) (gT : Nat → Int32) (kt : Nat) (hkt : kt ≤ 120) (hgT : ∀ j : Nat, narrow .char (.int (gT j)) = .int (gT j)) (bt : Nat → Nat) (hbt : ∀ j : Nat, gT j = nI (bt j)) (hb8 : ∀ j : Nat, bt j < 256) (jR : Nat) (r1 : Nat) (r2 : Nat) (c1 : ClassId) (c2 : ClassId) (s1 : Nat → Int32) (s2 : Nat → Int32) (wr : Nat) (fi : Nat) (q6 : Nat) (q7 : Nat) (hwr : wr ≤ 120) (hfi : fi ≤ 124) (pn : Nat) (hpn : pn ≤ kt) (sz : Nat) : Met l yX4_take w_s_take4_41 ({ frames := 3, cells := 0, slots := 0, locals := 180 }) (kW dC dI [.ref jR, .int 41] [(jR, .inr (4, [.ref jT, .ref r1, .ref r2, .int (nI (wr)), .int (nI (fi)), .int (nI (pn)), .ref q6, .ref q7])), (r1, .inl (c1, 120, .inl s1)), (r2, .inl (c2, 124, .inl s2)), (jT, .inr (8, [.ref t0, .int (nI (kt))])), (t0, .inl (cC, 120, .inl gT))] [(c1, .int), (c2, .int), (cC, .char)] kT sz) (va_Qi (fun (r : Int32) (u : Nat × Bool) => match u with | (Pn, xo) => (r = kBo xo ∧ kTk bt kt 41 pn [] = (xo, Pn, []) ∧ pn ≤ Pn ∧ Pn ≤ kt ∧ (xo = true → pn < Pn))) (fun (u : Nat × Bool) => match u with | (Pn, xo) => fun t : State => kB dC dI [(jR, .inr (4, [.ref jT, .ref r1, .ref r2, .int (nI (wr)), .int (nI (fi)), .int (nI (Pn)), .ref q6, .ref q7])), (r1, .inl (c1, 120, .inl s1)), (r2, .inl (c2, 124, .inl s2)), (jT, .inr (8, [.ref t0, .int (nI (kt))])), (t0, .inl (cC, 120, .inl gT))] [(c1, .int), (c2, .int), (cC, .char)] (va_A [(jR, .inr (4, [.ref jT, .ref r1, .ref r2, .int (nI (wr)), .int (nI (fi)), .int (nI (pn)), .ref q6, .ref q7])), (r1, .inl (c1, 120, .inl s1)), (r2, .inl (c2, 124, .inl s2)), (jT, .inr (8, [.ref t0, .int (nI (kt))])), (t0, .inl (cC, 120, .inl gT))] sz) t) (va_A [(jR, .inr (4, [.ref jT, .ref r1, .ref r2, .int (nI (wr)), .int (nI (fi)), .int (nI (pn)), .ref q6, .ref q7])), (r1, .inl (c1, 120, .inl s1)), (r2, .inl (c2, 124, .inl s2)), (jT, .inr (8, [.ref t0, .int (nI (kt))])), (t0, .inl (cC, 120, .inl gT))] sz)) 0 0 (va_A [(jR, .inr (4, [.ref jT, .ref r1, .ref r2, .int (nI (wr)), .int (nI (fi)), .int (nI (pn)), .ref q6, .ref q7])), (r1, .inl (c1, 120, .inl s1)), (r2, .inl (c2, 124, .inl s2)), (jT, .inr (8, [.ref t0, .int (nI (kt))])), (t0, .inl (cC, 120, .inl gT))] sz) := by
  refine Met.ofW (cc := cX4_take) (maxL := 2) (ret := (some .boolean)) (by decide) rfl ?_
  intro p e s m args below meth c s₁ B hml hv
  obtain ⟨rfl, hsz, hP, hK, hD0, hX⟩ := hv
  have hx := B.exec
  have hb := B.bytes
  have hr := B.returns
  have hts := atoms_spec (ws := w_s_take4_41) B.pre
  have hown : s.vm.findClass RX4 = some m.cls := findClass_of_methodNamed B.named
  have hlocks := B.notSynchronized
  subst hsz
  have hD := hD0.self (sz := s.heap.size)
  generalize hAe : va_A [(jR, .inr (4, [.ref jT, .ref r1, .ref r2, .int (nI (wr)), .int (nI (fi)), .int (nI (pn)), .ref q6, .ref q7])), (r1, .inl (c1, 120, .inl s1)), (r2, .inl (c2, 124, .inl s2)), (jT, .inr (8, [.ref t0, .int (nI (kt))])), (t0, .inl (cC, 120, .inl gT))] s.heap.size = A at hD ⊢
  have hA : ∀ q : Nat, s.heap.size ≤ q → A q := fun q h => by rw [← hAe]; exact Or.inr h
  have hS : va_S A s.heap s.heap [] := va_S.rf
  have hP : va_P (dC, dI) vwCl [(jR, .inr (4, [.ref jT, .ref r1, .ref r2, .int (nI (wr)), .int (nI (fi)), .int (nI (pn)), .ref q6, .ref q7])), (r1, .inl (c1, 120, .inl s1)), (r2, .inl (c2, 124, .inl s2)), (jT, .inr (8, [.ref t0, .int (nI (kt))])), (t0, .inl (cC, 120, .inl gT))] s.heap := hP
  have hl := lv_entry ([.ref jR, .int 41]) (n := 2) (Nat.le_of_ble_eq_true rfl)
  rw [lg_entry_eq]
  generalize (lg_sl ([.ref jR, .int 41]) ++ List.replicate (2 - (lg_sl ([.ref jR, .int 41])).length) Slot.unset).toArray = ls at hl ⊢
  have hl : lv_has ls 2 [(0, .ref jR), (1, .int 41)] := hl
  refine kQ (fun Q hQ => ?_)
  refine lv_aload_n hx hb dX4_take_0 rfl (lv_at hl 0 rfl) ?_
  have hCu := kCut (wc := [(jR, .inr (4, [.ref jT, .ref r1, .ref r2, .int (nI (wr)), .int (nI (fi)), .int (nI (pn)), .ref q6, .ref q7])), (r1, .inl (c1, 120, .inl s1)), (r2, .inl (c2, 124, .inl s2)), (jT, .inr (8, [.ref t0, .int (nI (kt))])), (t0, .inl (cC, 120, .inl gT))]) hP hD hS hA [0, 1, 2, 3, 4] rfl kc_nd_311 rfl
  have hPc := hCu.1
  have hDc := hCu.2.1
  have hFc := hCu.2.2
  have hKc := hK.sb (tys2 := [(c1, .int), (c2, .int), (cC, .char)]) [0, 1, 2] rfl
  refine va_calli (va_runV (As := []) (rest := []) ⟨hx, hb, hml, hown, hts⟩ (s_look4x l dC dI jT t0 cC gT kt hkt hgT bt hbt hb8 jR r1 r2 c1 c2 s1 s2 wr fi q6 q7 hwr hfi pn hpn s.heap.size) (cwV 0 hts (kG (List.forall_mem_cons.mpr ⟨(List.mem_cons_of_mem _ (List.mem_append_left _ (List.mem_of_getElem? (i := 3) rfl))), (List.forall_mem_cons.mpr ⟨(List.mem_cons_of_mem _ (List.mem_append_left _ (List.mem_of_getElem? (i := 2) rfl))), (List.forall_mem_cons.mpr ⟨(List.mem_cons_of_mem _ (List.mem_append_left _ (List.mem_of_getElem? (i := 1) rfl))), (List.forall_mem_cons.mpr ⟨(List.mem_cons_of_mem _ (List.mem_append_left _ (List.mem_of_getElem? (i := 0) rfl))), (fun _ h => absurd h List.not_mem_nil)⟩)⟩)⟩)⟩) (kGV _ _ _ _) (fun _ h => List.mem_cons_of_mem _ (List.mem_append_right _ (List.mem_append_left _ h))) gw_s_look4x) rfl rfl rfl ⟨rfl, hd_X4_look⟩ ⟨(Nat.le_of_ble_eq_true rfl), (Nat.le_of_ble_eq_true rfl)⟩) (kW_V kT_blind kT_give (va_recv hKc hPc (ci := 4) (q0 := 0) rfl rfl) hPc hKc hDc) rfl rfl hl.1 rfl (lv_room (Nat.le_of_ble_eq_true rfl)) dX4_take_1 ⟨(Nat.le_of_ble_eq_true rfl), (Nat.le_of_ble_eq_true rfl)⟩) hS (fun q _ h => hFc q h) hFc (fun r_1 => kU2 (fun Pn_2 ch_3 t H_4 locs ht hvm hw hB hz1 hk1 hS => ?_))
  try dsimp only at hw
  have hPD : kPD dC dI A [(jR, .inr (4, [.ref jT, .ref r1, .ref r2, .int (nI (wr)), .int (nI (fi)), .int (nI (Pn_2)), .ref q6, .ref q7])), (r1, .inl (c1, 120, .inl s1)), (r2, .inl (c2, 124, .inl s2)), (jT, .inr (8, [.ref t0, .int (nI (kt))])), (t0, .inl (cC, 120, .inl gT))] H_4 := kJoinX hP hD [0, 1, 2, 3, 4] rfl hk1 hFc hB.1 ht hB.2.2 rfl [some 0, some 1, some 2, some 3, some 4] rfl rfl
  have hP := hPD.1
  have hD := hPD.2
  obtain ⟨rfl, hw_5_0, hw_5_1, hw_5_2, hw_5_3, hw_5_4, hw_5_5, hw_5_6⟩ := hw
  refine lv_iload_n hx hb dX4_take_4 rfl (lv_at hl 1 rfl) ?_
  refine lv_icmp_eq (tgt := 10) hx hb dX4_take_5 kc_t_5_5 (fun c_6 => ?_) (fun c_6 => ?_)
  · have bd_8 : ch_3 < 2147483648 := by omega
    have hn_7 := keq (a := ch_3) (b := 41) bd_8 kc_31_41 c_6
    refine lv_aload_n hx hb dX4_take_10 rfl (lv_at hl 0 rfl) ?_
    refine lv_dup hx hb dX4_take_11 rfl ?_
    refine va_get (D := (dC, dI)) (ci := 4) (v := .int (nI (Pn_2))) (C := RX4) (T := TX4) (N := 8) hx hb hts (fun _ h => List.mem_cons_of_mem _ (List.mem_append_right _ (List.mem_append_right _ h))) hown hK hP 0 rfl rfl 5 kc_l_5_8 (hts (.fieldLink RX4 25 "NotEnded$Reader" "place" "I") (List.mem_cons_of_mem _ (List.mem_append_left _ (List.mem_of_getElem? (i := 4) rfl)))) (fun _ h9 => h9) rfl dX4_take_12 ?_
    refine lv_iconst (v := 1) hx hb dX4_take_15 kc_i_1 ?_
    refine lv_iadd hx hb dX4_take_16 ?_
    refine lv_topi (fun y_9 ey_9 => ?_)
    obtain rfl : y_9 = nI (Pn_2 + 1) := ey_9.trans (nI_add (Pn_2) (1))
    refine va_put (D := (dC, dI)) (ci := 4) (v := .int (nI (Pn_2 + 1))) (ty := tyX4 5) (C := RX4) (T := TX4) (N := 8) hx hb hts (fun _ h => List.mem_cons_of_mem _ (List.mem_append_right _ (List.mem_append_right _ h))) tyX4 tyX4_ok nmX4 hown hK hP hD hS 0 rfl rfl 5 kc_l_5_8 (hts (.fieldLink RX4 25 "NotEnded$Reader" "place" "I") (List.mem_cons_of_mem _ (List.mem_append_left _ (List.mem_of_getElem? (i := 4) rfl)))) (fun _ h9 => h9) rfl (tyX4_ok 5 kc_l_5_8) rfl rfl (Nat.le_of_ble_eq_true rfl) dX4_take_17 (fun H locs hP hD hS => ?_)
    have hPD : kPD dC dI A [(jR, .inr (4, [.ref jT, .ref r1, .ref r2, .int (nI (wr)), .int (nI (fi)), .int (nI (Pn_2 + 1)), .ref q6, .ref q7])), (r1, .inl (c1, 120, .inl s1)), (r2, .inl (c2, 124, .inl s2)), (jT, .inr (8, [.ref t0, .int (nI (kt))])), (t0, .inl (cC, 120, .inl gT))] H := ⟨hP, hD⟩
    have hP := hPD.1
    have hD := hPD.2
    refine lv_iconst (v := 1) hx hb dX4_take_20 kc_i_1 ?_
    have hP9 := hP
    have hD9 := hD
    have hK9 := hK
    rw [hQ]
    exact W.zret (v := 1) hx hb hr rfl (fun t ht hW => ⟨⟨1, ((Pn_2 + 1), true), rfl, ⟨rfl, by unfold kTk; rw [← hw_5_0, ← hw_5_1, if_pos (by omega)], by omega, by omega, fun _ => by omega⟩,  by rw [ht]; exact hP9, va_K.moved hW.alike hK9, hD9⟩, hS.F ht⟩) hS.2.2 dX4_take_21
  · have bd_11 : ch_3 < 2147483648 := by omega
    have hn_10 := kneq (a := ch_3) (b := 41) bd_11 kc_31_41 c_6
    refine lv_iconst (v := 0) hx hb dX4_take_8 kc_i_0 ?_
    have hP9 := hP
    have hD9 := hD
    have hK9 := hK
    rw [hQ]
    exact W.zret (v := 0) hx hb hr rfl (fun t ht hW => ⟨⟨0, (Pn_2, false), rfl, ⟨rfl, by unfold kTk; rw [← hw_5_0, ← hw_5_1, if_neg (by omega)], by omega, by omega, fun h => absurd h (by decide)⟩,  by rw [ht]; exact hP9, va_K.moved hW.alike hK9, hD9⟩, hS.F ht⟩) hS.2.2 dX4_take_9

def w_s_take4_93 : List Cond := .code yX4_take cX4_take 2 (some .boolean) :: ([.initialized RX4, .selects RX4 yX4_look yX4_look, .instanceMethod yX4_look, .methodLink RX4 53 yX4_look, .fieldLink RX4 25 "NotEnded$Reader" "place" "I"] ++ (w_s_look4x ++ (wsX40)))
theorem gw_s_take4_93 : (w_s_take4_93).all goodWord = true := kGc rfl (kGa (by decide +kernel) (kGa gw_s_look4x gw_wsX40))
set_option maxHeartbeats 4000000 in
set_option maxRecDepth 100000 in
theorem s_take4_93 (l : Launch) (dC : Nat → ClassId) (dI : Nat → Nat → Nat) (jT : Nat) (t0 : Nat) (cC : ClassId) (gT : Nat → Int32) (kt : Nat) (hkt : kt ≤ 120) (hgT : ∀ j : Nat, narrow .char (.int (gT j)) = .int (gT j)) (bt : Nat → Nat) (hbt : ∀ j : Nat, gT j = nI (bt j)) (hb8 : ∀ j : Nat, bt j < 256) (jR : Nat) (r1 : Nat) (r2 : Nat) (c1 : ClassId) (c2 : ClassId) (s1 : Nat → Int32) (s2 : Nat → Int32) (wr : Nat) (fi : Nat) (q6 : Nat) (q7 : Nat) (hwr : wr ≤ 120) (hfi : fi ≤ 124) (pn : Nat) (hpn : pn ≤ kt) (sz : Nat) : Met l yX4_take w_s_take4_93 ({ frames := 3, cells := 0, slots := 0, locals := 180 }) (kW dC dI [.ref jR, .int 93] [(jR, .inr (4, [.ref jT, .ref r1, .ref r2, .int (nI (wr)), .int (nI (fi)), .int (nI (pn)), .ref q6, .ref q7])), (r1, .inl (c1, 120, .inl s1)), (r2, .inl (c2, 124, .inl s2)), (jT, .inr (8, [.ref t0, .int (nI (kt))])), (t0, .inl (cC, 120, .inl gT))] [(c1, .int), (c2, .int), (cC, .char)] kT sz) (va_Qi (fun (r : Int32) (u : Nat × Bool) => match u with | (Pn, xo) => (r = kBo xo ∧ kTk bt kt 93 pn [] = (xo, Pn, []) ∧ pn ≤ Pn ∧ Pn ≤ kt ∧ (xo = true → pn < Pn))) (fun (u : Nat × Bool) => match u with | (Pn, xo) => fun t : State => kB dC dI [(jR, .inr (4, [.ref jT, .ref r1, .ref r2, .int (nI (wr)), .int (nI (fi)), .int (nI (Pn)), .ref q6, .ref q7])), (r1, .inl (c1, 120, .inl s1)), (r2, .inl (c2, 124, .inl s2)), (jT, .inr (8, [.ref t0, .int (nI (kt))])), (t0, .inl (cC, 120, .inl gT))] [(c1, .int), (c2, .int), (cC, .char)] (va_A [(jR, .inr (4, [.ref jT, .ref r1, .ref r2, .int (nI (wr)), .int (nI (fi)), .int (nI (pn)), .ref q6, .ref q7])), (r1, .inl (c1, 120, .inl s1)), (r2, .inl (c2, 124, .inl s2)), (jT, .inr (8, [.ref t0, .int (nI (kt))])), (t0, .inl (cC, 120, .inl gT))] sz) t) (va_A [(jR, .inr (4, [.ref jT, .ref r1, .ref r2, .int (nI (wr)), .int (nI (fi)), .int (nI (pn)), .ref q6, .ref q7])), (r1, .inl (c1, 120, .inl s1)), (r2, .inl (c2, 124, .inl s2)), (jT, .inr (8, [.ref t0, .int (nI (kt))])), (t0, .inl (cC, 120, .inl gT))] sz)) 0 0 (va_A [(jR, .inr (4, [.ref jT, .ref r1, .ref r2, .int (nI (wr)), .int (nI (fi)), .int (nI (pn)), .ref q6, .ref q7])), (r1, .inl (c1, 120, .inl s1)), (r2, .inl (c2, 124, .inl s2)), (jT, .inr (8, [.ref t0, .int (nI (kt))])), (t0, .inl (cC, 120, .inl gT))] sz) := by
  refine Met.ofW (cc := cX4_take) (maxL := 2) (ret := (some .boolean)) (by decide) rfl ?_
  intro p e s m args below meth c s₁ B hml hv
  obtain ⟨rfl, hsz, hP, hK, hD0, hX⟩ := hv
  have hx := B.exec
  have hb := B.bytes
  have hr := B.returns
  have hts := atoms_spec (ws := w_s_take4_93) B.pre
  have hown : s.vm.findClass RX4 = some m.cls := findClass_of_methodNamed B.named
  have hlocks := B.notSynchronized
  subst hsz
  have hD := hD0.self (sz := s.heap.size)
  generalize hAe : va_A [(jR, .inr (4, [.ref jT, .ref r1, .ref r2, .int (nI (wr)), .int (nI (fi)), .int (nI (pn)), .ref q6, .ref q7])), (r1, .inl (c1, 120, .inl s1)), (r2, .inl (c2, 124, .inl s2)), (jT, .inr (8, [.ref t0, .int (nI (kt))])), (t0, .inl (cC, 120, .inl gT))] s.heap.size = A at hD ⊢
  have hA : ∀ q : Nat, s.heap.size ≤ q → A q := fun q h => by rw [← hAe]; exact Or.inr h
  have hS : va_S A s.heap s.heap [] := va_S.rf
  have hP : va_P (dC, dI) vwCl [(jR, .inr (4, [.ref jT, .ref r1, .ref r2, .int (nI (wr)), .int (nI (fi)), .int (nI (pn)), .ref q6, .ref q7])), (r1, .inl (c1, 120, .inl s1)), (r2, .inl (c2, 124, .inl s2)), (jT, .inr (8, [.ref t0, .int (nI (kt))])), (t0, .inl (cC, 120, .inl gT))] s.heap := hP
  have hl := lv_entry ([.ref jR, .int 93]) (n := 2) (Nat.le_of_ble_eq_true rfl)
  rw [lg_entry_eq]
  generalize (lg_sl ([.ref jR, .int 93]) ++ List.replicate (2 - (lg_sl ([.ref jR, .int 93])).length) Slot.unset).toArray = ls at hl ⊢
  have hl : lv_has ls 2 [(0, .ref jR), (1, .int 93)] := hl
  refine kQ (fun Q hQ => ?_)
  refine lv_aload_n hx hb dX4_take_0 rfl (lv_at hl 0 rfl) ?_
  have hCu := kCut (wc := [(jR, .inr (4, [.ref jT, .ref r1, .ref r2, .int (nI (wr)), .int (nI (fi)), .int (nI (pn)), .ref q6, .ref q7])), (r1, .inl (c1, 120, .inl s1)), (r2, .inl (c2, 124, .inl s2)), (jT, .inr (8, [.ref t0, .int (nI (kt))])), (t0, .inl (cC, 120, .inl gT))]) hP hD hS hA [0, 1, 2, 3, 4] rfl kc_nd_311 rfl
  have hPc := hCu.1
  have hDc := hCu.2.1
  have hFc := hCu.2.2
  have hKc := hK.sb (tys2 := [(c1, .int), (c2, .int), (cC, .char)]) [0, 1, 2] rfl
  refine va_calli (va_runV (As := []) (rest := []) ⟨hx, hb, hml, hown, hts⟩ (s_look4x l dC dI jT t0 cC gT kt hkt hgT bt hbt hb8 jR r1 r2 c1 c2 s1 s2 wr fi q6 q7 hwr hfi pn hpn s.heap.size) (cwV 0 hts (kG (List.forall_mem_cons.mpr ⟨(List.mem_cons_of_mem _ (List.mem_append_left _ (List.mem_of_getElem? (i := 3) rfl))), (List.forall_mem_cons.mpr ⟨(List.mem_cons_of_mem _ (List.mem_append_left _ (List.mem_of_getElem? (i := 2) rfl))), (List.forall_mem_cons.mpr ⟨(List.mem_cons_of_mem _ (List.mem_append_left _ (List.mem_of_getElem? (i := 1) rfl))), (List.forall_mem_cons.mpr ⟨(List.mem_cons_of_mem _ (List.mem_append_left _ (List.mem_of_getElem? (i := 0) rfl))), (fun _ h => absurd h List.not_mem_nil)⟩)⟩)⟩)⟩) (kGV _ _ _ _) (fun _ h => List.mem_cons_of_mem _ (List.mem_append_right _ (List.mem_append_left _ h))) gw_s_look4x) rfl rfl rfl ⟨rfl, hd_X4_look⟩ ⟨(Nat.le_of_ble_eq_true rfl), (Nat.le_of_ble_eq_true rfl)⟩) (kW_V kT_blind kT_give (va_recv hKc hPc (ci := 4) (q0 := 0) rfl rfl) hPc hKc hDc) rfl rfl hl.1 rfl (lv_room (Nat.le_of_ble_eq_true rfl)) dX4_take_1 ⟨(Nat.le_of_ble_eq_true rfl), (Nat.le_of_ble_eq_true rfl)⟩) hS (fun q _ h => hFc q h) hFc (fun r_1 => kU2 (fun Pn_2 ch_3 t H_4 locs ht hvm hw hB hz1 hk1 hS => ?_))
  try dsimp only at hw
  have hPD : kPD dC dI A [(jR, .inr (4, [.ref jT, .ref r1, .ref r2, .int (nI (wr)), .int (nI (fi)), .int (nI (Pn_2)), .ref q6, .ref q7])), (r1, .inl (c1, 120, .inl s1)), (r2, .inl (c2, 124, .inl s2)), (jT, .inr (8, [.ref t0, .int (nI (kt))])), (t0, .inl (cC, 120, .inl gT))] H_4 := kJoinX hP hD [0, 1, 2, 3, 4] rfl hk1 hFc hB.1 ht hB.2.2 rfl [some 0, some 1, some 2, some 3, some 4] rfl rfl
  have hP := hPD.1
  have hD := hPD.2
  obtain ⟨rfl, hw_5_0, hw_5_1, hw_5_2, hw_5_3, hw_5_4, hw_5_5, hw_5_6⟩ := hw
  refine lv_iload_n hx hb dX4_take_4 rfl (lv_at hl 1 rfl) ?_
  refine lv_icmp_eq (tgt := 10) hx hb dX4_take_5 kc_t_5_5 (fun c_6 => ?_) (fun c_6 => ?_)
  · have bd_8 : ch_3 < 2147483648 := by omega
    have hn_7 := keq (a := ch_3) (b := 93) bd_8 kc_31_93 c_6
    refine lv_aload_n hx hb dX4_take_10 rfl (lv_at hl 0 rfl) ?_
    refine lv_dup hx hb dX4_take_11 rfl ?_
    refine va_get (D := (dC, dI)) (ci := 4) (v := .int (nI (Pn_2))) (C := RX4) (T := TX4) (N := 8) hx hb hts (fun _ h => List.mem_cons_of_mem _ (List.mem_append_right _ (List.mem_append_right _ h))) hown hK hP 0 rfl rfl 5 kc_l_5_8 (hts (.fieldLink RX4 25 "NotEnded$Reader" "place" "I") (List.mem_cons_of_mem _ (List.mem_append_left _ (List.mem_of_getElem? (i := 4) rfl)))) (fun _ h9 => h9) rfl dX4_take_12 ?_
    refine lv_iconst (v := 1) hx hb dX4_take_15 kc_i_1 ?_
    refine lv_iadd hx hb dX4_take_16 ?_
    refine lv_topi (fun y_9 ey_9 => ?_)
    obtain rfl : y_9 = nI (Pn_2 + 1) := ey_9.trans (nI_add (Pn_2) (1))
    refine va_put (D := (dC, dI)) (ci := 4) (v := .int (nI (Pn_2 + 1))) (ty := tyX4 5) (C := RX4) (T := TX4) (N := 8) hx hb hts (fun _ h => List.mem_cons_of_mem _ (List.mem_append_right _ (List.mem_append_right _ h))) tyX4 tyX4_ok nmX4 hown hK hP hD hS 0 rfl rfl 5 kc_l_5_8 (hts (.fieldLink RX4 25 "NotEnded$Reader" "place" "I") (List.mem_cons_of_mem _ (List.mem_append_left _ (List.mem_of_getElem? (i := 4) rfl)))) (fun _ h9 => h9) rfl (tyX4_ok 5 kc_l_5_8) rfl rfl (Nat.le_of_ble_eq_true rfl) dX4_take_17 (fun H locs hP hD hS => ?_)
    have hPD : kPD dC dI A [(jR, .inr (4, [.ref jT, .ref r1, .ref r2, .int (nI (wr)), .int (nI (fi)), .int (nI (Pn_2 + 1)), .ref q6, .ref q7])), (r1, .inl (c1, 120, .inl s1)), (r2, .inl (c2, 124, .inl s2)), (jT, .inr (8, [.ref t0, .int (nI (kt))])), (t0, .inl (cC, 120, .inl gT))] H := ⟨hP, hD⟩
    have hP := hPD.1
    have hD := hPD.2
    refine lv_iconst (v := 1) hx hb dX4_take_20 kc_i_1 ?_
    have hP9 := hP
    have hD9 := hD
    have hK9 := hK
    rw [hQ]
    exact W.zret (v := 1) hx hb hr rfl (fun t ht hW => ⟨⟨1, ((Pn_2 + 1), true), rfl, ⟨rfl, by unfold kTk; rw [← hw_5_0, ← hw_5_1, if_pos (by omega)], by omega, by omega, fun _ => by omega⟩,  by rw [ht]; exact hP9, va_K.moved hW.alike hK9, hD9⟩, hS.F ht⟩) hS.2.2 dX4_take_21
  · have bd_11 : ch_3 < 2147483648 := by omega
    have hn_10 := kneq (a := ch_3) (b := 93) bd_11 kc_31_93 c_6
    refine lv_iconst (v := 0) hx hb dX4_take_8 kc_i_0 ?_
    have hP9 := hP
    have hD9 := hD
    have hK9 := hK
    rw [hQ]
    exact W.zret (v := 0) hx hb hr rfl (fun t ht hW => ⟨⟨0, (Pn_2, false), rfl, ⟨rfl, by unfold kTk; rw [← hw_5_0, ← hw_5_1, if_neg (by omega)], by omega, by omega, fun h => absurd h (by decide)⟩,  by rw [ht]; exact hP9, va_K.moved hW.alike hK9, hD9⟩, hS.F ht⟩) hS.2.2 dX4_take_9

def w_s_take4_59 : List Cond := .code yX4_take cX4_take 2 (some .boolean) :: ([.initialized RX4, .selects RX4 yX4_look yX4_look, .instanceMethod yX4_look, .methodLink RX4 53 yX4_look, .fieldLink RX4 25 "NotEnded$Reader" "place" "I"] ++ (w_s_look4x ++ (wsX40)))
theorem gw_s_take4_59 : (w_s_take4_59).all goodWord = true := kGc rfl (kGa (by decide +kernel) (kGa gw_s_look4x gw_wsX40))
set_option maxHeartbeats 4000000 in
set_option maxRecDepth 100000 in
theorem s_take4_59 (l : Launch) (dC : Nat → ClassId) (dI : Nat → Nat → Nat) (jT : Nat) (t0 : Nat) (cC : ClassId) (gT : Nat → Int32) (kt : Nat) (hkt : kt ≤ 120) (hgT : ∀ j : Nat, narrow .char (.int (gT j)) = .int (gT j)) (bt : Nat → Nat) (hbt : ∀ j : Nat, gT j = nI (bt j)) (hb8 : ∀ j : Nat, bt j < 256) (jR : Nat) (r1 : Nat) (r2 : Nat) (c1 : ClassId) (c2 : ClassId) (s1 : Nat → Int32) (s2 : Nat → Int32) (wr : Nat) (fi : Nat) (q6 : Nat) (q7 : Nat) (hwr : wr ≤ 120) (hfi : fi ≤ 124) (pn : Nat) (hpn : pn ≤ kt) (sz : Nat) : Met l yX4_take w_s_take4_59 ({ frames := 3, cells := 0, slots := 0, locals := 180 }) (kW dC dI [.ref jR, .int 59] [(jR, .inr (4, [.ref jT, .ref r1, .ref r2, .int (nI (wr)), .int (nI (fi)), .int (nI (pn)), .ref q6, .ref q7])), (r1, .inl (c1, 120, .inl s1)), (r2, .inl (c2, 124, .inl s2)), (jT, .inr (8, [.ref t0, .int (nI (kt))])), (t0, .inl (cC, 120, .inl gT))] [(c1, .int), (c2, .int), (cC, .char)] kT sz) (va_Qi (fun (r : Int32) (u : Nat × Bool) => match u with | (Pn, xo) => (r = kBo xo ∧ kTk bt kt 59 pn [] = (xo, Pn, []) ∧ pn ≤ Pn ∧ Pn ≤ kt ∧ (xo = true → pn < Pn))) (fun (u : Nat × Bool) => match u with | (Pn, xo) => fun t : State => kB dC dI [(jR, .inr (4, [.ref jT, .ref r1, .ref r2, .int (nI (wr)), .int (nI (fi)), .int (nI (Pn)), .ref q6, .ref q7])), (r1, .inl (c1, 120, .inl s1)), (r2, .inl (c2, 124, .inl s2)), (jT, .inr (8, [.ref t0, .int (nI (kt))])), (t0, .inl (cC, 120, .inl gT))] [(c1, .int), (c2, .int), (cC, .char)] (va_A [(jR, .inr (4, [.ref jT, .ref r1, .ref r2, .int (nI (wr)), .int (nI (fi)), .int (nI (pn)), .ref q6, .ref q7])), (r1, .inl (c1, 120, .inl s1)), (r2, .inl (c2, 124, .inl s2)), (jT, .inr (8, [.ref t0, .int (nI (kt))])), (t0, .inl (cC, 120, .inl gT))] sz) t) (va_A [(jR, .inr (4, [.ref jT, .ref r1, .ref r2, .int (nI (wr)), .int (nI (fi)), .int (nI (pn)), .ref q6, .ref q7])), (r1, .inl (c1, 120, .inl s1)), (r2, .inl (c2, 124, .inl s2)), (jT, .inr (8, [.ref t0, .int (nI (kt))])), (t0, .inl (cC, 120, .inl gT))] sz)) 0 0 (va_A [(jR, .inr (4, [.ref jT, .ref r1, .ref r2, .int (nI (wr)), .int (nI (fi)), .int (nI (pn)), .ref q6, .ref q7])), (r1, .inl (c1, 120, .inl s1)), (r2, .inl (c2, 124, .inl s2)), (jT, .inr (8, [.ref t0, .int (nI (kt))])), (t0, .inl (cC, 120, .inl gT))] sz) := by
  refine Met.ofW (cc := cX4_take) (maxL := 2) (ret := (some .boolean)) (by decide) rfl ?_
  intro p e s m args below meth c s₁ B hml hv
  obtain ⟨rfl, hsz, hP, hK, hD0, hX⟩ := hv
  have hx := B.exec
  have hb := B.bytes
  have hr := B.returns
  have hts := atoms_spec (ws := w_s_take4_59) B.pre
  have hown : s.vm.findClass RX4 = some m.cls := findClass_of_methodNamed B.named
  have hlocks := B.notSynchronized
  subst hsz
  have hD := hD0.self (sz := s.heap.size)
  generalize hAe : va_A [(jR, .inr (4, [.ref jT, .ref r1, .ref r2, .int (nI (wr)), .int (nI (fi)), .int (nI (pn)), .ref q6, .ref q7])), (r1, .inl (c1, 120, .inl s1)), (r2, .inl (c2, 124, .inl s2)), (jT, .inr (8, [.ref t0, .int (nI (kt))])), (t0, .inl (cC, 120, .inl gT))] s.heap.size = A at hD ⊢
  have hA : ∀ q : Nat, s.heap.size ≤ q → A q := fun q h => by rw [← hAe]; exact Or.inr h
  have hS : va_S A s.heap s.heap [] := va_S.rf
  have hP : va_P (dC, dI) vwCl [(jR, .inr (4, [.ref jT, .ref r1, .ref r2, .int (nI (wr)), .int (nI (fi)), .int (nI (pn)), .ref q6, .ref q7])), (r1, .inl (c1, 120, .inl s1)), (r2, .inl (c2, 124, .inl s2)), (jT, .inr (8, [.ref t0, .int (nI (kt))])), (t0, .inl (cC, 120, .inl gT))] s.heap := hP
  have hl := lv_entry ([.ref jR, .int 59]) (n := 2) (Nat.le_of_ble_eq_true rfl)
  rw [lg_entry_eq]
  generalize (lg_sl ([.ref jR, .int 59]) ++ List.replicate (2 - (lg_sl ([.ref jR, .int 59])).length) Slot.unset).toArray = ls at hl ⊢
  have hl : lv_has ls 2 [(0, .ref jR), (1, .int 59)] := hl
  refine kQ (fun Q hQ => ?_)
  refine lv_aload_n hx hb dX4_take_0 rfl (lv_at hl 0 rfl) ?_
  have hCu := kCut (wc := [(jR, .inr (4, [.ref jT, .ref r1, .ref r2, .int (nI (wr)), .int (nI (fi)), .int (nI (pn)), .ref q6, .ref q7])), (r1, .inl (c1, 120, .inl s1)), (r2, .inl (c2, 124, .inl s2)), (jT, .inr (8, [.ref t0, .int (nI (kt))])), (t0, .inl (cC, 120, .inl gT))]) hP hD hS hA [0, 1, 2, 3, 4] rfl kc_nd_311 rfl
  have hPc := hCu.1
  have hDc := hCu.2.1
  have hFc := hCu.2.2
  have hKc := hK.sb (tys2 := [(c1, .int), (c2, .int), (cC, .char)]) [0, 1, 2] rfl
  refine va_calli (va_runV (As := []) (rest := []) ⟨hx, hb, hml, hown, hts⟩ (s_look4x l dC dI jT t0 cC gT kt hkt hgT bt hbt hb8 jR r1 r2 c1 c2 s1 s2 wr fi q6 q7 hwr hfi pn hpn s.heap.size) (cwV 0 hts (kG (List.forall_mem_cons.mpr ⟨(List.mem_cons_of_mem _ (List.mem_append_left _ (List.mem_of_getElem? (i := 3) rfl))), (List.forall_mem_cons.mpr ⟨(List.mem_cons_of_mem _ (List.mem_append_left _ (List.mem_of_getElem? (i := 2) rfl))), (List.forall_mem_cons.mpr ⟨(List.mem_cons_of_mem _ (List.mem_append_left _ (List.mem_of_getElem? (i := 1) rfl))), (List.forall_mem_cons.mpr ⟨(List.mem_cons_of_mem _ (List.mem_append_left _ (List.mem_of_getElem? (i := 0) rfl))), (fun _ h => absurd h List.not_mem_nil)⟩)⟩)⟩)⟩) (kGV _ _ _ _) (fun _ h => List.mem_cons_of_mem _ (List.mem_append_right _ (List.mem_append_left _ h))) gw_s_look4x) rfl rfl rfl ⟨rfl, hd_X4_look⟩ ⟨(Nat.le_of_ble_eq_true rfl), (Nat.le_of_ble_eq_true rfl)⟩) (kW_V kT_blind kT_give (va_recv hKc hPc (ci := 4) (q0 := 0) rfl rfl) hPc hKc hDc) rfl rfl hl.1 rfl (lv_room (Nat.le_of_ble_eq_true rfl)) dX4_take_1 ⟨(Nat.le_of_ble_eq_true rfl), (Nat.le_of_ble_eq_true rfl)⟩) hS (fun q _ h => hFc q h) hFc (fun r_1 => kU2 (fun Pn_2 ch_3 t H_4 locs ht hvm hw hB hz1 hk1 hS => ?_))
  try dsimp only at hw
  have hPD : kPD dC dI A [(jR, .inr (4, [.ref jT, .ref r1, .ref r2, .int (nI (wr)), .int (nI (fi)), .int (nI (Pn_2)), .ref q6, .ref q7])), (r1, .inl (c1, 120, .inl s1)), (r2, .inl (c2, 124, .inl s2)), (jT, .inr (8, [.ref t0, .int (nI (kt))])), (t0, .inl (cC, 120, .inl gT))] H_4 := kJoinX hP hD [0, 1, 2, 3, 4] rfl hk1 hFc hB.1 ht hB.2.2 rfl [some 0, some 1, some 2, some 3, some 4] rfl rfl
  have hP := hPD.1
  have hD := hPD.2
  obtain ⟨rfl, hw_5_0, hw_5_1, hw_5_2, hw_5_3, hw_5_4, hw_5_5, hw_5_6⟩ := hw
  refine lv_iload_n hx hb dX4_take_4 rfl (lv_at hl 1 rfl) ?_
  refine lv_icmp_eq (tgt := 10) hx hb dX4_take_5 kc_t_5_5 (fun c_6 => ?_) (fun c_6 => ?_)
  · have bd_8 : ch_3 < 2147483648 := by omega
    have hn_7 := keq (a := ch_3) (b := 59) bd_8 kc_31_59 c_6
    refine lv_aload_n hx hb dX4_take_10 rfl (lv_at hl 0 rfl) ?_
    refine lv_dup hx hb dX4_take_11 rfl ?_
    refine va_get (D := (dC, dI)) (ci := 4) (v := .int (nI (Pn_2))) (C := RX4) (T := TX4) (N := 8) hx hb hts (fun _ h => List.mem_cons_of_mem _ (List.mem_append_right _ (List.mem_append_right _ h))) hown hK hP 0 rfl rfl 5 kc_l_5_8 (hts (.fieldLink RX4 25 "NotEnded$Reader" "place" "I") (List.mem_cons_of_mem _ (List.mem_append_left _ (List.mem_of_getElem? (i := 4) rfl)))) (fun _ h9 => h9) rfl dX4_take_12 ?_
    refine lv_iconst (v := 1) hx hb dX4_take_15 kc_i_1 ?_
    refine lv_iadd hx hb dX4_take_16 ?_
    refine lv_topi (fun y_9 ey_9 => ?_)
    obtain rfl : y_9 = nI (Pn_2 + 1) := ey_9.trans (nI_add (Pn_2) (1))
    refine va_put (D := (dC, dI)) (ci := 4) (v := .int (nI (Pn_2 + 1))) (ty := tyX4 5) (C := RX4) (T := TX4) (N := 8) hx hb hts (fun _ h => List.mem_cons_of_mem _ (List.mem_append_right _ (List.mem_append_right _ h))) tyX4 tyX4_ok nmX4 hown hK hP hD hS 0 rfl rfl 5 kc_l_5_8 (hts (.fieldLink RX4 25 "NotEnded$Reader" "place" "I") (List.mem_cons_of_mem _ (List.mem_append_left _ (List.mem_of_getElem? (i := 4) rfl)))) (fun _ h9 => h9) rfl (tyX4_ok 5 kc_l_5_8) rfl rfl (Nat.le_of_ble_eq_true rfl) dX4_take_17 (fun H locs hP hD hS => ?_)
    have hPD : kPD dC dI A [(jR, .inr (4, [.ref jT, .ref r1, .ref r2, .int (nI (wr)), .int (nI (fi)), .int (nI (Pn_2 + 1)), .ref q6, .ref q7])), (r1, .inl (c1, 120, .inl s1)), (r2, .inl (c2, 124, .inl s2)), (jT, .inr (8, [.ref t0, .int (nI (kt))])), (t0, .inl (cC, 120, .inl gT))] H := ⟨hP, hD⟩
    have hP := hPD.1
    have hD := hPD.2
    refine lv_iconst (v := 1) hx hb dX4_take_20 kc_i_1 ?_
    have hP9 := hP
    have hD9 := hD
    have hK9 := hK
    rw [hQ]
    exact W.zret (v := 1) hx hb hr rfl (fun t ht hW => ⟨⟨1, ((Pn_2 + 1), true), rfl, ⟨rfl, by unfold kTk; rw [← hw_5_0, ← hw_5_1, if_pos (by omega)], by omega, by omega, fun _ => by omega⟩,  by rw [ht]; exact hP9, va_K.moved hW.alike hK9, hD9⟩, hS.F ht⟩) hS.2.2 dX4_take_21
  · have bd_11 : ch_3 < 2147483648 := by omega
    have hn_10 := kneq (a := ch_3) (b := 59) bd_11 kc_31_59 c_6
    refine lv_iconst (v := 0) hx hb dX4_take_8 kc_i_0 ?_
    have hP9 := hP
    have hD9 := hD
    have hK9 := hK
    rw [hQ]
    exact W.zret (v := 0) hx hb hr rfl (fun t ht hW => ⟨⟨0, (Pn_2, false), rfl, ⟨rfl, by unfold kTk; rw [← hw_5_0, ← hw_5_1, if_neg (by omega)], by omega, by omega, fun h => absurd h (by decide)⟩,  by rw [ht]; exact hP9, va_K.moved hW.alike hK9, hD9⟩, hS.F ht⟩) hS.2.2 dX4_take_9

def w_s_opens4_6 : List Cond := .code yX4_opens cX4_opens 2 (some .boolean) :: ([])
theorem gw_s_opens4_6 : (w_s_opens4_6).all goodWord = true := kGc rfl kGn
set_option maxHeartbeats 4000000 in
set_option maxRecDepth 100000 in
theorem s_opens4_6 (l : Launch) (dC : Nat → ClassId) (dI : Nat → Nat → Nat) (jT : Nat) (t0 : Nat) (cC : ClassId) (gT : Nat → Int32) (kt : Nat) (hkt : kt ≤ 120) (hgT : ∀ j : Nat, narrow .char (.int (gT j)) = .int (gT j)) (bt : Nat → Nat) (hbt : ∀ j : Nat, gT j = nI (bt j)) (hb8 : ∀ j : Nat, bt j < 256) (jR : Nat) (r1 : Nat) (r2 : Nat) (c1 : ClassId) (c2 : ClassId) (s1 : Nat → Int32) (s2 : Nat → Int32) (wr : Nat) (fi : Nat) (q6 : Nat) (q7 : Nat) (hwr : wr ≤ 120) (hfi : fi ≤ 124) (pn : Nat) (hpn : pn ≤ kt) : Met l yX4_opens w_s_opens4_6 ({ frames := 1, cells := 0, slots := 0, locals := 60 }) (kR dC dI [.ref jR, .int 6] [(jR, .inr (4, [.ref jT, .ref r1, .ref r2, .int (nI (wr)), .int (nI (fi)), .int (nI (pn)), .ref q6, .ref q7])), (r1, .inl (c1, 120, .inl s1)), (r2, .inl (c2, 124, .inl s2)), (jT, .inr (8, [.ref t0, .int (nI (kt))])), (t0, .inl (cC, 120, .inl gT))] [(c1, .int), (c2, .int), (cC, .char)] kT) (vp_Si (fun r : Int32 => r = 0)) 0 0 (fun _ => False) := by
  refine Met.ofW (cc := cX4_opens) (maxL := 2) (ret := (some .boolean)) (by decide) rfl ?_
  intro p e s m args below meth c s₁ B hml hv
  obtain ⟨rfl, hP, hK, hX⟩ := hv
  have hx := B.exec
  have hb := B.bytes
  have hr := B.returns
  have hts := atoms_spec (ws := w_s_opens4_6) B.pre
  have hown : s.vm.findClass RX4 = some m.cls := findClass_of_methodNamed B.named
  have hlocks := B.notSynchronized
  have hP : va_P (dC, dI) vwCl [(jR, .inr (4, [.ref jT, .ref r1, .ref r2, .int (nI (wr)), .int (nI (fi)), .int (nI (pn)), .ref q6, .ref q7])), (r1, .inl (c1, 120, .inl s1)), (r2, .inl (c2, 124, .inl s2)), (jT, .inr (8, [.ref t0, .int (nI (kt))])), (t0, .inl (cC, 120, .inl gT))] s.heap := hP
  have hl := lv_entry ([.ref jR, .int 6]) (n := 2) (Nat.le_of_ble_eq_true rfl)
  rw [lg_entry_eq]
  generalize (lg_sl ([.ref jR, .int 6]) ++ List.replicate (2 - (lg_sl ([.ref jR, .int 6])).length) Slot.unset).toArray = ls at hl ⊢
  have hl : lv_has ls 2 [(0, .ref jR), (1, .int 6)] := hl
  refine kQ (fun Q hQ => ?_)
  refine lv_iload_n hx hb dX4_opens_0 rfl (lv_at hl 1 rfl) ?_
  refine lv_bipush (v := 6) hx hb dX4_opens_1 kc_b_6 ?_
  refine lv_icmp_lt (tgt := 8) hx hb dX4_opens_3 kc_t_3_5 (fun c_1 => absurd c_1 (by decide)) (fun c_1 => ?_)
  refine lv_iconst (v := 0) hx hb dX4_opens_6 kc_i_0 ?_
  rw [hQ]
  exact W.zret (v := 0) hx hb hr rfl (fun t ht hW => ⟨0, rfl, rfl, ht⟩) (fun _ h => nomatch h) dX4_opens_7

def w_s_write4x : List Cond := .code yX4_write cX4_write 2 (some .boolean) :: ([.fieldLink RX4 18 "NotEnded$Reader" "written" "I", .fieldLink RX4 9 "NotEnded$Reader" "steps" "[I"] ++ (wsX40))
theorem gw_s_write4x : (w_s_write4x).all goodWord = true := kGc rfl (kGa (by decide +kernel) gw_wsX40)
set_option maxHeartbeats 4000000 in
set_option maxRecDepth 100000 in
theorem s_write4x (l : Launch) (dC : Nat → ClassId) (dI : Nat → Nat → Nat) (jT : Nat) (t0 : Nat) (cC : ClassId) (gT : Nat → Int32) (kt : Nat) (hkt : kt ≤ 120) (hgT : ∀ j : Nat, narrow .char (.int (gT j)) = .int (gT j)) (bt : Nat → Nat) (hbt : ∀ j : Nat, gT j = nI (bt j)) (hb8 : ∀ j : Nat, bt j < 256) (jR : Nat) (r1 : Nat) (r2 : Nat) (c1 : ClassId) (c2 : ClassId) (s1 : Nat → Int32) (s2 : Nat → Int32) (wr : Nat) (fi : Nat) (q6 : Nat) (q7 : Nat) (hwr : wr ≤ 120) (hfi : fi ≤ 124) (pn : Nat) (hpn : pn ≤ kt) (p0 : Int32) (hw9 : wr < 120) (sz : Nat) : Met l yX4_write w_s_write4x ({ frames := 1, cells := 0, slots := 0, locals := 60 }) (kW dC dI [.ref jR, .int p0] [(jR, .inr (4, [.ref jT, .ref r1, .ref r2, .int (nI (wr)), .int (nI (fi)), .int (nI (pn)), .ref q6, .ref q7])), (r1, .inl (c1, 120, .inl s1)), (r2, .inl (c2, 124, .inl s2)), (jT, .inr (8, [.ref t0, .int (nI (kt))])), (t0, .inl (cC, 120, .inl gT))] [(c1, .int), (c2, .int), (cC, .char)] kT sz) (va_Qi (fun (r : Int32) (u : (Nat → Int32) × Nat) => match u with | (S1, Wr) => (r = 1 ∧ Wr = wr + 1 ∧ S1 = upd s1 wr p0)) (fun (u : (Nat → Int32) × Nat) => match u with | (S1, Wr) => fun t : State => kB dC dI [(jR, .inr (4, [.ref jT, .ref r1, .ref r2, .int (nI (Wr)), .int (nI (fi)), .int (nI (pn)), .ref q6, .ref q7])), (r1, .inl (c1, 120, .inl S1)), (r2, .inl (c2, 124, .inl s2)), (jT, .inr (8, [.ref t0, .int (nI (kt))])), (t0, .inl (cC, 120, .inl gT))] [(c1, .int), (c2, .int), (cC, .char)] (va_A [(jR, .inr (4, [.ref jT, .ref r1, .ref r2, .int (nI (wr)), .int (nI (fi)), .int (nI (pn)), .ref q6, .ref q7])), (r1, .inl (c1, 120, .inl s1)), (r2, .inl (c2, 124, .inl s2)), (jT, .inr (8, [.ref t0, .int (nI (kt))])), (t0, .inl (cC, 120, .inl gT))] sz) t) (va_A [(jR, .inr (4, [.ref jT, .ref r1, .ref r2, .int (nI (wr)), .int (nI (fi)), .int (nI (pn)), .ref q6, .ref q7])), (r1, .inl (c1, 120, .inl s1)), (r2, .inl (c2, 124, .inl s2)), (jT, .inr (8, [.ref t0, .int (nI (kt))])), (t0, .inl (cC, 120, .inl gT))] sz)) 0 0 (va_A [(jR, .inr (4, [.ref jT, .ref r1, .ref r2, .int (nI (wr)), .int (nI (fi)), .int (nI (pn)), .ref q6, .ref q7])), (r1, .inl (c1, 120, .inl s1)), (r2, .inl (c2, 124, .inl s2)), (jT, .inr (8, [.ref t0, .int (nI (kt))])), (t0, .inl (cC, 120, .inl gT))] sz) := by
  refine Met.ofW (cc := cX4_write) (maxL := 2) (ret := (some .boolean)) (by decide) rfl ?_
  intro p e s m args below meth c s₁ B hml hv
  obtain ⟨rfl, hsz, hP, hK, hD0, hX⟩ := hv
  have hx := B.exec
  have hb := B.bytes
  have hr := B.returns
  have hts := atoms_spec (ws := w_s_write4x) B.pre
  have hown : s.vm.findClass RX4 = some m.cls := findClass_of_methodNamed B.named
  have hlocks := B.notSynchronized
  subst hsz
  have hD := hD0.self (sz := s.heap.size)
  generalize hAe : va_A [(jR, .inr (4, [.ref jT, .ref r1, .ref r2, .int (nI (wr)), .int (nI (fi)), .int (nI (pn)), .ref q6, .ref q7])), (r1, .inl (c1, 120, .inl s1)), (r2, .inl (c2, 124, .inl s2)), (jT, .inr (8, [.ref t0, .int (nI (kt))])), (t0, .inl (cC, 120, .inl gT))] s.heap.size = A at hD ⊢
  have hA : ∀ q : Nat, s.heap.size ≤ q → A q := fun q h => by rw [← hAe]; exact Or.inr h
  have hS : va_S A s.heap s.heap [] := va_S.rf
  have hP : va_P (dC, dI) vwCl [(jR, .inr (4, [.ref jT, .ref r1, .ref r2, .int (nI (wr)), .int (nI (fi)), .int (nI (pn)), .ref q6, .ref q7])), (r1, .inl (c1, 120, .inl s1)), (r2, .inl (c2, 124, .inl s2)), (jT, .inr (8, [.ref t0, .int (nI (kt))])), (t0, .inl (cC, 120, .inl gT))] s.heap := hP
  have hl := lv_entry ([.ref jR, .int p0]) (n := 2) (Nat.le_of_ble_eq_true rfl)
  rw [lg_entry_eq]
  generalize (lg_sl ([.ref jR, .int p0]) ++ List.replicate (2 - (lg_sl ([.ref jR, .int p0])).length) Slot.unset).toArray = ls at hl ⊢
  have hl : lv_has ls 2 [(0, .ref jR), (1, .int p0)] := hl
  refine kQ (fun Q hQ => ?_)
  refine lv_aload_n hx hb dX4_write_0 rfl (lv_at hl 0 rfl) ?_
  refine va_get (D := (dC, dI)) (ci := 4) (v := .int (nI (wr))) (C := RX4) (T := TX4) (N := 8) hx hb hts (fun _ h => List.mem_cons_of_mem _ (List.mem_append_right _ h)) hown hK hP 0 rfl rfl 3 kc_l_3_8 (hts (.fieldLink RX4 18 "NotEnded$Reader" "written" "I") (List.mem_cons_of_mem _ (List.mem_append_left _ (List.mem_of_getElem? (i := 0) rfl)))) (fun _ h9 => h9) rfl dX4_write_1 ?_
  refine lv_aload_n hx hb dX4_write_4 rfl (lv_at hl 0 rfl) ?_
  refine va_get (D := (dC, dI)) (ci := 4) (v := .ref r1) (C := RX4) (T := TX4) (N := 8) hx hb hts (fun _ h => List.mem_cons_of_mem _ (List.mem_append_right _ h)) hown hK hP 0 rfl rfl 1 kc_l_1_8 (hts (.fieldLink RX4 9 "NotEnded$Reader" "steps" "[I") (List.mem_cons_of_mem _ (List.mem_append_left _ (List.mem_of_getElem? (i := 1) rfl)))) (fun _ h9 => h9) rfl dX4_write_5 ?_
  refine va_alen hx hb hK hP 1 0 rfl rfl (v := 120) rfl dX4_write_8 ?_
  refine lv_icmp_lt (tgt := 14) hx hb dX4_write_9 kc_t_9_5 (fun c_1 => ?_) (fun c_1 => ?_)
  · have bd_3 : wr < 2147483648 := by omega
    have hn_2 := klt (a := wr) (b := 120) bd_3 kc_31_120 c_1
    refine lv_aload_n hx hb dX4_write_14 rfl (lv_at hl 0 rfl) ?_
    refine va_get (D := (dC, dI)) (ci := 4) (v := .ref r1) (C := RX4) (T := TX4) (N := 8) hx hb hts (fun _ h => List.mem_cons_of_mem _ (List.mem_append_right _ h)) hown hK hP 0 rfl rfl 1 kc_l_1_8 (hts (.fieldLink RX4 9 "NotEnded$Reader" "steps" "[I") (List.mem_cons_of_mem _ (List.mem_append_left _ (List.mem_of_getElem? (i := 1) rfl)))) (fun _ h9 => h9) rfl dX4_write_15 ?_
    refine lv_aload_n hx hb dX4_write_18 rfl (lv_at hl 0 rfl) ?_
    refine va_get (D := (dC, dI)) (ci := 4) (v := .int (nI (wr))) (C := RX4) (T := TX4) (N := 8) hx hb hts (fun _ h => List.mem_cons_of_mem _ (List.mem_append_right _ h)) hown hK hP 0 rfl rfl 3 kc_l_3_8 (hts (.fieldLink RX4 18 "NotEnded$Reader" "written" "I") (List.mem_cons_of_mem _ (List.mem_append_left _ (List.mem_of_getElem? (i := 0) rfl)))) (fun _ h9 => h9) rfl dX4_write_19 ?_
    refine lv_iload_n hx hb dX4_write_22 rfl (lv_at hl 1 rfl) ?_
    have bd_5 : wr < 120 := by omega
    refine va_iast hx hb hK hP hD hS 1 0 rfl rfl (vp_in_nI (n := wr) (N := 120) bd_5 kc_31_120) dX4_write_23 (fun H locs hP hD hS => ?_)
    obtain ⟨f_4, ef_4⟩ : ∃ gg9 : Nat → Int32, gg9 = upd s1 (Int32.toNatClampNeg (nI (wr))) p0 := ⟨_, rfl⟩
    have hPD : kPD dC dI A [(jR, .inr (4, [.ref jT, .ref r1, .ref r2, .int (nI (wr)), .int (nI (fi)), .int (nI (pn)), .ref q6, .ref q7])), (r1, .inl (c1, 120, .inl f_4)), (r2, .inl (c2, 124, .inl s2)), (jT, .inr (8, [.ref t0, .int (nI (kt))])), (t0, .inl (cC, 120, .inl gT))] H := by rw [ef_4]; exact ⟨hP, hD⟩
    have hP := hPD.1
    have hD := hPD.2
    refine lv_aload_n hx hb dX4_write_24 rfl (lv_at hl 0 rfl) ?_
    refine lv_dup hx hb dX4_write_25 rfl ?_
    refine va_get (D := (dC, dI)) (ci := 4) (v := .int (nI (wr))) (C := RX4) (T := TX4) (N := 8) hx hb hts (fun _ h => List.mem_cons_of_mem _ (List.mem_append_right _ h)) hown hK hP 0 rfl rfl 3 kc_l_3_8 (hts (.fieldLink RX4 18 "NotEnded$Reader" "written" "I") (List.mem_cons_of_mem _ (List.mem_append_left _ (List.mem_of_getElem? (i := 0) rfl)))) (fun _ h9 => h9) rfl dX4_write_26 ?_
    refine lv_iconst (v := 1) hx hb dX4_write_29 kc_i_1 ?_
    refine lv_iadd hx hb dX4_write_30 ?_
    refine lv_topi (fun y_6 ey_6 => ?_)
    obtain rfl : y_6 = nI (wr + 1) := ey_6.trans (nI_add (wr) (1))
    refine va_put (D := (dC, dI)) (ci := 4) (v := .int (nI (wr + 1))) (ty := tyX4 3) (C := RX4) (T := TX4) (N := 8) hx hb hts (fun _ h => List.mem_cons_of_mem _ (List.mem_append_right _ h)) tyX4 tyX4_ok nmX4 hown hK hP hD hS 0 rfl rfl 3 kc_l_3_8 (hts (.fieldLink RX4 18 "NotEnded$Reader" "written" "I") (List.mem_cons_of_mem _ (List.mem_append_left _ (List.mem_of_getElem? (i := 0) rfl)))) (fun _ h9 => h9) rfl (tyX4_ok 3 kc_l_3_8) rfl rfl (Nat.le_of_ble_eq_true rfl) dX4_write_31 (fun H locs hP hD hS => ?_)
    have hPD : kPD dC dI A [(jR, .inr (4, [.ref jT, .ref r1, .ref r2, .int (nI (wr + 1)), .int (nI (fi)), .int (nI (pn)), .ref q6, .ref q7])), (r1, .inl (c1, 120, .inl f_4)), (r2, .inl (c2, 124, .inl s2)), (jT, .inr (8, [.ref t0, .int (nI (kt))])), (t0, .inl (cC, 120, .inl gT))] H := ⟨hP, hD⟩
    have hP := hPD.1
    have hD := hPD.2
    refine lv_iconst (v := 1) hx hb dX4_write_34 kc_i_1 ?_
    have hP9 := hP
    have hD9 := hD
    have hK9 := hK
    rw [hQ]
    exact W.zret (v := 1) hx hb hr rfl (fun t ht hW => ⟨⟨1, (f_4, (wr + 1)), rfl, ⟨rfl, rfl, by rw [ef_4, nI_clamp (n := wr) (by omega)]⟩,  by rw [ht]; exact hP9, va_K.moved hW.alike hK9, hD9⟩, hS.F ht⟩) hS.2.2 dX4_write_35
  · have bd_8 : wr < 2147483648 := by omega
    have hn_7 := knlt (a := wr) (b := 120) bd_8 kc_31_120 c_1
    refine lv_iconst (v := 0) hx hb dX4_write_12 kc_i_0 ?_
    have hP9 := hP
    have hD9 := hD
    have hK9 := hK
    rw [hQ]
    exact W.zret (v := 0) hx hb hr rfl (fun t ht hW => ⟨⟨0, (s1, wr), rfl, (by exfalso; omega),  by rw [ht]; exact hP9, va_K.moved hW.alike hK9, hD9⟩, hS.F ht⟩) hS.2.2 dX4_write_13

def w_s_digit4x : List Cond := .code yX4_isDigit cX4_isDigit 1 (some .boolean) :: ([])
theorem gw_s_digit4x : (w_s_digit4x).all goodWord = true := kGc rfl kGn
set_option maxHeartbeats 4000000 in
set_option maxRecDepth 100000 in
theorem s_digit4x (l : Launch) (dC : Nat → ClassId) (dI : Nat → Nat → Nat) (pc : Nat) (hpc : pc < 256) : Met l yX4_isDigit w_s_digit4x ({ frames := 1, cells := 0, slots := 0, locals := 60 }) (kR dC dI [.int (nI (pc))] [] [] kT) (vp_Si (fun r : Int32 => ((¬ r = 0 ↔ 48 ≤ pc ∧ pc ≤ 57)))) 0 0 (fun _ => False) := by
  refine Met.ofW (cc := cX4_isDigit) (maxL := 1) (ret := (some .boolean)) (by decide) rfl ?_
  intro p e s m args below meth c s₁ B hml hv
  obtain ⟨rfl, hP, hK, hX⟩ := hv
  have hx := B.exec
  have hb := B.bytes
  have hr := B.returns
  have hts := atoms_spec (ws := w_s_digit4x) B.pre
  have hown : s.vm.findClass RX4 = some m.cls := findClass_of_methodNamed B.named
  have hlocks := B.notSynchronized
  have hP : va_P (dC, dI) vwCl [] s.heap := hP
  have hl := lv_entry ([.int (nI (pc))]) (n := 1) (Nat.le_of_ble_eq_true rfl)
  rw [lg_entry_eq]
  generalize (lg_sl ([.int (nI (pc))]) ++ List.replicate (1 - (lg_sl ([.int (nI (pc))])).length) Slot.unset).toArray = ls at hl ⊢
  have hl : lv_has ls 1 [(0, .int (nI (pc)))] := hl
  refine kQ (fun Q hQ => ?_)
  refine lv_iload_n hx hb dX4_isDigit_0 rfl (lv_at hl 0 rfl) ?_
  refine lv_bipush (v := 48) hx hb dX4_isDigit_1 kc_b_48 ?_
  refine lv_icmp_lt (tgt := 16) hx hb dX4_isDigit_3 kc_t_3_13 (fun c_1 => ?_) (fun c_1 => ?_)
  · have bd_3 : pc < 2147483648 := by omega
    have hn_2 := klt (a := pc) (b := 48) bd_3 kc_31_48 c_1
    refine lv_iconst (v := 0) hx hb dX4_isDigit_16 kc_i_0 ?_
    rw [hQ]
    exact W.zret (v := 0) hx hb hr rfl (fun t ht hW => ⟨0, rfl, ⟨fun z => absurd rfl z, fun _ => by exfalso; omega⟩, ht⟩) (fun _ h => nomatch h) dX4_isDigit_17
  · have bd_5 : pc < 2147483648 := by omega
    have hn_4 := knlt (a := pc) (b := 48) bd_5 kc_31_48 c_1
    refine lv_iload_n hx hb dX4_isDigit_6 rfl (lv_at hl 0 rfl) ?_
    refine lv_bipush (v := 57) hx hb dX4_isDigit_7 kc_b_57 ?_
    refine lv_icmp_gt (tgt := 16) hx hb dX4_isDigit_9 kc_t_9_7 (fun c_6 => ?_) (fun c_6 => ?_)
    · have hn_7 := klt (a := 57) (b := pc) kc_31_57 bd_5 c_6
      refine lv_iconst (v := 0) hx hb dX4_isDigit_16 kc_i_0 ?_
      rw [hQ]
      exact W.zret (v := 0) hx hb hr rfl (fun t ht hW => ⟨0, rfl, ⟨fun z => absurd rfl z, fun _ => by exfalso; omega⟩, ht⟩) (fun _ h => nomatch h) dX4_isDigit_17
    · have hn_8 := knlt (a := 57) (b := pc) kc_31_57 bd_5 c_6
      refine lv_iconst (v := 1) hx hb dX4_isDigit_12 kc_i_1 ?_
      refine lv_goto (tgt := 17) hx hb dX4_isDigit_13 kc_t_13_4 ?_
      rw [hQ]
      exact W.zret (v := 1) hx hb hr rfl (fun t ht hW => ⟨1, rfl, ⟨fun _ => by omega, fun _ => by decide⟩, ht⟩) (fun _ h => nomatch h) dX4_isDigit_17

def w_s_comp4x : List Cond := .code yX4_isComparison cX4_isComparison 1 (some .boolean) :: ([])
theorem gw_s_comp4x : (w_s_comp4x).all goodWord = true := kGc rfl kGn
set_option maxHeartbeats 4000000 in
set_option maxRecDepth 100000 in
theorem s_comp4x (l : Launch) (dC : Nat → ClassId) (dI : Nat → Nat → Nat) (pc : Nat) (hpc : pc < 256) : Met l yX4_isComparison w_s_comp4x ({ frames := 1, cells := 0, slots := 0, locals := 60 }) (kR dC dI [.int (nI (pc))] [] [] kT) (vp_Si (fun r : Int32 => ((¬ r = 0 ↔ pc = 61 ∨ pc = 60 ∨ pc = 62)))) 0 0 (fun _ => False) := by
  refine Met.ofW (cc := cX4_isComparison) (maxL := 1) (ret := (some .boolean)) (by decide) rfl ?_
  intro p e s m args below meth c s₁ B hml hv
  obtain ⟨rfl, hP, hK, hX⟩ := hv
  have hx := B.exec
  have hb := B.bytes
  have hr := B.returns
  have hts := atoms_spec (ws := w_s_comp4x) B.pre
  have hown : s.vm.findClass RX4 = some m.cls := findClass_of_methodNamed B.named
  have hlocks := B.notSynchronized
  have hP : va_P (dC, dI) vwCl [] s.heap := hP
  have hl := lv_entry ([.int (nI (pc))]) (n := 1) (Nat.le_of_ble_eq_true rfl)
  rw [lg_entry_eq]
  generalize (lg_sl ([.int (nI (pc))]) ++ List.replicate (1 - (lg_sl ([.int (nI (pc))])).length) Slot.unset).toArray = ls at hl ⊢
  have hl : lv_has ls 1 [(0, .int (nI (pc)))] := hl
  refine kQ (fun Q hQ => ?_)
  refine lv_iload_n hx hb dX4_isComparison_0 rfl (lv_at hl 0 rfl) ?_
  refine lv_bipush (v := 61) hx hb dX4_isComparison_1 kc_b_61 ?_
  refine lv_icmp_eq (tgt := 18) hx hb dX4_isComparison_3 kc_t_3_15 (fun c_1 => ?_) (fun c_1 => ?_)
  · have bd_3 : pc < 2147483648 := by omega
    have hn_2 := keq (a := pc) (b := 61) bd_3 kc_31_61 c_1
    refine lv_iconst (v := 1) hx hb dX4_isComparison_18 kc_i_1 ?_
    refine lv_goto (tgt := 23) hx hb dX4_isComparison_19 kc_t_19_4 ?_
    rw [hQ]
    exact W.zret (v := 1) hx hb hr rfl (fun t ht hW => ⟨1, rfl, ⟨fun _ => by omega, fun _ => by decide⟩, ht⟩) (fun _ h => nomatch h) dX4_isComparison_23
  · have bd_5 : pc < 2147483648 := by omega
    have hn_4 := kneq (a := pc) (b := 61) bd_5 kc_31_61 c_1
    refine lv_iload_n hx hb dX4_isComparison_6 rfl (lv_at hl 0 rfl) ?_
    refine lv_bipush (v := 60) hx hb dX4_isComparison_7 kc_b_60 ?_
    refine lv_icmp_eq (tgt := 18) hx hb dX4_isComparison_9 kc_t_9_9 (fun c_6 => ?_) (fun c_6 => ?_)
    · have hn_7 := keq (a := pc) (b := 60) bd_5 kc_31_60 c_6
      refine lv_iconst (v := 1) hx hb dX4_isComparison_18 kc_i_1 ?_
      refine lv_goto (tgt := 23) hx hb dX4_isComparison_19 kc_t_19_4 ?_
      rw [hQ]
      exact W.zret (v := 1) hx hb hr rfl (fun t ht hW => ⟨1, rfl, ⟨fun _ => by omega, fun _ => by decide⟩, ht⟩) (fun _ h => nomatch h) dX4_isComparison_23
    · have hn_8 := kneq (a := pc) (b := 60) bd_5 kc_31_60 c_6
      refine lv_iload_n hx hb dX4_isComparison_12 rfl (lv_at hl 0 rfl) ?_
      refine lv_bipush (v := 62) hx hb dX4_isComparison_13 kc_b_62 ?_
      refine lv_icmp_ne (tgt := 22) hx hb dX4_isComparison_15 kc_t_15_7 (fun c_9 => ?_) (fun c_9 => ?_)
      · have hn_10 := kneq (a := pc) (b := 62) bd_5 kc_31_62 c_9
        refine lv_iconst (v := 0) hx hb dX4_isComparison_22 kc_i_0 ?_
        rw [hQ]
        exact W.zret (v := 0) hx hb hr rfl (fun t ht hW => ⟨0, rfl, ⟨fun z => absurd rfl z, fun _ => by exfalso; omega⟩, ht⟩) (fun _ h => nomatch h) dX4_isComparison_23
      · have hn_11 := keq (a := pc) (b := 62) bd_5 kc_31_62 c_9
        refine lv_iconst (v := 1) hx hb dX4_isComparison_18 kc_i_1 ?_
        refine lv_goto (tgt := 23) hx hb dX4_isComparison_19 kc_t_19_4 ?_
        rw [hQ]
        exact W.zret (v := 1) hx hb hr rfl (fun t ht hW => ⟨1, rfl, ⟨fun _ => by omega, fun _ => by decide⟩, ht⟩) (fun _ h => nomatch h) dX4_isComparison_23

def w_s_t_ixcx : List Cond := .code yJ1_indexOfChar_4cfef cJ1_indexOfChar_4cfef 6 (some .int) :: ([])
theorem gw_s_t_ixcx : (w_s_t_ixcx).all goodWord = true := kGc rfl kGn
set_option maxHeartbeats 4000000 in
set_option maxRecDepth 100000 in
theorem s_t_ixcx (l : Launch) (dC : Nat → ClassId) (dI : Nat → Nat → Nat) (q : Nat) (b : Nat) (n : Nat) (g : Nat → Int32) (hn : n ≤ 8) (A : Nat → Prop) (gn : ∀ k : Nat, ∃ v : Nat, v < 128 ∧ g k = nI v) (pc : Nat) (hpc : pc < 256) : Met l yJ1_indexOfChar_4cfef w_s_t_ixcx ({ frames := 1, cells := 0, slots := 0, locals := 60 }) (kR dC dI [.ref b, .int (nI (pc)), .int 0, .int (nI (n))] [] [] (kSt q b n g A)) (vp_Si (fun r : Int32 => ((r = -1 ∧ kIx g n (nI pc) = n) ∨ ∃ j : Nat, j < n ∧ r = nI j ∧ kIx g n (nI pc) = j))) 0 0 (fun _ => False) := by
  refine Met.ofW (cc := cJ1_indexOfChar_4cfef) (maxL := 6) (ret := (some .int)) (by decide) rfl ?_
  intro p e s m args below meth c s₁ B hml hv
  obtain ⟨rfl, hP, hK, hX⟩ := hv
  have hx := B.exec
  have hb := B.bytes
  have hr := B.returns
  have hts := atoms_spec (ws := w_s_t_ixcx) B.pre
  have hown : s.vm.findClass RJ1 = some m.cls := findClass_of_methodNamed B.named
  have hlocks := B.notSynchronized
  have hS : va_S A s.heap s.heap [] := va_S.rf
  have hP : va_P (dC, dI) vwCl [] s.heap := hP
  have hl := lv_entry ([.ref b, .int (nI (pc)), .int 0, .int (nI (n))]) (n := 6) (Nat.le_of_ble_eq_true rfl)
  rw [lg_entry_eq]
  generalize (lg_sl ([.ref b, .int (nI (pc)), .int 0, .int (nI (n))]) ++ List.replicate (6 - (lg_sl ([.ref b, .int (nI (pc)), .int 0, .int (nI (n))])).length) Slot.unset).toArray = ls at hl ⊢
  have hl : lv_has ls 6 [(0, .ref b), (1, .int (nI (pc))), (2, .int 0), (3, .int (nI (n)))] := hl
  refine kQ (fun Q hQ => ?_)
  refine lv_iload_n hx hb dJ1_indexOfChar_4cfef_0 rfl (lv_at hl 1 rfl) ?_
  obtain ⟨x_1, ex_1⟩ : ∃ z : Int32, z = (Int32.toInt8 (nI (pc))).toInt32 := ⟨_, rfl⟩
  refine lv_i2b (v := x_1) hx hb dJ1_indexOfChar_4cfef_1 ex_1.symm ?_
  refine lv_istore hx hb dJ1_indexOfChar_4cfef_2 hl kc_l_4_6 (kTo [(4, .int x_1), (0, .ref b), (1, .int (nI (pc))), (2, .int 0), (3, .int (nI (n)))]) (fun ls hl => ?_)
  refine lv_iload_n hx hb dJ1_indexOfChar_4cfef_4 rfl (lv_at hl 3 rfl) ?_
  refine lv_istore hx hb dJ1_indexOfChar_4cfef_5 hl kc_l_5_6 (kTo [(5, .int 0), (4, .int x_1), (0, .ref b), (1, .int (nI (pc))), (2, .int 0), (3, .int (nI (n)))]) (fun ls hl => ?_)
  have lp_k_2 : ∀ (n9 : Nat) (i : Nat) (ivk_2_0 : i ≤ n) (ivk_2_1 : kFd g (nI pc) (n - i) i = kIx g n (nI pc)) (ls : Array Slot) (_ : lv_has ls 6 [(5, .int (nI (i))), (4, .int x_1), (0, .ref b), (1, .int (nI (pc))), (2, .int 0), (3, .int (nI (n)))]) (_ : n - i < n9), W p l e (headSpec w_s_t_ixcx ({ frames := 1, cells := 0, slots := 0, locals := 60 })).room s m (#[.ref b, .int (nI (pc)), .int 0, .int (nI (n))] : Array Value) below meth c s.heap [] 0 0 Q (F0 m 7 ls []) := by
    intro n9
    induction n9 with
    | zero => intro i ivk_2_0 ivk_2_1 ls hl hm9; exact absurd hm9 (Nat.not_lt_zero _)
    | succ n9 ih_k_2 =>
      intro i ivk_2_0 ivk_2_1 ls hl hm9
      refine lv_iload hx hb dJ1_indexOfChar_4cfef_7 (lv_at hl 0 rfl) ?_
      refine lv_iload_n hx hb dJ1_indexOfChar_4cfef_9 rfl (lv_at hl 5 rfl) ?_
      refine lv_icmp_ge (tgt := 31) hx hb dJ1_indexOfChar_4cfef_10 kc_t_10_21 (fun c_3 => ?_) (fun c_3 => ?_)
      · have bd_5 : n < 2147483648 := by omega
        have bd_6 : i < 2147483648 := by omega
        have hn_4 := kle (a := n) (b := i) bd_5 bd_6 c_3
        refine lv_iconst (v := (-1)) hx hb dJ1_indexOfChar_4cfef_31 kc_i_m1 ?_
        rw [hQ]
        exact W.iret (v := (-1)) hx hb hr (fun t ht hW => ⟨(-1), rfl, (Or.inl ⟨rfl, by rw [← ivk_2_1, show n - i = 0 by omega]; show i = n; omega⟩), ht⟩) (fun _ h => nomatch h) dJ1_indexOfChar_4cfef_32
      · have bd_8 : n < 2147483648 := by omega
        have bd_9 : i < 2147483648 := by omega
        have hn_7 := knle (a := n) (b := i) bd_8 bd_9 c_3
        refine lv_aload_n hx hb dJ1_indexOfChar_4cfef_13 rfl (lv_at hl 2 rfl) ?_
        refine lv_iload hx hb dJ1_indexOfChar_4cfef_14 (lv_at hl 0 rfl) ?_
        refine va_tb hx hb hX.2.2.2.1 hS (vp_in_nI (n := i) (N := n) (by omega) (by omega)) (v := .int (g (Int32.toNatClampNeg (nI (i))))) rfl dJ1_indexOfChar_4cfef_16 ?_
        refine lv_topi (fun x_10 ex_10 => ?_)
        refine lv_iload hx hb dJ1_indexOfChar_4cfef_17 (lv_at hl 1 rfl) ?_
        refine lv_icmp_ne (tgt := 25) hx hb dJ1_indexOfChar_4cfef_19 kc_t_19_6 (fun c_11 => ?_) (fun c_11 => ?_)
        · refine lv_iinc (v := nI (i + 1)) hx hb dJ1_indexOfChar_4cfef_25 hl (k := 0) rfl (kInc _ 1) kc_l_5_6 (kTo [(5, .int (nI (i + 1))), (4, .int x_1), (0, .ref b), (1, .int (nI (pc))), (2, .int 0), (3, .int (nI (n)))]) (fun ls hl => ?_)
          refine lv_goto (tgt := 7) hx hb dJ1_indexOfChar_4cfef_28 kc_t_28_m21 ?_
          exact ih_k_2 (i + 1) (by omega) (by have e1 := ex_10; rw [nI_clamp (n := i) (by omega)] at e1; rw [← ivk_2_1, show n - i = (n - (i + 1)) + 1 by omega]; exact (kFd_s (fun z => c_11 (e1.trans (((kByEq (gn i) hpc).mpr z).trans ex_1.symm)))).symm) ls (lv_sub hl [0, 1, 2, 3, 4, 5] rfl) (by omega)
        · refine lv_iload hx hb dJ1_indexOfChar_4cfef_22 (lv_at hl 0 rfl) ?_
          rw [hQ]
          exact W.iret (v := nI (i)) hx hb hr (fun t ht hW => ⟨nI (i), rfl, (Or.inr ⟨i, by omega, rfl, by have e1 := ex_10; rw [nI_clamp (n := i) (by omega)] at e1; rw [← ivk_2_1, show n - i = (n - (i + 1)) + 1 by omega]; exact kFd_h ((kByEq (gn i) hpc).mp (e1.symm.trans (c_11.trans ex_1)))⟩), ht⟩) (fun _ h => nomatch h) dJ1_indexOfChar_4cfef_24
  exact lp_k_2 (n - 0 + 1) 0 (by omega) rfl ls (lv_sub hl [0, 1, 2, 3, 4, 5] rfl) (by omega)

def w_s_can1x : List Cond := .code yJ1_canEncode_9a6ad cJ1_canEncode_9a6ad 1 (some .boolean) :: ([])
theorem gw_s_can1x : (w_s_can1x).all goodWord = true := kGc rfl kGn
set_option maxHeartbeats 4000000 in
set_option maxRecDepth 100000 in
theorem s_can1x (l : Launch) (dC : Nat → ClassId) (dI : Nat → Nat → Nat) (pc : Nat) (hpc : pc < 256) : Met l yJ1_canEncode_9a6ad w_s_can1x ({ frames := 1, cells := 0, slots := 0, locals := 60 }) (kR dC dI [.int (nI (pc))] [] [] kT) (vp_Si (fun r : Int32 => r = 1)) 0 0 (fun _ => False) := by
  refine Met.ofW (cc := cJ1_canEncode_9a6ad) (maxL := 1) (ret := (some .boolean)) (by decide) rfl ?_
  intro p e s m args below meth c s₁ B hml hv
  obtain ⟨rfl, hP, hK, hX⟩ := hv
  have hx := B.exec
  have hb := B.bytes
  have hr := B.returns
  have hts := atoms_spec (ws := w_s_can1x) B.pre
  have hown : s.vm.findClass RJ1 = some m.cls := findClass_of_methodNamed B.named
  have hlocks := B.notSynchronized
  have hP : va_P (dC, dI) vwCl [] s.heap := hP
  have hl := lv_entry ([.int (nI (pc))]) (n := 1) (Nat.le_of_ble_eq_true rfl)
  rw [lg_entry_eq]
  generalize (lg_sl ([.int (nI (pc))]) ++ List.replicate (1 - (lg_sl ([.int (nI (pc))])).length) Slot.unset).toArray = ls at hl ⊢
  have hl : lv_has ls 1 [(0, .int (nI (pc)))] := hl
  refine kQ (fun Q hQ => ?_)
  refine lv_iload_n hx hb dJ1_canEncode_9a6ad_0 rfl (lv_at hl 0 rfl) ?_
  have bd_1 : pc < 2147483648 := by omega
  refine lv_if_lt (tgt := 15) hx hb dJ1_canEncode_9a6ad_1 kc_t_1_14 (fun c_2 => absurd c_2 (nI_pos (n := pc) bd_1)) (fun c_2 => ?_)
  refine lv_iload_n hx hb dJ1_canEncode_9a6ad_4 rfl (lv_at hl 0 rfl) ?_
  refine lv_sipush (v := 255) hx hb dJ1_canEncode_9a6ad_5 kc_s_255 ?_
  refine lv_icmp_gt (tgt := 15) hx hb dJ1_canEncode_9a6ad_8 kc_t_8_7 (fun c_3 => ?_) (fun c_3 => ?_)
  · have hn_4 := klt (a := 255) (b := pc) kc_31_255 bd_1 c_3
    refine lv_iconst (v := 0) hx hb dJ1_canEncode_9a6ad_15 kc_i_0 ?_
    rw [hQ]
    exact W.zret (v := 0) hx hb hr rfl (fun t ht hW => ⟨0, rfl, (by exfalso; omega), ht⟩) (fun _ h => nomatch h) dJ1_canEncode_9a6ad_16
  · have hn_5 := knlt (a := 255) (b := pc) kc_31_255 bd_1 c_3
    refine lv_iconst (v := 1) hx hb dJ1_canEncode_9a6ad_11 kc_i_1 ?_
    refine lv_goto (tgt := 16) hx hb dJ1_canEncode_9a6ad_12 kc_t_12_4 ?_
    rw [hQ]
    exact W.zret (v := 1) hx hb hr rfl (fun t ht hW => ⟨1, rfl, rfl, ht⟩) (fun _ h => nomatch h) dJ1_canEncode_9a6ad_16

def w_s_t_ix1x : List Cond := .code yJ1_indexOf_4cfef cJ1_indexOf_4cfef 4 (some .int) :: ([.initialized RJ1, .static yJ1_canEncode_9a6ad, .methodLink RJ1 88 yJ1_canEncode_9a6ad, .methodLink RJ1 92 Lib.Math.max.name, .static Lib.Math.max.name, .initialized RJ9, .code Lib.Math.max.name Lib.Math.max.code 2 (some .int), .methodLink RJ1 38 Lib.Math.min.name, .static Lib.Math.min.name, .code Lib.Math.min.name Lib.Math.min.code 2 (some .int), .static yJ1_indexOfChar_4cfef, .methodLink RJ1 95 yJ1_indexOfChar_4cfef] ++ (w_s_can1x ++ (w_s_t_ixcx)))
theorem gw_s_t_ix1x : (w_s_t_ix1x).all goodWord = true := kGc rfl (kGa (by decide +kernel) (kGa gw_s_can1x gw_s_t_ixcx))
set_option maxHeartbeats 4000000 in
set_option maxRecDepth 100000 in
theorem s_t_ix1x (l : Launch) (dC : Nat → ClassId) (dI : Nat → Nat → Nat) (q : Nat) (b : Nat) (n : Nat) (g : Nat → Int32) (hn : n ≤ 8) (A : Nat → Prop) (gn : ∀ k : Nat, ∃ v : Nat, v < 128 ∧ g k = nI v) (pc : Nat) (hpc : pc < 256) : Met l yJ1_indexOf_4cfef w_s_t_ix1x ({ frames := 2, cells := 0, slots := 0, locals := 120 }) (kR dC dI [.ref b, .int (nI (pc)), .int 0, .int (nI (n))] [] [] (kSt q b n g A)) (vp_Si (fun r : Int32 => ((r = -1 ∧ kIx g n (nI pc) = n) ∨ ∃ j : Nat, j < n ∧ r = nI j ∧ kIx g n (nI pc) = j))) 0 0 (fun _ => False) := by
  refine Met.ofW (cc := cJ1_indexOf_4cfef) (maxL := 4) (ret := (some .int)) (by decide) rfl ?_
  intro p e s m args below meth c s₁ B hml hv
  obtain ⟨rfl, hP, hK, hX⟩ := hv
  have hx := B.exec
  have hb := B.bytes
  have hr := B.returns
  have hts := atoms_spec (ws := w_s_t_ix1x) B.pre
  have hown : s.vm.findClass RJ1 = some m.cls := findClass_of_methodNamed B.named
  have hlocks := B.notSynchronized
  have hS : va_S A s.heap s.heap [] := va_S.rf
  have hP : va_P (dC, dI) vwCl [] s.heap := hP
  have hl := lv_entry ([.ref b, .int (nI (pc)), .int 0, .int (nI (n))]) (n := 4) (Nat.le_of_ble_eq_true rfl)
  rw [lg_entry_eq]
  generalize (lg_sl ([.ref b, .int (nI (pc)), .int 0, .int (nI (n))]) ++ List.replicate (4 - (lg_sl ([.ref b, .int (nI (pc)), .int 0, .int (nI (n))])).length) Slot.unset).toArray = ls at hl ⊢
  have hl : lv_has ls 4 [(0, .ref b), (1, .int (nI (pc))), (2, .int 0), (3, .int (nI (n)))] := hl
  refine kQ (fun Q hQ => ?_)
  refine lv_iload_n hx hb dJ1_indexOf_4cfef_0 rfl (lv_at hl 1 rfl) ?_
  have hPc := hP.sb (ws2 := []) [] rfl
  have hKc := hK.sb (tys2 := []) [] rfl
  refine vp_callSi (va_runS (As := [.int (nI (pc))]) (rest := []) ⟨hx, hb, hml, hown, hts⟩ (s_can1x l dC dI pc hpc) (va_cwS 1 hts (kG (List.forall_mem_cons.mpr ⟨(List.mem_cons_of_mem _ (List.mem_append_left _ (List.mem_of_getElem? (i := 2) rfl))), (List.forall_mem_cons.mpr ⟨(List.mem_cons_of_mem _ (List.mem_append_left _ (List.mem_of_getElem? (i := 1) rfl))), (List.forall_mem_cons.mpr ⟨(List.mem_cons_of_mem _ (List.mem_append_left _ (List.mem_of_getElem? (i := 0) rfl))), (fun _ h => absurd h List.not_mem_nil)⟩)⟩)⟩) (kGS _ _ _) (fun _ h => List.mem_cons_of_mem _ (List.mem_append_right _ (List.mem_append_left _ h))) gw_s_can1x) rfl rfl rfl hd_J1_canEncode_9a6ad ⟨(Nat.le_of_ble_eq_true rfl), (Nat.le_of_ble_eq_true rfl)⟩) (kR_S kT_blind kT_give hPc hKc) rfl rfl hl.1 rfl (lv_room (Nat.le_of_ble_eq_true rfl)) dJ1_indexOf_4cfef_1 ⟨(Nat.le_of_ble_eq_true rfl), (Nat.le_of_ble_eq_true rfl)⟩).run (fun r_1 hw => ?_)
  obtain rfl : r_1 = 1 := hw
  refine lv_if_ne (tgt := 9) hx hb dJ1_indexOf_4cfef_4 kc_t_4_5 (fun c_2 => ?_) (fun c_2 => absurd c_2 (by decide))
  refine lv_iload_n hx hb dJ1_indexOf_4cfef_9 rfl (lv_at hl 2 rfl) ?_
  refine lv_iconst (v := 0) hx hb dJ1_indexOf_4cfef_10 kc_i_0 ?_
  refine va_mmax hx hb (hml.trans hl.1.symm) hown (hts (.methodLink RJ1 92 Lib.Math.max.name) (List.mem_cons_of_mem _ (List.mem_append_left _ (List.mem_of_getElem? (i := 3) rfl)))) (hts (.static Lib.Math.max.name) (List.mem_cons_of_mem _ (List.mem_append_left _ (List.mem_of_getElem? (i := 4) rfl)))) (hts (.initialized RJ9) (List.mem_cons_of_mem _ (List.mem_append_left _ (List.mem_of_getElem? (i := 5) rfl)))) (hts (.code Lib.Math.max.name Lib.Math.max.code 2 (some .int)) (List.mem_cons_of_mem _ (List.mem_append_left _ (List.mem_of_getElem? (i := 6) rfl)))) (Nat.le_of_ble_eq_true rfl) (Nat.le_of_ble_eq_true rfl) (Nat.le_of_ble_eq_true rfl) (Nat.le_of_ble_eq_true rfl) dJ1_indexOf_4cfef_11 ?_
  refine lv_topi (fun x_3 ex_3 => ?_)
  obtain rfl : x_3 = 0 := ex_3.trans (by decide)
  refine lv_istore_n hx hb dJ1_indexOf_4cfef_14 rfl hl kc_l_2_4 (kTo [(2, .int 0), (0, .ref b), (1, .int (nI (pc))), (3, .int (nI (n)))]) (fun ls hl => ?_)
  refine lv_iload_n hx hb dJ1_indexOf_4cfef_15 rfl (lv_at hl 3 rfl) ?_
  refine lv_aload_n hx hb dJ1_indexOf_4cfef_16 rfl (lv_at hl 1 rfl) ?_
  refine va_tlen hx hb hX.2.2.2.1 hS (v := nI (n)) rfl dJ1_indexOf_4cfef_17 ?_
  refine va_mmin hx hb (hml.trans hl.1.symm) hown (hts (.methodLink RJ1 38 Lib.Math.min.name) (List.mem_cons_of_mem _ (List.mem_append_left _ (List.mem_of_getElem? (i := 7) rfl)))) (hts (.static Lib.Math.min.name) (List.mem_cons_of_mem _ (List.mem_append_left _ (List.mem_of_getElem? (i := 8) rfl)))) (hts (.initialized RJ9) (List.mem_cons_of_mem _ (List.mem_append_left _ (List.mem_of_getElem? (i := 5) rfl)))) (hts (.code Lib.Math.min.name Lib.Math.min.code 2 (some .int)) (List.mem_cons_of_mem _ (List.mem_append_left _ (List.mem_of_getElem? (i := 9) rfl)))) (Nat.le_of_ble_eq_true rfl) (Nat.le_of_ble_eq_true rfl) (Nat.le_of_ble_eq_true rfl) (Nat.le_of_ble_eq_true rfl) dJ1_indexOf_4cfef_18 ?_
  refine lv_topi (fun x_4 ex_4 => ?_)
  obtain rfl : x_4 = nI (n) := ex_4.trans (by split <;> rfl)
  refine lv_istore_n hx hb dJ1_indexOf_4cfef_21 rfl hl kc_l_3_4 (kTo [(3, .int (nI (n))), (2, .int 0), (0, .ref b), (1, .int (nI (pc)))]) (fun ls hl => ?_)
  refine lv_iload_n hx hb dJ1_indexOf_4cfef_22 rfl (lv_at hl 1 rfl) ?_
  refine lv_iload_n hx hb dJ1_indexOf_4cfef_23 rfl (lv_at hl 0 rfl) ?_
  refine lv_icmp_lt (tgt := 29) hx hb dJ1_indexOf_4cfef_24 kc_t_24_5 (fun c_5 => ?_) (fun c_5 => ?_)
  · have bd_7 : n < 2147483648 := by omega
    have hn_6 := klt (a := 0) (b := n) kc_31_0 bd_7 c_5
    refine lv_aload_n hx hb dJ1_indexOf_4cfef_29 rfl (lv_at hl 2 rfl) ?_
    refine lv_iload_n hx hb dJ1_indexOf_4cfef_30 rfl (lv_at hl 3 rfl) ?_
    refine lv_iload_n hx hb dJ1_indexOf_4cfef_31 rfl (lv_at hl 1 rfl) ?_
    refine lv_iload_n hx hb dJ1_indexOf_4cfef_32 rfl (lv_at hl 0 rfl) ?_
    have hPc := hP.sb (ws2 := []) [] rfl
    have hKc := hK.sb (tys2 := []) [] rfl
    refine vp_callSi (va_runS (As := [.ref b, .int (nI (pc)), .int 0, .int (nI (n))]) (rest := []) ⟨hx, hb, hml, hown, hts⟩ (s_t_ixcx l dC dI q b n g hn A gn pc hpc) (va_cwS 4 hts (kG (List.forall_mem_cons.mpr ⟨(List.mem_cons_of_mem _ (List.mem_append_left _ (List.mem_of_getElem? (i := 11) rfl))), (List.forall_mem_cons.mpr ⟨(List.mem_cons_of_mem _ (List.mem_append_left _ (List.mem_of_getElem? (i := 10) rfl))), (List.forall_mem_cons.mpr ⟨(List.mem_cons_of_mem _ (List.mem_append_left _ (List.mem_of_getElem? (i := 0) rfl))), (fun _ h => absurd h List.not_mem_nil)⟩)⟩)⟩) (kGS _ _ _) (fun _ h => List.mem_cons_of_mem _ (List.mem_append_right _ (List.mem_append_right _ h))) gw_s_t_ixcx) rfl rfl rfl hd_J1_indexOfChar_4cfef ⟨(Nat.le_of_ble_eq_true rfl), (Nat.le_of_ble_eq_true rfl)⟩) (kR_S kSt_blind (kSt_give hX hS) hPc hKc) rfl rfl hl.1 rfl (lv_room (Nat.le_of_ble_eq_true rfl)) dJ1_indexOf_4cfef_33 ⟨(Nat.le_of_ble_eq_true rfl), (Nat.le_of_ble_eq_true rfl)⟩).run (fun r_8 hw => ?_)
    have hw_9 := hw
    rw [hQ]
    exact W.iret (v := r_8) hx hb hr (fun t ht hW => ⟨r_8, rfl, hw_9, ht⟩) (fun _ h => nomatch h) dJ1_indexOf_4cfef_36
  · have bd_11 : n < 2147483648 := by omega
    have hn_10 := knlt (a := 0) (b := n) kc_31_0 bd_11 c_5
    refine lv_iconst (v := (-1)) hx hb dJ1_indexOf_4cfef_27 kc_i_m1 ?_
    rw [hQ]
    exact W.iret (v := (-1)) hx hb hr (fun t ht hW => ⟨(-1), rfl, (Or.inl ⟨rfl, kIx_0 (by omega)⟩), ht⟩) (fun _ h => nomatch h) dJ1_indexOf_4cfef_28

def w_s_t_ix2x : List Cond := .code yJ0_indexOf_7cf53 cJ0_indexOf_7cf53 3 (some .int) :: ([.initialized RJ0, .selects RJ0 yJ0_isLatin1_aae02 yJ0_isLatin1_aae02, .instanceMethod yJ0_isLatin1_aae02, .methodLink RJ0 492 yJ0_isLatin1_aae02, .fieldLink RJ0 9 "java/lang/String" "value" "[B", .selects RJ0 yJ0_length_8abf5 yJ0_length_8abf5, .instanceMethod yJ0_length_8abf5, .methodLink RJ0 505 yJ0_length_8abf5, .initialized RJ1, .static yJ1_indexOf_4cfef, .methodLink RJ0 637 yJ1_indexOf_4cfef] ++ (w_s_t_latin ++ (w_s_t_length ++ (w_s_t_ix1x))))
theorem gw_s_t_ix2x : (w_s_t_ix2x).all goodWord = true := kGc rfl (kGa (by decide +kernel) (kGa gw_s_t_latin (kGa gw_s_t_length gw_s_t_ix1x)))
set_option maxHeartbeats 4000000 in
set_option maxRecDepth 100000 in
theorem s_t_ix2x (l : Launch) (dC : Nat → ClassId) (dI : Nat → Nat → Nat) (q : Nat) (b : Nat) (n : Nat) (g : Nat → Int32) (hn : n ≤ 8) (A : Nat → Prop) (gn : ∀ k : Nat, ∃ v : Nat, v < 128 ∧ g k = nI v) (pc : Nat) (hpc : pc < 256) : Met l yJ0_indexOf_7cf53 w_s_t_ix2x ({ frames := 3, cells := 0, slots := 0, locals := 180 }) (kR dC dI [.ref q, .int (nI (pc)), .int 0] [] [] (kSt q b n g A)) (vp_Si (fun r : Int32 => ((r = -1 ∧ kIx g n (nI pc) = n) ∨ ∃ j : Nat, j < n ∧ r = nI j ∧ kIx g n (nI pc) = j))) 0 0 (fun _ => False) := by
  refine Met.ofW (cc := cJ0_indexOf_7cf53) (maxL := 3) (ret := (some .int)) (by decide) rfl ?_
  intro p e s m args below meth c s₁ B hml hv
  obtain ⟨rfl, hP, hK, hX⟩ := hv
  have hx := B.exec
  have hb := B.bytes
  have hr := B.returns
  have hts := atoms_spec (ws := w_s_t_ix2x) B.pre
  have hown : s.vm.findClass RJ0 = some m.cls := findClass_of_methodNamed B.named
  have hlocks := B.notSynchronized
  have hS : va_S A s.heap s.heap [] := va_S.rf
  have hP : va_P (dC, dI) vwCl [] s.heap := hP
  have hl := lv_entry ([.ref q, .int (nI (pc)), .int 0]) (n := 3) (Nat.le_of_ble_eq_true rfl)
  rw [lg_entry_eq]
  generalize (lg_sl ([.ref q, .int (nI (pc)), .int 0]) ++ List.replicate (3 - (lg_sl ([.ref q, .int (nI (pc)), .int 0])).length) Slot.unset).toArray = ls at hl ⊢
  have hl : lv_has ls 3 [(0, .ref q), (1, .int (nI (pc))), (2, .int 0)] := hl
  refine kQ (fun Q hQ => ?_)
  refine lv_aload_n hx hb dJ0_indexOf_7cf53_0 rfl (lv_at hl 0 rfl) ?_
  have hPc := hP.sb (ws2 := []) [] rfl
  have hKc := hK.sb (tys2 := []) [] rfl
  refine vp_callSi (va_runV (As := []) (rest := []) ⟨hx, hb, hml, hown, hts⟩ (s_t_latin l dC dI q b n g hn A) (cwV 0 hts (kG (List.forall_mem_cons.mpr ⟨(List.mem_cons_of_mem _ (List.mem_append_left _ (List.mem_of_getElem? (i := 3) rfl))), (List.forall_mem_cons.mpr ⟨(List.mem_cons_of_mem _ (List.mem_append_left _ (List.mem_of_getElem? (i := 2) rfl))), (List.forall_mem_cons.mpr ⟨(List.mem_cons_of_mem _ (List.mem_append_left _ (List.mem_of_getElem? (i := 1) rfl))), (List.forall_mem_cons.mpr ⟨(List.mem_cons_of_mem _ (List.mem_append_left _ (List.mem_of_getElem? (i := 0) rfl))), (fun _ h => absurd h List.not_mem_nil)⟩)⟩)⟩)⟩) (kGV _ _ _ _) (fun _ h => List.mem_cons_of_mem _ (List.mem_append_right _ (List.mem_append_left _ h))) gw_s_t_latin) rfl rfl rfl ⟨rfl, hd_J0_isLatin1_aae02⟩ ⟨(Nat.le_of_ble_eq_true rfl), (Nat.le_of_ble_eq_true rfl)⟩) (kR_V kSt_blind (kSt_give hX hS) (kSt_recv hX hS) hPc hKc) rfl rfl hl.1 rfl (lv_room (Nat.le_of_ble_eq_true rfl)) dJ0_indexOf_7cf53_1 ⟨(Nat.le_of_ble_eq_true rfl), (Nat.le_of_ble_eq_true rfl)⟩).run (fun r_1 hw => ?_)
  obtain rfl : r_1 = 1 := hw
  refine lv_if_eq (tgt := 23) hx hb dJ0_indexOf_7cf53_4 kc_t_4_19 (fun c_2 => absurd c_2 (by decide)) (fun c_2 => ?_)
  refine lv_aload_n hx hb dJ0_indexOf_7cf53_7 rfl (lv_at hl 0 rfl) ?_
  refine vk_getf hx hb hX.2.2.1 hS hown (hts (.fieldLink RJ0 9 "java/lang/String" "value" "[B") (List.mem_cons_of_mem _ (List.mem_append_left _ (List.mem_of_getElem? (i := 4) rfl)))) (fun _ h9 => h9) dJ0_indexOf_7cf53_8 ?_
  refine lv_iload_n hx hb dJ0_indexOf_7cf53_11 rfl (lv_at hl 1 rfl) ?_
  refine lv_iload_n hx hb dJ0_indexOf_7cf53_12 rfl (lv_at hl 2 rfl) ?_
  refine lv_aload_n hx hb dJ0_indexOf_7cf53_13 rfl (lv_at hl 0 rfl) ?_
  have hPc := hP.sb (ws2 := []) [] rfl
  have hKc := hK.sb (tys2 := []) [] rfl
  refine vp_callSi (va_runV (As := []) (rest := [.int 0, .int (nI (pc)), .ref b]) ⟨hx, hb, hml, hown, hts⟩ (s_t_length l dC dI q b n g hn A) (cwV 0 hts (kG (List.forall_mem_cons.mpr ⟨(List.mem_cons_of_mem _ (List.mem_append_left _ (List.mem_of_getElem? (i := 7) rfl))), (List.forall_mem_cons.mpr ⟨(List.mem_cons_of_mem _ (List.mem_append_left _ (List.mem_of_getElem? (i := 6) rfl))), (List.forall_mem_cons.mpr ⟨(List.mem_cons_of_mem _ (List.mem_append_left _ (List.mem_of_getElem? (i := 5) rfl))), (List.forall_mem_cons.mpr ⟨(List.mem_cons_of_mem _ (List.mem_append_left _ (List.mem_of_getElem? (i := 0) rfl))), (fun _ h => absurd h List.not_mem_nil)⟩)⟩)⟩)⟩) (kGV _ _ _ _) (fun _ h => List.mem_cons_of_mem _ (List.mem_append_right _ (List.mem_append_right _ (List.mem_append_left _ h)))) gw_s_t_length) rfl rfl rfl ⟨rfl, hd_J0_length_8abf5⟩ ⟨(Nat.le_of_ble_eq_true rfl), (Nat.le_of_ble_eq_true rfl)⟩) (kR_V kSt_blind (kSt_give hX hS) (kSt_recv hX hS) hPc hKc) rfl rfl hl.1 rfl (lv_room (Nat.le_of_ble_eq_true rfl)) dJ0_indexOf_7cf53_14 ⟨(Nat.le_of_ble_eq_true rfl), (Nat.le_of_ble_eq_true rfl)⟩).run (fun r_3 hw => ?_)
  obtain rfl : r_3 = nI (n) := hw
  have hPc := hP.sb (ws2 := []) [] rfl
  have hKc := hK.sb (tys2 := []) [] rfl
  refine vp_callSi (va_runS (As := [.ref b, .int (nI (pc)), .int 0, .int (nI (n))]) (rest := []) ⟨hx, hb, hml, hown, hts⟩ (s_t_ix1x l dC dI q b n g hn A gn pc hpc) (va_cwS 4 hts (kG (List.forall_mem_cons.mpr ⟨(List.mem_cons_of_mem _ (List.mem_append_left _ (List.mem_of_getElem? (i := 10) rfl))), (List.forall_mem_cons.mpr ⟨(List.mem_cons_of_mem _ (List.mem_append_left _ (List.mem_of_getElem? (i := 9) rfl))), (List.forall_mem_cons.mpr ⟨(List.mem_cons_of_mem _ (List.mem_append_left _ (List.mem_of_getElem? (i := 8) rfl))), (fun _ h => absurd h List.not_mem_nil)⟩)⟩)⟩) (kGS _ _ _) (fun _ h => List.mem_cons_of_mem _ (List.mem_append_right _ (List.mem_append_right _ (List.mem_append_right _ h)))) gw_s_t_ix1x) rfl rfl rfl hd_J1_indexOf_4cfef ⟨(Nat.le_of_ble_eq_true rfl), (Nat.le_of_ble_eq_true rfl)⟩) (kR_S kSt_blind (kSt_give hX hS) hPc hKc) rfl rfl hl.1 rfl (lv_room (Nat.le_of_ble_eq_true rfl)) dJ0_indexOf_7cf53_17 ⟨(Nat.le_of_ble_eq_true rfl), (Nat.le_of_ble_eq_true rfl)⟩).run (fun r_4 hw => ?_)
  have hw_5 := hw
  refine lv_goto (tgt := 36) hx hb dJ0_indexOf_7cf53_20 kc_t_20_16 ?_
  rw [hQ]
  exact W.iret (v := r_4) hx hb hr (fun t ht hW => ⟨r_4, rfl, hw_5, ht⟩) (fun _ h => nomatch h) dJ0_indexOf_7cf53_36

def w_s_t_ixx : List Cond := .code yJ0_indexOf_0f7a4 cJ0_indexOf_0f7a4 2 (some .int) :: ([.initialized RJ0, .selects RJ0 yJ0_indexOf_7cf53 yJ0_indexOf_7cf53, .instanceMethod yJ0_indexOf_7cf53, .methodLink RJ0 633 yJ0_indexOf_7cf53] ++ (w_s_t_ix2x))
theorem gw_s_t_ixx : (w_s_t_ixx).all goodWord = true := kGc rfl (kGa (by decide +kernel) gw_s_t_ix2x)
set_option maxHeartbeats 4000000 in
set_option maxRecDepth 100000 in
theorem s_t_ixx (l : Launch) (dC : Nat → ClassId) (dI : Nat → Nat → Nat) (q : Nat) (b : Nat) (n : Nat) (g : Nat → Int32) (hn : n ≤ 8) (A : Nat → Prop) (gn : ∀ k : Nat, ∃ v : Nat, v < 128 ∧ g k = nI v) (pc : Nat) (hpc : pc < 256) : Met l yJ0_indexOf_0f7a4 w_s_t_ixx ({ frames := 4, cells := 0, slots := 0, locals := 240 }) (kR dC dI [.ref q, .int (nI (pc))] [] [] (kSt q b n g A)) (vp_Si (fun r : Int32 => ((r = -1 ∧ kIx g n (nI pc) = n) ∨ ∃ j : Nat, j < n ∧ r = nI j ∧ kIx g n (nI pc) = j))) 0 0 (fun _ => False) := by
  refine Met.ofW (cc := cJ0_indexOf_0f7a4) (maxL := 2) (ret := (some .int)) (by decide) rfl ?_
  intro p e s m args below meth c s₁ B hml hv
  obtain ⟨rfl, hP, hK, hX⟩ := hv
  have hx := B.exec
  have hb := B.bytes
  have hr := B.returns
  have hts := atoms_spec (ws := w_s_t_ixx) B.pre
  have hown : s.vm.findClass RJ0 = some m.cls := findClass_of_methodNamed B.named
  have hlocks := B.notSynchronized
  have hS : va_S A s.heap s.heap [] := va_S.rf
  have hP : va_P (dC, dI) vwCl [] s.heap := hP
  have hl := lv_entry ([.ref q, .int (nI (pc))]) (n := 2) (Nat.le_of_ble_eq_true rfl)
  rw [lg_entry_eq]
  generalize (lg_sl ([.ref q, .int (nI (pc))]) ++ List.replicate (2 - (lg_sl ([.ref q, .int (nI (pc))])).length) Slot.unset).toArray = ls at hl ⊢
  have hl : lv_has ls 2 [(0, .ref q), (1, .int (nI (pc)))] := hl
  refine kQ (fun Q hQ => ?_)
  refine lv_aload_n hx hb dJ0_indexOf_0f7a4_0 rfl (lv_at hl 0 rfl) ?_
  refine lv_iload_n hx hb dJ0_indexOf_0f7a4_1 rfl (lv_at hl 1 rfl) ?_
  refine lv_iconst (v := 0) hx hb dJ0_indexOf_0f7a4_2 kc_i_0 ?_
  have hPc := hP.sb (ws2 := []) [] rfl
  have hKc := hK.sb (tys2 := []) [] rfl
  refine vp_callSi (va_runV (As := [.int (nI (pc)), .int 0]) (rest := []) ⟨hx, hb, hml, hown, hts⟩ (s_t_ix2x l dC dI q b n g hn A gn pc hpc) (cwV 2 hts (kG (List.forall_mem_cons.mpr ⟨(List.mem_cons_of_mem _ (List.mem_append_left _ (List.mem_of_getElem? (i := 3) rfl))), (List.forall_mem_cons.mpr ⟨(List.mem_cons_of_mem _ (List.mem_append_left _ (List.mem_of_getElem? (i := 2) rfl))), (List.forall_mem_cons.mpr ⟨(List.mem_cons_of_mem _ (List.mem_append_left _ (List.mem_of_getElem? (i := 1) rfl))), (List.forall_mem_cons.mpr ⟨(List.mem_cons_of_mem _ (List.mem_append_left _ (List.mem_of_getElem? (i := 0) rfl))), (fun _ h => absurd h List.not_mem_nil)⟩)⟩)⟩)⟩) (kGV _ _ _ _) (fun _ h => List.mem_cons_of_mem _ (List.mem_append_right _ h)) gw_s_t_ix2x) rfl rfl rfl ⟨rfl, hd_J0_indexOf_7cf53⟩ ⟨(Nat.le_of_ble_eq_true rfl), (Nat.le_of_ble_eq_true rfl)⟩) (kR_V kSt_blind (kSt_give hX hS) (kSt_recv hX hS) hPc hKc) rfl rfl hl.1 rfl (lv_room (Nat.le_of_ble_eq_true rfl)) dJ0_indexOf_0f7a4_3 ⟨(Nat.le_of_ble_eq_true rfl), (Nat.le_of_ble_eq_true rfl)⟩).run (fun r_1 hw => ?_)
  have hw_2 := hw
  rw [hQ]
  exact W.iret (v := r_1) hx hb hr (fun t ht hW => ⟨r_1, rfl, hw_2, ht⟩) (fun _ h => nomatch h) dJ0_indexOf_0f7a4_6

def w_s_number4x : List Cond := .code yX4_readNumber cX4_readNumber 3 (some .boolean) :: ([.fieldLink RX4 37 "NotEnded$Reader" "tape" "LNotEnded$Tape;", .fieldLink RX4 25 "NotEnded$Reader" "place" "I", .initialized RX8, .selects RX8 yX8_at yX8_at, .instanceMethod yX8_at, .methodLink RX4 117 yX8_at, .initialized RX4, .static yX4_isDigit, .methodLink RX4 111 yX4_isDigit, .selects RX4 yX4_write yX4_write, .instanceMethod yX4_write, .methodLink RX4 96 yX4_write] ++ (wsX40 ++ (w_s_at8x ++ (w_s_digit4x ++ (w_s_write4x)))))
theorem gw_s_number4x : (w_s_number4x).all goodWord = true := kGc rfl (kGa (by decide +kernel) (kGa gw_wsX40 (kGa gw_s_at8x (kGa gw_s_digit4x gw_s_write4x))))
set_option maxHeartbeats 4000000 in
set_option maxRecDepth 100000 in
theorem s_number4x (l : Launch) (dC : Nat → ClassId) (dI : Nat → Nat → Nat) (jT : Nat) (t0 : Nat) (cC : ClassId) (gT : Nat → Int32) (kt : Nat) (hkt : kt ≤ 120) (hgT : ∀ j : Nat, narrow .char (.int (gT j)) = .int (gT j)) (bt : Nat → Nat) (hbt : ∀ j : Nat, gT j = nI (bt j)) (hb8 : ∀ j : Nat, bt j < 256) (jR : Nat) (r1 : Nat) (r2 : Nat) (c1 : ClassId) (c2 : ClassId) (s1 : Nat → Int32) (s2 : Nat → Int32) (wr : Nat) (fi : Nat) (q6 : Nat) (q7 : Nat) (hwr : wr ≤ 120) (hfi : fi ≤ 124) (pn : Nat) (hpn : pn ≤ kt) (hwp : wr ≤ pn) (hd9 : 48 ≤ kAt bt kt pn ∧ kAt bt kt pn ≤ 57) (sz : Nat) : Met l yX4_readNumber w_s_number4x ({ frames := 3, cells := 0, slots := 0, locals := 180 }) (kW dC dI [.ref jR] [(jR, .inr (4, [.ref jT, .ref r1, .ref r2, .int (nI (wr)), .int (nI (fi)), .int (nI (pn)), .ref q6, .ref q7])), (r1, .inl (c1, 120, .inl s1)), (r2, .inl (c2, 124, .inl s2)), (jT, .inr (8, [.ref t0, .int (nI (kt))])), (t0, .inl (cC, 120, .inl gT))] [(c1, .int), (c2, .int), (cC, .char)] kT sz) (va_Qi (fun (r : Int32) (u : (Nat → Int32) × Nat × Nat × Bool × (List Int32)) => match u with | (S1, Wr, Pn, xo, xl) => (r = kBo xo ∧ kPR (kNum bt kt pn) pn kt wr s1 xo Pn xl Wr S1 ∧ Wr ≤ 120)) (fun (u : (Nat → Int32) × Nat × Nat × Bool × (List Int32)) => match u with | (S1, Wr, Pn, xo, xl) => fun t : State => kB dC dI [(jR, .inr (4, [.ref jT, .ref r1, .ref r2, .int (nI (Wr)), .int (nI (fi)), .int (nI (Pn)), .ref q6, .ref q7])), (r1, .inl (c1, 120, .inl S1)), (r2, .inl (c2, 124, .inl s2)), (jT, .inr (8, [.ref t0, .int (nI (kt))])), (t0, .inl (cC, 120, .inl gT))] [(c1, .int), (c2, .int), (cC, .char)] (va_A [(jR, .inr (4, [.ref jT, .ref r1, .ref r2, .int (nI (wr)), .int (nI (fi)), .int (nI (pn)), .ref q6, .ref q7])), (r1, .inl (c1, 120, .inl s1)), (r2, .inl (c2, 124, .inl s2)), (jT, .inr (8, [.ref t0, .int (nI (kt))])), (t0, .inl (cC, 120, .inl gT))] sz) t) (va_A [(jR, .inr (4, [.ref jT, .ref r1, .ref r2, .int (nI (wr)), .int (nI (fi)), .int (nI (pn)), .ref q6, .ref q7])), (r1, .inl (c1, 120, .inl s1)), (r2, .inl (c2, 124, .inl s2)), (jT, .inr (8, [.ref t0, .int (nI (kt))])), (t0, .inl (cC, 120, .inl gT))] sz)) 0 0 (va_A [(jR, .inr (4, [.ref jT, .ref r1, .ref r2, .int (nI (wr)), .int (nI (fi)), .int (nI (pn)), .ref q6, .ref q7])), (r1, .inl (c1, 120, .inl s1)), (r2, .inl (c2, 124, .inl s2)), (jT, .inr (8, [.ref t0, .int (nI (kt))])), (t0, .inl (cC, 120, .inl gT))] sz) := by
  refine Met.ofW (cc := cX4_readNumber) (maxL := 3) (ret := (some .boolean)) (by decide) rfl ?_
  intro p e s m args below meth c s₁ B hml hv
  obtain ⟨rfl, hsz, hP, hK, hD0, hX⟩ := hv
  have hx := B.exec
  have hb := B.bytes
  have hr := B.returns
  have hts := atoms_spec (ws := w_s_number4x) B.pre
  have hown : s.vm.findClass RX4 = some m.cls := findClass_of_methodNamed B.named
  have hlocks := B.notSynchronized
  subst hsz
  have hD := hD0.self (sz := s.heap.size)
  generalize hAe : va_A [(jR, .inr (4, [.ref jT, .ref r1, .ref r2, .int (nI (wr)), .int (nI (fi)), .int (nI (pn)), .ref q6, .ref q7])), (r1, .inl (c1, 120, .inl s1)), (r2, .inl (c2, 124, .inl s2)), (jT, .inr (8, [.ref t0, .int (nI (kt))])), (t0, .inl (cC, 120, .inl gT))] s.heap.size = A at hD ⊢
  have hA : ∀ q : Nat, s.heap.size ≤ q → A q := fun q h => by rw [← hAe]; exact Or.inr h
  have hS : va_S A s.heap s.heap [] := va_S.rf
  have hP : va_P (dC, dI) vwCl [(jR, .inr (4, [.ref jT, .ref r1, .ref r2, .int (nI (wr)), .int (nI (fi)), .int (nI (pn)), .ref q6, .ref q7])), (r1, .inl (c1, 120, .inl s1)), (r2, .inl (c2, 124, .inl s2)), (jT, .inr (8, [.ref t0, .int (nI (kt))])), (t0, .inl (cC, 120, .inl gT))] s.heap := hP
  have hl := lv_entry ([.ref jR]) (n := 3) (Nat.le_of_ble_eq_true rfl)
  rw [lg_entry_eq]
  generalize (lg_sl ([.ref jR]) ++ List.replicate (3 - (lg_sl ([.ref jR])).length) Slot.unset).toArray = ls at hl ⊢
  have hl : lv_has ls 3 [(0, .ref jR)] := hl
  refine kQ (fun Q hQ => ?_)
  refine lv_iconst (v := 0) hx hb dX4_readNumber_0 kc_i_0 ?_
  refine lv_istore_n hx hb dX4_readNumber_1 rfl hl kc_l_1_3 (kTo [(1, .int 0), (0, .ref jR)]) (fun ls hl => ?_)
  refine lv_iconst (v := 0) hx hb dX4_readNumber_2 kc_i_0 ?_
  refine lv_istore_n hx hb dX4_readNumber_3 rfl hl kc_l_2_3 (kTo [(2, .int 0), (1, .int 0), (0, .ref jR)]) (fun ls hl => ?_)
  have lp_k_1 : ∀ (n9 : Nat) (i : Nat) (xpn : Nat) (xv : Nat) (ivk_1_0 : i ≤ 4) (ivk_1_1 : xpn ≤ kt) (ivk_1_2 : kNumL bt kt (4 - i) xpn xv = kNumL bt kt 4 pn 0) (ivk_1_3 : xpn = pn + i) (H : Heap) (locs : List Loc) (_ : va_P (dC, dI) vwCl [(jR, .inr (4, [.ref jT, .ref r1, .ref r2, .int (nI (wr)), .int (nI (fi)), .int (nI (xpn)), .ref q6, .ref q7])), (r1, .inl (c1, 120, .inl s1)), (r2, .inl (c2, 124, .inl s2)), (jT, .inr (8, [.ref t0, .int (nI (kt))])), (t0, .inl (cC, 120, .inl gT))] H) (_ : va_D A [(jR, .inr (4, [.ref jT, .ref r1, .ref r2, .int (nI (wr)), .int (nI (fi)), .int (nI (xpn)), .ref q6, .ref q7])), (r1, .inl (c1, 120, .inl s1)), (r2, .inl (c2, 124, .inl s2)), (jT, .inr (8, [.ref t0, .int (nI (kt))])), (t0, .inl (cC, 120, .inl gT))]) (_ : va_S A s.heap H locs) (ls : Array Slot) (_ : lv_has ls 3 [(2, .int (nI (i))), (1, .int (nI (xv))), (0, .ref jR)]) (_ : 4 - i < n9), W p l e (headSpec w_s_number4x ({ frames := 3, cells := 0, slots := 0, locals := 180 })).room s m (#[.ref jR] : Array Value) below meth c H locs 0 0 Q (F0 m 4 ls []) := by
    intro n9
    induction n9 with
    | zero => intro i xpn xv ivk_1_0 ivk_1_1 ivk_1_2 ivk_1_3 H locs hP hD hS ls hl hm9; exact absurd hm9 (Nat.not_lt_zero _)
    | succ n9 ih_k_1 =>
      intro i xpn xv ivk_1_0 ivk_1_1 ivk_1_2 ivk_1_3 H locs hP hD hS ls hl hm9
      refine lv_iload_n hx hb dX4_readNumber_4 rfl (lv_at hl 0 rfl) ?_
      refine lv_iconst (v := 4) hx hb dX4_readNumber_5 kc_i_4 ?_
      refine lv_icmp_ge (tgt := 62) hx hb dX4_readNumber_6 kc_t_6_56 (fun c_2 => ?_) (fun c_2 => ?_)
      · have bd_4 : i < 2147483648 := by omega
        have hn_3 := kle (a := 4) (b := i) kc_31_4 bd_4 c_2
        refine lv_aload_n hx hb dX4_readNumber_62 rfl (lv_at hl 2 rfl) ?_
        refine va_get (D := (dC, dI)) (ci := 4) (v := .ref jT) (C := RX4) (T := TX4) (N := 8) hx hb hts (fun _ h => List.mem_cons_of_mem _ (List.mem_append_right _ (List.mem_append_left _ h))) hown hK hP 0 rfl rfl 0 kc_l_0_8 (hts (.fieldLink RX4 37 "NotEnded$Reader" "tape" "LNotEnded$Tape;") (List.mem_cons_of_mem _ (List.mem_append_left _ (List.mem_of_getElem? (i := 0) rfl)))) (fun _ h9 => h9) rfl dX4_readNumber_63 ?_
        refine lv_aload_n hx hb dX4_readNumber_66 rfl (lv_at hl 2 rfl) ?_
        refine va_get (D := (dC, dI)) (ci := 4) (v := .int (nI (xpn))) (C := RX4) (T := TX4) (N := 8) hx hb hts (fun _ h => List.mem_cons_of_mem _ (List.mem_append_right _ (List.mem_append_left _ h))) hown hK hP 0 rfl rfl 5 kc_l_5_8 (hts (.fieldLink RX4 25 "NotEnded$Reader" "place" "I") (List.mem_cons_of_mem _ (List.mem_append_left _ (List.mem_of_getElem? (i := 1) rfl)))) (fun _ h9 => h9) rfl dX4_readNumber_67 ?_
        have bd_5 : xpn ≤ 120 := by omega
        have hPc := hP.sb (ws2 := [(jT, .inr (8, [.ref t0, .int (nI (kt))])), (t0, .inl (cC, 120, .inl gT))]) [3, 4] rfl
        have hKc := hK.sb (tys2 := [(cC, .char)]) [2] rfl
        refine vp_callSi (va_runV (As := [.int (nI (xpn))]) (rest := []) ⟨hx, hb, hml, hown, hts⟩ (s_at8x l dC dI jT t0 cC gT kt hkt hgT bt hbt hb8 xpn bd_5) (cwV 1 hts (kG (List.forall_mem_cons.mpr ⟨(List.mem_cons_of_mem _ (List.mem_append_left _ (List.mem_of_getElem? (i := 5) rfl))), (List.forall_mem_cons.mpr ⟨(List.mem_cons_of_mem _ (List.mem_append_left _ (List.mem_of_getElem? (i := 4) rfl))), (List.forall_mem_cons.mpr ⟨(List.mem_cons_of_mem _ (List.mem_append_left _ (List.mem_of_getElem? (i := 3) rfl))), (List.forall_mem_cons.mpr ⟨(List.mem_cons_of_mem _ (List.mem_append_left _ (List.mem_of_getElem? (i := 2) rfl))), (fun _ h => absurd h List.not_mem_nil)⟩)⟩)⟩)⟩) (kGV _ _ _ _) (fun _ h => List.mem_cons_of_mem _ (List.mem_append_right _ (List.mem_append_right _ (List.mem_append_left _ h)))) gw_s_at8x) rfl rfl rfl ⟨rfl, hd_X8_at⟩ ⟨(Nat.le_of_ble_eq_true rfl), (Nat.le_of_ble_eq_true rfl)⟩) (kR_V kT_blind kT_give (va_recv hKc hPc (ci := 8) (q0 := 0) rfl rfl) hPc hKc) rfl rfl hl.1 rfl (lv_room (Nat.le_of_ble_eq_true rfl)) dX4_readNumber_70 ⟨(Nat.le_of_ble_eq_true rfl), (Nat.le_of_ble_eq_true rfl)⟩).run (fun r_6 hw => ?_)
        obtain rfl : r_6 = nI (kAt bt kt (xpn)) := hw
        have hk_7 := kAt_b hb8 kt xpn
        have bd_8 : (kAt bt kt (xpn)) < 256 := by omega
        have hPc := hP.sb (ws2 := []) [] rfl
        have hKc := hK.sb (tys2 := []) [] rfl
        refine vp_callSi (va_runS (As := [.int (nI (kAt bt kt (xpn)))]) (rest := []) ⟨hx, hb, hml, hown, hts⟩ (s_digit4x l dC dI (kAt bt kt (xpn)) bd_8) (va_cwS 1 hts (kG (List.forall_mem_cons.mpr ⟨(List.mem_cons_of_mem _ (List.mem_append_left _ (List.mem_of_getElem? (i := 8) rfl))), (List.forall_mem_cons.mpr ⟨(List.mem_cons_of_mem _ (List.mem_append_left _ (List.mem_of_getElem? (i := 7) rfl))), (List.forall_mem_cons.mpr ⟨(List.mem_cons_of_mem _ (List.mem_append_left _ (List.mem_of_getElem? (i := 6) rfl))), (fun _ h => absurd h List.not_mem_nil)⟩)⟩)⟩) (kGS _ _ _) (fun _ h => List.mem_cons_of_mem _ (List.mem_append_right _ (List.mem_append_right _ (List.mem_append_right _ (List.mem_append_left _ h))))) gw_s_digit4x) rfl rfl rfl hd_X4_isDigit ⟨(Nat.le_of_ble_eq_true rfl), (Nat.le_of_ble_eq_true rfl)⟩) (kR_S kT_blind kT_give hPc hKc) rfl rfl hl.1 rfl (lv_room (Nat.le_of_ble_eq_true rfl)) dX4_readNumber_73 ⟨(Nat.le_of_ble_eq_true rfl), (Nat.le_of_ble_eq_true rfl)⟩).run (fun r_9 hw => ?_)
        have hw_10 := hw
        refine lv_if_ne (tgt := 91) hx hb dX4_readNumber_76 kc_t_76_15 (fun c_11 => ?_) (fun c_11 => ?_)
        · have hdg_12 := hw_10.mp c_11
          refine lv_iconst (v := 0) hx hb dX4_readNumber_91 kc_i_0 ?_
          have hP9 := hP
          have hD9 := hD
          have hK9 := hK
          rw [hQ]
          exact W.zret (v := 0) hx hb hr rfl (fun t ht hW => ⟨⟨0, (s1, wr, xpn, false, ([])), rfl, ⟨rfl, kPR_f (kNum_f (by rw [← ivk_1_2]; first | (rw [show 4 - i = 0 by omega]; rfl) | exact kNumL_n (by assumption)) (by assumption)) (by omega), by omega⟩,  by rw [ht]; exact hP9, va_K.moved hW.alike hK9, hD9⟩, hS.F ht⟩) hS.2.2 dX4_readNumber_92
        · have hdg_13 : ¬ (48 ≤ (kAt bt kt (xpn)) ∧ (kAt bt kt (xpn)) ≤ 57) := fun z9 => hw_10.mpr z9 c_11
          have hlt9 : pn < xpn := by by_cases z : i = 0 <;> first | omega | (exfalso; have e9 : pn = xpn := (by omega); subst e9; exact absurd hd9 (by assumption))
          refine lv_aload_n hx hb dX4_readNumber_79 rfl (lv_at hl 2 rfl) ?_
          refine lv_iload_n hx hb dX4_readNumber_80 rfl (lv_at hl 1 rfl) ?_
          have bd_14 : xpn ≤ kt := by omega
          have bd_15 : wr < 120 := by omega
          have hCu := kCut (wc := [(jR, .inr (4, [.ref jT, .ref r1, .ref r2, .int (nI (wr)), .int (nI (fi)), .int (nI (xpn)), .ref q6, .ref q7])), (r1, .inl (c1, 120, .inl s1)), (r2, .inl (c2, 124, .inl s2)), (jT, .inr (8, [.ref t0, .int (nI (kt))])), (t0, .inl (cC, 120, .inl gT))]) hP hD hS hA [0, 1, 2, 3, 4] rfl kc_nd_311 rfl
          have hPc := hCu.1
          have hDc := hCu.2.1
          have hFc := hCu.2.2
          have hKc := hK.sb (tys2 := [(c1, .int), (c2, .int), (cC, .char)]) [0, 1, 2] rfl
          refine va_calli (va_runV (As := [.int (nI (xv))]) (rest := []) ⟨hx, hb, hml, hown, hts⟩ (s_write4x l dC dI jT t0 cC gT kt hkt hgT bt hbt hb8 jR r1 r2 c1 c2 s1 s2 wr fi q6 q7 hwr hfi xpn bd_14 (nI (xv)) bd_15 H.size) (cwV 1 hts (kG (List.forall_mem_cons.mpr ⟨(List.mem_cons_of_mem _ (List.mem_append_left _ (List.mem_of_getElem? (i := 11) rfl))), (List.forall_mem_cons.mpr ⟨(List.mem_cons_of_mem _ (List.mem_append_left _ (List.mem_of_getElem? (i := 10) rfl))), (List.forall_mem_cons.mpr ⟨(List.mem_cons_of_mem _ (List.mem_append_left _ (List.mem_of_getElem? (i := 9) rfl))), (List.forall_mem_cons.mpr ⟨(List.mem_cons_of_mem _ (List.mem_append_left _ (List.mem_of_getElem? (i := 6) rfl))), (fun _ h => absurd h List.not_mem_nil)⟩)⟩)⟩)⟩) (kGV _ _ _ _) (fun _ h => List.mem_cons_of_mem _ (List.mem_append_right _ (List.mem_append_right _ (List.mem_append_right _ (List.mem_append_right _ h))))) gw_s_write4x) rfl rfl rfl ⟨rfl, hd_X4_write⟩ ⟨(Nat.le_of_ble_eq_true rfl), (Nat.le_of_ble_eq_true rfl)⟩) (kW_V kT_blind kT_give (va_recv hKc hPc (ci := 4) (q0 := 0) rfl rfl) hPc hKc hDc) rfl rfl hl.1 rfl (lv_room (Nat.le_of_ble_eq_true rfl)) dX4_readNumber_81 ⟨(Nat.le_of_ble_eq_true rfl), (Nat.le_of_ble_eq_true rfl)⟩) hS (fun q _ h => hFc q h) hFc (fun r_16 => kU2 (fun S1_17 Wr_18 t H_19 locs ht hvm hw hB hz1 hk1 hS => ?_))
          try dsimp only at hw
          have hPD : kPD dC dI A [(jR, .inr (4, [.ref jT, .ref r1, .ref r2, .int (nI (Wr_18)), .int (nI (fi)), .int (nI (xpn)), .ref q6, .ref q7])), (r1, .inl (c1, 120, .inl S1_17)), (r2, .inl (c2, 124, .inl s2)), (jT, .inr (8, [.ref t0, .int (nI (kt))])), (t0, .inl (cC, 120, .inl gT))] H_19 := kJoinX hP hD [0, 1, 2, 3, 4] rfl hk1 hFc hB.1 ht hB.2.2 rfl [some 0, some 1, some 2, some 3, some 4] rfl rfl
          have hP := hPD.1
          have hD := hPD.2
          obtain ⟨rfl, hw_20⟩ := hw
          refine lv_if_eq (tgt := 91) hx hb dX4_readNumber_84 kc_t_84_7 (fun c_21 => absurd c_21 (by decide)) (fun c_21 => ?_)
          refine lv_iconst (v := 1) hx hb dX4_readNumber_87 kc_i_1 ?_
          refine lv_goto (tgt := 92) hx hb dX4_readNumber_88 kc_t_88_4 ?_
          have hP9 := hP
          have hD9 := hD
          have hK9 := hK
          rw [hQ]
          exact W.zret (v := 1) hx hb hr rfl (fun t ht hW => ⟨⟨1, (S1_17, Wr_18, xpn, true, ([nI (xv)])), rfl, ⟨rfl, ⟨kNum_t (by rw [← ivk_1_2]; first | (rw [show 4 - i = 0 by omega]; rfl) | exact kNumL_n (by assumption)) (by assumption), by omega, fun _ => ⟨by rw [hw_20.1]; rfl, by rw [hw_20.2]; rfl, by show pn + 1 ≤ _; omega, by omega⟩⟩, by omega⟩,  by rw [ht]; exact hP9, va_K.moved hW.alike hK9, hD9⟩, hS.F ht⟩) hS.2.2 dX4_readNumber_92
      · have bd_23 : i < 2147483648 := by omega
        have hn_22 := knle (a := 4) (b := i) kc_31_4 bd_23 c_2
        refine lv_aload_n hx hb dX4_readNumber_9 rfl (lv_at hl 2 rfl) ?_
        refine va_get (D := (dC, dI)) (ci := 4) (v := .ref jT) (C := RX4) (T := TX4) (N := 8) hx hb hts (fun _ h => List.mem_cons_of_mem _ (List.mem_append_right _ (List.mem_append_left _ h))) hown hK hP 0 rfl rfl 0 kc_l_0_8 (hts (.fieldLink RX4 37 "NotEnded$Reader" "tape" "LNotEnded$Tape;") (List.mem_cons_of_mem _ (List.mem_append_left _ (List.mem_of_getElem? (i := 0) rfl)))) (fun _ h9 => h9) rfl dX4_readNumber_10 ?_
        refine lv_aload_n hx hb dX4_readNumber_13 rfl (lv_at hl 2 rfl) ?_
        refine va_get (D := (dC, dI)) (ci := 4) (v := .int (nI (xpn))) (C := RX4) (T := TX4) (N := 8) hx hb hts (fun _ h => List.mem_cons_of_mem _ (List.mem_append_right _ (List.mem_append_left _ h))) hown hK hP 0 rfl rfl 5 kc_l_5_8 (hts (.fieldLink RX4 25 "NotEnded$Reader" "place" "I") (List.mem_cons_of_mem _ (List.mem_append_left _ (List.mem_of_getElem? (i := 1) rfl)))) (fun _ h9 => h9) rfl dX4_readNumber_14 ?_
        have bd_24 : xpn ≤ 120 := by omega
        have hPc := hP.sb (ws2 := [(jT, .inr (8, [.ref t0, .int (nI (kt))])), (t0, .inl (cC, 120, .inl gT))]) [3, 4] rfl
        have hKc := hK.sb (tys2 := [(cC, .char)]) [2] rfl
        refine vp_callSi (va_runV (As := [.int (nI (xpn))]) (rest := []) ⟨hx, hb, hml, hown, hts⟩ (s_at8x l dC dI jT t0 cC gT kt hkt hgT bt hbt hb8 xpn bd_24) (cwV 1 hts (kG (List.forall_mem_cons.mpr ⟨(List.mem_cons_of_mem _ (List.mem_append_left _ (List.mem_of_getElem? (i := 5) rfl))), (List.forall_mem_cons.mpr ⟨(List.mem_cons_of_mem _ (List.mem_append_left _ (List.mem_of_getElem? (i := 4) rfl))), (List.forall_mem_cons.mpr ⟨(List.mem_cons_of_mem _ (List.mem_append_left _ (List.mem_of_getElem? (i := 3) rfl))), (List.forall_mem_cons.mpr ⟨(List.mem_cons_of_mem _ (List.mem_append_left _ (List.mem_of_getElem? (i := 2) rfl))), (fun _ h => absurd h List.not_mem_nil)⟩)⟩)⟩)⟩) (kGV _ _ _ _) (fun _ h => List.mem_cons_of_mem _ (List.mem_append_right _ (List.mem_append_right _ (List.mem_append_left _ h)))) gw_s_at8x) rfl rfl rfl ⟨rfl, hd_X8_at⟩ ⟨(Nat.le_of_ble_eq_true rfl), (Nat.le_of_ble_eq_true rfl)⟩) (kR_V kT_blind kT_give (va_recv hKc hPc (ci := 8) (q0 := 0) rfl rfl) hPc hKc) rfl rfl hl.1 rfl (lv_room (Nat.le_of_ble_eq_true rfl)) dX4_readNumber_17 ⟨(Nat.le_of_ble_eq_true rfl), (Nat.le_of_ble_eq_true rfl)⟩).run (fun r_25 hw => ?_)
        obtain rfl : r_25 = nI (kAt bt kt (xpn)) := hw
        have hk_26 := kAt_b hb8 kt xpn
        have bd_27 : (kAt bt kt (xpn)) < 256 := by omega
        have hPc := hP.sb (ws2 := []) [] rfl
        have hKc := hK.sb (tys2 := []) [] rfl
        refine vp_callSi (va_runS (As := [.int (nI (kAt bt kt (xpn)))]) (rest := []) ⟨hx, hb, hml, hown, hts⟩ (s_digit4x l dC dI (kAt bt kt (xpn)) bd_27) (va_cwS 1 hts (kG (List.forall_mem_cons.mpr ⟨(List.mem_cons_of_mem _ (List.mem_append_left _ (List.mem_of_getElem? (i := 8) rfl))), (List.forall_mem_cons.mpr ⟨(List.mem_cons_of_mem _ (List.mem_append_left _ (List.mem_of_getElem? (i := 7) rfl))), (List.forall_mem_cons.mpr ⟨(List.mem_cons_of_mem _ (List.mem_append_left _ (List.mem_of_getElem? (i := 6) rfl))), (fun _ h => absurd h List.not_mem_nil)⟩)⟩)⟩) (kGS _ _ _) (fun _ h => List.mem_cons_of_mem _ (List.mem_append_right _ (List.mem_append_right _ (List.mem_append_right _ (List.mem_append_left _ h))))) gw_s_digit4x) rfl rfl rfl hd_X4_isDigit ⟨(Nat.le_of_ble_eq_true rfl), (Nat.le_of_ble_eq_true rfl)⟩) (kR_S kT_blind kT_give hPc hKc) rfl rfl hl.1 rfl (lv_room (Nat.le_of_ble_eq_true rfl)) dX4_readNumber_20 ⟨(Nat.le_of_ble_eq_true rfl), (Nat.le_of_ble_eq_true rfl)⟩).run (fun r_28 hw => ?_)
        have hw_29 := hw
        refine lv_if_eq (tgt := 62) hx hb dX4_readNumber_23 kc_t_23_39 (fun c_30 => ?_) (fun c_30 => ?_)
        · have hdg_31 : ¬ (48 ≤ (kAt bt kt (xpn)) ∧ (kAt bt kt (xpn)) ≤ 57) := fun z9 => hw_29.mpr z9 c_30
          refine lv_aload_n hx hb dX4_readNumber_62 rfl (lv_at hl 2 rfl) ?_
          refine va_get (D := (dC, dI)) (ci := 4) (v := .ref jT) (C := RX4) (T := TX4) (N := 8) hx hb hts (fun _ h => List.mem_cons_of_mem _ (List.mem_append_right _ (List.mem_append_left _ h))) hown hK hP 0 rfl rfl 0 kc_l_0_8 (hts (.fieldLink RX4 37 "NotEnded$Reader" "tape" "LNotEnded$Tape;") (List.mem_cons_of_mem _ (List.mem_append_left _ (List.mem_of_getElem? (i := 0) rfl)))) (fun _ h9 => h9) rfl dX4_readNumber_63 ?_
          refine lv_aload_n hx hb dX4_readNumber_66 rfl (lv_at hl 2 rfl) ?_
          refine va_get (D := (dC, dI)) (ci := 4) (v := .int (nI (xpn))) (C := RX4) (T := TX4) (N := 8) hx hb hts (fun _ h => List.mem_cons_of_mem _ (List.mem_append_right _ (List.mem_append_left _ h))) hown hK hP 0 rfl rfl 5 kc_l_5_8 (hts (.fieldLink RX4 25 "NotEnded$Reader" "place" "I") (List.mem_cons_of_mem _ (List.mem_append_left _ (List.mem_of_getElem? (i := 1) rfl)))) (fun _ h9 => h9) rfl dX4_readNumber_67 ?_
          have hPc := hP.sb (ws2 := [(jT, .inr (8, [.ref t0, .int (nI (kt))])), (t0, .inl (cC, 120, .inl gT))]) [3, 4] rfl
          have hKc := hK.sb (tys2 := [(cC, .char)]) [2] rfl
          refine vp_callSi (va_runV (As := [.int (nI (xpn))]) (rest := []) ⟨hx, hb, hml, hown, hts⟩ (s_at8x l dC dI jT t0 cC gT kt hkt hgT bt hbt hb8 xpn bd_24) (cwV 1 hts (kG (List.forall_mem_cons.mpr ⟨(List.mem_cons_of_mem _ (List.mem_append_left _ (List.mem_of_getElem? (i := 5) rfl))), (List.forall_mem_cons.mpr ⟨(List.mem_cons_of_mem _ (List.mem_append_left _ (List.mem_of_getElem? (i := 4) rfl))), (List.forall_mem_cons.mpr ⟨(List.mem_cons_of_mem _ (List.mem_append_left _ (List.mem_of_getElem? (i := 3) rfl))), (List.forall_mem_cons.mpr ⟨(List.mem_cons_of_mem _ (List.mem_append_left _ (List.mem_of_getElem? (i := 2) rfl))), (fun _ h => absurd h List.not_mem_nil)⟩)⟩)⟩)⟩) (kGV _ _ _ _) (fun _ h => List.mem_cons_of_mem _ (List.mem_append_right _ (List.mem_append_right _ (List.mem_append_left _ h)))) gw_s_at8x) rfl rfl rfl ⟨rfl, hd_X8_at⟩ ⟨(Nat.le_of_ble_eq_true rfl), (Nat.le_of_ble_eq_true rfl)⟩) (kR_V kT_blind kT_give (va_recv hKc hPc (ci := 8) (q0 := 0) rfl rfl) hPc hKc) rfl rfl hl.1 rfl (lv_room (Nat.le_of_ble_eq_true rfl)) dX4_readNumber_70 ⟨(Nat.le_of_ble_eq_true rfl), (Nat.le_of_ble_eq_true rfl)⟩).run (fun r_32 hw => ?_)
          obtain rfl : r_32 = nI (kAt bt kt (xpn)) := hw
          have hk_33 := kAt_b hb8 kt xpn
          have hPc := hP.sb (ws2 := []) [] rfl
          have hKc := hK.sb (tys2 := []) [] rfl
          refine vp_callSi (va_runS (As := [.int (nI (kAt bt kt (xpn)))]) (rest := []) ⟨hx, hb, hml, hown, hts⟩ (s_digit4x l dC dI (kAt bt kt (xpn)) bd_27) (va_cwS 1 hts (kG (List.forall_mem_cons.mpr ⟨(List.mem_cons_of_mem _ (List.mem_append_left _ (List.mem_of_getElem? (i := 8) rfl))), (List.forall_mem_cons.mpr ⟨(List.mem_cons_of_mem _ (List.mem_append_left _ (List.mem_of_getElem? (i := 7) rfl))), (List.forall_mem_cons.mpr ⟨(List.mem_cons_of_mem _ (List.mem_append_left _ (List.mem_of_getElem? (i := 6) rfl))), (fun _ h => absurd h List.not_mem_nil)⟩)⟩)⟩) (kGS _ _ _) (fun _ h => List.mem_cons_of_mem _ (List.mem_append_right _ (List.mem_append_right _ (List.mem_append_right _ (List.mem_append_left _ h))))) gw_s_digit4x) rfl rfl rfl hd_X4_isDigit ⟨(Nat.le_of_ble_eq_true rfl), (Nat.le_of_ble_eq_true rfl)⟩) (kR_S kT_blind kT_give hPc hKc) rfl rfl hl.1 rfl (lv_room (Nat.le_of_ble_eq_true rfl)) dX4_readNumber_73 ⟨(Nat.le_of_ble_eq_true rfl), (Nat.le_of_ble_eq_true rfl)⟩).run (fun r_34 hw => ?_)
          have hw_35 := hw
          refine lv_if_ne (tgt := 91) hx hb dX4_readNumber_76 kc_t_76_15 (fun c_36 => ?_) (fun c_36 => ?_)
          · have hdg_37 := hw_35.mp c_36
            refine lv_iconst (v := 0) hx hb dX4_readNumber_91 kc_i_0 ?_
            have hP9 := hP
            have hD9 := hD
            have hK9 := hK
            rw [hQ]
            exact W.zret (v := 0) hx hb hr rfl (fun t ht hW => ⟨⟨0, (s1, wr, xpn, false, ([])), rfl, ⟨rfl, kPR_f (kNum_f (by rw [← ivk_1_2]; first | (rw [show 4 - i = 0 by omega]; rfl) | exact kNumL_n (by assumption)) (by assumption)) (by omega), by omega⟩,  by rw [ht]; exact hP9, va_K.moved hW.alike hK9, hD9⟩, hS.F ht⟩) hS.2.2 dX4_readNumber_92
          · have hdg_38 : ¬ (48 ≤ (kAt bt kt (xpn)) ∧ (kAt bt kt (xpn)) ≤ 57) := fun z9 => hw_35.mpr z9 c_36
            have hlt9 : pn < xpn := by by_cases z : i = 0 <;> first | omega | (exfalso; have e9 : pn = xpn := (by omega); subst e9; exact absurd hd9 (by assumption))
            refine lv_aload_n hx hb dX4_readNumber_79 rfl (lv_at hl 2 rfl) ?_
            refine lv_iload_n hx hb dX4_readNumber_80 rfl (lv_at hl 1 rfl) ?_
            have bd_39 : xpn ≤ kt := by omega
            have bd_40 : wr < 120 := by omega
            have hCu := kCut (wc := [(jR, .inr (4, [.ref jT, .ref r1, .ref r2, .int (nI (wr)), .int (nI (fi)), .int (nI (xpn)), .ref q6, .ref q7])), (r1, .inl (c1, 120, .inl s1)), (r2, .inl (c2, 124, .inl s2)), (jT, .inr (8, [.ref t0, .int (nI (kt))])), (t0, .inl (cC, 120, .inl gT))]) hP hD hS hA [0, 1, 2, 3, 4] rfl kc_nd_311 rfl
            have hPc := hCu.1
            have hDc := hCu.2.1
            have hFc := hCu.2.2
            have hKc := hK.sb (tys2 := [(c1, .int), (c2, .int), (cC, .char)]) [0, 1, 2] rfl
            refine va_calli (va_runV (As := [.int (nI (xv))]) (rest := []) ⟨hx, hb, hml, hown, hts⟩ (s_write4x l dC dI jT t0 cC gT kt hkt hgT bt hbt hb8 jR r1 r2 c1 c2 s1 s2 wr fi q6 q7 hwr hfi xpn bd_39 (nI (xv)) bd_40 H.size) (cwV 1 hts (kG (List.forall_mem_cons.mpr ⟨(List.mem_cons_of_mem _ (List.mem_append_left _ (List.mem_of_getElem? (i := 11) rfl))), (List.forall_mem_cons.mpr ⟨(List.mem_cons_of_mem _ (List.mem_append_left _ (List.mem_of_getElem? (i := 10) rfl))), (List.forall_mem_cons.mpr ⟨(List.mem_cons_of_mem _ (List.mem_append_left _ (List.mem_of_getElem? (i := 9) rfl))), (List.forall_mem_cons.mpr ⟨(List.mem_cons_of_mem _ (List.mem_append_left _ (List.mem_of_getElem? (i := 6) rfl))), (fun _ h => absurd h List.not_mem_nil)⟩)⟩)⟩)⟩) (kGV _ _ _ _) (fun _ h => List.mem_cons_of_mem _ (List.mem_append_right _ (List.mem_append_right _ (List.mem_append_right _ (List.mem_append_right _ h))))) gw_s_write4x) rfl rfl rfl ⟨rfl, hd_X4_write⟩ ⟨(Nat.le_of_ble_eq_true rfl), (Nat.le_of_ble_eq_true rfl)⟩) (kW_V kT_blind kT_give (va_recv hKc hPc (ci := 4) (q0 := 0) rfl rfl) hPc hKc hDc) rfl rfl hl.1 rfl (lv_room (Nat.le_of_ble_eq_true rfl)) dX4_readNumber_81 ⟨(Nat.le_of_ble_eq_true rfl), (Nat.le_of_ble_eq_true rfl)⟩) hS (fun q _ h => hFc q h) hFc (fun r_41 => kU2 (fun S1_42 Wr_43 t H_44 locs ht hvm hw hB hz1 hk1 hS => ?_))
            try dsimp only at hw
            have hPD : kPD dC dI A [(jR, .inr (4, [.ref jT, .ref r1, .ref r2, .int (nI (Wr_43)), .int (nI (fi)), .int (nI (xpn)), .ref q6, .ref q7])), (r1, .inl (c1, 120, .inl S1_42)), (r2, .inl (c2, 124, .inl s2)), (jT, .inr (8, [.ref t0, .int (nI (kt))])), (t0, .inl (cC, 120, .inl gT))] H_44 := kJoinX hP hD [0, 1, 2, 3, 4] rfl hk1 hFc hB.1 ht hB.2.2 rfl [some 0, some 1, some 2, some 3, some 4] rfl rfl
            have hP := hPD.1
            have hD := hPD.2
            obtain ⟨rfl, hw_45⟩ := hw
            refine lv_if_eq (tgt := 91) hx hb dX4_readNumber_84 kc_t_84_7 (fun c_46 => absurd c_46 (by decide)) (fun c_46 => ?_)
            refine lv_iconst (v := 1) hx hb dX4_readNumber_87 kc_i_1 ?_
            refine lv_goto (tgt := 92) hx hb dX4_readNumber_88 kc_t_88_4 ?_
            have hP9 := hP
            have hD9 := hD
            have hK9 := hK
            rw [hQ]
            exact W.zret (v := 1) hx hb hr rfl (fun t ht hW => ⟨⟨1, (S1_42, Wr_43, xpn, true, ([nI (xv)])), rfl, ⟨rfl, ⟨kNum_t (by rw [← ivk_1_2]; first | (rw [show 4 - i = 0 by omega]; rfl) | exact kNumL_n (by assumption)) (by assumption), by omega, fun _ => ⟨by rw [hw_45.1]; rfl, by rw [hw_45.2]; rfl, by show pn + 1 ≤ _; omega, by omega⟩⟩, by omega⟩,  by rw [ht]; exact hP9, va_K.moved hW.alike hK9, hD9⟩, hS.F ht⟩) hS.2.2 dX4_readNumber_92
        · have hdg_47 := hw_29.mp c_30
          refine lv_iload_n hx hb dX4_readNumber_26 rfl (lv_at hl 1 rfl) ?_
          refine lv_bipush (v := 10) hx hb dX4_readNumber_27 kc_b_10 ?_
          refine lv_imul hx hb dX4_readNumber_29 ?_
          refine lv_topi (fun y_48 ey_48 => ?_)
          obtain rfl : y_48 = nI ((xv) * (10)) := ey_48.trans (pk_mul _ _)
          refine lv_aload_n hx hb dX4_readNumber_30 rfl (lv_at hl 2 rfl) ?_
          refine va_get (D := (dC, dI)) (ci := 4) (v := .ref jT) (C := RX4) (T := TX4) (N := 8) hx hb hts (fun _ h => List.mem_cons_of_mem _ (List.mem_append_right _ (List.mem_append_left _ h))) hown hK hP 0 rfl rfl 0 kc_l_0_8 (hts (.fieldLink RX4 37 "NotEnded$Reader" "tape" "LNotEnded$Tape;") (List.mem_cons_of_mem _ (List.mem_append_left _ (List.mem_of_getElem? (i := 0) rfl)))) (fun _ h9 => h9) rfl dX4_readNumber_31 ?_
          refine lv_aload_n hx hb dX4_readNumber_34 rfl (lv_at hl 2 rfl) ?_
          refine va_get (D := (dC, dI)) (ci := 4) (v := .int (nI (xpn))) (C := RX4) (T := TX4) (N := 8) hx hb hts (fun _ h => List.mem_cons_of_mem _ (List.mem_append_right _ (List.mem_append_left _ h))) hown hK hP 0 rfl rfl 5 kc_l_5_8 (hts (.fieldLink RX4 25 "NotEnded$Reader" "place" "I") (List.mem_cons_of_mem _ (List.mem_append_left _ (List.mem_of_getElem? (i := 1) rfl)))) (fun _ h9 => h9) rfl dX4_readNumber_35 ?_
          have hPc := hP.sb (ws2 := [(jT, .inr (8, [.ref t0, .int (nI (kt))])), (t0, .inl (cC, 120, .inl gT))]) [3, 4] rfl
          have hKc := hK.sb (tys2 := [(cC, .char)]) [2] rfl
          refine vp_callSi (va_runV (As := [.int (nI (xpn))]) (rest := [.int (nI ((xv) * (10)))]) ⟨hx, hb, hml, hown, hts⟩ (s_at8x l dC dI jT t0 cC gT kt hkt hgT bt hbt hb8 xpn bd_24) (cwV 1 hts (kG (List.forall_mem_cons.mpr ⟨(List.mem_cons_of_mem _ (List.mem_append_left _ (List.mem_of_getElem? (i := 5) rfl))), (List.forall_mem_cons.mpr ⟨(List.mem_cons_of_mem _ (List.mem_append_left _ (List.mem_of_getElem? (i := 4) rfl))), (List.forall_mem_cons.mpr ⟨(List.mem_cons_of_mem _ (List.mem_append_left _ (List.mem_of_getElem? (i := 3) rfl))), (List.forall_mem_cons.mpr ⟨(List.mem_cons_of_mem _ (List.mem_append_left _ (List.mem_of_getElem? (i := 2) rfl))), (fun _ h => absurd h List.not_mem_nil)⟩)⟩)⟩)⟩) (kGV _ _ _ _) (fun _ h => List.mem_cons_of_mem _ (List.mem_append_right _ (List.mem_append_right _ (List.mem_append_left _ h)))) gw_s_at8x) rfl rfl rfl ⟨rfl, hd_X8_at⟩ ⟨(Nat.le_of_ble_eq_true rfl), (Nat.le_of_ble_eq_true rfl)⟩) (kR_V kT_blind kT_give (va_recv hKc hPc (ci := 8) (q0 := 0) rfl rfl) hPc hKc) rfl rfl hl.1 rfl (lv_room (Nat.le_of_ble_eq_true rfl)) dX4_readNumber_38 ⟨(Nat.le_of_ble_eq_true rfl), (Nat.le_of_ble_eq_true rfl)⟩).run (fun r_49 hw => ?_)
          obtain rfl : r_49 = nI (kAt bt kt (xpn)) := hw
          have hk_50 := kAt_b hb8 kt xpn
          refine lv_bipush (v := 48) hx hb dX4_readNumber_41 kc_b_48 ?_
          refine lv_isub hx hb dX4_readNumber_43 ?_
          refine lv_topi (fun y_51 ey_51 => ?_)
          obtain rfl : y_51 = nI (kAt bt kt (xpn) - 48) := ey_51.trans (pk_sub (a := kAt bt kt (xpn)) (b := 48) (by omega))
          refine lv_iadd hx hb dX4_readNumber_44 ?_
          refine lv_topi (fun y_52 ey_52 => ?_)
          obtain rfl : y_52 = nI ((xv) * (10) + (kAt bt kt (xpn) - 48)) := ey_52.trans (nI_add ((xv) * (10)) (kAt bt kt (xpn) - 48))
          refine lv_istore_n hx hb dX4_readNumber_45 rfl hl kc_l_1_3 (kTo [(1, .int (nI ((xv) * (10) + (kAt bt kt (xpn) - 48)))), (2, .int (nI (i))), (0, .ref jR)]) (fun ls hl => ?_)
          refine lv_aload_n hx hb dX4_readNumber_46 rfl (lv_at hl 2 rfl) ?_
          refine lv_dup hx hb dX4_readNumber_47 rfl ?_
          refine va_get (D := (dC, dI)) (ci := 4) (v := .int (nI (xpn))) (C := RX4) (T := TX4) (N := 8) hx hb hts (fun _ h => List.mem_cons_of_mem _ (List.mem_append_right _ (List.mem_append_left _ h))) hown hK hP 0 rfl rfl 5 kc_l_5_8 (hts (.fieldLink RX4 25 "NotEnded$Reader" "place" "I") (List.mem_cons_of_mem _ (List.mem_append_left _ (List.mem_of_getElem? (i := 1) rfl)))) (fun _ h9 => h9) rfl dX4_readNumber_48 ?_
          refine lv_iconst (v := 1) hx hb dX4_readNumber_51 kc_i_1 ?_
          refine lv_iadd hx hb dX4_readNumber_52 ?_
          refine lv_topi (fun y_53 ey_53 => ?_)
          obtain rfl : y_53 = nI (xpn + 1) := ey_53.trans (nI_add (xpn) (1))
          refine va_put (D := (dC, dI)) (ci := 4) (v := .int (nI (xpn + 1))) (ty := tyX4 5) (C := RX4) (T := TX4) (N := 8) hx hb hts (fun _ h => List.mem_cons_of_mem _ (List.mem_append_right _ (List.mem_append_left _ h))) tyX4 tyX4_ok nmX4 hown hK hP hD hS 0 rfl rfl 5 kc_l_5_8 (hts (.fieldLink RX4 25 "NotEnded$Reader" "place" "I") (List.mem_cons_of_mem _ (List.mem_append_left _ (List.mem_of_getElem? (i := 1) rfl)))) (fun _ h9 => h9) rfl (tyX4_ok 5 kc_l_5_8) rfl rfl (Nat.le_of_ble_eq_true rfl) dX4_readNumber_53 (fun H locs hP hD hS => ?_)
          have hPD : kPD dC dI A [(jR, .inr (4, [.ref jT, .ref r1, .ref r2, .int (nI (wr)), .int (nI (fi)), .int (nI (xpn + 1)), .ref q6, .ref q7])), (r1, .inl (c1, 120, .inl s1)), (r2, .inl (c2, 124, .inl s2)), (jT, .inr (8, [.ref t0, .int (nI (kt))])), (t0, .inl (cC, 120, .inl gT))] H := ⟨hP, hD⟩
          have hP := hPD.1
          have hD := hPD.2
          refine lv_iinc (v := nI (i + 1)) hx hb dX4_readNumber_56 hl (k := 1) rfl (kInc _ 1) kc_l_2_3 (kTo [(2, .int (nI (i + 1))), (1, .int (nI ((xv) * (10) + (kAt bt kt (xpn) - 48)))), (0, .ref jR)]) (fun ls hl => ?_)
          refine lv_goto (tgt := 4) hx hb dX4_readNumber_59 kc_t_59_m55 ?_
          exact ih_k_1 (i + 1) (xpn + 1) ((xv) * (10) + (kAt bt kt (xpn) - 48)) (by omega) (by have h9 := kAt_lt (b := bt) (n := kt) (p := xpn) (by omega); omega) (by rw [← ivk_1_2, show 4 - i = (4 - (i + 1)) + 1 by omega]; exact (kNumL_s (by assumption)).symm) (by omega) _ _ hP hD hS ls (lv_sub hl [0, 1, 2] rfl) (by omega)
  exact lp_k_1 (4 - 0 + 1) 0 pn 0 (by omega) (by omega) rfl (by omega) _ _ hP hD hS ls (lv_sub hl [0, 1, 2] rfl) (by omega)

def w_s_opens4_g : List Cond := .code yX4_opens cX4_opens 2 (some .boolean) :: ([.fieldLink RX4 25 "NotEnded$Reader" "place" "I"] ++ (wsX40))
theorem gw_s_opens4_g : (w_s_opens4_g).all goodWord = true := kGc rfl (kGa (by decide +kernel) gw_wsX40)
set_option maxHeartbeats 4000000 in
set_option maxRecDepth 100000 in
theorem s_opens4_g (l : Launch) (dC : Nat → ClassId) (dI : Nat → Nat → Nat) (jT : Nat) (t0 : Nat) (cC : ClassId) (gT : Nat → Int32) (kt : Nat) (hkt : kt ≤ 120) (hgT : ∀ j : Nat, narrow .char (.int (gT j)) = .int (gT j)) (bt : Nat → Nat) (hbt : ∀ j : Nat, gT j = nI (bt j)) (hb8 : ∀ j : Nat, bt j < 256) (jR : Nat) (r1 : Nat) (r2 : Nat) (c1 : ClassId) (c2 : ClassId) (s1 : Nat → Int32) (s2 : Nat → Int32) (wr : Nat) (fi : Nat) (q6 : Nat) (q7 : Nat) (hwr : wr ≤ 120) (hfi : fi ≤ 124) (pn : Nat) (hpn : pn ≤ kt) (hq9 : pn < kt) (dd : Nat) (hd6 : dd < 6) (sz : Nat) : Met l yX4_opens w_s_opens4_g ({ frames := 1, cells := 0, slots := 0, locals := 60 }) (kW dC dI [.ref jR, .int (nI (dd))] [(jR, .inr (4, [.ref jT, .ref r1, .ref r2, .int (nI (wr)), .int (nI (fi)), .int (nI (pn)), .ref q6, .ref q7])), (r1, .inl (c1, 120, .inl s1)), (r2, .inl (c2, 124, .inl s2)), (jT, .inr (8, [.ref t0, .int (nI (kt))])), (t0, .inl (cC, 120, .inl gT))] [(c1, .int), (c2, .int), (cC, .char)] kT sz) (va_Qi (fun (r : Int32) (Pn : Nat) => (r = 1 ∧ Pn = pn + 1)) (fun (Pn : Nat) => fun t : State => kB dC dI [(jR, .inr (4, [.ref jT, .ref r1, .ref r2, .int (nI (wr)), .int (nI (fi)), .int (nI (Pn)), .ref q6, .ref q7])), (r1, .inl (c1, 120, .inl s1)), (r2, .inl (c2, 124, .inl s2)), (jT, .inr (8, [.ref t0, .int (nI (kt))])), (t0, .inl (cC, 120, .inl gT))] [(c1, .int), (c2, .int), (cC, .char)] (va_A [(jR, .inr (4, [.ref jT, .ref r1, .ref r2, .int (nI (wr)), .int (nI (fi)), .int (nI (pn)), .ref q6, .ref q7])), (r1, .inl (c1, 120, .inl s1)), (r2, .inl (c2, 124, .inl s2)), (jT, .inr (8, [.ref t0, .int (nI (kt))])), (t0, .inl (cC, 120, .inl gT))] sz) t) (va_A [(jR, .inr (4, [.ref jT, .ref r1, .ref r2, .int (nI (wr)), .int (nI (fi)), .int (nI (pn)), .ref q6, .ref q7])), (r1, .inl (c1, 120, .inl s1)), (r2, .inl (c2, 124, .inl s2)), (jT, .inr (8, [.ref t0, .int (nI (kt))])), (t0, .inl (cC, 120, .inl gT))] sz)) 0 0 (va_A [(jR, .inr (4, [.ref jT, .ref r1, .ref r2, .int (nI (wr)), .int (nI (fi)), .int (nI (pn)), .ref q6, .ref q7])), (r1, .inl (c1, 120, .inl s1)), (r2, .inl (c2, 124, .inl s2)), (jT, .inr (8, [.ref t0, .int (nI (kt))])), (t0, .inl (cC, 120, .inl gT))] sz) := by
  refine Met.ofW (cc := cX4_opens) (maxL := 2) (ret := (some .boolean)) (by decide) rfl ?_
  intro p e s m args below meth c s₁ B hml hv
  obtain ⟨rfl, hsz, hP, hK, hD0, hX⟩ := hv
  have hx := B.exec
  have hb := B.bytes
  have hr := B.returns
  have hts := atoms_spec (ws := w_s_opens4_g) B.pre
  have hown : s.vm.findClass RX4 = some m.cls := findClass_of_methodNamed B.named
  have hlocks := B.notSynchronized
  subst hsz
  have hD := hD0.self (sz := s.heap.size)
  generalize hAe : va_A [(jR, .inr (4, [.ref jT, .ref r1, .ref r2, .int (nI (wr)), .int (nI (fi)), .int (nI (pn)), .ref q6, .ref q7])), (r1, .inl (c1, 120, .inl s1)), (r2, .inl (c2, 124, .inl s2)), (jT, .inr (8, [.ref t0, .int (nI (kt))])), (t0, .inl (cC, 120, .inl gT))] s.heap.size = A at hD ⊢
  have hA : ∀ q : Nat, s.heap.size ≤ q → A q := fun q h => by rw [← hAe]; exact Or.inr h
  have hS : va_S A s.heap s.heap [] := va_S.rf
  have hP : va_P (dC, dI) vwCl [(jR, .inr (4, [.ref jT, .ref r1, .ref r2, .int (nI (wr)), .int (nI (fi)), .int (nI (pn)), .ref q6, .ref q7])), (r1, .inl (c1, 120, .inl s1)), (r2, .inl (c2, 124, .inl s2)), (jT, .inr (8, [.ref t0, .int (nI (kt))])), (t0, .inl (cC, 120, .inl gT))] s.heap := hP
  have hl := lv_entry ([.ref jR, .int (nI (dd))]) (n := 2) (Nat.le_of_ble_eq_true rfl)
  rw [lg_entry_eq]
  generalize (lg_sl ([.ref jR, .int (nI (dd))]) ++ List.replicate (2 - (lg_sl ([.ref jR, .int (nI (dd))])).length) Slot.unset).toArray = ls at hl ⊢
  have hl : lv_has ls 2 [(0, .ref jR), (1, .int (nI (dd)))] := hl
  refine kQ (fun Q hQ => ?_)
  refine lv_iload_n hx hb dX4_opens_0 rfl (lv_at hl 1 rfl) ?_
  refine lv_bipush (v := 6) hx hb dX4_opens_1 kc_b_6 ?_
  refine lv_icmp_lt (tgt := 8) hx hb dX4_opens_3 kc_t_3_5 (fun c_1 => ?_) (fun c_1 => ?_)
  · have bd_3 : dd < 2147483648 := by omega
    have hn_2 := klt (a := dd) (b := 6) bd_3 kc_31_6 c_1
    refine lv_aload_n hx hb dX4_opens_8 rfl (lv_at hl 0 rfl) ?_
    refine lv_dup hx hb dX4_opens_9 rfl ?_
    refine va_get (D := (dC, dI)) (ci := 4) (v := .int (nI (pn))) (C := RX4) (T := TX4) (N := 8) hx hb hts (fun _ h => List.mem_cons_of_mem _ (List.mem_append_right _ h)) hown hK hP 0 rfl rfl 5 kc_l_5_8 (hts (.fieldLink RX4 25 "NotEnded$Reader" "place" "I") (List.mem_cons_of_mem _ (List.mem_append_left _ (List.mem_of_getElem? (i := 0) rfl)))) (fun _ h9 => h9) rfl dX4_opens_10 ?_
    refine lv_iconst (v := 1) hx hb dX4_opens_13 kc_i_1 ?_
    refine lv_iadd hx hb dX4_opens_14 ?_
    refine lv_topi (fun y_4 ey_4 => ?_)
    obtain rfl : y_4 = nI (pn + 1) := ey_4.trans (nI_add (pn) (1))
    refine va_put (D := (dC, dI)) (ci := 4) (v := .int (nI (pn + 1))) (ty := tyX4 5) (C := RX4) (T := TX4) (N := 8) hx hb hts (fun _ h => List.mem_cons_of_mem _ (List.mem_append_right _ h)) tyX4 tyX4_ok nmX4 hown hK hP hD hS 0 rfl rfl 5 kc_l_5_8 (hts (.fieldLink RX4 25 "NotEnded$Reader" "place" "I") (List.mem_cons_of_mem _ (List.mem_append_left _ (List.mem_of_getElem? (i := 0) rfl)))) (fun _ h9 => h9) rfl (tyX4_ok 5 kc_l_5_8) rfl rfl (Nat.le_of_ble_eq_true rfl) dX4_opens_15 (fun H locs hP hD hS => ?_)
    have hPD : kPD dC dI A [(jR, .inr (4, [.ref jT, .ref r1, .ref r2, .int (nI (wr)), .int (nI (fi)), .int (nI (pn + 1)), .ref q6, .ref q7])), (r1, .inl (c1, 120, .inl s1)), (r2, .inl (c2, 124, .inl s2)), (jT, .inr (8, [.ref t0, .int (nI (kt))])), (t0, .inl (cC, 120, .inl gT))] H := ⟨hP, hD⟩
    have hP := hPD.1
    have hD := hPD.2
    refine lv_iconst (v := 1) hx hb dX4_opens_18 kc_i_1 ?_
    have hP9 := hP
    have hD9 := hD
    have hK9 := hK
    rw [hQ]
    exact W.zret (v := 1) hx hb hr rfl (fun t ht hW => ⟨⟨1, (pn + 1), rfl, ⟨rfl, rfl⟩,  by rw [ht]; exact hP9, va_K.moved hW.alike hK9, hD9⟩, hS.F ht⟩) hS.2.2 dX4_opens_19
  · have bd_6 : dd < 2147483648 := by omega
    have hn_5 := knlt (a := dd) (b := 6) bd_6 kc_31_6 c_1
    refine lv_iconst (v := 0) hx hb dX4_opens_6 kc_i_0 ?_
    have hP9 := hP
    have hD9 := hD
    have hK9 := hK
    rw [hQ]
    exact W.zret (v := 0) hx hb hr rfl (fun t ht hW => ⟨⟨0, pn, rfl, (by exfalso; omega),  by rw [ht]; exact hP9, va_K.moved hW.alike hK9, hD9⟩, hS.F ht⟩) hS.2.2 dX4_opens_7

def w_s_keep4x : List Cond := .code yX4_keepClause cX4_keepClause 4 (some .boolean) :: ([.fieldLink RX4 22 "NotEnded$Reader" "filled" "I", .fieldLink RX4 15 "NotEnded$Reader" "clauses" "[I", .fieldLink RX4 18 "NotEnded$Reader" "written" "I"] ++ (wsX40))
theorem gw_s_keep4x : (w_s_keep4x).all goodWord = true := kGc rfl (kGa (by decide +kernel) gw_wsX40)
set_option maxHeartbeats 4000000 in
set_option maxRecDepth 100000 in
theorem s_keep4x (l : Launch) (dC : Nat → ClassId) (dI : Nat → Nat → Nat) (jT : Nat) (t0 : Nat) (cC : ClassId) (gT : Nat → Int32) (kt : Nat) (hkt : kt ≤ 120) (hgT : ∀ j : Nat, narrow .char (.int (gT j)) = .int (gT j)) (bt : Nat → Nat) (hbt : ∀ j : Nat, gT j = nI (bt j)) (hb8 : ∀ j : Nat, bt j < 256) (jR : Nat) (r1 : Nat) (r2 : Nat) (c1 : ClassId) (c2 : ClassId) (s1 : Nat → Int32) (s2 : Nat → Int32) (wr : Nat) (fi : Nat) (q6 : Nat) (q7 : Nat) (hwr : wr ≤ 120) (hfi : fi ≤ 124) (pn : Nat) (hpn : pn ≤ kt) (pj : Nat) (pa : Nat) (pb : Nat) (hf9 : fi ≤ 120) (sz : Nat) : Met l yX4_keepClause w_s_keep4x ({ frames := 1, cells := 0, slots := 0, locals := 60 }) (kW dC dI [.ref jR, .int (nI (pj)), .int (nI (pa)), .int (nI (pb))] [(jR, .inr (4, [.ref jT, .ref r1, .ref r2, .int (nI (wr)), .int (nI (fi)), .int (nI (pn)), .ref q6, .ref q7])), (r1, .inl (c1, 120, .inl s1)), (r2, .inl (c2, 124, .inl s2)), (jT, .inr (8, [.ref t0, .int (nI (kt))])), (t0, .inl (cC, 120, .inl gT))] [(c1, .int), (c2, .int), (cC, .char)] kT sz) (va_Qi (fun (r : Int32) (u : (Nat → Int32) × Nat) => match u with | (S2, Fi) => (r = 1 ∧ Fi = fi + 4 ∧ S2 = kWrt s2 fi [nI pj, nI pa, nI pb, nI wr])) (fun (u : (Nat → Int32) × Nat) => match u with | (S2, Fi) => fun t : State => kB dC dI [(jR, .inr (4, [.ref jT, .ref r1, .ref r2, .int (nI (wr)), .int (nI (Fi)), .int (nI (pn)), .ref q6, .ref q7])), (r1, .inl (c1, 120, .inl s1)), (r2, .inl (c2, 124, .inl S2)), (jT, .inr (8, [.ref t0, .int (nI (kt))])), (t0, .inl (cC, 120, .inl gT))] [(c1, .int), (c2, .int), (cC, .char)] (va_A [(jR, .inr (4, [.ref jT, .ref r1, .ref r2, .int (nI (wr)), .int (nI (fi)), .int (nI (pn)), .ref q6, .ref q7])), (r1, .inl (c1, 120, .inl s1)), (r2, .inl (c2, 124, .inl s2)), (jT, .inr (8, [.ref t0, .int (nI (kt))])), (t0, .inl (cC, 120, .inl gT))] sz) t) (va_A [(jR, .inr (4, [.ref jT, .ref r1, .ref r2, .int (nI (wr)), .int (nI (fi)), .int (nI (pn)), .ref q6, .ref q7])), (r1, .inl (c1, 120, .inl s1)), (r2, .inl (c2, 124, .inl s2)), (jT, .inr (8, [.ref t0, .int (nI (kt))])), (t0, .inl (cC, 120, .inl gT))] sz)) 0 0 (va_A [(jR, .inr (4, [.ref jT, .ref r1, .ref r2, .int (nI (wr)), .int (nI (fi)), .int (nI (pn)), .ref q6, .ref q7])), (r1, .inl (c1, 120, .inl s1)), (r2, .inl (c2, 124, .inl s2)), (jT, .inr (8, [.ref t0, .int (nI (kt))])), (t0, .inl (cC, 120, .inl gT))] sz) := by
  refine Met.ofW (cc := cX4_keepClause) (maxL := 4) (ret := (some .boolean)) (by decide) rfl ?_
  intro p e s m args below meth c s₁ B hml hv
  obtain ⟨rfl, hsz, hP, hK, hD0, hX⟩ := hv
  have hx := B.exec
  have hb := B.bytes
  have hr := B.returns
  have hts := atoms_spec (ws := w_s_keep4x) B.pre
  have hown : s.vm.findClass RX4 = some m.cls := findClass_of_methodNamed B.named
  have hlocks := B.notSynchronized
  subst hsz
  have hD := hD0.self (sz := s.heap.size)
  generalize hAe : va_A [(jR, .inr (4, [.ref jT, .ref r1, .ref r2, .int (nI (wr)), .int (nI (fi)), .int (nI (pn)), .ref q6, .ref q7])), (r1, .inl (c1, 120, .inl s1)), (r2, .inl (c2, 124, .inl s2)), (jT, .inr (8, [.ref t0, .int (nI (kt))])), (t0, .inl (cC, 120, .inl gT))] s.heap.size = A at hD ⊢
  have hA : ∀ q : Nat, s.heap.size ≤ q → A q := fun q h => by rw [← hAe]; exact Or.inr h
  have hS : va_S A s.heap s.heap [] := va_S.rf
  have hP : va_P (dC, dI) vwCl [(jR, .inr (4, [.ref jT, .ref r1, .ref r2, .int (nI (wr)), .int (nI (fi)), .int (nI (pn)), .ref q6, .ref q7])), (r1, .inl (c1, 120, .inl s1)), (r2, .inl (c2, 124, .inl s2)), (jT, .inr (8, [.ref t0, .int (nI (kt))])), (t0, .inl (cC, 120, .inl gT))] s.heap := hP
  have hl := lv_entry ([.ref jR, .int (nI (pj)), .int (nI (pa)), .int (nI (pb))]) (n := 4) (Nat.le_of_ble_eq_true rfl)
  rw [lg_entry_eq]
  generalize (lg_sl ([.ref jR, .int (nI (pj)), .int (nI (pa)), .int (nI (pb))]) ++ List.replicate (4 - (lg_sl ([.ref jR, .int (nI (pj)), .int (nI (pa)), .int (nI (pb))])).length) Slot.unset).toArray = ls at hl ⊢
  have hl : lv_has ls 4 [(0, .ref jR), (1, .int (nI (pj))), (2, .int (nI (pa))), (3, .int (nI (pb)))] := hl
  refine kQ (fun Q hQ => ?_)
  refine lv_aload_n hx hb dX4_keepClause_0 rfl (lv_at hl 0 rfl) ?_
  refine va_get (D := (dC, dI)) (ci := 4) (v := .int (nI (fi))) (C := RX4) (T := TX4) (N := 8) hx hb hts (fun _ h => List.mem_cons_of_mem _ (List.mem_append_right _ h)) hown hK hP 0 rfl rfl 4 kc_l_4_8 (hts (.fieldLink RX4 22 "NotEnded$Reader" "filled" "I") (List.mem_cons_of_mem _ (List.mem_append_left _ (List.mem_of_getElem? (i := 0) rfl)))) (fun _ h9 => h9) rfl dX4_keepClause_1 ?_
  refine lv_iconst (v := 4) hx hb dX4_keepClause_4 kc_i_4 ?_
  refine lv_iadd hx hb dX4_keepClause_5 ?_
  refine lv_topi (fun y_1 ey_1 => ?_)
  obtain rfl : y_1 = nI (fi + 4) := ey_1.trans (nI_add (fi) (4))
  refine lv_aload_n hx hb dX4_keepClause_6 rfl (lv_at hl 0 rfl) ?_
  refine va_get (D := (dC, dI)) (ci := 4) (v := .ref r2) (C := RX4) (T := TX4) (N := 8) hx hb hts (fun _ h => List.mem_cons_of_mem _ (List.mem_append_right _ h)) hown hK hP 0 rfl rfl 2 kc_l_2_8 (hts (.fieldLink RX4 15 "NotEnded$Reader" "clauses" "[I") (List.mem_cons_of_mem _ (List.mem_append_left _ (List.mem_of_getElem? (i := 1) rfl)))) (fun _ h9 => h9) rfl dX4_keepClause_7 ?_
  refine va_alen hx hb hK hP 2 1 rfl rfl (v := 124) rfl dX4_keepClause_10 ?_
  refine lv_icmp_le (tgt := 16) hx hb dX4_keepClause_11 kc_t_11_5 (fun c_2 => ?_) (fun c_2 => ?_)
  · have bd_4 : fi + 4 < 2147483648 := by omega
    have hn_3 := kle (a := fi + 4) (b := 124) bd_4 kc_31_124 c_2
    refine lv_aload_n hx hb dX4_keepClause_16 rfl (lv_at hl 0 rfl) ?_
    refine va_get (D := (dC, dI)) (ci := 4) (v := .ref r2) (C := RX4) (T := TX4) (N := 8) hx hb hts (fun _ h => List.mem_cons_of_mem _ (List.mem_append_right _ h)) hown hK hP 0 rfl rfl 2 kc_l_2_8 (hts (.fieldLink RX4 15 "NotEnded$Reader" "clauses" "[I") (List.mem_cons_of_mem _ (List.mem_append_left _ (List.mem_of_getElem? (i := 1) rfl)))) (fun _ h9 => h9) rfl dX4_keepClause_17 ?_
    refine lv_aload_n hx hb dX4_keepClause_20 rfl (lv_at hl 0 rfl) ?_
    refine va_get (D := (dC, dI)) (ci := 4) (v := .int (nI (fi))) (C := RX4) (T := TX4) (N := 8) hx hb hts (fun _ h => List.mem_cons_of_mem _ (List.mem_append_right _ h)) hown hK hP 0 rfl rfl 4 kc_l_4_8 (hts (.fieldLink RX4 22 "NotEnded$Reader" "filled" "I") (List.mem_cons_of_mem _ (List.mem_append_left _ (List.mem_of_getElem? (i := 0) rfl)))) (fun _ h9 => h9) rfl dX4_keepClause_21 ?_
    refine lv_iload_n hx hb dX4_keepClause_24 rfl (lv_at hl 1 rfl) ?_
    have bd_6 : fi < 124 := by omega
    refine va_iast hx hb hK hP hD hS 2 1 rfl rfl (vp_in_nI (n := fi) (N := 124) bd_6 kc_31_124) dX4_keepClause_25 (fun H locs hP hD hS => ?_)
    obtain ⟨f_5, ef_5⟩ : ∃ gg9 : Nat → Int32, gg9 = upd s2 (Int32.toNatClampNeg (nI (fi))) (nI (pj)) := ⟨_, rfl⟩
    have hPD : kPD dC dI A [(jR, .inr (4, [.ref jT, .ref r1, .ref r2, .int (nI (wr)), .int (nI (fi)), .int (nI (pn)), .ref q6, .ref q7])), (r1, .inl (c1, 120, .inl s1)), (r2, .inl (c2, 124, .inl f_5)), (jT, .inr (8, [.ref t0, .int (nI (kt))])), (t0, .inl (cC, 120, .inl gT))] H := by rw [ef_5]; exact ⟨hP, hD⟩
    have hP := hPD.1
    have hD := hPD.2
    refine lv_aload_n hx hb dX4_keepClause_26 rfl (lv_at hl 0 rfl) ?_
    refine va_get (D := (dC, dI)) (ci := 4) (v := .ref r2) (C := RX4) (T := TX4) (N := 8) hx hb hts (fun _ h => List.mem_cons_of_mem _ (List.mem_append_right _ h)) hown hK hP 0 rfl rfl 2 kc_l_2_8 (hts (.fieldLink RX4 15 "NotEnded$Reader" "clauses" "[I") (List.mem_cons_of_mem _ (List.mem_append_left _ (List.mem_of_getElem? (i := 1) rfl)))) (fun _ h9 => h9) rfl dX4_keepClause_27 ?_
    refine lv_aload_n hx hb dX4_keepClause_30 rfl (lv_at hl 0 rfl) ?_
    refine va_get (D := (dC, dI)) (ci := 4) (v := .int (nI (fi))) (C := RX4) (T := TX4) (N := 8) hx hb hts (fun _ h => List.mem_cons_of_mem _ (List.mem_append_right _ h)) hown hK hP 0 rfl rfl 4 kc_l_4_8 (hts (.fieldLink RX4 22 "NotEnded$Reader" "filled" "I") (List.mem_cons_of_mem _ (List.mem_append_left _ (List.mem_of_getElem? (i := 0) rfl)))) (fun _ h9 => h9) rfl dX4_keepClause_31 ?_
    refine lv_iconst (v := 1) hx hb dX4_keepClause_34 kc_i_1 ?_
    refine lv_iadd hx hb dX4_keepClause_35 ?_
    refine lv_topi (fun y_7 ey_7 => ?_)
    obtain rfl : y_7 = nI (fi + 1) := ey_7.trans (nI_add (fi) (1))
    refine lv_iload_n hx hb dX4_keepClause_36 rfl (lv_at hl 2 rfl) ?_
    have bd_9 : fi + 1 < 124 := by omega
    refine va_iast hx hb hK hP hD hS 2 1 rfl rfl (vp_in_nI (n := fi + 1) (N := 124) bd_9 kc_31_124) dX4_keepClause_37 (fun H locs hP hD hS => ?_)
    obtain ⟨f_8, ef_8⟩ : ∃ gg9 : Nat → Int32, gg9 = upd f_5 (Int32.toNatClampNeg (nI (fi + 1))) (nI (pa)) := ⟨_, rfl⟩
    have hPD : kPD dC dI A [(jR, .inr (4, [.ref jT, .ref r1, .ref r2, .int (nI (wr)), .int (nI (fi)), .int (nI (pn)), .ref q6, .ref q7])), (r1, .inl (c1, 120, .inl s1)), (r2, .inl (c2, 124, .inl f_8)), (jT, .inr (8, [.ref t0, .int (nI (kt))])), (t0, .inl (cC, 120, .inl gT))] H := by rw [ef_8]; exact ⟨hP, hD⟩
    have hP := hPD.1
    have hD := hPD.2
    refine lv_aload_n hx hb dX4_keepClause_38 rfl (lv_at hl 0 rfl) ?_
    refine va_get (D := (dC, dI)) (ci := 4) (v := .ref r2) (C := RX4) (T := TX4) (N := 8) hx hb hts (fun _ h => List.mem_cons_of_mem _ (List.mem_append_right _ h)) hown hK hP 0 rfl rfl 2 kc_l_2_8 (hts (.fieldLink RX4 15 "NotEnded$Reader" "clauses" "[I") (List.mem_cons_of_mem _ (List.mem_append_left _ (List.mem_of_getElem? (i := 1) rfl)))) (fun _ h9 => h9) rfl dX4_keepClause_39 ?_
    refine lv_aload_n hx hb dX4_keepClause_42 rfl (lv_at hl 0 rfl) ?_
    refine va_get (D := (dC, dI)) (ci := 4) (v := .int (nI (fi))) (C := RX4) (T := TX4) (N := 8) hx hb hts (fun _ h => List.mem_cons_of_mem _ (List.mem_append_right _ h)) hown hK hP 0 rfl rfl 4 kc_l_4_8 (hts (.fieldLink RX4 22 "NotEnded$Reader" "filled" "I") (List.mem_cons_of_mem _ (List.mem_append_left _ (List.mem_of_getElem? (i := 0) rfl)))) (fun _ h9 => h9) rfl dX4_keepClause_43 ?_
    refine lv_iconst (v := 2) hx hb dX4_keepClause_46 kc_i_2 ?_
    refine lv_iadd hx hb dX4_keepClause_47 ?_
    refine lv_topi (fun y_10 ey_10 => ?_)
    obtain rfl : y_10 = nI (fi + 2) := ey_10.trans (nI_add (fi) (2))
    refine lv_iload_n hx hb dX4_keepClause_48 rfl (lv_at hl 3 rfl) ?_
    have bd_12 : fi + 2 < 124 := by omega
    refine va_iast hx hb hK hP hD hS 2 1 rfl rfl (vp_in_nI (n := fi + 2) (N := 124) bd_12 kc_31_124) dX4_keepClause_49 (fun H locs hP hD hS => ?_)
    obtain ⟨f_11, ef_11⟩ : ∃ gg9 : Nat → Int32, gg9 = upd f_8 (Int32.toNatClampNeg (nI (fi + 2))) (nI (pb)) := ⟨_, rfl⟩
    have hPD : kPD dC dI A [(jR, .inr (4, [.ref jT, .ref r1, .ref r2, .int (nI (wr)), .int (nI (fi)), .int (nI (pn)), .ref q6, .ref q7])), (r1, .inl (c1, 120, .inl s1)), (r2, .inl (c2, 124, .inl f_11)), (jT, .inr (8, [.ref t0, .int (nI (kt))])), (t0, .inl (cC, 120, .inl gT))] H := by rw [ef_11]; exact ⟨hP, hD⟩
    have hP := hPD.1
    have hD := hPD.2
    refine lv_aload_n hx hb dX4_keepClause_50 rfl (lv_at hl 0 rfl) ?_
    refine va_get (D := (dC, dI)) (ci := 4) (v := .ref r2) (C := RX4) (T := TX4) (N := 8) hx hb hts (fun _ h => List.mem_cons_of_mem _ (List.mem_append_right _ h)) hown hK hP 0 rfl rfl 2 kc_l_2_8 (hts (.fieldLink RX4 15 "NotEnded$Reader" "clauses" "[I") (List.mem_cons_of_mem _ (List.mem_append_left _ (List.mem_of_getElem? (i := 1) rfl)))) (fun _ h9 => h9) rfl dX4_keepClause_51 ?_
    refine lv_aload_n hx hb dX4_keepClause_54 rfl (lv_at hl 0 rfl) ?_
    refine va_get (D := (dC, dI)) (ci := 4) (v := .int (nI (fi))) (C := RX4) (T := TX4) (N := 8) hx hb hts (fun _ h => List.mem_cons_of_mem _ (List.mem_append_right _ h)) hown hK hP 0 rfl rfl 4 kc_l_4_8 (hts (.fieldLink RX4 22 "NotEnded$Reader" "filled" "I") (List.mem_cons_of_mem _ (List.mem_append_left _ (List.mem_of_getElem? (i := 0) rfl)))) (fun _ h9 => h9) rfl dX4_keepClause_55 ?_
    refine lv_iconst (v := 3) hx hb dX4_keepClause_58 kc_i_3 ?_
    refine lv_iadd hx hb dX4_keepClause_59 ?_
    refine lv_topi (fun y_13 ey_13 => ?_)
    obtain rfl : y_13 = nI (fi + 3) := ey_13.trans (nI_add (fi) (3))
    refine lv_aload_n hx hb dX4_keepClause_60 rfl (lv_at hl 0 rfl) ?_
    refine va_get (D := (dC, dI)) (ci := 4) (v := .int (nI (wr))) (C := RX4) (T := TX4) (N := 8) hx hb hts (fun _ h => List.mem_cons_of_mem _ (List.mem_append_right _ h)) hown hK hP 0 rfl rfl 3 kc_l_3_8 (hts (.fieldLink RX4 18 "NotEnded$Reader" "written" "I") (List.mem_cons_of_mem _ (List.mem_append_left _ (List.mem_of_getElem? (i := 2) rfl)))) (fun _ h9 => h9) rfl dX4_keepClause_61 ?_
    have bd_15 : fi + 3 < 124 := by omega
    refine va_iast hx hb hK hP hD hS 2 1 rfl rfl (vp_in_nI (n := fi + 3) (N := 124) bd_15 kc_31_124) dX4_keepClause_64 (fun H locs hP hD hS => ?_)
    obtain ⟨f_14, ef_14⟩ : ∃ gg9 : Nat → Int32, gg9 = upd f_11 (Int32.toNatClampNeg (nI (fi + 3))) (nI (wr)) := ⟨_, rfl⟩
    have hPD : kPD dC dI A [(jR, .inr (4, [.ref jT, .ref r1, .ref r2, .int (nI (wr)), .int (nI (fi)), .int (nI (pn)), .ref q6, .ref q7])), (r1, .inl (c1, 120, .inl s1)), (r2, .inl (c2, 124, .inl f_14)), (jT, .inr (8, [.ref t0, .int (nI (kt))])), (t0, .inl (cC, 120, .inl gT))] H := by rw [ef_14]; exact ⟨hP, hD⟩
    have hP := hPD.1
    have hD := hPD.2
    refine lv_aload_n hx hb dX4_keepClause_65 rfl (lv_at hl 0 rfl) ?_
    refine lv_dup hx hb dX4_keepClause_66 rfl ?_
    refine va_get (D := (dC, dI)) (ci := 4) (v := .int (nI (fi))) (C := RX4) (T := TX4) (N := 8) hx hb hts (fun _ h => List.mem_cons_of_mem _ (List.mem_append_right _ h)) hown hK hP 0 rfl rfl 4 kc_l_4_8 (hts (.fieldLink RX4 22 "NotEnded$Reader" "filled" "I") (List.mem_cons_of_mem _ (List.mem_append_left _ (List.mem_of_getElem? (i := 0) rfl)))) (fun _ h9 => h9) rfl dX4_keepClause_67 ?_
    refine lv_iconst (v := 4) hx hb dX4_keepClause_70 kc_i_4 ?_
    refine lv_iadd hx hb dX4_keepClause_71 ?_
    refine lv_topi (fun y_16 ey_16 => ?_)
    obtain rfl : y_16 = nI (fi + 4) := ey_16.trans (nI_add (fi) (4))
    refine va_put (D := (dC, dI)) (ci := 4) (v := .int (nI (fi + 4))) (ty := tyX4 4) (C := RX4) (T := TX4) (N := 8) hx hb hts (fun _ h => List.mem_cons_of_mem _ (List.mem_append_right _ h)) tyX4 tyX4_ok nmX4 hown hK hP hD hS 0 rfl rfl 4 kc_l_4_8 (hts (.fieldLink RX4 22 "NotEnded$Reader" "filled" "I") (List.mem_cons_of_mem _ (List.mem_append_left _ (List.mem_of_getElem? (i := 0) rfl)))) (fun _ h9 => h9) rfl (tyX4_ok 4 kc_l_4_8) rfl rfl (Nat.le_of_ble_eq_true rfl) dX4_keepClause_72 (fun H locs hP hD hS => ?_)
    have hPD : kPD dC dI A [(jR, .inr (4, [.ref jT, .ref r1, .ref r2, .int (nI (wr)), .int (nI (fi + 4)), .int (nI (pn)), .ref q6, .ref q7])), (r1, .inl (c1, 120, .inl s1)), (r2, .inl (c2, 124, .inl f_14)), (jT, .inr (8, [.ref t0, .int (nI (kt))])), (t0, .inl (cC, 120, .inl gT))] H := ⟨hP, hD⟩
    have hP := hPD.1
    have hD := hPD.2
    refine lv_iconst (v := 1) hx hb dX4_keepClause_75 kc_i_1 ?_
    have hP9 := hP
    have hD9 := hD
    have hK9 := hK
    rw [hQ]
    exact W.zret (v := 1) hx hb hr rfl (fun t ht hW => ⟨⟨1, (f_14, (fi + 4)), rfl, ⟨rfl, rfl, by rw [ef_14, ef_11, ef_8, ef_5, nI_clamp (n := fi + 3) (by omega), nI_clamp (n := fi + 2) (by omega), nI_clamp (n := fi + 1) (by omega), nI_clamp (n := fi) (by omega)]; rfl⟩,  by rw [ht]; exact hP9, va_K.moved hW.alike hK9, hD9⟩, hS.F ht⟩) hS.2.2 dX4_keepClause_76
  · have bd_18 : fi + 4 < 2147483648 := by omega
    have hn_17 := knle (a := fi + 4) (b := 124) bd_18 kc_31_124 c_2
    refine lv_iconst (v := 0) hx hb dX4_keepClause_14 kc_i_0 ?_
    have hP9 := hP
    have hD9 := hD
    have hK9 := hK
    rw [hQ]
    exact W.zret (v := 0) hx hb hr rfl (fun t ht hW => ⟨⟨0, (s2, fi), rfl, (by exfalso; omega),  by rw [ht]; exact hP9, va_K.moved hW.alike hK9, hD9⟩, hS.F ht⟩) hS.2.2 dX4_keepClause_15

def wf_rq : List Cond := [.initialized RX4, .selects RX4 yX4_look yX4_look, .instanceMethod yX4_look, .methodLink RX4 53 yX4_look, .static yX4_isDigit, .methodLink RX4 111 yX4_isDigit, .fieldLink RX4 34 "NotEnded$Reader" "letterSigns" "Ljava/lang/String;", .initialized RJ0, .selects RJ0 yJ0_indexOf_0f7a4 yJ0_indexOf_0f7a4, .instanceMethod yJ0_indexOf_0f7a4, .methodLink RX4 72 yJ0_indexOf_0f7a4, .fieldLink RX4 25 "NotEnded$Reader" "place" "I", .selects RX4 yX4_write yX4_write, .instanceMethod yX4_write, .methodLink RX4 96 yX4_write, .selects RX4 yX4_readNumber yX4_readNumber, .instanceMethod yX4_readNumber, .methodLink RX4 114 yX4_readNumber, .selects RX4 yX4_opens yX4_opens, .instanceMethod yX4_opens, .methodLink RX4 102 yX4_opens, .code yX4_readAtom cX4_readAtom 4 (some .boolean), .selects RX4 yX4_readAtom yX4_readAtom, .instanceMethod yX4_readAtom, .methodLink RX4 108 yX4_readAtom, .code yX4_readTerm cX4_readTerm 4 (some .boolean), .selects RX4 yX4_readTerm yX4_readTerm, .instanceMethod yX4_readTerm, .methodLink RX4 105 yX4_readTerm, .code yX4_readSum cX4_readSum 4 (some .boolean), .selects RX4 yX4_readSum yX4_readSum, .instanceMethod yX4_readSum, .methodLink RX4 78 yX4_readSum, .static yX4_isComparison, .methodLink RX4 82 yX4_isComparison, .code yX4_readUnit cX4_readUnit 4 (some .boolean), .selects RX4 yX4_readUnit yX4_readUnit, .instanceMethod yX4_readUnit, .methodLink RX4 99 yX4_readUnit, .code yX4_readTruth cX4_readTruth 4 (some .boolean), .selects RX4 yX4_readTruth yX4_readTruth, .instanceMethod yX4_readTruth, .methodLink RX4 93 yX4_readTruth, .selects RX4 yX4_take yX4_take, .instanceMethod yX4_take, .methodLink RX4 57 yX4_take, .code yX4_readCondition cX4_readCondition 4 (some .boolean), .selects RX4 yX4_readCondition yX4_readCondition, .instanceMethod yX4_readCondition, .methodLink RX4 89 yX4_readCondition, .fieldLink RX4 30 "NotEnded$Reader" "labelSigns" "Ljava/lang/String;", .fieldLink RX4 18 "NotEnded$Reader" "written" "I", .selects RX4 yX4_keepClause yX4_keepClause, .instanceMethod yX4_keepClause, .methodLink RX4 85 yX4_keepClause] ++ (w_s_look4x ++ (w_s_digit4x ++ (wsX40 ++ (w_s_t_ixx ++ (w_s_write4x ++ (w_s_number4x ++ (w_s_opens4_6 ++ (w_s_comp4x ++ (w_s_opens4_g ++ (w_s_take4_93 ++ (w_s_take4_41 ++ (w_s_take4_58 ++ (w_s_take4_63 ++ (w_s_keep4x))))))))))))))
theorem gf_rq : (wf_rq).all goodWord = true := by decide +kernel

theorem kNz9 {r E : Int32} (h : r = E) (c : ¬ r = 0) : ¬ E = 0 := fun z => c (h.trans z)
theorem kNz8 {r E : Int32} (c : ¬ r = 0) (h : r = E) : ¬ E = 0 := fun z => c (h.trans z)
theorem kZr9 {r E : Int32} (h : r = E) (c : r = 0) : E = 0 := h.symm.trans c
