theorem hd_X10_goOn : yX10_goOn.cls ≠ "java/lang/invoke/MethodHandle" ∧ yX10_goOn.cls ≠ "java/lang/invoke/VarHandle" ∧ (parseMethodDescriptor yX10_goOn.desc).map (fun d => d.parameters.length) = some 2 := by decide +kernel
def w_s_has10 : List Cond := .code yX10_has cX10_has 2 (some .boolean) :: ([])
theorem gw_s_has10 : (w_s_has10).all goodWord = true := kGc rfl kGn
theorem hd_X10_held : yX10_held.cls ≠ "java/lang/invoke/MethodHandle" ∧ yX10_held.cls ≠ "java/lang/invoke/VarHandle" ∧ (parseMethodDescriptor yX10_held.desc).map (fun d => d.parameters.length) = some 1 := by decide +kernel
theorem dX10_isLower_0 : decode cX10_isLower 0 = .ok (.iload_n 0, 1) := by decide +kernel
theorem dX10_isLower_1 : decode cX10_isLower 1 = .ok (.iload_n 1, 1) := by decide +kernel
theorem dX10_isLower_2 : decode cX10_isLower 2 = .ok (.ixor, 1) := by decide +kernel
theorem dX10_isLower_3 : decode cX10_isLower 3 = .ok (.istore_n 2, 1) := by decide +kernel
theorem dX10_isLower_4 : decode cX10_isLower 4 = .ok (.iload_n 0, 1) := by decide +kernel
theorem dX10_isLower_5 : decode cX10_isLower 5 = .ok (.iload_n 2, 1) := by decide +kernel
theorem dX10_isLower_6 : decode cX10_isLower 6 = .ok (.iand, 1) := by decide +kernel
theorem dX10_isLower_7 : decode cX10_isLower 7 = .ok (.iload_n 2, 1) := by decide +kernel
theorem dX10_isLower_8 : decode cX10_isLower 8 = .ok (.ineg, 1) := by decide +kernel
theorem dX10_isLower_9 : decode cX10_isLower 9 = .ok (.iand, 1) := by decide +kernel
theorem dX10_isLower_10 : decode cX10_isLower 10 = .ok (.ifCond .eq 7, 3) := by decide +kernel
theorem dX10_isLower_17 : decode cX10_isLower 17 = .ok (.iconst 0, 1) := by decide +kernel
theorem dX10_isLower_18 : decode cX10_isLower 18 = .ok (.ireturn, 1) := by decide +kernel
theorem dX10_isLower_13 : decode cX10_isLower 13 = .ok (.iconst 1, 1) := by decide +kernel
theorem dX10_isLower_14 : decode cX10_isLower 14 = .ok (.goto 4, 3) := by decide +kernel
theorem hd_X10_isLower : yX10_isLower.cls ≠ "java/lang/invoke/MethodHandle" ∧ yX10_isLower.cls ≠ "java/lang/invoke/VarHandle" ∧ (parseMethodDescriptor yX10_isLower.desc).map (fun d => d.parameters.length) = some 2 := by decide +kernel
theorem hd_X10_isLaw : yX10_isLaw.cls ≠ "java/lang/invoke/MethodHandle" ∧ yX10_isLaw.cls ≠ "java/lang/invoke/VarHandle" ∧ (parseMethodDescriptor yX10_isLaw.desc).map (fun d => d.parameters.length) = some 1 := by decide +kernel
theorem hd_X10_isPerson : yX10_isPerson.cls ≠ "java/lang/invoke/MethodHandle" ∧ yX10_isPerson.cls ≠ "java/lang/invoke/VarHandle" ∧ (parseMethodDescriptor yX10_isPerson.desc).map (fun d => d.parameters.length) = some 1 := by decide +kernel
theorem dX10_everybody_0 : decode cX10_everybody 0 = .ok (.iconst 1, 1) := by decide +kernel
theorem dX10_everybody_1 : decode cX10_everybody 1 = .ok (.aload_n 0, 1) := by decide +kernel
theorem dX10_everybody_2 : decode cX10_everybody 2 = .ok (.getfield 250, 3) := by decide +kernel
theorem dX10_everybody_5 : decode cX10_everybody 5 = .ok (.ishl, 1) := by decide +kernel
theorem dX10_everybody_6 : decode cX10_everybody 6 = .ok (.iconst 1, 1) := by decide +kernel
theorem dX10_everybody_7 : decode cX10_everybody 7 = .ok (.isub, 1) := by decide +kernel
theorem dX10_everybody_8 : decode cX10_everybody 8 = .ok (.ireturn, 1) := by decide +kernel
theorem hd_X10_everybody : yX10_everybody.cls ≠ "java/lang/invoke/MethodHandle" ∧ yX10_everybody.cls ≠ "java/lang/invoke/VarHandle" ∧ (parseMethodDescriptor yX10_everybody.desc).map (fun d => d.parameters.length) = some 0 := by decide +kernel
theorem hd_X10_allSent : yX10_allSent.cls ≠ "java/lang/invoke/MethodHandle" ∧ yX10_allSent.cls ≠ "java/lang/invoke/VarHandle" ∧ (parseMethodDescriptor yX10_allSent.desc).map (fun d => d.parameters.length) = some 0 := by decide +kernel
theorem dX10_isAlone_0 : decode cX10_isAlone 0 = .ok (.iconst 0, 1) := by decide +kernel
theorem dX10_isAlone_1 : decode cX10_isAlone 1 = .ok (.istore_n 2, 1) := by decide +kernel
theorem dX10_isAlone_2 : decode cX10_isAlone 2 = .ok (.iload_n 2, 1) := by decide +kernel
theorem dX10_isAlone_3 : decode cX10_isAlone 3 = .ok (.aload_n 0, 1) := by decide +kernel
theorem dX10_isAlone_4 : decode cX10_isAlone 4 = .ok (.getfield 250, 3) := by decide +kernel
theorem dX10_isAlone_7 : decode cX10_isAlone 7 = .ok (.if_icmp .ge 31, 3) := by decide +kernel
theorem dX10_isAlone_38 : decode cX10_isAlone 38 = .ok (.iconst 1, 1) := by decide +kernel
theorem dX10_isAlone_39 : decode cX10_isAlone 39 = .ok (.ireturn, 1) := by decide +kernel
theorem dX10_isAlone_10 : decode cX10_isAlone 10 = .ok (.iload_n 2, 1) := by decide +kernel
theorem dX10_isAlone_11 : decode cX10_isAlone 11 = .ok (.iload_n 1, 1) := by decide +kernel
theorem dX10_isAlone_12 : decode cX10_isAlone 12 = .ok (.if_icmp .eq 20, 3) := by decide +kernel
theorem dX10_isAlone_32 : decode cX10_isAlone 32 = .ok (.iinc 2 1, 3) := by decide +kernel
theorem dX10_isAlone_35 : decode cX10_isAlone 35 = .ok (.goto (-33), 3) := by decide +kernel
theorem dX10_isAlone_15 : decode cX10_isAlone 15 = .ok (.aload_n 0, 1) := by decide +kernel
theorem dX10_isAlone_16 : decode cX10_isAlone 16 = .ok (.getfield 43, 3) := by decide +kernel
theorem dX10_isAlone_19 : decode cX10_isAlone 19 = .ok (.iload_n 2, 1) := by decide +kernel
theorem dX10_isAlone_20 : decode cX10_isAlone 20 = .ok (.iaload, 1) := by decide +kernel
theorem dX10_isAlone_21 : decode cX10_isAlone 21 = .ok (.aload_n 0, 1) := by decide +kernel
theorem dX10_isAlone_22 : decode cX10_isAlone 22 = .ok (.getfield 43, 3) := by decide +kernel
theorem dX10_isAlone_25 : decode cX10_isAlone 25 = .ok (.iload_n 1, 1) := by decide +kernel
theorem dX10_isAlone_26 : decode cX10_isAlone 26 = .ok (.iaload, 1) := by decide +kernel
theorem dX10_isAlone_27 : decode cX10_isAlone 27 = .ok (.if_icmp .ne 5, 3) := by decide +kernel
theorem dX10_isAlone_30 : decode cX10_isAlone 30 = .ok (.iconst 0, 1) := by decide +kernel
theorem dX10_isAlone_31 : decode cX10_isAlone 31 = .ok (.ireturn, 1) := by decide +kernel
theorem hd_X10_isAlone : yX10_isAlone.cls ≠ "java/lang/invoke/MethodHandle" ∧ yX10_isAlone.cls ≠ "java/lang/invoke/VarHandle" ∧ (parseMethodDescriptor yX10_isAlone.desc).map (fun d => d.parameters.length) = some 1 := by decide +kernel
theorem dX10_isSo_0 : decode cX10_isSo 0 = .ok (.aload_n 0, 1) := by decide +kernel
theorem dX10_isSo_1 : decode cX10_isSo 1 = .ok (.getfield 86, 3) := by decide +kernel
theorem dX10_isSo_4 : decode cX10_isSo 4 = .ok (.iload_n 1, 1) := by decide +kernel
theorem dX10_isSo_5 : decode cX10_isSo 5 = .ok (.iaload, 1) := by decide +kernel
theorem dX10_isSo_6 : decode cX10_isSo 6 = .ok (.istore_n 2, 1) := by decide +kernel
theorem dX10_isSo_7 : decode cX10_isSo 7 = .ok (.aload_n 0, 1) := by decide +kernel
theorem dX10_isSo_8 : decode cX10_isSo 8 = .ok (.getfield 92, 3) := by decide +kernel
theorem dX10_isSo_11 : decode cX10_isSo 11 = .ok (.iload_n 1, 1) := by decide +kernel
theorem dX10_isSo_12 : decode cX10_isSo 12 = .ok (.iaload, 1) := by decide +kernel
theorem dX10_isSo_13 : decode cX10_isSo 13 = .ok (.ifCond .ne 36, 3) := by decide +kernel
theorem dX10_isSo_49 : decode cX10_isSo 49 = .ok (.aload_n 0, 1) := by decide +kernel
theorem dX10_isSo_50 : decode cX10_isSo 50 = .ok (.getfield 65, 3) := by decide +kernel
theorem dX10_isSo_53 : decode cX10_isSo 53 = .ok (.iload_n 2, 1) := by decide +kernel
theorem dX10_isSo_54 : decode cX10_isSo 54 = .ok (.iaload, 1) := by decide +kernel
theorem dX10_isSo_55 : decode cX10_isSo 55 = .ok (.aload_n 0, 1) := by decide +kernel
theorem dX10_isSo_56 : decode cX10_isSo 56 = .ok (.getfield 95, 3) := by decide +kernel
theorem dX10_isSo_59 : decode cX10_isSo 59 = .ok (.iload_n 1, 1) := by decide +kernel
theorem dX10_isSo_60 : decode cX10_isSo 60 = .ok (.iaload, 1) := by decide +kernel
theorem dX10_isSo_61 : decode cX10_isSo 61 = .ok (.if_icmp .ne 7, 3) := by decide +kernel
theorem dX10_isSo_68 : decode cX10_isSo 68 = .ok (.iconst 0, 1) := by decide +kernel
theorem dX10_isSo_69 : decode cX10_isSo 69 = .ok (.ireturn, 1) := by decide +kernel
theorem dX10_isSo_64 : decode cX10_isSo 64 = .ok (.iconst 1, 1) := by decide +kernel
theorem dX10_isSo_65 : decode cX10_isSo 65 = .ok (.goto 4, 3) := by decide +kernel
theorem dX10_isSo_16 : decode cX10_isSo 16 = .ok (.aload_n 0, 1) := by decide +kernel
theorem dX10_isSo_17 : decode cX10_isSo 17 = .ok (.getfield 59, 3) := by decide +kernel
theorem dX10_isSo_20 : decode cX10_isSo 20 = .ok (.iload_n 2, 1) := by decide +kernel
theorem dX10_isSo_21 : decode cX10_isSo 21 = .ok (.iaload, 1) := by decide +kernel
theorem dX10_isSo_22 : decode cX10_isSo 22 = .ok (.aload_n 0, 1) := by decide +kernel
theorem dX10_isSo_23 : decode cX10_isSo 23 = .ok (.getfield 95, 3) := by decide +kernel
theorem dX10_isSo_26 : decode cX10_isSo 26 = .ok (.iload_n 1, 1) := by decide +kernel
theorem dX10_isSo_27 : decode cX10_isSo 27 = .ok (.iaload, 1) := by decide +kernel
theorem dX10_isSo_28 : decode cX10_isSo 28 = .ok (.isub, 1) := by decide +kernel
theorem dX10_isSo_29 : decode cX10_isSo 29 = .ok (.invokestatic 334, 3) := by decide +kernel
theorem dX10_isSo_32 : decode cX10_isSo 32 = .ok (.aload_n 0, 1) := by decide +kernel
theorem dX10_isSo_33 : decode cX10_isSo 33 = .ok (.getfield 98, 3) := by decide +kernel
theorem dX10_isSo_36 : decode cX10_isSo 36 = .ok (.iload_n 1, 1) := by decide +kernel
theorem dX10_isSo_37 : decode cX10_isSo 37 = .ok (.iaload, 1) := by decide +kernel
theorem dX10_isSo_38 : decode cX10_isSo 38 = .ok (.if_icmp .gt 7, 3) := by decide +kernel
theorem dX10_isSo_45 : decode cX10_isSo 45 = .ok (.iconst 0, 1) := by decide +kernel
theorem dX10_isSo_46 : decode cX10_isSo 46 = .ok (.goto 23, 3) := by decide +kernel
theorem dX10_isSo_41 : decode cX10_isSo 41 = .ok (.iconst 1, 1) := by decide +kernel
theorem dX10_isSo_42 : decode cX10_isSo 42 = .ok (.goto 27, 3) := by decide +kernel
theorem hd_X10_isSo : yX10_isSo.cls ≠ "java/lang/invoke/MethodHandle" ∧ yX10_isSo.cls ≠ "java/lang/invoke/VarHandle" ∧ (parseMethodDescriptor yX10_isSo.desc).map (fun d => d.parameters.length) = some 1 := by decide +kernel
theorem hd_X10_begin : yX10_begin.cls ≠ "java/lang/invoke/MethodHandle" ∧ yX10_begin.cls ≠ "java/lang/invoke/VarHandle" ∧ (parseMethodDescriptor yX10_begin.desc).map (fun d => d.parameters.length) = some 2 := by decide +kernel
theorem hd_X10_layLetters : yX10_layLetters.cls ≠ "java/lang/invoke/MethodHandle" ∧ yX10_layLetters.cls ≠ "java/lang/invoke/VarHandle" ∧ (parseMethodDescriptor yX10_layLetters.desc).map (fun d => d.parameters.length) = some 1 := by decide +kernel
