theorem dX10_fault_0 : decode cX10_fault 0 = .ok (.aload_n 0, 1) := by decide +kernel
theorem dX10_fault_1 : decode cX10_fault 1 = .ok (.iconst 0, 1) := by decide +kernel
theorem dX10_fault_2 : decode cX10_fault 2 = .ok (.putfield 117, 3) := by decide +kernel
theorem dX10_fault_5 : decode cX10_fault 5 = .ok (.iload_n 1, 1) := by decide +kernel
theorem dX10_fault_6 : decode cX10_fault 6 = .ok (.iconst 0, 1) := by decide +kernel
theorem dX10_fault_7 : decode cX10_fault 7 = .ok (.iconst 1, 1) := by decide +kernel
theorem dX10_fault_8 : decode cX10_fault 8 = .ok (.invokestatic 236, 3) := by decide +kernel
theorem dX10_fault_11 : decode cX10_fault 11 = .ok (.ifCond .ne 6, 3) := by decide +kernel
theorem dX10_fault_17 : decode cX10_fault 17 = .ok (.aload_n 0, 1) := by decide +kernel
theorem dX10_fault_18 : decode cX10_fault 18 = .ok (.aload_n 0, 1) := by decide +kernel
theorem dX10_fault_19 : decode cX10_fault 19 = .ok (.getfield 9, 3) := by decide +kernel
theorem dX10_fault_22 : decode cX10_fault 22 = .ok (.iconst 0, 1) := by decide +kernel
theorem dX10_fault_23 : decode cX10_fault 23 = .ok (.aload_n 0, 1) := by decide +kernel
theorem dX10_fault_24 : decode cX10_fault 24 = .ok (.getfield 131, 3) := by decide +kernel
theorem dX10_fault_27 : decode cX10_fault 27 = .ok (.iload_n 1, 1) := by decide +kernel
theorem dX10_fault_28 : decode cX10_fault 28 = .ok (.iconst 1, 1) := by decide +kernel
theorem dX10_fault_29 : decode cX10_fault 29 = .ok (.if_icmp .ne 7, 3) := by decide +kernel
theorem dX10_fault_36 : decode cX10_fault 36 = .ok (.iconst 0, 1) := by decide +kernel
theorem dX10_fault_37 : decode cX10_fault 37 = .ok (.iconst 0, 1) := by decide +kernel
theorem dX10_fault_38 : decode cX10_fault 38 = .ok (.invokevirtual 240, 3) := by decide +kernel
theorem dX10_fault_41 : decode cX10_fault 41 = .ok (.aload_n 0, 1) := by decide +kernel
theorem dX10_fault_42 : decode cX10_fault 42 = .ok (.getfield 150, 3) := by decide +kernel
theorem dX10_fault_45 : decode cX10_fault 45 = .ok (.ireturn, 1) := by decide +kernel
theorem dX10_fault_32 : decode cX10_fault 32 = .ok (.iconst 1, 1) := by decide +kernel
theorem dX10_fault_33 : decode cX10_fault 33 = .ok (.goto 4, 3) := by decide +kernel
theorem dX10_fault_14 : decode cX10_fault 14 = .ok (.bipush (-2), 2) := by decide +kernel
theorem dX10_fault_16 : decode cX10_fault 16 = .ok (.ireturn, 1) := by decide +kernel
def w_s_fault10 : List Cond := .code yX10_fault cX10_fault 2 (some .int) :: ([.fieldLink RX10 117 "NotEndedModel" "thrown" "I", .initialized RX10, .static yX10_isIn, .methodLink RX10 236 yX10_isIn, .fieldLink RX10 9 "NotEndedModel" "tape" "[B", .fieldLink RX10 131 "NotEndedModel" "length" "I", .selects RX10 yX10_goThrough yX10_goThrough, .instanceMethod yX10_goThrough, .methodLink RX10 240 yX10_goThrough, .fieldLink RX10 150 "NotEndedModel" "fault" "I"] ++ (wsX100 ++ (w_s_isIn10 ++ (w_s_go10_0 ++ (w_s_go10_1)))))
theorem gw_s_fault10 : (w_s_fault10).all goodWord = true := kGc rfl (kGa (by decide +kernel) (kGa gw_wsX100 (kGa gw_s_isIn10 (kGa gw_s_go10_0 gw_s_go10_1))))
theorem hd_X10_fault : yX10_fault.cls ≠ "java/lang/invoke/MethodHandle" ∧ yX10_fault.cls ≠ "java/lang/invoke/VarHandle" ∧ (parseMethodDescriptor yX10_fault.desc).map (fun d => d.parameters.length) = some 1 := by decide +kernel
set_option maxHeartbeats 4000000 in
set_option maxRecDepth 100000 in
theorem s_fault10 (l : Launch) (dC : Nat → ClassId) (dI : Nat → Nat → Nat) (jM : Nat) (th : Int32) (thr : Int32) (xx : Int64) (v5 : Value) (v9 : Value) (v10 : Value) (v11 : Value) (v12 : Value) (v13 : Value) (v14 : Value) (v15 : Value) (v16 : Value) (v17 : Value) (v18 : Value) (m1 : Nat) (m2 : Nat) (m3 : Nat) (m4 : Nat) (m19 : Nat) (m20 : Nat) (m21 : Nat) (m22 : Nat) (m23 : Nat) (m24 : Nat) (m25 : Nat) (m28 : Nat) (m29 : Nat) (m30 : Nat) (m31 : Nat) (m32 : Nat) (m33 : Nat) (m34 : Nat) (m35 : Nat) (m36 : Nat) (m40 : Nat) (m41 : Nat) (m42 : Nat) (m43 : Nat) (m44 : Nat) (m46 : Nat) (m47 : Nat) (m48 : Nat) (m49 : Nat) (m50 : Nat) (mc1 : ClassId) (mc2 : ClassId) (mc3 : ClassId) (mc4 : ClassId) (mc19 : ClassId) (mc20 : ClassId) (mc21 : ClassId) (mc22 : ClassId) (mc23 : ClassId) (mc24 : ClassId) (mc25 : ClassId) (mc28 : ClassId) (mc29 : ClassId) (mc30 : ClassId) (mc31 : ClassId) (mc32 : ClassId) (mc33 : ClassId) (mc34 : ClassId) (mc35 : ClassId) (mc36 : ClassId) (mc40 : ClassId) (mc41 : ClassId) (mc42 : ClassId) (mc43 : ClassId) (mc44 : ClassId) (mc46 : ClassId) (mc47 : ClassId) (mc48 : ClassId) (mc49 : ClassId) (mc50 : ClassId) (mf1 : Nat → Int32) (mf2 : Nat → Int32) (mf3 : Nat → Int32) (mf4 : Nat → Int32) (mf19 : Nat → Int32) (mf20 : Nat → Int32) (mf21 : Nat → Int32) (mf22 : Nat → Int32) (mf23 : Nat → Int32) (mf24 : Nat → Int32) (mf25 : Nat → Int32) (mf28 : Nat → Int32) (mf29 : Nat → Int32) (mf30 : Nat → Int32) (mf31 : Nat → Int32) (mf32 : Nat → Int32) (mf33 : Nat → Int32) (mf34 : Nat → Int32) (mf35 : Nat → Int32) (mf36 : Nat → Int32) (mf40 : Nat → Int32) (mf41 : Nat → Int32) (mf42 : Nat → Int32) (mf43 : Nat → Int32) (mf44 : Nat → Int32) (mf46 : Nat → Int64) (mf47 : Nat → Int32) (mf48 : Nat → Int32) (mf49 : Nat → Int32) (mf50 : Nat → Int32) (ml : Nat) (mkl : Nat) (mku : Nat) (mps : Nat) (mkw : Nat) (ho : Nat) (mkn : Nat) (mka : Nat) (hml : ml ≤ 120) (hmkl : mkl ≤ 6) (hmku : mku ≤ 8) (hmps : mps ≤ 10) (hmkw : mkw ≤ 4) (hho : ho ≤ 48) (hmkn : mkn ≤ 20) (hmka : mka ≤ 6) (hTl : ∀ j : Nat, ∃ v : Nat, v ≤ 120 ∧ mf3 j = nI v) (ad : Nat → Nat) (bA : Nat) (nA : Nat) (xA : Nat → Int32) (hnA : nA ≤ 8) (bB : Nat) (nB : Nat) (xB : Nat → Int32) (hnB : nB ≤ 8) (bE : Nat) (nE : Nat) (xE : Nat → Int32) (hnE : nE ≤ 8) (bG : Nat) (nG : Nat) (xG : Nat → Int32) (hnG : nG ≤ 8) (gnA : ∀ k : Nat, ∃ v : Nat, v < 128 ∧ xA k = nI v) (gnB : ∀ k : Nat, ∃ v : Nat, v < 128 ∧ xB k = nI v) (gnE : ∀ k : Nat, ∃ v : Nat, v < 128 ∧ xE k = nI v) (gnG : ∀ k : Nat, ∃ v : Nat, v < 128 ∧ xG k = nI v) (p0 : Int32) (sz : Nat) : Met l yX10_fault w_s_fault10 ({ frames := 60, cells := 0, slots := 0, locals := 3600 }) (kW dC dI [.ref jM, .int p0] [(jM, .inr (10, [.int th, .ref m1, .ref m2, .ref m3, .ref m4, v5, .int (nI (ml)), .int (nI (mkl)), .int (nI (mku)), v9, v10, v11, v12, v13, v14, v15, v16, v17, v18, .ref m19, .ref m20, .ref m21, .ref m22, .ref m23, .ref m24, .ref m25, .int (nI (mps)), .int (nI (mkw)), .ref m28, .ref m29, .ref m30, .ref m31, .ref m32, .ref m33, .ref m34, .ref m35, .ref m36, .int thr, .int (nI (ho)), .long xx, .ref m40, .ref m41, .ref m42, .ref m43, .ref m44, .int (nI (mkn)), .ref m46, .ref m47, .ref m48, .ref m49, .ref m50, .int (nI (mka))])), (m1, .inl (mc1, 120, .inl mf1)), (m2, .inl (mc2, 1680, .inl mf2)), (m3, .inl (mc3, 14, .inl mf3)), (m4, .inl (mc4, 128, .inl mf4)), (m19, .inl (mc19, 10, .inl mf19)), (m20, .inl (mc20, 10, .inl mf20)), (m21, .inl (mc21, 10, .inl mf21)), (m22, .inl (mc22, 10, .inl mf22)), (m23, .inl (mc23, 10, .inl mf23)), (m24, .inl (mc24, 4, .inl mf24)), (m25, .inl (mc25, 10, .inl mf25)), (m28, .inl (mc28, 10, .inl mf28)), (m29, .inl (mc29, 10, .inl mf29)), (m30, .inl (mc30, 10, .inl mf30)), (m31, .inl (mc31, 10, .inl mf31)), (m32, .inl (mc32, 10, .inl mf32)), (m33, .inl (mc33, 10, .inl mf33)), (m34, .inl (mc34, 10, .inl mf34)), (m35, .inl (mc35, 10, .inl mf35)), (m36, .inl (mc36, 10, .inl mf36)), (m40, .inl (mc40, 20, .inl mf40)), (m41, .inl (mc41, 20, .inl mf41)), (m42, .inl (mc42, 20, .inl mf42)), (m43, .inl (mc43, 20, .inl mf43)), (m44, .inl (mc44, 20, .inl mf44)), (m46, .inl (mc46, 14, .inr (.inl mf46))), (m47, .inl (mc47, 6, .inl mf47)), (m48, .inl (mc48, 6, .inl mf48)), (m49, .inl (mc49, 6, .inl mf49)), (m50, .inl (mc50, 6, .inl mf50))] [(mc1, .byte), (mc2, .byte), (mc3, .int), (mc4, .int), (mc19, .int), (mc20, .int), (mc21, .int), (mc22, .int), (mc23, .int), (mc24, .int), (mc25, .boolean), (mc28, .int), (mc29, .int), (mc30, .int), (mc31, .int), (mc32, .int), (mc33, .int), (mc34, .int), (mc35, .int), (mc36, .int), (mc40, .int), (mc41, .int), (mc42, .int), (mc43, .int), (mc44, .int), (mc46, .long), (mc47, .int), (mc48, .int), (mc49, .int), (mc50, .int)] (kMx ad bA nA xA bB nB xB bE nE xE bG nG xG (va_A [(jM, .inr (10, [.int th, .ref m1, .ref m2, .ref m3, .ref m4, v5, .int (nI (ml)), .int (nI (mkl)), .int (nI (mku)), v9, v10, v11, v12, v13, v14, v15, v16, v17, v18, .ref m19, .ref m20, .ref m21, .ref m22, .ref m23, .ref m24, .ref m25, .int (nI (mps)), .int (nI (mkw)), .ref m28, .ref m29, .ref m30, .ref m31, .ref m32, .ref m33, .ref m34, .ref m35, .ref m36, .int thr, .int (nI (ho)), .long xx, .ref m40, .ref m41, .ref m42, .ref m43, .ref m44, .int (nI (mkn)), .ref m46, .ref m47, .ref m48, .ref m49, .ref m50, .int (nI (mka))])), (m1, .inl (mc1, 120, .inl mf1)), (m2, .inl (mc2, 1680, .inl mf2)), (m3, .inl (mc3, 14, .inl mf3)), (m4, .inl (mc4, 128, .inl mf4)), (m19, .inl (mc19, 10, .inl mf19)), (m20, .inl (mc20, 10, .inl mf20)), (m21, .inl (mc21, 10, .inl mf21)), (m22, .inl (mc22, 10, .inl mf22)), (m23, .inl (mc23, 10, .inl mf23)), (m24, .inl (mc24, 4, .inl mf24)), (m25, .inl (mc25, 10, .inl mf25)), (m28, .inl (mc28, 10, .inl mf28)), (m29, .inl (mc29, 10, .inl mf29)), (m30, .inl (mc30, 10, .inl mf30)), (m31, .inl (mc31, 10, .inl mf31)), (m32, .inl (mc32, 10, .inl mf32)), (m33, .inl (mc33, 10, .inl mf33)), (m34, .inl (mc34, 10, .inl mf34)), (m35, .inl (mc35, 10, .inl mf35)), (m36, .inl (mc36, 10, .inl mf36)), (m40, .inl (mc40, 20, .inl mf40)), (m41, .inl (mc41, 20, .inl mf41)), (m42, .inl (mc42, 20, .inl mf42)), (m43, .inl (mc43, 20, .inl mf43)), (m44, .inl (mc44, 20, .inl mf44)), (m46, .inl (mc46, 14, .inr (.inl mf46))), (m47, .inl (mc47, 6, .inl mf47)), (m48, .inl (mc48, 6, .inl mf48)), (m49, .inl (mc49, 6, .inl mf49)), (m50, .inl (mc50, 6, .inl mf50))] sz)) sz) (va_Qi (fun (r : Int32) (u : Int32 × Value × Value × Value × Value × Value × Value × Value × Value × Value × Value × Value) => match u with | (Th0, W5, W9, W10, W11, W12, W13, W14, W15, W16, W17, W18) => True) (fun (u : Int32 × Value × Value × Value × Value × Value × Value × Value × Value × Value × Value × Value) => match u with | (Th0, W5, W9, W10, W11, W12, W13, W14, W15, W16, W17, W18) => fun t : State => kB dC dI [(jM, .inr (10, [.int Th0, .ref m1, .ref m2, .ref m3, .ref m4, W5, .int (nI (ml)), .int (nI (mkl)), .int (nI (mku)), W9, W10, W11, W12, W13, W14, W15, W16, W17, W18, .ref m19, .ref m20, .ref m21, .ref m22, .ref m23, .ref m24, .ref m25, .int (nI (mps)), .int (nI (mkw)), .ref m28, .ref m29, .ref m30, .ref m31, .ref m32, .ref m33, .ref m34, .ref m35, .ref m36, .int thr, .int (nI (ho)), .long xx, .ref m40, .ref m41, .ref m42, .ref m43, .ref m44, .int (nI (mkn)), .ref m46, .ref m47, .ref m48, .ref m49, .ref m50, .int (nI (mka))])), (m1, .inl (mc1, 120, .inl mf1)), (m2, .inl (mc2, 1680, .inl mf2)), (m3, .inl (mc3, 14, .inl mf3)), (m4, .inl (mc4, 128, .inl mf4)), (m19, .inl (mc19, 10, .inl mf19)), (m20, .inl (mc20, 10, .inl mf20)), (m21, .inl (mc21, 10, .inl mf21)), (m22, .inl (mc22, 10, .inl mf22)), (m23, .inl (mc23, 10, .inl mf23)), (m24, .inl (mc24, 4, .inl mf24)), (m25, .inl (mc25, 10, .inl mf25)), (m28, .inl (mc28, 10, .inl mf28)), (m29, .inl (mc29, 10, .inl mf29)), (m30, .inl (mc30, 10, .inl mf30)), (m31, .inl (mc31, 10, .inl mf31)), (m32, .inl (mc32, 10, .inl mf32)), (m33, .inl (mc33, 10, .inl mf33)), (m34, .inl (mc34, 10, .inl mf34)), (m35, .inl (mc35, 10, .inl mf35)), (m36, .inl (mc36, 10, .inl mf36)), (m40, .inl (mc40, 20, .inl mf40)), (m41, .inl (mc41, 20, .inl mf41)), (m42, .inl (mc42, 20, .inl mf42)), (m43, .inl (mc43, 20, .inl mf43)), (m44, .inl (mc44, 20, .inl mf44)), (m46, .inl (mc46, 14, .inr (.inl mf46))), (m47, .inl (mc47, 6, .inl mf47)), (m48, .inl (mc48, 6, .inl mf48)), (m49, .inl (mc49, 6, .inl mf49)), (m50, .inl (mc50, 6, .inl mf50))] [(mc1, .byte), (mc2, .byte), (mc3, .int), (mc4, .int), (mc19, .int), (mc20, .int), (mc21, .int), (mc22, .int), (mc23, .int), (mc24, .int), (mc25, .boolean), (mc28, .int), (mc29, .int), (mc30, .int), (mc31, .int), (mc32, .int), (mc33, .int), (mc34, .int), (mc35, .int), (mc36, .int), (mc40, .int), (mc41, .int), (mc42, .int), (mc43, .int), (mc44, .int), (mc46, .long), (mc47, .int), (mc48, .int), (mc49, .int), (mc50, .int)] (va_A [(jM, .inr (10, [.int th, .ref m1, .ref m2, .ref m3, .ref m4, v5, .int (nI (ml)), .int (nI (mkl)), .int (nI (mku)), v9, v10, v11, v12, v13, v14, v15, v16, v17, v18, .ref m19, .ref m20, .ref m21, .ref m22, .ref m23, .ref m24, .ref m25, .int (nI (mps)), .int (nI (mkw)), .ref m28, .ref m29, .ref m30, .ref m31, .ref m32, .ref m33, .ref m34, .ref m35, .ref m36, .int thr, .int (nI (ho)), .long xx, .ref m40, .ref m41, .ref m42, .ref m43, .ref m44, .int (nI (mkn)), .ref m46, .ref m47, .ref m48, .ref m49, .ref m50, .int (nI (mka))])), (m1, .inl (mc1, 120, .inl mf1)), (m2, .inl (mc2, 1680, .inl mf2)), (m3, .inl (mc3, 14, .inl mf3)), (m4, .inl (mc4, 128, .inl mf4)), (m19, .inl (mc19, 10, .inl mf19)), (m20, .inl (mc20, 10, .inl mf20)), (m21, .inl (mc21, 10, .inl mf21)), (m22, .inl (mc22, 10, .inl mf22)), (m23, .inl (mc23, 10, .inl mf23)), (m24, .inl (mc24, 4, .inl mf24)), (m25, .inl (mc25, 10, .inl mf25)), (m28, .inl (mc28, 10, .inl mf28)), (m29, .inl (mc29, 10, .inl mf29)), (m30, .inl (mc30, 10, .inl mf30)), (m31, .inl (mc31, 10, .inl mf31)), (m32, .inl (mc32, 10, .inl mf32)), (m33, .inl (mc33, 10, .inl mf33)), (m34, .inl (mc34, 10, .inl mf34)), (m35, .inl (mc35, 10, .inl mf35)), (m36, .inl (mc36, 10, .inl mf36)), (m40, .inl (mc40, 20, .inl mf40)), (m41, .inl (mc41, 20, .inl mf41)), (m42, .inl (mc42, 20, .inl mf42)), (m43, .inl (mc43, 20, .inl mf43)), (m44, .inl (mc44, 20, .inl mf44)), (m46, .inl (mc46, 14, .inr (.inl mf46))), (m47, .inl (mc47, 6, .inl mf47)), (m48, .inl (mc48, 6, .inl mf48)), (m49, .inl (mc49, 6, .inl mf49)), (m50, .inl (mc50, 6, .inl mf50))] sz) t) (va_A [(jM, .inr (10, [.int th, .ref m1, .ref m2, .ref m3, .ref m4, v5, .int (nI (ml)), .int (nI (mkl)), .int (nI (mku)), v9, v10, v11, v12, v13, v14, v15, v16, v17, v18, .ref m19, .ref m20, .ref m21, .ref m22, .ref m23, .ref m24, .ref m25, .int (nI (mps)), .int (nI (mkw)), .ref m28, .ref m29, .ref m30, .ref m31, .ref m32, .ref m33, .ref m34, .ref m35, .ref m36, .int thr, .int (nI (ho)), .long xx, .ref m40, .ref m41, .ref m42, .ref m43, .ref m44, .int (nI (mkn)), .ref m46, .ref m47, .ref m48, .ref m49, .ref m50, .int (nI (mka))])), (m1, .inl (mc1, 120, .inl mf1)), (m2, .inl (mc2, 1680, .inl mf2)), (m3, .inl (mc3, 14, .inl mf3)), (m4, .inl (mc4, 128, .inl mf4)), (m19, .inl (mc19, 10, .inl mf19)), (m20, .inl (mc20, 10, .inl mf20)), (m21, .inl (mc21, 10, .inl mf21)), (m22, .inl (mc22, 10, .inl mf22)), (m23, .inl (mc23, 10, .inl mf23)), (m24, .inl (mc24, 4, .inl mf24)), (m25, .inl (mc25, 10, .inl mf25)), (m28, .inl (mc28, 10, .inl mf28)), (m29, .inl (mc29, 10, .inl mf29)), (m30, .inl (mc30, 10, .inl mf30)), (m31, .inl (mc31, 10, .inl mf31)), (m32, .inl (mc32, 10, .inl mf32)), (m33, .inl (mc33, 10, .inl mf33)), (m34, .inl (mc34, 10, .inl mf34)), (m35, .inl (mc35, 10, .inl mf35)), (m36, .inl (mc36, 10, .inl mf36)), (m40, .inl (mc40, 20, .inl mf40)), (m41, .inl (mc41, 20, .inl mf41)), (m42, .inl (mc42, 20, .inl mf42)), (m43, .inl (mc43, 20, .inl mf43)), (m44, .inl (mc44, 20, .inl mf44)), (m46, .inl (mc46, 14, .inr (.inl mf46))), (m47, .inl (mc47, 6, .inl mf47)), (m48, .inl (mc48, 6, .inl mf48)), (m49, .inl (mc49, 6, .inl mf49)), (m50, .inl (mc50, 6, .inl mf50))] sz)) 0 0 (va_A [(jM, .inr (10, [.int th, .ref m1, .ref m2, .ref m3, .ref m4, v5, .int (nI (ml)), .int (nI (mkl)), .int (nI (mku)), v9, v10, v11, v12, v13, v14, v15, v16, v17, v18, .ref m19, .ref m20, .ref m21, .ref m22, .ref m23, .ref m24, .ref m25, .int (nI (mps)), .int (nI (mkw)), .ref m28, .ref m29, .ref m30, .ref m31, .ref m32, .ref m33, .ref m34, .ref m35, .ref m36, .int thr, .int (nI (ho)), .long xx, .ref m40, .ref m41, .ref m42, .ref m43, .ref m44, .int (nI (mkn)), .ref m46, .ref m47, .ref m48, .ref m49, .ref m50, .int (nI (mka))])), (m1, .inl (mc1, 120, .inl mf1)), (m2, .inl (mc2, 1680, .inl mf2)), (m3, .inl (mc3, 14, .inl mf3)), (m4, .inl (mc4, 128, .inl mf4)), (m19, .inl (mc19, 10, .inl mf19)), (m20, .inl (mc20, 10, .inl mf20)), (m21, .inl (mc21, 10, .inl mf21)), (m22, .inl (mc22, 10, .inl mf22)), (m23, .inl (mc23, 10, .inl mf23)), (m24, .inl (mc24, 4, .inl mf24)), (m25, .inl (mc25, 10, .inl mf25)), (m28, .inl (mc28, 10, .inl mf28)), (m29, .inl (mc29, 10, .inl mf29)), (m30, .inl (mc30, 10, .inl mf30)), (m31, .inl (mc31, 10, .inl mf31)), (m32, .inl (mc32, 10, .inl mf32)), (m33, .inl (mc33, 10, .inl mf33)), (m34, .inl (mc34, 10, .inl mf34)), (m35, .inl (mc35, 10, .inl mf35)), (m36, .inl (mc36, 10, .inl mf36)), (m40, .inl (mc40, 20, .inl mf40)), (m41, .inl (mc41, 20, .inl mf41)), (m42, .inl (mc42, 20, .inl mf42)), (m43, .inl (mc43, 20, .inl mf43)), (m44, .inl (mc44, 20, .inl mf44)), (m46, .inl (mc46, 14, .inr (.inl mf46))), (m47, .inl (mc47, 6, .inl mf47)), (m48, .inl (mc48, 6, .inl mf48)), (m49, .inl (mc49, 6, .inl mf49)), (m50, .inl (mc50, 6, .inl mf50))] sz) := by
  refine Met.ofW (cc := cX10_fault) (maxL := 2) (ret := (some .int)) (by decide) rfl ?_
  intro p e s m args below meth c s₁ B hml hv
  obtain ⟨rfl, hsz, hP, hK, hD0, hX⟩ := hv
  have hx := B.exec
  have hb := B.bytes
  have hr := B.returns
  have hts := atoms_spec (ws := w_s_fault10) B.pre
  have hown : s.vm.findClass RX10 = some m.cls := findClass_of_methodNamed B.named
  have hlocks := B.notSynchronized
  subst hsz
  have hD := hD0.self (sz := s.heap.size)
  generalize hAe : va_A [(jM, .inr (10, [.int th, .ref m1, .ref m2, .ref m3, .ref m4, v5, .int (nI (ml)), .int (nI (mkl)), .int (nI (mku)), v9, v10, v11, v12, v13, v14, v15, v16, v17, v18, .ref m19, .ref m20, .ref m21, .ref m22, .ref m23, .ref m24, .ref m25, .int (nI (mps)), .int (nI (mkw)), .ref m28, .ref m29, .ref m30, .ref m31, .ref m32, .ref m33, .ref m34, .ref m35, .ref m36, .int thr, .int (nI (ho)), .long xx, .ref m40, .ref m41, .ref m42, .ref m43, .ref m44, .int (nI (mkn)), .ref m46, .ref m47, .ref m48, .ref m49, .ref m50, .int (nI (mka))])), (m1, .inl (mc1, 120, .inl mf1)), (m2, .inl (mc2, 1680, .inl mf2)), (m3, .inl (mc3, 14, .inl mf3)), (m4, .inl (mc4, 128, .inl mf4)), (m19, .inl (mc19, 10, .inl mf19)), (m20, .inl (mc20, 10, .inl mf20)), (m21, .inl (mc21, 10, .inl mf21)), (m22, .inl (mc22, 10, .inl mf22)), (m23, .inl (mc23, 10, .inl mf23)), (m24, .inl (mc24, 4, .inl mf24)), (m25, .inl (mc25, 10, .inl mf25)), (m28, .inl (mc28, 10, .inl mf28)), (m29, .inl (mc29, 10, .inl mf29)), (m30, .inl (mc30, 10, .inl mf30)), (m31, .inl (mc31, 10, .inl mf31)), (m32, .inl (mc32, 10, .inl mf32)), (m33, .inl (mc33, 10, .inl mf33)), (m34, .inl (mc34, 10, .inl mf34)), (m35, .inl (mc35, 10, .inl mf35)), (m36, .inl (mc36, 10, .inl mf36)), (m40, .inl (mc40, 20, .inl mf40)), (m41, .inl (mc41, 20, .inl mf41)), (m42, .inl (mc42, 20, .inl mf42)), (m43, .inl (mc43, 20, .inl mf43)), (m44, .inl (mc44, 20, .inl mf44)), (m46, .inl (mc46, 14, .inr (.inl mf46))), (m47, .inl (mc47, 6, .inl mf47)), (m48, .inl (mc48, 6, .inl mf48)), (m49, .inl (mc49, 6, .inl mf49)), (m50, .inl (mc50, 6, .inl mf50))] s.heap.size = A at hD hX ⊢
  have hA : ∀ q : Nat, s.heap.size ≤ q → A q := fun q h => by rw [← hAe]; exact Or.inr h
  have hS : va_S A s.heap s.heap [] := va_S.rf
  have hP : va_P (dC, dI) vwCl [(jM, .inr (10, [.int th, .ref m1, .ref m2, .ref m3, .ref m4, v5, .int (nI (ml)), .int (nI (mkl)), .int (nI (mku)), v9, v10, v11, v12, v13, v14, v15, v16, v17, v18, .ref m19, .ref m20, .ref m21, .ref m22, .ref m23, .ref m24, .ref m25, .int (nI (mps)), .int (nI (mkw)), .ref m28, .ref m29, .ref m30, .ref m31, .ref m32, .ref m33, .ref m34, .ref m35, .ref m36, .int thr, .int (nI (ho)), .long xx, .ref m40, .ref m41, .ref m42, .ref m43, .ref m44, .int (nI (mkn)), .ref m46, .ref m47, .ref m48, .ref m49, .ref m50, .int (nI (mka))])), (m1, .inl (mc1, 120, .inl mf1)), (m2, .inl (mc2, 1680, .inl mf2)), (m3, .inl (mc3, 14, .inl mf3)), (m4, .inl (mc4, 128, .inl mf4)), (m19, .inl (mc19, 10, .inl mf19)), (m20, .inl (mc20, 10, .inl mf20)), (m21, .inl (mc21, 10, .inl mf21)), (m22, .inl (mc22, 10, .inl mf22)), (m23, .inl (mc23, 10, .inl mf23)), (m24, .inl (mc24, 4, .inl mf24)), (m25, .inl (mc25, 10, .inl mf25)), (m28, .inl (mc28, 10, .inl mf28)), (m29, .inl (mc29, 10, .inl mf29)), (m30, .inl (mc30, 10, .inl mf30)), (m31, .inl (mc31, 10, .inl mf31)), (m32, .inl (mc32, 10, .inl mf32)), (m33, .inl (mc33, 10, .inl mf33)), (m34, .inl (mc34, 10, .inl mf34)), (m35, .inl (mc35, 10, .inl mf35)), (m36, .inl (mc36, 10, .inl mf36)), (m40, .inl (mc40, 20, .inl mf40)), (m41, .inl (mc41, 20, .inl mf41)), (m42, .inl (mc42, 20, .inl mf42)), (m43, .inl (mc43, 20, .inl mf43)), (m44, .inl (mc44, 20, .inl mf44)), (m46, .inl (mc46, 14, .inr (.inl mf46))), (m47, .inl (mc47, 6, .inl mf47)), (m48, .inl (mc48, 6, .inl mf48)), (m49, .inl (mc49, 6, .inl mf49)), (m50, .inl (mc50, 6, .inl mf50))] s.heap := hP
  have hl := lv_entry ([.ref jM, .int p0]) (n := 2) (Nat.le_of_ble_eq_true rfl)
  rw [lg_entry_eq]
  generalize (lg_sl ([.ref jM, .int p0]) ++ List.replicate (2 - (lg_sl ([.ref jM, .int p0])).length) Slot.unset).toArray = ls at hl ⊢
  have hl : lv_has ls 2 [(0, .ref jM), (1, .int p0)] := hl
  refine kQ (fun Q hQ => ?_)
  refine lv_aload_n hx hb dX10_fault_0 rfl (lv_at hl 0 rfl) ?_
  refine lv_iconst (v := 0) hx hb dX10_fault_1 kc_i_0 ?_
  refine va_put (D := (dC, dI)) (ci := 10) (v := .int 0) (ty := tyX10 0) (C := RX10) (T := TX10) (N := 52) hx hb hts (fun _ h => List.mem_cons_of_mem _ (List.mem_append_right _ (List.mem_append_left _ h))) tyX10 tyX10_ok nmX10 hown hK hP hD hS 0 rfl rfl 0 kc_l_0_52 (hts (.fieldLink RX10 117 "NotEndedModel" "thrown" "I") (List.mem_cons_of_mem _ (List.mem_append_left _ (List.mem_of_getElem? (i := 0) rfl)))) (fun _ h9 => h9) rfl (tyX10_ok 0 kc_l_0_52) rfl rfl (Nat.le_of_ble_eq_true rfl) dX10_fault_2 (fun H locs hP hD hS => ?_)
  have hPD : kPD dC dI A [(jM, .inr (10, [.int 0, .ref m1, .ref m2, .ref m3, .ref m4, v5, .int (nI (ml)), .int (nI (mkl)), .int (nI (mku)), v9, v10, v11, v12, v13, v14, v15, v16, v17, v18, .ref m19, .ref m20, .ref m21, .ref m22, .ref m23, .ref m24, .ref m25, .int (nI (mps)), .int (nI (mkw)), .ref m28, .ref m29, .ref m30, .ref m31, .ref m32, .ref m33, .ref m34, .ref m35, .ref m36, .int thr, .int (nI (ho)), .long xx, .ref m40, .ref m41, .ref m42, .ref m43, .ref m44, .int (nI (mkn)), .ref m46, .ref m47, .ref m48, .ref m49, .ref m50, .int (nI (mka))])), (m1, .inl (mc1, 120, .inl mf1)), (m2, .inl (mc2, 1680, .inl mf2)), (m3, .inl (mc3, 14, .inl mf3)), (m4, .inl (mc4, 128, .inl mf4)), (m19, .inl (mc19, 10, .inl mf19)), (m20, .inl (mc20, 10, .inl mf20)), (m21, .inl (mc21, 10, .inl mf21)), (m22, .inl (mc22, 10, .inl mf22)), (m23, .inl (mc23, 10, .inl mf23)), (m24, .inl (mc24, 4, .inl mf24)), (m25, .inl (mc25, 10, .inl mf25)), (m28, .inl (mc28, 10, .inl mf28)), (m29, .inl (mc29, 10, .inl mf29)), (m30, .inl (mc30, 10, .inl mf30)), (m31, .inl (mc31, 10, .inl mf31)), (m32, .inl (mc32, 10, .inl mf32)), (m33, .inl (mc33, 10, .inl mf33)), (m34, .inl (mc34, 10, .inl mf34)), (m35, .inl (mc35, 10, .inl mf35)), (m36, .inl (mc36, 10, .inl mf36)), (m40, .inl (mc40, 20, .inl mf40)), (m41, .inl (mc41, 20, .inl mf41)), (m42, .inl (mc42, 20, .inl mf42)), (m43, .inl (mc43, 20, .inl mf43)), (m44, .inl (mc44, 20, .inl mf44)), (m46, .inl (mc46, 14, .inr (.inl mf46))), (m47, .inl (mc47, 6, .inl mf47)), (m48, .inl (mc48, 6, .inl mf48)), (m49, .inl (mc49, 6, .inl mf49)), (m50, .inl (mc50, 6, .inl mf50))] H := ⟨hP, hD⟩
  obtain ⟨hP, hD⟩ := hPD
  refine lv_iload_n hx hb dX10_fault_5 rfl (lv_at hl 1 rfl) ?_
  refine lv_iconst (v := 0) hx hb dX10_fault_6 kc_i_0 ?_
  refine lv_iconst (v := 1) hx hb dX10_fault_7 kc_i_1 ?_
  have hPc := hP.sb (ws2 := []) [] rfl
  have hKc := hK.sb (tys2 := []) [] rfl
  refine vp_callSi (va_runS (As := [.int p0, .int 0, .int 1]) (rest := []) ⟨hx, hb, hml, hown, hts⟩ (s_isIn10 l dC dI p0 0 1) (va_cwS 3 hts (kG (List.forall_mem_cons.mpr ⟨(List.mem_cons_of_mem _ (List.mem_append_left _ (List.mem_of_getElem? (i := 3) rfl))), (List.forall_mem_cons.mpr ⟨(List.mem_cons_of_mem _ (List.mem_append_left _ (List.mem_of_getElem? (i := 2) rfl))), (List.forall_mem_cons.mpr ⟨(List.mem_cons_of_mem _ (List.mem_append_left _ (List.mem_of_getElem? (i := 1) rfl))), (fun _ h => absurd h List.not_mem_nil)⟩)⟩)⟩) (kGS _ _ _) (fun _ h => List.mem_cons_of_mem _ (List.mem_append_right _ (List.mem_append_right _ (List.mem_append_left _ h)))) gw_s_isIn10) rfl rfl rfl hd_X10_isIn ⟨(Nat.le_of_ble_eq_true rfl), (Nat.le_of_ble_eq_true rfl)⟩) (kR_S kT_blind kT_give hPc hKc) rfl rfl hl.1 rfl (lv_room (Nat.le_of_ble_eq_true rfl)) dX10_fault_8 ⟨(Nat.le_of_ble_eq_true rfl), (Nat.le_of_ble_eq_true rfl)⟩).run (fun r_1 hw => ?_)
  have hw_2 := hw
  refine lv_if_ne (tgt := 17) hx hb dX10_fault_11 kc_t_11_6 (fun c_3 => ?_) (fun c_3 => ?_)
  · rcases kIn_or (fun z => c_3 (hw_2.trans z)) with rfl | rfl
    · refine lv_aload_n hx hb dX10_fault_17 rfl (lv_at hl 0 rfl) ?_
      refine lv_aload_n hx hb dX10_fault_18 rfl (lv_at hl 0 rfl) ?_
      refine va_get (D := (dC, dI)) (ci := 10) (v := .ref m1) (C := RX10) (T := TX10) (N := 52) hx hb hts (fun _ h => List.mem_cons_of_mem _ (List.mem_append_right _ (List.mem_append_left _ h))) hown hK hP 0 rfl rfl 1 kc_l_1_52 (hts (.fieldLink RX10 9 "NotEndedModel" "tape" "[B") (List.mem_cons_of_mem _ (List.mem_append_left _ (List.mem_of_getElem? (i := 4) rfl)))) (fun _ h9 => h9) rfl dX10_fault_19 ?_
      refine lv_iconst (v := 0) hx hb dX10_fault_22 kc_i_0 ?_
      refine lv_aload_n hx hb dX10_fault_23 rfl (lv_at hl 0 rfl) ?_
      refine va_get (D := (dC, dI)) (ci := 10) (v := .int (nI (ml))) (C := RX10) (T := TX10) (N := 52) hx hb hts (fun _ h => List.mem_cons_of_mem _ (List.mem_append_right _ (List.mem_append_left _ h))) hown hK hP 0 rfl rfl 6 kc_l_6_52 (hts (.fieldLink RX10 131 "NotEndedModel" "length" "I") (List.mem_cons_of_mem _ (List.mem_append_left _ (List.mem_of_getElem? (i := 5) rfl)))) (fun _ h9 => h9) rfl dX10_fault_24 ?_
      refine lv_iload_n hx hb dX10_fault_27 rfl (lv_at hl 1 rfl) ?_
      refine lv_iconst (v := 1) hx hb dX10_fault_28 kc_i_1 ?_
      refine lv_icmp_ne (tgt := 36) hx hb dX10_fault_29 kc_t_29_7 (fun c_4 => ?_) (fun c_4 => absurd c_4 (by decide))
      refine lv_iconst (v := 0) hx hb dX10_fault_36 kc_i_0 ?_
      refine lv_iconst (v := 0) hx hb dX10_fault_37 kc_i_0 ?_
      have bd_5 : 0 + ml ≤ 120 := by omega
      have hCu := kCut (wc := [(jM, .inr (10, [.int 0, .ref m1, .ref m2, .ref m3, .ref m4, v5, .int (nI (ml)), .int (nI (mkl)), .int (nI (mku)), v9, v10, v11, v12, v13, v14, v15, v16, v17, v18, .ref m19, .ref m20, .ref m21, .ref m22, .ref m23, .ref m24, .ref m25, .int (nI (mps)), .int (nI (mkw)), .ref m28, .ref m29, .ref m30, .ref m31, .ref m32, .ref m33, .ref m34, .ref m35, .ref m36, .int thr, .int (nI (ho)), .long xx, .ref m40, .ref m41, .ref m42, .ref m43, .ref m44, .int (nI (mkn)), .ref m46, .ref m47, .ref m48, .ref m49, .ref m50, .int (nI (mka))])), (m1, .inl (mc1, 120, .inl mf1)), (m4, .inl (mc4, 128, .inl mf4))]) hP hD hS hA [0, 1, 4] rfl kc_nd_948 rfl
      have hPc := hCu.1
      have hDc := hCu.2.1
      have hFc := hCu.2.2
      have hKc := hK.sb (tys2 := [(mc1, .byte), (mc4, .int)]) [0, 3] rfl
      refine va_callv (va_runV (As := [.ref m1, .int 0, .int (nI (ml)), .int 0, .int 0]) (rest := []) ⟨hx, hb, hml, hown, hts⟩ (s_go10_0 l dC dI ad jM (.int 0 : Value) (.ref m1 : Value) (.ref m2 : Value) (.ref m3 : Value) (v5 : Value) (.int (nI (ml)) : Value) (.int (nI (mkl)) : Value) (.int (nI (mku)) : Value) (v9 : Value) (v10 : Value) (v11 : Value) (v12 : Value) (v13 : Value) (v14 : Value) (v15 : Value) (v16 : Value) (v17 : Value) (v18 : Value) (.ref m19 : Value) (.ref m20 : Value) (.ref m21 : Value) (.ref m22 : Value) (.ref m23 : Value) (.ref m24 : Value) (.ref m25 : Value) (.int (nI (mps)) : Value) (.int (nI (mkw)) : Value) (.ref m28 : Value) (.ref m29 : Value) (.ref m30 : Value) (.ref m31 : Value) (.ref m32 : Value) (.ref m33 : Value) (.ref m34 : Value) (.ref m35 : Value) (.ref m36 : Value) (.int thr : Value) (.int (nI (ho)) : Value) (.long xx : Value) (.ref m40 : Value) (.ref m41 : Value) (.ref m42 : Value) (.ref m43 : Value) (.ref m44 : Value) (.int (nI (mkn)) : Value) (.ref m46 : Value) (.ref m47 : Value) (.ref m48 : Value) (.ref m49 : Value) (.ref m50 : Value) (.int (nI (mka)) : Value) m4 m1 mc1 120 mf1 0 ml bd_5 (Nat.le_of_ble_eq_true rfl) mc4 mf4 bA nA xA hnA gnA bB nB xB hnB gnB 0 H.size) (cwV 5 hts (kG (List.forall_mem_cons.mpr ⟨(List.mem_cons_of_mem _ (List.mem_append_left _ (List.mem_of_getElem? (i := 8) rfl))), (List.forall_mem_cons.mpr ⟨(List.mem_cons_of_mem _ (List.mem_append_left _ (List.mem_of_getElem? (i := 7) rfl))), (List.forall_mem_cons.mpr ⟨(List.mem_cons_of_mem _ (List.mem_append_left _ (List.mem_of_getElem? (i := 6) rfl))), (List.forall_mem_cons.mpr ⟨(List.mem_cons_of_mem _ (List.mem_append_left _ (List.mem_of_getElem? (i := 1) rfl))), (fun _ h => absurd h List.not_mem_nil)⟩)⟩)⟩)⟩) (kGV _ _ _ _) (fun _ h => List.mem_cons_of_mem _ (List.mem_append_right _ (List.mem_append_right _ (List.mem_append_right _ (List.mem_append_left _ h))))) gw_s_go10_0) rfl rfl rfl ⟨rfl, hd_X10_goThrough⟩ ⟨(Nat.le_of_ble_eq_true rfl), (Nat.le_of_ble_eq_true rfl)⟩) (kW_V kRd_blind (kRd_give hX.1 hS hFc) (va_recv hKc hPc (ci := 10) (q0 := 0) rfl rfl) hPc hKc hDc) rfl rfl hl.1 rfl (lv_room (Nat.le_of_ble_eq_true rfl)) dX10_fault_38 ⟨(Nat.le_of_ble_eq_true rfl), (Nat.le_of_ble_eq_true rfl)⟩) hS (fun q _ h => hFc q h) hFc (kU5 (fun a1_6 xf_7 xd_8 fd_9 hf_10 t H_11 locs ht hvm hw hB hz1 hk1 hS => ?_))
      have hPD : kPD dC dI A [(jM, .inr (10, [.int 0, .ref m1, .ref m2, .ref m3, .ref m4, .ref m1, .int (nI (ml)), .int (nI (mkl)), .int (nI (mku)), .int (nI (0)), .int (nI (ml)), .int (nI (a1_6)), .int xf_7, .int xd_8, .int 0, .int fd_9, .ref (ad 5), .ref (ad 7), .int hf_10, .ref m19, .ref m20, .ref m21, .ref m22, .ref m23, .ref m24, .ref m25, .int (nI (mps)), .int (nI (mkw)), .ref m28, .ref m29, .ref m30, .ref m31, .ref m32, .ref m33, .ref m34, .ref m35, .ref m36, .int thr, .int (nI (ho)), .long xx, .ref m40, .ref m41, .ref m42, .ref m43, .ref m44, .int (nI (mkn)), .ref m46, .ref m47, .ref m48, .ref m49, .ref m50, .int (nI (mka))])), (m1, .inl (mc1, 120, .inl mf1)), (m2, .inl (mc2, 1680, .inl mf2)), (m3, .inl (mc3, 14, .inl mf3)), (m4, .inl (mc4, 128, .inl mf4)), (m19, .inl (mc19, 10, .inl mf19)), (m20, .inl (mc20, 10, .inl mf20)), (m21, .inl (mc21, 10, .inl mf21)), (m22, .inl (mc22, 10, .inl mf22)), (m23, .inl (mc23, 10, .inl mf23)), (m24, .inl (mc24, 4, .inl mf24)), (m25, .inl (mc25, 10, .inl mf25)), (m28, .inl (mc28, 10, .inl mf28)), (m29, .inl (mc29, 10, .inl mf29)), (m30, .inl (mc30, 10, .inl mf30)), (m31, .inl (mc31, 10, .inl mf31)), (m32, .inl (mc32, 10, .inl mf32)), (m33, .inl (mc33, 10, .inl mf33)), (m34, .inl (mc34, 10, .inl mf34)), (m35, .inl (mc35, 10, .inl mf35)), (m36, .inl (mc36, 10, .inl mf36)), (m40, .inl (mc40, 20, .inl mf40)), (m41, .inl (mc41, 20, .inl mf41)), (m42, .inl (mc42, 20, .inl mf42)), (m43, .inl (mc43, 20, .inl mf43)), (m44, .inl (mc44, 20, .inl mf44)), (m46, .inl (mc46, 14, .inr (.inl mf46))), (m47, .inl (mc47, 6, .inl mf47)), (m48, .inl (mc48, 6, .inl mf48)), (m49, .inl (mc49, 6, .inl mf49)), (m50, .inl (mc50, 6, .inl mf50))] H_11 := kJoinX hP hD [0, 1, 4] rfl hk1 hFc hB.1 ht hB.2.2 rfl [some 0, some 1, none, none, some 2, none, none, none, none, none, none, none, none, none, none, none, none, none, none, none, none, none, none, none, none, none, none, none, none, none, none] rfl rfl
      obtain ⟨hP, hD⟩ := hPD
      refine lv_aload_n hx hb dX10_fault_41 rfl (lv_at hl 0 rfl) ?_
      refine va_get (D := (dC, dI)) (ci := 10) (v := .int xf_7) (C := RX10) (T := TX10) (N := 52) hx hb hts (fun _ h => List.mem_cons_of_mem _ (List.mem_append_right _ (List.mem_append_left _ h))) hown hK hP 0 rfl rfl 12 kc_l_12_52 (hts (.fieldLink RX10 150 "NotEndedModel" "fault" "I") (List.mem_cons_of_mem _ (List.mem_append_left _ (List.mem_of_getElem? (i := 9) rfl)))) (fun _ h9 => h9) rfl dX10_fault_42 ?_
      have hP9 := hP
      have hD9 := hD
      have hK9 := hK
      rw [hQ]
      exact W.iret (v := xf_7) hx hb hr (fun t ht hW => ⟨⟨xf_7, (0, (.ref m1 : Value), (.int (nI (0)) : Value), (.int (nI (ml)) : Value), (.int (nI (a1_6)) : Value), (.int xf_7 : Value), (.int xd_8 : Value), (.int 0 : Value), (.int fd_9 : Value), (.ref (ad 5) : Value), (.ref (ad 7) : Value), (.int hf_10 : Value)), rfl, trivial,  by rw [ht]; exact hP9, va_K.moved hW.alike hK9, hD9⟩, hS.F ht⟩) hS.2.2 dX10_fault_45
    · refine lv_aload_n hx hb dX10_fault_17 rfl (lv_at hl 0 rfl) ?_
      refine lv_aload_n hx hb dX10_fault_18 rfl (lv_at hl 0 rfl) ?_
      refine va_get (D := (dC, dI)) (ci := 10) (v := .ref m1) (C := RX10) (T := TX10) (N := 52) hx hb hts (fun _ h => List.mem_cons_of_mem _ (List.mem_append_right _ (List.mem_append_left _ h))) hown hK hP 0 rfl rfl 1 kc_l_1_52 (hts (.fieldLink RX10 9 "NotEndedModel" "tape" "[B") (List.mem_cons_of_mem _ (List.mem_append_left _ (List.mem_of_getElem? (i := 4) rfl)))) (fun _ h9 => h9) rfl dX10_fault_19 ?_
      refine lv_iconst (v := 0) hx hb dX10_fault_22 kc_i_0 ?_
      refine lv_aload_n hx hb dX10_fault_23 rfl (lv_at hl 0 rfl) ?_
      refine va_get (D := (dC, dI)) (ci := 10) (v := .int (nI (ml))) (C := RX10) (T := TX10) (N := 52) hx hb hts (fun _ h => List.mem_cons_of_mem _ (List.mem_append_right _ (List.mem_append_left _ h))) hown hK hP 0 rfl rfl 6 kc_l_6_52 (hts (.fieldLink RX10 131 "NotEndedModel" "length" "I") (List.mem_cons_of_mem _ (List.mem_append_left _ (List.mem_of_getElem? (i := 5) rfl)))) (fun _ h9 => h9) rfl dX10_fault_24 ?_
      refine lv_iload_n hx hb dX10_fault_27 rfl (lv_at hl 1 rfl) ?_
      refine lv_iconst (v := 1) hx hb dX10_fault_28 kc_i_1 ?_
      refine lv_icmp_ne (tgt := 36) hx hb dX10_fault_29 kc_t_29_7 (fun c_13 => absurd (by decide) c_13) (fun c_13 => ?_)
      refine lv_iconst (v := 1) hx hb dX10_fault_32 kc_i_1 ?_
      refine lv_goto (tgt := 37) hx hb dX10_fault_33 kc_t_33_4 ?_
      refine lv_iconst (v := 0) hx hb dX10_fault_37 kc_i_0 ?_
      have bd_14 : 0 + ml ≤ 120 := by omega
      have hCu := kCut (wc := [(jM, .inr (10, [.int 0, .ref m1, .ref m2, .ref m3, .ref m4, v5, .int (nI (ml)), .int (nI (mkl)), .int (nI (mku)), v9, v10, v11, v12, v13, v14, v15, v16, v17, v18, .ref m19, .ref m20, .ref m21, .ref m22, .ref m23, .ref m24, .ref m25, .int (nI (mps)), .int (nI (mkw)), .ref m28, .ref m29, .ref m30, .ref m31, .ref m32, .ref m33, .ref m34, .ref m35, .ref m36, .int thr, .int (nI (ho)), .long xx, .ref m40, .ref m41, .ref m42, .ref m43, .ref m44, .int (nI (mkn)), .ref m46, .ref m47, .ref m48, .ref m49, .ref m50, .int (nI (mka))])), (m1, .inl (mc1, 120, .inl mf1)), (m4, .inl (mc4, 128, .inl mf4))]) hP hD hS hA [0, 1, 4] rfl kc_nd_948 rfl
      have hPc := hCu.1
      have hDc := hCu.2.1
      have hFc := hCu.2.2
      have hKc := hK.sb (tys2 := [(mc1, .byte), (mc4, .int)]) [0, 3] rfl
      refine va_callv (va_runV (As := [.ref m1, .int 0, .int (nI (ml)), .int 1, .int 0]) (rest := []) ⟨hx, hb, hml, hown, hts⟩ (s_go10_1 l dC dI ad jM (.int 0 : Value) (.ref m1 : Value) (.ref m2 : Value) (.ref m3 : Value) (v5 : Value) (.int (nI (ml)) : Value) (.int (nI (mkl)) : Value) (.int (nI (mku)) : Value) (v9 : Value) (v10 : Value) (v11 : Value) (v12 : Value) (v13 : Value) (v14 : Value) (v15 : Value) (v16 : Value) (v17 : Value) (v18 : Value) (.ref m19 : Value) (.ref m20 : Value) (.ref m21 : Value) (.ref m22 : Value) (.ref m23 : Value) (.ref m24 : Value) (.ref m25 : Value) (.int (nI (mps)) : Value) (.int (nI (mkw)) : Value) (.ref m28 : Value) (.ref m29 : Value) (.ref m30 : Value) (.ref m31 : Value) (.ref m32 : Value) (.ref m33 : Value) (.ref m34 : Value) (.ref m35 : Value) (.ref m36 : Value) (.int thr : Value) (.int (nI (ho)) : Value) (.long xx : Value) (.ref m40 : Value) (.ref m41 : Value) (.ref m42 : Value) (.ref m43 : Value) (.ref m44 : Value) (.int (nI (mkn)) : Value) (.ref m46 : Value) (.ref m47 : Value) (.ref m48 : Value) (.ref m49 : Value) (.ref m50 : Value) (.int (nI (mka)) : Value) m4 m1 mc1 120 mf1 0 ml bd_14 (Nat.le_of_ble_eq_true rfl) mc4 mf4 bE nE xE hnE gnE bG nG xG hnG gnG 0 H.size) (cwV 5 hts (kG (List.forall_mem_cons.mpr ⟨(List.mem_cons_of_mem _ (List.mem_append_left _ (List.mem_of_getElem? (i := 8) rfl))), (List.forall_mem_cons.mpr ⟨(List.mem_cons_of_mem _ (List.mem_append_left _ (List.mem_of_getElem? (i := 7) rfl))), (List.forall_mem_cons.mpr ⟨(List.mem_cons_of_mem _ (List.mem_append_left _ (List.mem_of_getElem? (i := 6) rfl))), (List.forall_mem_cons.mpr ⟨(List.mem_cons_of_mem _ (List.mem_append_left _ (List.mem_of_getElem? (i := 1) rfl))), (fun _ h => absurd h List.not_mem_nil)⟩)⟩)⟩)⟩) (kGV _ _ _ _) (fun _ h => List.mem_cons_of_mem _ (List.mem_append_right _ (List.mem_append_right _ (List.mem_append_right _ (List.mem_append_right _ h))))) gw_s_go10_1) rfl rfl rfl ⟨rfl, hd_X10_goThrough⟩ ⟨(Nat.le_of_ble_eq_true rfl), (Nat.le_of_ble_eq_true rfl)⟩) (kW_V kRd_blind (kRd_give hX.2 hS hFc) (va_recv hKc hPc (ci := 10) (q0 := 0) rfl rfl) hPc hKc hDc) rfl rfl hl.1 rfl (lv_room (Nat.le_of_ble_eq_true rfl)) dX10_fault_38 ⟨(Nat.le_of_ble_eq_true rfl), (Nat.le_of_ble_eq_true rfl)⟩) hS (fun q _ h => hFc q h) hFc (kU5 (fun a1_15 xf_16 xd_17 fd_18 hf_19 t H_20 locs ht hvm hw hB hz1 hk1 hS => ?_))
      have hPD : kPD dC dI A [(jM, .inr (10, [.int 0, .ref m1, .ref m2, .ref m3, .ref m4, .ref m1, .int (nI (ml)), .int (nI (mkl)), .int (nI (mku)), .int (nI (0)), .int (nI (ml)), .int (nI (a1_15)), .int xf_16, .int xd_17, .int 0, .int fd_18, .ref (ad 6), .ref (ad 8), .int hf_19, .ref m19, .ref m20, .ref m21, .ref m22, .ref m23, .ref m24, .ref m25, .int (nI (mps)), .int (nI (mkw)), .ref m28, .ref m29, .ref m30, .ref m31, .ref m32, .ref m33, .ref m34, .ref m35, .ref m36, .int thr, .int (nI (ho)), .long xx, .ref m40, .ref m41, .ref m42, .ref m43, .ref m44, .int (nI (mkn)), .ref m46, .ref m47, .ref m48, .ref m49, .ref m50, .int (nI (mka))])), (m1, .inl (mc1, 120, .inl mf1)), (m2, .inl (mc2, 1680, .inl mf2)), (m3, .inl (mc3, 14, .inl mf3)), (m4, .inl (mc4, 128, .inl mf4)), (m19, .inl (mc19, 10, .inl mf19)), (m20, .inl (mc20, 10, .inl mf20)), (m21, .inl (mc21, 10, .inl mf21)), (m22, .inl (mc22, 10, .inl mf22)), (m23, .inl (mc23, 10, .inl mf23)), (m24, .inl (mc24, 4, .inl mf24)), (m25, .inl (mc25, 10, .inl mf25)), (m28, .inl (mc28, 10, .inl mf28)), (m29, .inl (mc29, 10, .inl mf29)), (m30, .inl (mc30, 10, .inl mf30)), (m31, .inl (mc31, 10, .inl mf31)), (m32, .inl (mc32, 10, .inl mf32)), (m33, .inl (mc33, 10, .inl mf33)), (m34, .inl (mc34, 10, .inl mf34)), (m35, .inl (mc35, 10, .inl mf35)), (m36, .inl (mc36, 10, .inl mf36)), (m40, .inl (mc40, 20, .inl mf40)), (m41, .inl (mc41, 20, .inl mf41)), (m42, .inl (mc42, 20, .inl mf42)), (m43, .inl (mc43, 20, .inl mf43)), (m44, .inl (mc44, 20, .inl mf44)), (m46, .inl (mc46, 14, .inr (.inl mf46))), (m47, .inl (mc47, 6, .inl mf47)), (m48, .inl (mc48, 6, .inl mf48)), (m49, .inl (mc49, 6, .inl mf49)), (m50, .inl (mc50, 6, .inl mf50))] H_20 := kJoinX hP hD [0, 1, 4] rfl hk1 hFc hB.1 ht hB.2.2 rfl [some 0, some 1, none, none, some 2, none, none, none, none, none, none, none, none, none, none, none, none, none, none, none, none, none, none, none, none, none, none, none, none, none, none] rfl rfl
      obtain ⟨hP, hD⟩ := hPD
      refine lv_aload_n hx hb dX10_fault_41 rfl (lv_at hl 0 rfl) ?_
      refine va_get (D := (dC, dI)) (ci := 10) (v := .int xf_16) (C := RX10) (T := TX10) (N := 52) hx hb hts (fun _ h => List.mem_cons_of_mem _ (List.mem_append_right _ (List.mem_append_left _ h))) hown hK hP 0 rfl rfl 12 kc_l_12_52 (hts (.fieldLink RX10 150 "NotEndedModel" "fault" "I") (List.mem_cons_of_mem _ (List.mem_append_left _ (List.mem_of_getElem? (i := 9) rfl)))) (fun _ h9 => h9) rfl dX10_fault_42 ?_
      have hP9 := hP
      have hD9 := hD
      have hK9 := hK
      rw [hQ]
      exact W.iret (v := xf_16) hx hb hr (fun t ht hW => ⟨⟨xf_16, (0, (.ref m1 : Value), (.int (nI (0)) : Value), (.int (nI (ml)) : Value), (.int (nI (a1_15)) : Value), (.int xf_16 : Value), (.int xd_17 : Value), (.int 0 : Value), (.int fd_18 : Value), (.ref (ad 6) : Value), (.ref (ad 8) : Value), (.int hf_19 : Value)), rfl, trivial,  by rw [ht]; exact hP9, va_K.moved hW.alike hK9, hD9⟩, hS.F ht⟩) hS.2.2 dX10_fault_45
  · refine lv_bipush (v := (-2)) hx hb dX10_fault_14 kc_b_m2 ?_
    have hP9 := hP
    have hD9 := hD
    have hK9 := hK
    rw [hQ]
    exact W.iret (v := (-2)) hx hb hr (fun t ht hW => ⟨⟨(-2), (0, (v5 : Value), (v9 : Value), (v10 : Value), (v11 : Value), (v12 : Value), (v13 : Value), (v14 : Value), (v15 : Value), (v16 : Value), (v17 : Value), (v18 : Value)), rfl, trivial,  by rw [ht]; exact hP9, va_K.moved hW.alike hK9, hD9⟩, hS.F ht⟩) hS.2.2 dX10_fault_16

theorem dX10_text_0 : decode cX10_text 0 = .ok (.aload_n 0, 1) := by decide +kernel
theorem dX10_text_1 : decode cX10_text 1 = .ok (.iconst 0, 1) := by decide +kernel
theorem dX10_text_2 : decode cX10_text 2 = .ok (.putfield 117, 3) := by decide +kernel
theorem dX10_text_5 : decode cX10_text 5 = .ok (.iload_n 1, 1) := by decide +kernel
theorem dX10_text_6 : decode cX10_text 6 = .ok (.iconst 0, 1) := by decide +kernel
theorem dX10_text_7 : decode cX10_text 7 = .ok (.iconst 1, 1) := by decide +kernel
theorem dX10_text_8 : decode cX10_text 8 = .ok (.invokestatic 236, 3) := by decide +kernel
theorem dX10_text_11 : decode cX10_text 11 = .ok (.ifCond .eq 28, 3) := by decide +kernel
theorem dX10_text_39 : decode cX10_text 39 = .ok (.iconst (-1), 1) := by decide +kernel
theorem dX10_text_40 : decode cX10_text 40 = .ok (.ireturn, 1) := by decide +kernel
theorem dX10_text_14 : decode cX10_text 14 = .ok (.iload_n 1, 1) := by decide +kernel
theorem dX10_text_15 : decode cX10_text 15 = .ok (.ifCond .ne 15, 3) := by decide +kernel
theorem dX10_text_18 : decode cX10_text 18 = .ok (.aload_n 0, 1) := by decide +kernel
theorem dX10_text_19 : decode cX10_text 19 = .ok (.getfield 244, 3) := by decide +kernel
theorem dX10_text_22 : decode cX10_text 22 = .ok (.bipush 6, 2) := by decide +kernel
theorem dX10_text_24 : decode cX10_text 24 = .ok (.if_icmp .ne 17, 3) := by decide +kernel
theorem dX10_text_41 : decode cX10_text 41 = .ok (.aload_n 0, 1) := by decide +kernel
theorem dX10_text_42 : decode cX10_text 42 = .ok (.aload_n 0, 1) := by decide +kernel
theorem dX10_text_43 : decode cX10_text 43 = .ok (.getfield 9, 3) := by decide +kernel
theorem dX10_text_46 : decode cX10_text 46 = .ok (.iconst 0, 1) := by decide +kernel
theorem dX10_text_47 : decode cX10_text 47 = .ok (.aload_n 0, 1) := by decide +kernel
theorem dX10_text_48 : decode cX10_text 48 = .ok (.getfield 131, 3) := by decide +kernel
theorem dX10_text_51 : decode cX10_text 51 = .ok (.iload_n 1, 1) := by decide +kernel
theorem dX10_text_52 : decode cX10_text 52 = .ok (.iconst 1, 1) := by decide +kernel
theorem dX10_text_53 : decode cX10_text 53 = .ok (.if_icmp .ne 7, 3) := by decide +kernel
theorem dX10_text_60 : decode cX10_text 60 = .ok (.iconst 0, 1) := by decide +kernel
theorem dX10_text_61 : decode cX10_text 61 = .ok (.iconst 0, 1) := by decide +kernel
theorem dX10_text_62 : decode cX10_text 62 = .ok (.invokevirtual 240, 3) := by decide +kernel
theorem dX10_text_65 : decode cX10_text 65 = .ok (.aload_n 0, 1) := by decide +kernel
theorem dX10_text_66 : decode cX10_text 66 = .ok (.getfield 150, 3) := by decide +kernel
theorem dX10_text_69 : decode cX10_text 69 = .ok (.iconst (-1), 1) := by decide +kernel
theorem dX10_text_70 : decode cX10_text 70 = .ok (.if_icmp .eq 5, 3) := by decide +kernel
theorem dX10_text_75 : decode cX10_text 75 = .ok (.iload_n 1, 1) := by decide +kernel
theorem dX10_text_76 : decode cX10_text 76 = .ok (.ifCond .ne 10, 3) := by decide +kernel
theorem dX10_text_79 : decode cX10_text 79 = .ok (.aload_n 0, 1) := by decide +kernel
theorem dX10_text_80 : decode cX10_text 80 = .ok (.getfield 244, 3) := by decide +kernel
theorem dX10_text_83 : decode cX10_text 83 = .ok (.goto 10, 3) := by decide +kernel
theorem dX10_text_93 : decode cX10_text 93 = .ok (.istore_n 2, 1) := by decide +kernel
theorem dX10_text_94 : decode cX10_text 94 = .ok (.iconst 0, 1) := by decide +kernel
theorem dX10_text_95 : decode cX10_text 95 = .ok (.istore_n 3, 1) := by decide +kernel
theorem dX10_text_96 : decode cX10_text 96 = .ok (.iload_n 3, 1) := by decide +kernel
theorem dX10_text_97 : decode cX10_text 97 = .ok (.aload_n 0, 1) := by decide +kernel
theorem dX10_text_98 : decode cX10_text 98 = .ok (.getfield 131, 3) := by decide +kernel
theorem dX10_text_101 : decode cX10_text 101 = .ok (.if_icmp .ge 26, 3) := by decide +kernel
theorem dX10_text_127 : decode cX10_text 127 = .ok (.aload_n 0, 1) := by decide +kernel
theorem dX10_text_128 : decode cX10_text 128 = .ok (.getfield 16, 3) := by decide +kernel
theorem dX10_text_131 : decode cX10_text 131 = .ok (.iload_n 2, 1) := by decide +kernel
theorem dX10_text_132 : decode cX10_text 132 = .ok (.aload_n 0, 1) := by decide +kernel
theorem dX10_text_133 : decode cX10_text 133 = .ok (.getfield 131, 3) := by decide +kernel
theorem dX10_text_136 : decode cX10_text 136 = .ok (.iastore, 1) := by decide +kernel
theorem dX10_text_137 : decode cX10_text 137 = .ok (.aload_n 0, 1) := by decide +kernel
theorem dX10_text_138 : decode cX10_text 138 = .ok (.iconst 0, 1) := by decide +kernel
theorem dX10_text_139 : decode cX10_text 139 = .ok (.putfield 131, 3) := by decide +kernel
theorem dX10_text_142 : decode cX10_text 142 = .ok (.iload_n 1, 1) := by decide +kernel
theorem dX10_text_143 : decode cX10_text 143 = .ok (.iconst 1, 1) := by decide +kernel
theorem dX10_text_144 : decode cX10_text 144 = .ok (.if_icmp .ne 20, 3) := by decide +kernel
theorem dX10_text_164 : decode cX10_text 164 = .ok (.aload_n 0, 1) := by decide +kernel
theorem dX10_text_165 : decode cX10_text 165 = .ok (.dup, 1) := by decide +kernel
theorem dX10_text_166 : decode cX10_text 166 = .ok (.getfield 244, 3) := by decide +kernel
theorem dX10_text_169 : decode cX10_text 169 = .ok (.iconst 1, 1) := by decide +kernel
theorem dX10_text_170 : decode cX10_text 170 = .ok (.iadd, 1) := by decide +kernel
theorem dX10_text_171 : decode cX10_text 171 = .ok (.putfield 244, 3) := by decide +kernel
theorem dX10_text_174 : decode cX10_text 174 = .ok (.aload_n 0, 1) := by decide +kernel
theorem dX10_text_175 : decode cX10_text 175 = .ok (.getfield 244, 3) := by decide +kernel
theorem dX10_text_178 : decode cX10_text 178 = .ok (.iconst 1, 1) := by decide +kernel
theorem dX10_text_179 : decode cX10_text 179 = .ok (.isub, 1) := by decide +kernel
theorem dX10_text_180 : decode cX10_text 180 = .ok (.ireturn, 1) := by decide +kernel
theorem dX10_text_104 : decode cX10_text 104 = .ok (.aload_n 0, 1) := by decide +kernel
theorem dX10_text_105 : decode cX10_text 105 = .ok (.getfield 13, 3) := by decide +kernel
theorem dX10_text_108 : decode cX10_text 108 = .ok (.bipush 120, 2) := by decide +kernel
theorem dX10_text_110 : decode cX10_text 110 = .ok (.iload_n 2, 1) := by decide +kernel
theorem dX10_text_111 : decode cX10_text 111 = .ok (.imul, 1) := by decide +kernel
theorem dX10_text_112 : decode cX10_text 112 = .ok (.iload_n 3, 1) := by decide +kernel
theorem dX10_text_113 : decode cX10_text 113 = .ok (.iadd, 1) := by decide +kernel
theorem dX10_text_114 : decode cX10_text 114 = .ok (.aload_n 0, 1) := by decide +kernel
theorem dX10_text_115 : decode cX10_text 115 = .ok (.getfield 9, 3) := by decide +kernel
theorem dX10_text_118 : decode cX10_text 118 = .ok (.iload_n 3, 1) := by decide +kernel
theorem dX10_text_119 : decode cX10_text 119 = .ok (.baload, 1) := by decide +kernel
theorem dX10_text_120 : decode cX10_text 120 = .ok (.bastore, 1) := by decide +kernel
theorem dX10_text_121 : decode cX10_text 121 = .ok (.iinc 3 1, 3) := by decide +kernel
theorem dX10_text_124 : decode cX10_text 124 = .ok (.goto (-28), 3) := by decide +kernel
theorem dX10_text_73 : decode cX10_text 73 = .ok (.iconst (-1), 1) := by decide +kernel
theorem dX10_text_74 : decode cX10_text 74 = .ok (.ireturn, 1) := by decide +kernel
theorem dX10_text_27 : decode cX10_text 27 = .ok (.goto 12, 3) := by decide +kernel
theorem dX10_text_30 : decode cX10_text 30 = .ok (.aload_n 0, 1) := by decide +kernel
theorem dX10_text_31 : decode cX10_text 31 = .ok (.getfield 247, 3) := by decide +kernel
theorem dX10_text_34 : decode cX10_text 34 = .ok (.bipush 8, 2) := by decide +kernel
theorem dX10_text_36 : decode cX10_text 36 = .ok (.if_icmp .ne 5, 3) := by decide +kernel
theorem dX10_text_56 : decode cX10_text 56 = .ok (.iconst 1, 1) := by decide +kernel
theorem dX10_text_57 : decode cX10_text 57 = .ok (.goto 4, 3) := by decide +kernel
theorem dX10_text_86 : decode cX10_text 86 = .ok (.bipush 6, 2) := by decide +kernel
theorem dX10_text_88 : decode cX10_text 88 = .ok (.aload_n 0, 1) := by decide +kernel
theorem dX10_text_89 : decode cX10_text 89 = .ok (.getfield 247, 3) := by decide +kernel
theorem dX10_text_92 : decode cX10_text 92 = .ok (.iadd, 1) := by decide +kernel
theorem dX10_text_147 : decode cX10_text 147 = .ok (.aload_n 0, 1) := by decide +kernel
theorem dX10_text_148 : decode cX10_text 148 = .ok (.dup, 1) := by decide +kernel
theorem dX10_text_149 : decode cX10_text 149 = .ok (.getfield 247, 3) := by decide +kernel
theorem dX10_text_152 : decode cX10_text 152 = .ok (.iconst 1, 1) := by decide +kernel
theorem dX10_text_153 : decode cX10_text 153 = .ok (.iadd, 1) := by decide +kernel
theorem dX10_text_154 : decode cX10_text 154 = .ok (.putfield 247, 3) := by decide +kernel
theorem dX10_text_157 : decode cX10_text 157 = .ok (.aload_n 0, 1) := by decide +kernel
theorem dX10_text_158 : decode cX10_text 158 = .ok (.getfield 247, 3) := by decide +kernel
theorem dX10_text_161 : decode cX10_text 161 = .ok (.iconst 1, 1) := by decide +kernel
theorem dX10_text_162 : decode cX10_text 162 = .ok (.isub, 1) := by decide +kernel
theorem dX10_text_163 : decode cX10_text 163 = .ok (.ireturn, 1) := by decide +kernel
def w_s_text10 : List Cond := .code yX10_text cX10_text 4 (some .int) :: ([.fieldLink RX10 117 "NotEndedModel" "thrown" "I", .initialized RX10, .static yX10_isIn, .methodLink RX10 236 yX10_isIn, .fieldLink RX10 244 "NotEndedModel" "laws" "I", .fieldLink RX10 9 "NotEndedModel" "tape" "[B", .fieldLink RX10 131 "NotEndedModel" "length" "I", .selects RX10 yX10_goThrough yX10_goThrough, .instanceMethod yX10_goThrough, .methodLink RX10 240 yX10_goThrough, .fieldLink RX10 150 "NotEndedModel" "fault" "I", .fieldLink RX10 16 "NotEndedModel" "textLong" "[I", .fieldLink RX10 13 "NotEndedModel" "texts" "[B", .fieldLink RX10 247 "NotEndedModel" "turnings" "I"] ++ (wsX100 ++ (w_s_isIn10 ++ (w_s_go10_0 ++ (w_s_go10_1)))))
theorem gw_s_text10 : (w_s_text10).all goodWord = true := kGc rfl (kGa (by decide +kernel) (kGa gw_wsX100 (kGa gw_s_isIn10 (kGa gw_s_go10_0 gw_s_go10_1))))
theorem hd_X10_text : yX10_text.cls ≠ "java/lang/invoke/MethodHandle" ∧ yX10_text.cls ≠ "java/lang/invoke/VarHandle" ∧ (parseMethodDescriptor yX10_text.desc).map (fun d => d.parameters.length) = some 1 := by decide +kernel
set_option maxHeartbeats 4000000 in
set_option maxRecDepth 100000 in
theorem s_text10 (l : Launch) (dC : Nat → ClassId) (dI : Nat → Nat → Nat) (jM : Nat) (th : Int32) (thr : Int32) (xx : Int64) (v5 : Value) (v9 : Value) (v10 : Value) (v11 : Value) (v12 : Value) (v13 : Value) (v14 : Value) (v15 : Value) (v16 : Value) (v17 : Value) (v18 : Value) (m1 : Nat) (m2 : Nat) (m3 : Nat) (m4 : Nat) (m19 : Nat) (m20 : Nat) (m21 : Nat) (m22 : Nat) (m23 : Nat) (m24 : Nat) (m25 : Nat) (m28 : Nat) (m29 : Nat) (m30 : Nat) (m31 : Nat) (m32 : Nat) (m33 : Nat) (m34 : Nat) (m35 : Nat) (m36 : Nat) (m40 : Nat) (m41 : Nat) (m42 : Nat) (m43 : Nat) (m44 : Nat) (m46 : Nat) (m47 : Nat) (m48 : Nat) (m49 : Nat) (m50 : Nat) (mc1 : ClassId) (mc2 : ClassId) (mc3 : ClassId) (mc4 : ClassId) (mc19 : ClassId) (mc20 : ClassId) (mc21 : ClassId) (mc22 : ClassId) (mc23 : ClassId) (mc24 : ClassId) (mc25 : ClassId) (mc28 : ClassId) (mc29 : ClassId) (mc30 : ClassId) (mc31 : ClassId) (mc32 : ClassId) (mc33 : ClassId) (mc34 : ClassId) (mc35 : ClassId) (mc36 : ClassId) (mc40 : ClassId) (mc41 : ClassId) (mc42 : ClassId) (mc43 : ClassId) (mc44 : ClassId) (mc46 : ClassId) (mc47 : ClassId) (mc48 : ClassId) (mc49 : ClassId) (mc50 : ClassId) (mf1 : Nat → Int32) (mf2 : Nat → Int32) (mf3 : Nat → Int32) (mf4 : Nat → Int32) (mf19 : Nat → Int32) (mf20 : Nat → Int32) (mf21 : Nat → Int32) (mf22 : Nat → Int32) (mf23 : Nat → Int32) (mf24 : Nat → Int32) (mf25 : Nat → Int32) (mf28 : Nat → Int32) (mf29 : Nat → Int32) (mf30 : Nat → Int32) (mf31 : Nat → Int32) (mf32 : Nat → Int32) (mf33 : Nat → Int32) (mf34 : Nat → Int32) (mf35 : Nat → Int32) (mf36 : Nat → Int32) (mf40 : Nat → Int32) (mf41 : Nat → Int32) (mf42 : Nat → Int32) (mf43 : Nat → Int32) (mf44 : Nat → Int32) (mf46 : Nat → Int64) (mf47 : Nat → Int32) (mf48 : Nat → Int32) (mf49 : Nat → Int32) (mf50 : Nat → Int32) (ml : Nat) (mkl : Nat) (mku : Nat) (mps : Nat) (mkw : Nat) (ho : Nat) (mkn : Nat) (mka : Nat) (hml : ml ≤ 120) (hmkl : mkl ≤ 6) (hmku : mku ≤ 8) (hmps : mps ≤ 10) (hmkw : mkw ≤ 4) (hho : ho ≤ 48) (hmkn : mkn ≤ 20) (hmka : mka ≤ 6) (hTl : ∀ j : Nat, ∃ v : Nat, v ≤ 120 ∧ mf3 j = nI v) (ad : Nat → Nat) (bA : Nat) (nA : Nat) (xA : Nat → Int32) (hnA : nA ≤ 8) (bB : Nat) (nB : Nat) (xB : Nat → Int32) (hnB : nB ≤ 8) (bE : Nat) (nE : Nat) (xE : Nat → Int32) (hnE : nE ≤ 8) (bG : Nat) (nG : Nat) (xG : Nat → Int32) (hnG : nG ≤ 8) (gnA : ∀ k : Nat, ∃ v : Nat, v < 128 ∧ xA k = nI v) (gnB : ∀ k : Nat, ∃ v : Nat, v < 128 ∧ xB k = nI v) (gnE : ∀ k : Nat, ∃ v : Nat, v < 128 ∧ xE k = nI v) (gnG : ∀ k : Nat, ∃ v : Nat, v < 128 ∧ xG k = nI v) (p0 : Int32) (sz : Nat) : Met l yX10_text w_s_text10 ({ frames := 60, cells := 0, slots := 0, locals := 3600 }) (kW dC dI [.ref jM, .int p0] [(jM, .inr (10, [.int th, .ref m1, .ref m2, .ref m3, .ref m4, v5, .int (nI (ml)), .int (nI (mkl)), .int (nI (mku)), v9, v10, v11, v12, v13, v14, v15, v16, v17, v18, .ref m19, .ref m20, .ref m21, .ref m22, .ref m23, .ref m24, .ref m25, .int (nI (mps)), .int (nI (mkw)), .ref m28, .ref m29, .ref m30, .ref m31, .ref m32, .ref m33, .ref m34, .ref m35, .ref m36, .int thr, .int (nI (ho)), .long xx, .ref m40, .ref m41, .ref m42, .ref m43, .ref m44, .int (nI (mkn)), .ref m46, .ref m47, .ref m48, .ref m49, .ref m50, .int (nI (mka))])), (m1, .inl (mc1, 120, .inl mf1)), (m2, .inl (mc2, 1680, .inl mf2)), (m3, .inl (mc3, 14, .inl mf3)), (m4, .inl (mc4, 128, .inl mf4)), (m19, .inl (mc19, 10, .inl mf19)), (m20, .inl (mc20, 10, .inl mf20)), (m21, .inl (mc21, 10, .inl mf21)), (m22, .inl (mc22, 10, .inl mf22)), (m23, .inl (mc23, 10, .inl mf23)), (m24, .inl (mc24, 4, .inl mf24)), (m25, .inl (mc25, 10, .inl mf25)), (m28, .inl (mc28, 10, .inl mf28)), (m29, .inl (mc29, 10, .inl mf29)), (m30, .inl (mc30, 10, .inl mf30)), (m31, .inl (mc31, 10, .inl mf31)), (m32, .inl (mc32, 10, .inl mf32)), (m33, .inl (mc33, 10, .inl mf33)), (m34, .inl (mc34, 10, .inl mf34)), (m35, .inl (mc35, 10, .inl mf35)), (m36, .inl (mc36, 10, .inl mf36)), (m40, .inl (mc40, 20, .inl mf40)), (m41, .inl (mc41, 20, .inl mf41)), (m42, .inl (mc42, 20, .inl mf42)), (m43, .inl (mc43, 20, .inl mf43)), (m44, .inl (mc44, 20, .inl mf44)), (m46, .inl (mc46, 14, .inr (.inl mf46))), (m47, .inl (mc47, 6, .inl mf47)), (m48, .inl (mc48, 6, .inl mf48)), (m49, .inl (mc49, 6, .inl mf49)), (m50, .inl (mc50, 6, .inl mf50))] [(mc1, .byte), (mc2, .byte), (mc3, .int), (mc4, .int), (mc19, .int), (mc20, .int), (mc21, .int), (mc22, .int), (mc23, .int), (mc24, .int), (mc25, .boolean), (mc28, .int), (mc29, .int), (mc30, .int), (mc31, .int), (mc32, .int), (mc33, .int), (mc34, .int), (mc35, .int), (mc36, .int), (mc40, .int), (mc41, .int), (mc42, .int), (mc43, .int), (mc44, .int), (mc46, .long), (mc47, .int), (mc48, .int), (mc49, .int), (mc50, .int)] (kMx ad bA nA xA bB nB xB bE nE xE bG nG xG (va_A [(jM, .inr (10, [.int th, .ref m1, .ref m2, .ref m3, .ref m4, v5, .int (nI (ml)), .int (nI (mkl)), .int (nI (mku)), v9, v10, v11, v12, v13, v14, v15, v16, v17, v18, .ref m19, .ref m20, .ref m21, .ref m22, .ref m23, .ref m24, .ref m25, .int (nI (mps)), .int (nI (mkw)), .ref m28, .ref m29, .ref m30, .ref m31, .ref m32, .ref m33, .ref m34, .ref m35, .ref m36, .int thr, .int (nI (ho)), .long xx, .ref m40, .ref m41, .ref m42, .ref m43, .ref m44, .int (nI (mkn)), .ref m46, .ref m47, .ref m48, .ref m49, .ref m50, .int (nI (mka))])), (m1, .inl (mc1, 120, .inl mf1)), (m2, .inl (mc2, 1680, .inl mf2)), (m3, .inl (mc3, 14, .inl mf3)), (m4, .inl (mc4, 128, .inl mf4)), (m19, .inl (mc19, 10, .inl mf19)), (m20, .inl (mc20, 10, .inl mf20)), (m21, .inl (mc21, 10, .inl mf21)), (m22, .inl (mc22, 10, .inl mf22)), (m23, .inl (mc23, 10, .inl mf23)), (m24, .inl (mc24, 4, .inl mf24)), (m25, .inl (mc25, 10, .inl mf25)), (m28, .inl (mc28, 10, .inl mf28)), (m29, .inl (mc29, 10, .inl mf29)), (m30, .inl (mc30, 10, .inl mf30)), (m31, .inl (mc31, 10, .inl mf31)), (m32, .inl (mc32, 10, .inl mf32)), (m33, .inl (mc33, 10, .inl mf33)), (m34, .inl (mc34, 10, .inl mf34)), (m35, .inl (mc35, 10, .inl mf35)), (m36, .inl (mc36, 10, .inl mf36)), (m40, .inl (mc40, 20, .inl mf40)), (m41, .inl (mc41, 20, .inl mf41)), (m42, .inl (mc42, 20, .inl mf42)), (m43, .inl (mc43, 20, .inl mf43)), (m44, .inl (mc44, 20, .inl mf44)), (m46, .inl (mc46, 14, .inr (.inl mf46))), (m47, .inl (mc47, 6, .inl mf47)), (m48, .inl (mc48, 6, .inl mf48)), (m49, .inl (mc49, 6, .inl mf49)), (m50, .inl (mc50, 6, .inl mf50))] sz)) sz) (va_Qi (fun (r : Int32) (u : (Nat → Int32) × (Nat → Int32) × Int32 × Nat × Nat × Nat × Value × Value × Value × Value × Value × Value × Value × Value × Value × Value × Value) => match u with | (S2, S3, Th0, ml1, mkl1, mku1, W5, W9, W10, W11, W12, W13, W14, W15, W16, W17, W18) => (ml1 ≤ 120 ∧ mkl ≤ mkl1 ∧ mkl1 ≤ 6 ∧ mku ≤ mku1 ∧ mku1 ≤ 8 ∧ ∀ j : Nat, ∃ v : Nat, v ≤ 120 ∧ S3 j = nI v)) (fun (u : (Nat → Int32) × (Nat → Int32) × Int32 × Nat × Nat × Nat × Value × Value × Value × Value × Value × Value × Value × Value × Value × Value × Value) => match u with | (S2, S3, Th0, ml1, mkl1, mku1, W5, W9, W10, W11, W12, W13, W14, W15, W16, W17, W18) => fun t : State => kB dC dI [(jM, .inr (10, [.int Th0, .ref m1, .ref m2, .ref m3, .ref m4, W5, .int (nI (ml1)), .int (nI (mkl1)), .int (nI (mku1)), W9, W10, W11, W12, W13, W14, W15, W16, W17, W18, .ref m19, .ref m20, .ref m21, .ref m22, .ref m23, .ref m24, .ref m25, .int (nI (mps)), .int (nI (mkw)), .ref m28, .ref m29, .ref m30, .ref m31, .ref m32, .ref m33, .ref m34, .ref m35, .ref m36, .int thr, .int (nI (ho)), .long xx, .ref m40, .ref m41, .ref m42, .ref m43, .ref m44, .int (nI (mkn)), .ref m46, .ref m47, .ref m48, .ref m49, .ref m50, .int (nI (mka))])), (m1, .inl (mc1, 120, .inl mf1)), (m2, .inl (mc2, 1680, .inl S2)), (m3, .inl (mc3, 14, .inl S3)), (m4, .inl (mc4, 128, .inl mf4)), (m19, .inl (mc19, 10, .inl mf19)), (m20, .inl (mc20, 10, .inl mf20)), (m21, .inl (mc21, 10, .inl mf21)), (m22, .inl (mc22, 10, .inl mf22)), (m23, .inl (mc23, 10, .inl mf23)), (m24, .inl (mc24, 4, .inl mf24)), (m25, .inl (mc25, 10, .inl mf25)), (m28, .inl (mc28, 10, .inl mf28)), (m29, .inl (mc29, 10, .inl mf29)), (m30, .inl (mc30, 10, .inl mf30)), (m31, .inl (mc31, 10, .inl mf31)), (m32, .inl (mc32, 10, .inl mf32)), (m33, .inl (mc33, 10, .inl mf33)), (m34, .inl (mc34, 10, .inl mf34)), (m35, .inl (mc35, 10, .inl mf35)), (m36, .inl (mc36, 10, .inl mf36)), (m40, .inl (mc40, 20, .inl mf40)), (m41, .inl (mc41, 20, .inl mf41)), (m42, .inl (mc42, 20, .inl mf42)), (m43, .inl (mc43, 20, .inl mf43)), (m44, .inl (mc44, 20, .inl mf44)), (m46, .inl (mc46, 14, .inr (.inl mf46))), (m47, .inl (mc47, 6, .inl mf47)), (m48, .inl (mc48, 6, .inl mf48)), (m49, .inl (mc49, 6, .inl mf49)), (m50, .inl (mc50, 6, .inl mf50))] [(mc1, .byte), (mc2, .byte), (mc3, .int), (mc4, .int), (mc19, .int), (mc20, .int), (mc21, .int), (mc22, .int), (mc23, .int), (mc24, .int), (mc25, .boolean), (mc28, .int), (mc29, .int), (mc30, .int), (mc31, .int), (mc32, .int), (mc33, .int), (mc34, .int), (mc35, .int), (mc36, .int), (mc40, .int), (mc41, .int), (mc42, .int), (mc43, .int), (mc44, .int), (mc46, .long), (mc47, .int), (mc48, .int), (mc49, .int), (mc50, .int)] (va_A [(jM, .inr (10, [.int th, .ref m1, .ref m2, .ref m3, .ref m4, v5, .int (nI (ml)), .int (nI (mkl)), .int (nI (mku)), v9, v10, v11, v12, v13, v14, v15, v16, v17, v18, .ref m19, .ref m20, .ref m21, .ref m22, .ref m23, .ref m24, .ref m25, .int (nI (mps)), .int (nI (mkw)), .ref m28, .ref m29, .ref m30, .ref m31, .ref m32, .ref m33, .ref m34, .ref m35, .ref m36, .int thr, .int (nI (ho)), .long xx, .ref m40, .ref m41, .ref m42, .ref m43, .ref m44, .int (nI (mkn)), .ref m46, .ref m47, .ref m48, .ref m49, .ref m50, .int (nI (mka))])), (m1, .inl (mc1, 120, .inl mf1)), (m2, .inl (mc2, 1680, .inl mf2)), (m3, .inl (mc3, 14, .inl mf3)), (m4, .inl (mc4, 128, .inl mf4)), (m19, .inl (mc19, 10, .inl mf19)), (m20, .inl (mc20, 10, .inl mf20)), (m21, .inl (mc21, 10, .inl mf21)), (m22, .inl (mc22, 10, .inl mf22)), (m23, .inl (mc23, 10, .inl mf23)), (m24, .inl (mc24, 4, .inl mf24)), (m25, .inl (mc25, 10, .inl mf25)), (m28, .inl (mc28, 10, .inl mf28)), (m29, .inl (mc29, 10, .inl mf29)), (m30, .inl (mc30, 10, .inl mf30)), (m31, .inl (mc31, 10, .inl mf31)), (m32, .inl (mc32, 10, .inl mf32)), (m33, .inl (mc33, 10, .inl mf33)), (m34, .inl (mc34, 10, .inl mf34)), (m35, .inl (mc35, 10, .inl mf35)), (m36, .inl (mc36, 10, .inl mf36)), (m40, .inl (mc40, 20, .inl mf40)), (m41, .inl (mc41, 20, .inl mf41)), (m42, .inl (mc42, 20, .inl mf42)), (m43, .inl (mc43, 20, .inl mf43)), (m44, .inl (mc44, 20, .inl mf44)), (m46, .inl (mc46, 14, .inr (.inl mf46))), (m47, .inl (mc47, 6, .inl mf47)), (m48, .inl (mc48, 6, .inl mf48)), (m49, .inl (mc49, 6, .inl mf49)), (m50, .inl (mc50, 6, .inl mf50))] sz) t) (va_A [(jM, .inr (10, [.int th, .ref m1, .ref m2, .ref m3, .ref m4, v5, .int (nI (ml)), .int (nI (mkl)), .int (nI (mku)), v9, v10, v11, v12, v13, v14, v15, v16, v17, v18, .ref m19, .ref m20, .ref m21, .ref m22, .ref m23, .ref m24, .ref m25, .int (nI (mps)), .int (nI (mkw)), .ref m28, .ref m29, .ref m30, .ref m31, .ref m32, .ref m33, .ref m34, .ref m35, .ref m36, .int thr, .int (nI (ho)), .long xx, .ref m40, .ref m41, .ref m42, .ref m43, .ref m44, .int (nI (mkn)), .ref m46, .ref m47, .ref m48, .ref m49, .ref m50, .int (nI (mka))])), (m1, .inl (mc1, 120, .inl mf1)), (m2, .inl (mc2, 1680, .inl mf2)), (m3, .inl (mc3, 14, .inl mf3)), (m4, .inl (mc4, 128, .inl mf4)), (m19, .inl (mc19, 10, .inl mf19)), (m20, .inl (mc20, 10, .inl mf20)), (m21, .inl (mc21, 10, .inl mf21)), (m22, .inl (mc22, 10, .inl mf22)), (m23, .inl (mc23, 10, .inl mf23)), (m24, .inl (mc24, 4, .inl mf24)), (m25, .inl (mc25, 10, .inl mf25)), (m28, .inl (mc28, 10, .inl mf28)), (m29, .inl (mc29, 10, .inl mf29)), (m30, .inl (mc30, 10, .inl mf30)), (m31, .inl (mc31, 10, .inl mf31)), (m32, .inl (mc32, 10, .inl mf32)), (m33, .inl (mc33, 10, .inl mf33)), (m34, .inl (mc34, 10, .inl mf34)), (m35, .inl (mc35, 10, .inl mf35)), (m36, .inl (mc36, 10, .inl mf36)), (m40, .inl (mc40, 20, .inl mf40)), (m41, .inl (mc41, 20, .inl mf41)), (m42, .inl (mc42, 20, .inl mf42)), (m43, .inl (mc43, 20, .inl mf43)), (m44, .inl (mc44, 20, .inl mf44)), (m46, .inl (mc46, 14, .inr (.inl mf46))), (m47, .inl (mc47, 6, .inl mf47)), (m48, .inl (mc48, 6, .inl mf48)), (m49, .inl (mc49, 6, .inl mf49)), (m50, .inl (mc50, 6, .inl mf50))] sz)) 0 0 (va_A [(jM, .inr (10, [.int th, .ref m1, .ref m2, .ref m3, .ref m4, v5, .int (nI (ml)), .int (nI (mkl)), .int (nI (mku)), v9, v10, v11, v12, v13, v14, v15, v16, v17, v18, .ref m19, .ref m20, .ref m21, .ref m22, .ref m23, .ref m24, .ref m25, .int (nI (mps)), .int (nI (mkw)), .ref m28, .ref m29, .ref m30, .ref m31, .ref m32, .ref m33, .ref m34, .ref m35, .ref m36, .int thr, .int (nI (ho)), .long xx, .ref m40, .ref m41, .ref m42, .ref m43, .ref m44, .int (nI (mkn)), .ref m46, .ref m47, .ref m48, .ref m49, .ref m50, .int (nI (mka))])), (m1, .inl (mc1, 120, .inl mf1)), (m2, .inl (mc2, 1680, .inl mf2)), (m3, .inl (mc3, 14, .inl mf3)), (m4, .inl (mc4, 128, .inl mf4)), (m19, .inl (mc19, 10, .inl mf19)), (m20, .inl (mc20, 10, .inl mf20)), (m21, .inl (mc21, 10, .inl mf21)), (m22, .inl (mc22, 10, .inl mf22)), (m23, .inl (mc23, 10, .inl mf23)), (m24, .inl (mc24, 4, .inl mf24)), (m25, .inl (mc25, 10, .inl mf25)), (m28, .inl (mc28, 10, .inl mf28)), (m29, .inl (mc29, 10, .inl mf29)), (m30, .inl (mc30, 10, .inl mf30)), (m31, .inl (mc31, 10, .inl mf31)), (m32, .inl (mc32, 10, .inl mf32)), (m33, .inl (mc33, 10, .inl mf33)), (m34, .inl (mc34, 10, .inl mf34)), (m35, .inl (mc35, 10, .inl mf35)), (m36, .inl (mc36, 10, .inl mf36)), (m40, .inl (mc40, 20, .inl mf40)), (m41, .inl (mc41, 20, .inl mf41)), (m42, .inl (mc42, 20, .inl mf42)), (m43, .inl (mc43, 20, .inl mf43)), (m44, .inl (mc44, 20, .inl mf44)), (m46, .inl (mc46, 14, .inr (.inl mf46))), (m47, .inl (mc47, 6, .inl mf47)), (m48, .inl (mc48, 6, .inl mf48)), (m49, .inl (mc49, 6, .inl mf49)), (m50, .inl (mc50, 6, .inl mf50))] sz) := by
  refine Met.ofW (cc := cX10_text) (maxL := 4) (ret := (some .int)) (by decide) rfl ?_
  intro p e s m args below meth c s₁ B hml hv
  obtain ⟨rfl, hsz, hP, hK, hD0, hX⟩ := hv
  have hx := B.exec
  have hb := B.bytes
  have hr := B.returns
  have hts := atoms_spec (ws := w_s_text10) B.pre
  have hown : s.vm.findClass RX10 = some m.cls := findClass_of_methodNamed B.named
  have hlocks := B.notSynchronized
  subst hsz
  have hD := hD0.self (sz := s.heap.size)
  generalize hAe : va_A [(jM, .inr (10, [.int th, .ref m1, .ref m2, .ref m3, .ref m4, v5, .int (nI (ml)), .int (nI (mkl)), .int (nI (mku)), v9, v10, v11, v12, v13, v14, v15, v16, v17, v18, .ref m19, .ref m20, .ref m21, .ref m22, .ref m23, .ref m24, .ref m25, .int (nI (mps)), .int (nI (mkw)), .ref m28, .ref m29, .ref m30, .ref m31, .ref m32, .ref m33, .ref m34, .ref m35, .ref m36, .int thr, .int (nI (ho)), .long xx, .ref m40, .ref m41, .ref m42, .ref m43, .ref m44, .int (nI (mkn)), .ref m46, .ref m47, .ref m48, .ref m49, .ref m50, .int (nI (mka))])), (m1, .inl (mc1, 120, .inl mf1)), (m2, .inl (mc2, 1680, .inl mf2)), (m3, .inl (mc3, 14, .inl mf3)), (m4, .inl (mc4, 128, .inl mf4)), (m19, .inl (mc19, 10, .inl mf19)), (m20, .inl (mc20, 10, .inl mf20)), (m21, .inl (mc21, 10, .inl mf21)), (m22, .inl (mc22, 10, .inl mf22)), (m23, .inl (mc23, 10, .inl mf23)), (m24, .inl (mc24, 4, .inl mf24)), (m25, .inl (mc25, 10, .inl mf25)), (m28, .inl (mc28, 10, .inl mf28)), (m29, .inl (mc29, 10, .inl mf29)), (m30, .inl (mc30, 10, .inl mf30)), (m31, .inl (mc31, 10, .inl mf31)), (m32, .inl (mc32, 10, .inl mf32)), (m33, .inl (mc33, 10, .inl mf33)), (m34, .inl (mc34, 10, .inl mf34)), (m35, .inl (mc35, 10, .inl mf35)), (m36, .inl (mc36, 10, .inl mf36)), (m40, .inl (mc40, 20, .inl mf40)), (m41, .inl (mc41, 20, .inl mf41)), (m42, .inl (mc42, 20, .inl mf42)), (m43, .inl (mc43, 20, .inl mf43)), (m44, .inl (mc44, 20, .inl mf44)), (m46, .inl (mc46, 14, .inr (.inl mf46))), (m47, .inl (mc47, 6, .inl mf47)), (m48, .inl (mc48, 6, .inl mf48)), (m49, .inl (mc49, 6, .inl mf49)), (m50, .inl (mc50, 6, .inl mf50))] s.heap.size = A at hD hX ⊢
  have hA : ∀ q : Nat, s.heap.size ≤ q → A q := fun q h => by rw [← hAe]; exact Or.inr h
  have hS : va_S A s.heap s.heap [] := va_S.rf
  have hP : va_P (dC, dI) vwCl [(jM, .inr (10, [.int th, .ref m1, .ref m2, .ref m3, .ref m4, v5, .int (nI (ml)), .int (nI (mkl)), .int (nI (mku)), v9, v10, v11, v12, v13, v14, v15, v16, v17, v18, .ref m19, .ref m20, .ref m21, .ref m22, .ref m23, .ref m24, .ref m25, .int (nI (mps)), .int (nI (mkw)), .ref m28, .ref m29, .ref m30, .ref m31, .ref m32, .ref m33, .ref m34, .ref m35, .ref m36, .int thr, .int (nI (ho)), .long xx, .ref m40, .ref m41, .ref m42, .ref m43, .ref m44, .int (nI (mkn)), .ref m46, .ref m47, .ref m48, .ref m49, .ref m50, .int (nI (mka))])), (m1, .inl (mc1, 120, .inl mf1)), (m2, .inl (mc2, 1680, .inl mf2)), (m3, .inl (mc3, 14, .inl mf3)), (m4, .inl (mc4, 128, .inl mf4)), (m19, .inl (mc19, 10, .inl mf19)), (m20, .inl (mc20, 10, .inl mf20)), (m21, .inl (mc21, 10, .inl mf21)), (m22, .inl (mc22, 10, .inl mf22)), (m23, .inl (mc23, 10, .inl mf23)), (m24, .inl (mc24, 4, .inl mf24)), (m25, .inl (mc25, 10, .inl mf25)), (m28, .inl (mc28, 10, .inl mf28)), (m29, .inl (mc29, 10, .inl mf29)), (m30, .inl (mc30, 10, .inl mf30)), (m31, .inl (mc31, 10, .inl mf31)), (m32, .inl (mc32, 10, .inl mf32)), (m33, .inl (mc33, 10, .inl mf33)), (m34, .inl (mc34, 10, .inl mf34)), (m35, .inl (mc35, 10, .inl mf35)), (m36, .inl (mc36, 10, .inl mf36)), (m40, .inl (mc40, 20, .inl mf40)), (m41, .inl (mc41, 20, .inl mf41)), (m42, .inl (mc42, 20, .inl mf42)), (m43, .inl (mc43, 20, .inl mf43)), (m44, .inl (mc44, 20, .inl mf44)), (m46, .inl (mc46, 14, .inr (.inl mf46))), (m47, .inl (mc47, 6, .inl mf47)), (m48, .inl (mc48, 6, .inl mf48)), (m49, .inl (mc49, 6, .inl mf49)), (m50, .inl (mc50, 6, .inl mf50))] s.heap := hP
  have hl := lv_entry ([.ref jM, .int p0]) (n := 4) (Nat.le_of_ble_eq_true rfl)
  rw [lg_entry_eq]
  generalize (lg_sl ([.ref jM, .int p0]) ++ List.replicate (4 - (lg_sl ([.ref jM, .int p0])).length) Slot.unset).toArray = ls at hl ⊢
  have hl : lv_has ls 4 [(0, .ref jM), (1, .int p0)] := hl
  refine kQ (fun Q hQ => ?_)
  refine lv_aload_n hx hb dX10_text_0 rfl (lv_at hl 0 rfl) ?_
  refine lv_iconst (v := 0) hx hb dX10_text_1 kc_i_0 ?_
  refine va_put (D := (dC, dI)) (ci := 10) (v := .int 0) (ty := tyX10 0) (C := RX10) (T := TX10) (N := 52) hx hb hts (fun _ h => List.mem_cons_of_mem _ (List.mem_append_right _ (List.mem_append_left _ h))) tyX10 tyX10_ok nmX10 hown hK hP hD hS 0 rfl rfl 0 kc_l_0_52 (hts (.fieldLink RX10 117 "NotEndedModel" "thrown" "I") (List.mem_cons_of_mem _ (List.mem_append_left _ (List.mem_of_getElem? (i := 0) rfl)))) (fun _ h9 => h9) rfl (tyX10_ok 0 kc_l_0_52) rfl rfl (Nat.le_of_ble_eq_true rfl) dX10_text_2 (fun H locs hP hD hS => ?_)
  have hPD : kPD dC dI A [(jM, .inr (10, [.int 0, .ref m1, .ref m2, .ref m3, .ref m4, v5, .int (nI (ml)), .int (nI (mkl)), .int (nI (mku)), v9, v10, v11, v12, v13, v14, v15, v16, v17, v18, .ref m19, .ref m20, .ref m21, .ref m22, .ref m23, .ref m24, .ref m25, .int (nI (mps)), .int (nI (mkw)), .ref m28, .ref m29, .ref m30, .ref m31, .ref m32, .ref m33, .ref m34, .ref m35, .ref m36, .int thr, .int (nI (ho)), .long xx, .ref m40, .ref m41, .ref m42, .ref m43, .ref m44, .int (nI (mkn)), .ref m46, .ref m47, .ref m48, .ref m49, .ref m50, .int (nI (mka))])), (m1, .inl (mc1, 120, .inl mf1)), (m2, .inl (mc2, 1680, .inl mf2)), (m3, .inl (mc3, 14, .inl mf3)), (m4, .inl (mc4, 128, .inl mf4)), (m19, .inl (mc19, 10, .inl mf19)), (m20, .inl (mc20, 10, .inl mf20)), (m21, .inl (mc21, 10, .inl mf21)), (m22, .inl (mc22, 10, .inl mf22)), (m23, .inl (mc23, 10, .inl mf23)), (m24, .inl (mc24, 4, .inl mf24)), (m25, .inl (mc25, 10, .inl mf25)), (m28, .inl (mc28, 10, .inl mf28)), (m29, .inl (mc29, 10, .inl mf29)), (m30, .inl (mc30, 10, .inl mf30)), (m31, .inl (mc31, 10, .inl mf31)), (m32, .inl (mc32, 10, .inl mf32)), (m33, .inl (mc33, 10, .inl mf33)), (m34, .inl (mc34, 10, .inl mf34)), (m35, .inl (mc35, 10, .inl mf35)), (m36, .inl (mc36, 10, .inl mf36)), (m40, .inl (mc40, 20, .inl mf40)), (m41, .inl (mc41, 20, .inl mf41)), (m42, .inl (mc42, 20, .inl mf42)), (m43, .inl (mc43, 20, .inl mf43)), (m44, .inl (mc44, 20, .inl mf44)), (m46, .inl (mc46, 14, .inr (.inl mf46))), (m47, .inl (mc47, 6, .inl mf47)), (m48, .inl (mc48, 6, .inl mf48)), (m49, .inl (mc49, 6, .inl mf49)), (m50, .inl (mc50, 6, .inl mf50))] H := ⟨hP, hD⟩
  obtain ⟨hP, hD⟩ := hPD
  refine lv_iload_n hx hb dX10_text_5 rfl (lv_at hl 1 rfl) ?_
  refine lv_iconst (v := 0) hx hb dX10_text_6 kc_i_0 ?_
  refine lv_iconst (v := 1) hx hb dX10_text_7 kc_i_1 ?_
  have hPc := hP.sb (ws2 := []) [] rfl
  have hKc := hK.sb (tys2 := []) [] rfl
  refine vp_callSi (va_runS (As := [.int p0, .int 0, .int 1]) (rest := []) ⟨hx, hb, hml, hown, hts⟩ (s_isIn10 l dC dI p0 0 1) (va_cwS 3 hts (kG (List.forall_mem_cons.mpr ⟨(List.mem_cons_of_mem _ (List.mem_append_left _ (List.mem_of_getElem? (i := 3) rfl))), (List.forall_mem_cons.mpr ⟨(List.mem_cons_of_mem _ (List.mem_append_left _ (List.mem_of_getElem? (i := 2) rfl))), (List.forall_mem_cons.mpr ⟨(List.mem_cons_of_mem _ (List.mem_append_left _ (List.mem_of_getElem? (i := 1) rfl))), (fun _ h => absurd h List.not_mem_nil)⟩)⟩)⟩) (kGS _ _ _) (fun _ h => List.mem_cons_of_mem _ (List.mem_append_right _ (List.mem_append_right _ (List.mem_append_left _ h)))) gw_s_isIn10) rfl rfl rfl hd_X10_isIn ⟨(Nat.le_of_ble_eq_true rfl), (Nat.le_of_ble_eq_true rfl)⟩) (kR_S kT_blind kT_give hPc hKc) rfl rfl hl.1 rfl (lv_room (Nat.le_of_ble_eq_true rfl)) dX10_text_8 ⟨(Nat.le_of_ble_eq_true rfl), (Nat.le_of_ble_eq_true rfl)⟩).run (fun r_1 hw => ?_)
  have hw_2 := hw
  refine lv_if_eq (tgt := 39) hx hb dX10_text_11 kc_t_11_28 (fun c_3 => ?_) (fun c_3 => ?_)
  · refine lv_iconst (v := (-1)) hx hb dX10_text_39 kc_i_m1 ?_
    have hP9 := hP
    have hD9 := hD
    have hK9 := hK
    rw [hQ]
    exact W.iret (v := (-1)) hx hb hr (fun t ht hW => ⟨⟨(-1), (mf2, mf3, 0, ml, mkl, mku, (v5 : Value), (v9 : Value), (v10 : Value), (v11 : Value), (v12 : Value), (v13 : Value), (v14 : Value), (v15 : Value), (v16 : Value), (v17 : Value), (v18 : Value)), rfl, ⟨by omega, by omega, by omega, by omega, by omega, hTl⟩,  by rw [ht]; exact hP9, va_K.moved hW.alike hK9, hD9⟩, hS.F ht⟩) hS.2.2 dX10_text_40
  · rcases kIn_or (fun z => c_3 (hw_2.trans z)) with rfl | rfl
    · refine lv_iload_n hx hb dX10_text_14 rfl (lv_at hl 1 rfl) ?_
      refine lv_if_ne (tgt := 30) hx hb dX10_text_15 kc_t_15_15 (fun c_4 => absurd (by decide) c_4) (fun c_4 => ?_)
      refine lv_aload_n hx hb dX10_text_18 rfl (lv_at hl 0 rfl) ?_
      refine va_get (D := (dC, dI)) (ci := 10) (v := .int (nI (mkl))) (C := RX10) (T := TX10) (N := 52) hx hb hts (fun _ h => List.mem_cons_of_mem _ (List.mem_append_right _ (List.mem_append_left _ h))) hown hK hP 0 rfl rfl 7 kc_l_7_52 (hts (.fieldLink RX10 244 "NotEndedModel" "laws" "I") (List.mem_cons_of_mem _ (List.mem_append_left _ (List.mem_of_getElem? (i := 4) rfl)))) (fun _ h9 => h9) rfl dX10_text_19 ?_
      refine lv_bipush (v := 6) hx hb dX10_text_22 kc_b_6 ?_
      refine lv_icmp_ne (tgt := 41) hx hb dX10_text_24 kc_t_24_17 (fun c_5 => ?_) (fun c_5 => ?_)
      · have bd_7 : mkl < 2147483648 := by omega
        have hn_6 := kneq (a := mkl) (b := 6) bd_7 kc_31_6 c_5
        refine lv_aload_n hx hb dX10_text_41 rfl (lv_at hl 0 rfl) ?_
        refine lv_aload_n hx hb dX10_text_42 rfl (lv_at hl 0 rfl) ?_
        refine va_get (D := (dC, dI)) (ci := 10) (v := .ref m1) (C := RX10) (T := TX10) (N := 52) hx hb hts (fun _ h => List.mem_cons_of_mem _ (List.mem_append_right _ (List.mem_append_left _ h))) hown hK hP 0 rfl rfl 1 kc_l_1_52 (hts (.fieldLink RX10 9 "NotEndedModel" "tape" "[B") (List.mem_cons_of_mem _ (List.mem_append_left _ (List.mem_of_getElem? (i := 5) rfl)))) (fun _ h9 => h9) rfl dX10_text_43 ?_
        refine lv_iconst (v := 0) hx hb dX10_text_46 kc_i_0 ?_
        refine lv_aload_n hx hb dX10_text_47 rfl (lv_at hl 0 rfl) ?_
        refine va_get (D := (dC, dI)) (ci := 10) (v := .int (nI (ml))) (C := RX10) (T := TX10) (N := 52) hx hb hts (fun _ h => List.mem_cons_of_mem _ (List.mem_append_right _ (List.mem_append_left _ h))) hown hK hP 0 rfl rfl 6 kc_l_6_52 (hts (.fieldLink RX10 131 "NotEndedModel" "length" "I") (List.mem_cons_of_mem _ (List.mem_append_left _ (List.mem_of_getElem? (i := 6) rfl)))) (fun _ h9 => h9) rfl dX10_text_48 ?_
        refine lv_iload_n hx hb dX10_text_51 rfl (lv_at hl 1 rfl) ?_
        refine lv_iconst (v := 1) hx hb dX10_text_52 kc_i_1 ?_
        refine lv_icmp_ne (tgt := 60) hx hb dX10_text_53 kc_t_53_7 (fun c_8 => ?_) (fun c_8 => absurd c_8 (by decide))
        refine lv_iconst (v := 0) hx hb dX10_text_60 kc_i_0 ?_
        refine lv_iconst (v := 0) hx hb dX10_text_61 kc_i_0 ?_
        have bd_9 : 0 + ml ≤ 120 := by omega
        have hCu := kCut (wc := [(jM, .inr (10, [.int 0, .ref m1, .ref m2, .ref m3, .ref m4, v5, .int (nI (ml)), .int (nI (mkl)), .int (nI (mku)), v9, v10, v11, v12, v13, v14, v15, v16, v17, v18, .ref m19, .ref m20, .ref m21, .ref m22, .ref m23, .ref m24, .ref m25, .int (nI (mps)), .int (nI (mkw)), .ref m28, .ref m29, .ref m30, .ref m31, .ref m32, .ref m33, .ref m34, .ref m35, .ref m36, .int thr, .int (nI (ho)), .long xx, .ref m40, .ref m41, .ref m42, .ref m43, .ref m44, .int (nI (mkn)), .ref m46, .ref m47, .ref m48, .ref m49, .ref m50, .int (nI (mka))])), (m1, .inl (mc1, 120, .inl mf1)), (m4, .inl (mc4, 128, .inl mf4))]) hP hD hS hA [0, 1, 4] rfl kc_nd_948 rfl
        have hPc := hCu.1
        have hDc := hCu.2.1
        have hFc := hCu.2.2
        have hKc := hK.sb (tys2 := [(mc1, .byte), (mc4, .int)]) [0, 3] rfl
        refine va_callv (va_runV (As := [.ref m1, .int 0, .int (nI (ml)), .int 0, .int 0]) (rest := []) ⟨hx, hb, hml, hown, hts⟩ (s_go10_0 l dC dI ad jM (.int 0 : Value) (.ref m1 : Value) (.ref m2 : Value) (.ref m3 : Value) (v5 : Value) (.int (nI (ml)) : Value) (.int (nI (mkl)) : Value) (.int (nI (mku)) : Value) (v9 : Value) (v10 : Value) (v11 : Value) (v12 : Value) (v13 : Value) (v14 : Value) (v15 : Value) (v16 : Value) (v17 : Value) (v18 : Value) (.ref m19 : Value) (.ref m20 : Value) (.ref m21 : Value) (.ref m22 : Value) (.ref m23 : Value) (.ref m24 : Value) (.ref m25 : Value) (.int (nI (mps)) : Value) (.int (nI (mkw)) : Value) (.ref m28 : Value) (.ref m29 : Value) (.ref m30 : Value) (.ref m31 : Value) (.ref m32 : Value) (.ref m33 : Value) (.ref m34 : Value) (.ref m35 : Value) (.ref m36 : Value) (.int thr : Value) (.int (nI (ho)) : Value) (.long xx : Value) (.ref m40 : Value) (.ref m41 : Value) (.ref m42 : Value) (.ref m43 : Value) (.ref m44 : Value) (.int (nI (mkn)) : Value) (.ref m46 : Value) (.ref m47 : Value) (.ref m48 : Value) (.ref m49 : Value) (.ref m50 : Value) (.int (nI (mka)) : Value) m4 m1 mc1 120 mf1 0 ml bd_9 (Nat.le_of_ble_eq_true rfl) mc4 mf4 bA nA xA hnA gnA bB nB xB hnB gnB 0 H.size) (cwV 5 hts (kG (List.forall_mem_cons.mpr ⟨(List.mem_cons_of_mem _ (List.mem_append_left _ (List.mem_of_getElem? (i := 9) rfl))), (List.forall_mem_cons.mpr ⟨(List.mem_cons_of_mem _ (List.mem_append_left _ (List.mem_of_getElem? (i := 8) rfl))), (List.forall_mem_cons.mpr ⟨(List.mem_cons_of_mem _ (List.mem_append_left _ (List.mem_of_getElem? (i := 7) rfl))), (List.forall_mem_cons.mpr ⟨(List.mem_cons_of_mem _ (List.mem_append_left _ (List.mem_of_getElem? (i := 1) rfl))), (fun _ h => absurd h List.not_mem_nil)⟩)⟩)⟩)⟩) (kGV _ _ _ _) (fun _ h => List.mem_cons_of_mem _ (List.mem_append_right _ (List.mem_append_right _ (List.mem_append_right _ (List.mem_append_left _ h))))) gw_s_go10_0) rfl rfl rfl ⟨rfl, hd_X10_goThrough⟩ ⟨(Nat.le_of_ble_eq_true rfl), (Nat.le_of_ble_eq_true rfl)⟩) (kW_V kRd_blind (kRd_give hX.1 hS hFc) (va_recv hKc hPc (ci := 10) (q0 := 0) rfl rfl) hPc hKc hDc) rfl rfl hl.1 rfl (lv_room (Nat.le_of_ble_eq_true rfl)) dX10_text_62 ⟨(Nat.le_of_ble_eq_true rfl), (Nat.le_of_ble_eq_true rfl)⟩) hS (fun q _ h => hFc q h) hFc (kU5 (fun a1_10 xf_11 xd_12 fd_13 hf_14 t H_15 locs ht hvm hw hB hz1 hk1 hS => ?_))
        have hPD : kPD dC dI A [(jM, .inr (10, [.int 0, .ref m1, .ref m2, .ref m3, .ref m4, .ref m1, .int (nI (ml)), .int (nI (mkl)), .int (nI (mku)), .int (nI (0)), .int (nI (ml)), .int (nI (a1_10)), .int xf_11, .int xd_12, .int 0, .int fd_13, .ref (ad 5), .ref (ad 7), .int hf_14, .ref m19, .ref m20, .ref m21, .ref m22, .ref m23, .ref m24, .ref m25, .int (nI (mps)), .int (nI (mkw)), .ref m28, .ref m29, .ref m30, .ref m31, .ref m32, .ref m33, .ref m34, .ref m35, .ref m36, .int thr, .int (nI (ho)), .long xx, .ref m40, .ref m41, .ref m42, .ref m43, .ref m44, .int (nI (mkn)), .ref m46, .ref m47, .ref m48, .ref m49, .ref m50, .int (nI (mka))])), (m1, .inl (mc1, 120, .inl mf1)), (m2, .inl (mc2, 1680, .inl mf2)), (m3, .inl (mc3, 14, .inl mf3)), (m4, .inl (mc4, 128, .inl mf4)), (m19, .inl (mc19, 10, .inl mf19)), (m20, .inl (mc20, 10, .inl mf20)), (m21, .inl (mc21, 10, .inl mf21)), (m22, .inl (mc22, 10, .inl mf22)), (m23, .inl (mc23, 10, .inl mf23)), (m24, .inl (mc24, 4, .inl mf24)), (m25, .inl (mc25, 10, .inl mf25)), (m28, .inl (mc28, 10, .inl mf28)), (m29, .inl (mc29, 10, .inl mf29)), (m30, .inl (mc30, 10, .inl mf30)), (m31, .inl (mc31, 10, .inl mf31)), (m32, .inl (mc32, 10, .inl mf32)), (m33, .inl (mc33, 10, .inl mf33)), (m34, .inl (mc34, 10, .inl mf34)), (m35, .inl (mc35, 10, .inl mf35)), (m36, .inl (mc36, 10, .inl mf36)), (m40, .inl (mc40, 20, .inl mf40)), (m41, .inl (mc41, 20, .inl mf41)), (m42, .inl (mc42, 20, .inl mf42)), (m43, .inl (mc43, 20, .inl mf43)), (m44, .inl (mc44, 20, .inl mf44)), (m46, .inl (mc46, 14, .inr (.inl mf46))), (m47, .inl (mc47, 6, .inl mf47)), (m48, .inl (mc48, 6, .inl mf48)), (m49, .inl (mc49, 6, .inl mf49)), (m50, .inl (mc50, 6, .inl mf50))] H_15 := kJoinX hP hD [0, 1, 4] rfl hk1 hFc hB.1 ht hB.2.2 rfl [some 0, some 1, none, none, some 2, none, none, none, none, none, none, none, none, none, none, none, none, none, none, none, none, none, none, none, none, none, none, none, none, none, none] rfl rfl
        obtain ⟨hP, hD⟩ := hPD
        refine lv_aload_n hx hb dX10_text_65 rfl (lv_at hl 0 rfl) ?_
        refine va_get (D := (dC, dI)) (ci := 10) (v := .int xf_11) (C := RX10) (T := TX10) (N := 52) hx hb hts (fun _ h => List.mem_cons_of_mem _ (List.mem_append_right _ (List.mem_append_left _ h))) hown hK hP 0 rfl rfl 12 kc_l_12_52 (hts (.fieldLink RX10 150 "NotEndedModel" "fault" "I") (List.mem_cons_of_mem _ (List.mem_append_left _ (List.mem_of_getElem? (i := 10) rfl)))) (fun _ h9 => h9) rfl dX10_text_66 ?_
        refine lv_iconst (v := (-1)) hx hb dX10_text_69 kc_i_m1 ?_
        refine lv_icmp_eq (tgt := 75) hx hb dX10_text_70 kc_t_70_5 (fun c_17 => ?_) (fun c_17 => ?_)
        · refine lv_iload_n hx hb dX10_text_75 rfl (lv_at hl 1 rfl) ?_
          refine lv_if_ne (tgt := 86) hx hb dX10_text_76 kc_t_76_10 (fun c_18 => absurd (by decide) c_18) (fun c_18 => ?_)
          refine lv_aload_n hx hb dX10_text_79 rfl (lv_at hl 0 rfl) ?_
          refine va_get (D := (dC, dI)) (ci := 10) (v := .int (nI (mkl))) (C := RX10) (T := TX10) (N := 52) hx hb hts (fun _ h => List.mem_cons_of_mem _ (List.mem_append_right _ (List.mem_append_left _ h))) hown hK hP 0 rfl rfl 7 kc_l_7_52 (hts (.fieldLink RX10 244 "NotEndedModel" "laws" "I") (List.mem_cons_of_mem _ (List.mem_append_left _ (List.mem_of_getElem? (i := 4) rfl)))) (fun _ h9 => h9) rfl dX10_text_80 ?_
          refine lv_goto (tgt := 93) hx hb dX10_text_83 kc_t_83_10 ?_
          refine lv_istore_n hx hb dX10_text_93 rfl hl kc_l_2_4 (kTo [(2, .int (nI (mkl))), (0, .ref jM), (1, .int 0)]) (fun ls hl => ?_)
          refine lv_iconst (v := 0) hx hb dX10_text_94 kc_i_0 ?_
          refine lv_istore_n hx hb dX10_text_95 rfl hl kc_l_3_4 (kTo [(3, .int 0), (2, .int (nI (mkl))), (0, .ref jM), (1, .int 0)]) (fun ls hl => ?_)
          have lp_k_19 : ∀ (n9 : Nat) (i : Nat) (l2 : Nat → Int32) (ivk_19_0 : i ≤ ml) (H : Heap) (locs : List Loc) (_ : va_P (dC, dI) vwCl [(jM, .inr (10, [.int 0, .ref m1, .ref m2, .ref m3, .ref m4, .ref m1, .int (nI (ml)), .int (nI (mkl)), .int (nI (mku)), .int (nI (0)), .int (nI (ml)), .int (nI (a1_10)), .int xf_11, .int xd_12, .int 0, .int fd_13, .ref (ad 5), .ref (ad 7), .int hf_14, .ref m19, .ref m20, .ref m21, .ref m22, .ref m23, .ref m24, .ref m25, .int (nI (mps)), .int (nI (mkw)), .ref m28, .ref m29, .ref m30, .ref m31, .ref m32, .ref m33, .ref m34, .ref m35, .ref m36, .int thr, .int (nI (ho)), .long xx, .ref m40, .ref m41, .ref m42, .ref m43, .ref m44, .int (nI (mkn)), .ref m46, .ref m47, .ref m48, .ref m49, .ref m50, .int (nI (mka))])), (m1, .inl (mc1, 120, .inl mf1)), (m2, .inl (mc2, 1680, .inl l2)), (m3, .inl (mc3, 14, .inl mf3)), (m4, .inl (mc4, 128, .inl mf4)), (m19, .inl (mc19, 10, .inl mf19)), (m20, .inl (mc20, 10, .inl mf20)), (m21, .inl (mc21, 10, .inl mf21)), (m22, .inl (mc22, 10, .inl mf22)), (m23, .inl (mc23, 10, .inl mf23)), (m24, .inl (mc24, 4, .inl mf24)), (m25, .inl (mc25, 10, .inl mf25)), (m28, .inl (mc28, 10, .inl mf28)), (m29, .inl (mc29, 10, .inl mf29)), (m30, .inl (mc30, 10, .inl mf30)), (m31, .inl (mc31, 10, .inl mf31)), (m32, .inl (mc32, 10, .inl mf32)), (m33, .inl (mc33, 10, .inl mf33)), (m34, .inl (mc34, 10, .inl mf34)), (m35, .inl (mc35, 10, .inl mf35)), (m36, .inl (mc36, 10, .inl mf36)), (m40, .inl (mc40, 20, .inl mf40)), (m41, .inl (mc41, 20, .inl mf41)), (m42, .inl (mc42, 20, .inl mf42)), (m43, .inl (mc43, 20, .inl mf43)), (m44, .inl (mc44, 20, .inl mf44)), (m46, .inl (mc46, 14, .inr (.inl mf46))), (m47, .inl (mc47, 6, .inl mf47)), (m48, .inl (mc48, 6, .inl mf48)), (m49, .inl (mc49, 6, .inl mf49)), (m50, .inl (mc50, 6, .inl mf50))] H) (_ : va_D A [(jM, .inr (10, [.int 0, .ref m1, .ref m2, .ref m3, .ref m4, .ref m1, .int (nI (ml)), .int (nI (mkl)), .int (nI (mku)), .int (nI (0)), .int (nI (ml)), .int (nI (a1_10)), .int xf_11, .int xd_12, .int 0, .int fd_13, .ref (ad 5), .ref (ad 7), .int hf_14, .ref m19, .ref m20, .ref m21, .ref m22, .ref m23, .ref m24, .ref m25, .int (nI (mps)), .int (nI (mkw)), .ref m28, .ref m29, .ref m30, .ref m31, .ref m32, .ref m33, .ref m34, .ref m35, .ref m36, .int thr, .int (nI (ho)), .long xx, .ref m40, .ref m41, .ref m42, .ref m43, .ref m44, .int (nI (mkn)), .ref m46, .ref m47, .ref m48, .ref m49, .ref m50, .int (nI (mka))])), (m1, .inl (mc1, 120, .inl mf1)), (m2, .inl (mc2, 1680, .inl l2)), (m3, .inl (mc3, 14, .inl mf3)), (m4, .inl (mc4, 128, .inl mf4)), (m19, .inl (mc19, 10, .inl mf19)), (m20, .inl (mc20, 10, .inl mf20)), (m21, .inl (mc21, 10, .inl mf21)), (m22, .inl (mc22, 10, .inl mf22)), (m23, .inl (mc23, 10, .inl mf23)), (m24, .inl (mc24, 4, .inl mf24)), (m25, .inl (mc25, 10, .inl mf25)), (m28, .inl (mc28, 10, .inl mf28)), (m29, .inl (mc29, 10, .inl mf29)), (m30, .inl (mc30, 10, .inl mf30)), (m31, .inl (mc31, 10, .inl mf31)), (m32, .inl (mc32, 10, .inl mf32)), (m33, .inl (mc33, 10, .inl mf33)), (m34, .inl (mc34, 10, .inl mf34)), (m35, .inl (mc35, 10, .inl mf35)), (m36, .inl (mc36, 10, .inl mf36)), (m40, .inl (mc40, 20, .inl mf40)), (m41, .inl (mc41, 20, .inl mf41)), (m42, .inl (mc42, 20, .inl mf42)), (m43, .inl (mc43, 20, .inl mf43)), (m44, .inl (mc44, 20, .inl mf44)), (m46, .inl (mc46, 14, .inr (.inl mf46))), (m47, .inl (mc47, 6, .inl mf47)), (m48, .inl (mc48, 6, .inl mf48)), (m49, .inl (mc49, 6, .inl mf49)), (m50, .inl (mc50, 6, .inl mf50))]) (_ : va_S A s.heap H locs) (ls : Array Slot) (_ : lv_has ls 4 [(3, .int (nI (i))), (2, .int (nI (mkl))), (0, .ref jM), (1, .int 0)]) (_ : ml - i < n9), W p l e (headSpec w_s_text10 ({ frames := 60, cells := 0, slots := 0, locals := 3600 })).room s m (#[.ref jM, .int 0] : Array Value) below meth c H locs 0 0 Q (F0 m 96 ls []) := by
            intro n9
            induction n9 with
            | zero => intro i l2 ivk_19_0 H locs hP hD hS ls hl hm9; exact absurd hm9 (Nat.not_lt_zero _)
            | succ n9 ih_k_19 =>
              intro i l2 ivk_19_0 H locs hP hD hS ls hl hm9
              refine lv_iload_n hx hb dX10_text_96 rfl (lv_at hl 0 rfl) ?_
              refine lv_aload_n hx hb dX10_text_97 rfl (lv_at hl 2 rfl) ?_
              refine va_get (D := (dC, dI)) (ci := 10) (v := .int (nI (ml))) (C := RX10) (T := TX10) (N := 52) hx hb hts (fun _ h => List.mem_cons_of_mem _ (List.mem_append_right _ (List.mem_append_left _ h))) hown hK hP 0 rfl rfl 6 kc_l_6_52 (hts (.fieldLink RX10 131 "NotEndedModel" "length" "I") (List.mem_cons_of_mem _ (List.mem_append_left _ (List.mem_of_getElem? (i := 6) rfl)))) (fun _ h9 => h9) rfl dX10_text_98 ?_
              refine lv_icmp_ge (tgt := 127) hx hb dX10_text_101 kc_t_101_26 (fun c_20 => ?_) (fun c_20 => ?_)
              · have bd_22 : ml < 2147483648 := by omega
                have bd_23 : i < 2147483648 := by omega
                have hn_21 := kle (a := ml) (b := i) bd_22 bd_23 c_20
                refine lv_aload_n hx hb dX10_text_127 rfl (lv_at hl 2 rfl) ?_
                refine va_get (D := (dC, dI)) (ci := 10) (v := .ref m3) (C := RX10) (T := TX10) (N := 52) hx hb hts (fun _ h => List.mem_cons_of_mem _ (List.mem_append_right _ (List.mem_append_left _ h))) hown hK hP 0 rfl rfl 3 kc_l_3_52 (hts (.fieldLink RX10 16 "NotEndedModel" "textLong" "[I") (List.mem_cons_of_mem _ (List.mem_append_left _ (List.mem_of_getElem? (i := 11) rfl)))) (fun _ h9 => h9) rfl dX10_text_128 ?_
                refine lv_iload_n hx hb dX10_text_131 rfl (lv_at hl 1 rfl) ?_
                refine lv_aload_n hx hb dX10_text_132 rfl (lv_at hl 2 rfl) ?_
                refine va_get (D := (dC, dI)) (ci := 10) (v := .int (nI (ml))) (C := RX10) (T := TX10) (N := 52) hx hb hts (fun _ h => List.mem_cons_of_mem _ (List.mem_append_right _ (List.mem_append_left _ h))) hown hK hP 0 rfl rfl 6 kc_l_6_52 (hts (.fieldLink RX10 131 "NotEndedModel" "length" "I") (List.mem_cons_of_mem _ (List.mem_append_left _ (List.mem_of_getElem? (i := 6) rfl)))) (fun _ h9 => h9) rfl dX10_text_133 ?_
                have bd_25 : mkl < 14 := by omega
                refine va_iast hx hb hK hP hD hS 3 2 rfl rfl (vp_in_nI (n := mkl) (N := 14) bd_25 kc_31_14) dX10_text_136 (fun H locs hP hD hS => ?_)
                obtain ⟨f_24, ef_24⟩ : ∃ gg9 : Nat → Int32, gg9 = upd mf3 (Int32.toNatClampNeg (nI (mkl))) (nI (ml)) := ⟨_, rfl⟩
                have hPD : kPD dC dI A [(jM, .inr (10, [.int 0, .ref m1, .ref m2, .ref m3, .ref m4, .ref m1, .int (nI (ml)), .int (nI (mkl)), .int (nI (mku)), .int (nI (0)), .int (nI (ml)), .int (nI (a1_10)), .int xf_11, .int xd_12, .int 0, .int fd_13, .ref (ad 5), .ref (ad 7), .int hf_14, .ref m19, .ref m20, .ref m21, .ref m22, .ref m23, .ref m24, .ref m25, .int (nI (mps)), .int (nI (mkw)), .ref m28, .ref m29, .ref m30, .ref m31, .ref m32, .ref m33, .ref m34, .ref m35, .ref m36, .int thr, .int (nI (ho)), .long xx, .ref m40, .ref m41, .ref m42, .ref m43, .ref m44, .int (nI (mkn)), .ref m46, .ref m47, .ref m48, .ref m49, .ref m50, .int (nI (mka))])), (m1, .inl (mc1, 120, .inl mf1)), (m2, .inl (mc2, 1680, .inl l2)), (m3, .inl (mc3, 14, .inl f_24)), (m4, .inl (mc4, 128, .inl mf4)), (m19, .inl (mc19, 10, .inl mf19)), (m20, .inl (mc20, 10, .inl mf20)), (m21, .inl (mc21, 10, .inl mf21)), (m22, .inl (mc22, 10, .inl mf22)), (m23, .inl (mc23, 10, .inl mf23)), (m24, .inl (mc24, 4, .inl mf24)), (m25, .inl (mc25, 10, .inl mf25)), (m28, .inl (mc28, 10, .inl mf28)), (m29, .inl (mc29, 10, .inl mf29)), (m30, .inl (mc30, 10, .inl mf30)), (m31, .inl (mc31, 10, .inl mf31)), (m32, .inl (mc32, 10, .inl mf32)), (m33, .inl (mc33, 10, .inl mf33)), (m34, .inl (mc34, 10, .inl mf34)), (m35, .inl (mc35, 10, .inl mf35)), (m36, .inl (mc36, 10, .inl mf36)), (m40, .inl (mc40, 20, .inl mf40)), (m41, .inl (mc41, 20, .inl mf41)), (m42, .inl (mc42, 20, .inl mf42)), (m43, .inl (mc43, 20, .inl mf43)), (m44, .inl (mc44, 20, .inl mf44)), (m46, .inl (mc46, 14, .inr (.inl mf46))), (m47, .inl (mc47, 6, .inl mf47)), (m48, .inl (mc48, 6, .inl mf48)), (m49, .inl (mc49, 6, .inl mf49)), (m50, .inl (mc50, 6, .inl mf50))] H := by rw [ef_24]; exact ⟨hP, hD⟩
                obtain ⟨hP, hD⟩ := hPD
                refine lv_aload_n hx hb dX10_text_137 rfl (lv_at hl 2 rfl) ?_
                refine lv_iconst (v := 0) hx hb dX10_text_138 kc_i_0 ?_
                refine va_put (D := (dC, dI)) (ci := 10) (v := .int 0) (ty := tyX10 6) (C := RX10) (T := TX10) (N := 52) hx hb hts (fun _ h => List.mem_cons_of_mem _ (List.mem_append_right _ (List.mem_append_left _ h))) tyX10 tyX10_ok nmX10 hown hK hP hD hS 0 rfl rfl 6 kc_l_6_52 (hts (.fieldLink RX10 131 "NotEndedModel" "length" "I") (List.mem_cons_of_mem _ (List.mem_append_left _ (List.mem_of_getElem? (i := 6) rfl)))) (fun _ h9 => h9) rfl (tyX10_ok 6 kc_l_6_52) rfl rfl (Nat.le_of_ble_eq_true rfl) dX10_text_139 (fun H locs hP hD hS => ?_)
                have hPD : kPD dC dI A [(jM, .inr (10, [.int 0, .ref m1, .ref m2, .ref m3, .ref m4, .ref m1, .int 0, .int (nI (mkl)), .int (nI (mku)), .int (nI (0)), .int (nI (ml)), .int (nI (a1_10)), .int xf_11, .int xd_12, .int 0, .int fd_13, .ref (ad 5), .ref (ad 7), .int hf_14, .ref m19, .ref m20, .ref m21, .ref m22, .ref m23, .ref m24, .ref m25, .int (nI (mps)), .int (nI (mkw)), .ref m28, .ref m29, .ref m30, .ref m31, .ref m32, .ref m33, .ref m34, .ref m35, .ref m36, .int thr, .int (nI (ho)), .long xx, .ref m40, .ref m41, .ref m42, .ref m43, .ref m44, .int (nI (mkn)), .ref m46, .ref m47, .ref m48, .ref m49, .ref m50, .int (nI (mka))])), (m1, .inl (mc1, 120, .inl mf1)), (m2, .inl (mc2, 1680, .inl l2)), (m3, .inl (mc3, 14, .inl f_24)), (m4, .inl (mc4, 128, .inl mf4)), (m19, .inl (mc19, 10, .inl mf19)), (m20, .inl (mc20, 10, .inl mf20)), (m21, .inl (mc21, 10, .inl mf21)), (m22, .inl (mc22, 10, .inl mf22)), (m23, .inl (mc23, 10, .inl mf23)), (m24, .inl (mc24, 4, .inl mf24)), (m25, .inl (mc25, 10, .inl mf25)), (m28, .inl (mc28, 10, .inl mf28)), (m29, .inl (mc29, 10, .inl mf29)), (m30, .inl (mc30, 10, .inl mf30)), (m31, .inl (mc31, 10, .inl mf31)), (m32, .inl (mc32, 10, .inl mf32)), (m33, .inl (mc33, 10, .inl mf33)), (m34, .inl (mc34, 10, .inl mf34)), (m35, .inl (mc35, 10, .inl mf35)), (m36, .inl (mc36, 10, .inl mf36)), (m40, .inl (mc40, 20, .inl mf40)), (m41, .inl (mc41, 20, .inl mf41)), (m42, .inl (mc42, 20, .inl mf42)), (m43, .inl (mc43, 20, .inl mf43)), (m44, .inl (mc44, 20, .inl mf44)), (m46, .inl (mc46, 14, .inr (.inl mf46))), (m47, .inl (mc47, 6, .inl mf47)), (m48, .inl (mc48, 6, .inl mf48)), (m49, .inl (mc49, 6, .inl mf49)), (m50, .inl (mc50, 6, .inl mf50))] H := ⟨hP, hD⟩
                obtain ⟨hP, hD⟩ := hPD
                refine lv_iload_n hx hb dX10_text_142 rfl (lv_at hl 3 rfl) ?_
                refine lv_iconst (v := 1) hx hb dX10_text_143 kc_i_1 ?_
                refine lv_icmp_ne (tgt := 164) hx hb dX10_text_144 kc_t_144_20 (fun c_26 => ?_) (fun c_26 => absurd c_26 (by decide))
                refine lv_aload_n hx hb dX10_text_164 rfl (lv_at hl 2 rfl) ?_
                refine lv_dup hx hb dX10_text_165 rfl ?_
                refine va_get (D := (dC, dI)) (ci := 10) (v := .int (nI (mkl))) (C := RX10) (T := TX10) (N := 52) hx hb hts (fun _ h => List.mem_cons_of_mem _ (List.mem_append_right _ (List.mem_append_left _ h))) hown hK hP 0 rfl rfl 7 kc_l_7_52 (hts (.fieldLink RX10 244 "NotEndedModel" "laws" "I") (List.mem_cons_of_mem _ (List.mem_append_left _ (List.mem_of_getElem? (i := 4) rfl)))) (fun _ h9 => h9) rfl dX10_text_166 ?_
                refine lv_iconst (v := 1) hx hb dX10_text_169 kc_i_1 ?_
                refine lv_iadd hx hb dX10_text_170 ?_
                refine lv_topi (fun y_27 ey_27 => ?_)
                obtain rfl : y_27 = nI (mkl + 1) := ey_27.trans (nI_add (mkl) (1))
                refine va_put (D := (dC, dI)) (ci := 10) (v := .int (nI (mkl + 1))) (ty := tyX10 7) (C := RX10) (T := TX10) (N := 52) hx hb hts (fun _ h => List.mem_cons_of_mem _ (List.mem_append_right _ (List.mem_append_left _ h))) tyX10 tyX10_ok nmX10 hown hK hP hD hS 0 rfl rfl 7 kc_l_7_52 (hts (.fieldLink RX10 244 "NotEndedModel" "laws" "I") (List.mem_cons_of_mem _ (List.mem_append_left _ (List.mem_of_getElem? (i := 4) rfl)))) (fun _ h9 => h9) rfl (tyX10_ok 7 kc_l_7_52) rfl rfl (Nat.le_of_ble_eq_true rfl) dX10_text_171 (fun H locs hP hD hS => ?_)
                have hPD : kPD dC dI A [(jM, .inr (10, [.int 0, .ref m1, .ref m2, .ref m3, .ref m4, .ref m1, .int 0, .int (nI (mkl + 1)), .int (nI (mku)), .int (nI (0)), .int (nI (ml)), .int (nI (a1_10)), .int xf_11, .int xd_12, .int 0, .int fd_13, .ref (ad 5), .ref (ad 7), .int hf_14, .ref m19, .ref m20, .ref m21, .ref m22, .ref m23, .ref m24, .ref m25, .int (nI (mps)), .int (nI (mkw)), .ref m28, .ref m29, .ref m30, .ref m31, .ref m32, .ref m33, .ref m34, .ref m35, .ref m36, .int thr, .int (nI (ho)), .long xx, .ref m40, .ref m41, .ref m42, .ref m43, .ref m44, .int (nI (mkn)), .ref m46, .ref m47, .ref m48, .ref m49, .ref m50, .int (nI (mka))])), (m1, .inl (mc1, 120, .inl mf1)), (m2, .inl (mc2, 1680, .inl l2)), (m3, .inl (mc3, 14, .inl f_24)), (m4, .inl (mc4, 128, .inl mf4)), (m19, .inl (mc19, 10, .inl mf19)), (m20, .inl (mc20, 10, .inl mf20)), (m21, .inl (mc21, 10, .inl mf21)), (m22, .inl (mc22, 10, .inl mf22)), (m23, .inl (mc23, 10, .inl mf23)), (m24, .inl (mc24, 4, .inl mf24)), (m25, .inl (mc25, 10, .inl mf25)), (m28, .inl (mc28, 10, .inl mf28)), (m29, .inl (mc29, 10, .inl mf29)), (m30, .inl (mc30, 10, .inl mf30)), (m31, .inl (mc31, 10, .inl mf31)), (m32, .inl (mc32, 10, .inl mf32)), (m33, .inl (mc33, 10, .inl mf33)), (m34, .inl (mc34, 10, .inl mf34)), (m35, .inl (mc35, 10, .inl mf35)), (m36, .inl (mc36, 10, .inl mf36)), (m40, .inl (mc40, 20, .inl mf40)), (m41, .inl (mc41, 20, .inl mf41)), (m42, .inl (mc42, 20, .inl mf42)), (m43, .inl (mc43, 20, .inl mf43)), (m44, .inl (mc44, 20, .inl mf44)), (m46, .inl (mc46, 14, .inr (.inl mf46))), (m47, .inl (mc47, 6, .inl mf47)), (m48, .inl (mc48, 6, .inl mf48)), (m49, .inl (mc49, 6, .inl mf49)), (m50, .inl (mc50, 6, .inl mf50))] H := ⟨hP, hD⟩
                obtain ⟨hP, hD⟩ := hPD
                refine lv_aload_n hx hb dX10_text_174 rfl (lv_at hl 2 rfl) ?_
                refine va_get (D := (dC, dI)) (ci := 10) (v := .int (nI (mkl + 1))) (C := RX10) (T := TX10) (N := 52) hx hb hts (fun _ h => List.mem_cons_of_mem _ (List.mem_append_right _ (List.mem_append_left _ h))) hown hK hP 0 rfl rfl 7 kc_l_7_52 (hts (.fieldLink RX10 244 "NotEndedModel" "laws" "I") (List.mem_cons_of_mem _ (List.mem_append_left _ (List.mem_of_getElem? (i := 4) rfl)))) (fun _ h9 => h9) rfl dX10_text_175 ?_
                refine lv_iconst (v := 1) hx hb dX10_text_178 kc_i_1 ?_
                refine lv_isub hx hb dX10_text_179 ?_
                refine lv_topi (fun y_28 ey_28 => ?_)
                obtain rfl : y_28 = nI (mkl + 1 - 1) := ey_28.trans (pk_sub (a := mkl + 1) (b := 1) (by omega))
                have hP9 := hP
                have hD9 := hD
                have hK9 := hK
                rw [hQ]
                exact W.iret (v := nI (mkl + 1 - 1)) hx hb hr (fun t ht hW => ⟨⟨nI (mkl + 1 - 1), (l2, f_24, 0, 0, (mkl + 1), mku, (.ref m1 : Value), (.int (nI (0)) : Value), (.int (nI (ml)) : Value), (.int (nI (a1_10)) : Value), (.int xf_11 : Value), (.int xd_12 : Value), (.int 0 : Value), (.int fd_13 : Value), (.ref (ad 5) : Value), (.ref (ad 7) : Value), (.int hf_14 : Value)), rfl, ⟨by omega, by omega, by omega, by omega, by omega, kTlU (by omega) (by omega) ef_24 hTl⟩,  by rw [ht]; exact hP9, va_K.moved hW.alike hK9, hD9⟩, hS.F ht⟩) hS.2.2 dX10_text_180
              · have bd_30 : ml < 2147483648 := by omega
                have bd_31 : i < 2147483648 := by omega
                have hn_29 := knle (a := ml) (b := i) bd_30 bd_31 c_20
                refine lv_aload_n hx hb dX10_text_104 rfl (lv_at hl 2 rfl) ?_
                refine va_get (D := (dC, dI)) (ci := 10) (v := .ref m2) (C := RX10) (T := TX10) (N := 52) hx hb hts (fun _ h => List.mem_cons_of_mem _ (List.mem_append_right _ (List.mem_append_left _ h))) hown hK hP 0 rfl rfl 2 kc_l_2_52 (hts (.fieldLink RX10 13 "NotEndedModel" "texts" "[B") (List.mem_cons_of_mem _ (List.mem_append_left _ (List.mem_of_getElem? (i := 12) rfl)))) (fun _ h9 => h9) rfl dX10_text_105 ?_
                refine lv_bipush (v := 120) hx hb dX10_text_108 kc_b_120 ?_
                refine lv_iload_n hx hb dX10_text_110 rfl (lv_at hl 1 rfl) ?_
                refine lv_imul hx hb dX10_text_111 ?_
                refine lv_topi (fun y_32 ey_32 => ?_)
                obtain rfl : y_32 = nI ((120) * (mkl)) := ey_32.trans (pk_mul _ _)
                refine lv_iload_n hx hb dX10_text_112 rfl (lv_at hl 0 rfl) ?_
                refine lv_iadd hx hb dX10_text_113 ?_
                refine lv_topi (fun y_33 ey_33 => ?_)
                obtain rfl : y_33 = nI ((120) * (mkl) + i) := ey_33.trans (nI_add ((120) * (mkl)) (i))
                refine lv_aload_n hx hb dX10_text_114 rfl (lv_at hl 2 rfl) ?_
                refine va_get (D := (dC, dI)) (ci := 10) (v := .ref m1) (C := RX10) (T := TX10) (N := 52) hx hb hts (fun _ h => List.mem_cons_of_mem _ (List.mem_append_right _ (List.mem_append_left _ h))) hown hK hP 0 rfl rfl 1 kc_l_1_52 (hts (.fieldLink RX10 9 "NotEndedModel" "tape" "[B") (List.mem_cons_of_mem _ (List.mem_append_left _ (List.mem_of_getElem? (i := 5) rfl)))) (fun _ h9 => h9) rfl dX10_text_115 ?_
                refine lv_iload_n hx hb dX10_text_118 rfl (lv_at hl 0 rfl) ?_
                have bd_34 : i < 120 := by omega
                refine va_bald hx hb hK hP 1 0 rfl rfl (vp_in_nI (n := i) (N := 120) bd_34 kc_31_120) dX10_text_119 ?_
                refine lv_topi (fun x_35 ex_35 => ?_)
                have bd_37 : (120) * (mkl) + i < 1680 := by omega
                refine va_bast hx hb hK hP hD hS 2 1 rfl rfl (vp_in_nI (n := (120) * (mkl) + i) (N := 1680) bd_37 kc_31_1680) dX10_text_120 (fun H locs hP hD hS => ?_)
                obtain ⟨f_36, ef_36⟩ : ∃ gg9 : Nat → Int32, gg9 = upd l2 (Int32.toNatClampNeg (nI ((120) * (mkl) + i))) (vp_nar .byte x_35) := ⟨_, rfl⟩
                have hPD : kPD dC dI A [(jM, .inr (10, [.int 0, .ref m1, .ref m2, .ref m3, .ref m4, .ref m1, .int (nI (ml)), .int (nI (mkl)), .int (nI (mku)), .int (nI (0)), .int (nI (ml)), .int (nI (a1_10)), .int xf_11, .int xd_12, .int 0, .int fd_13, .ref (ad 5), .ref (ad 7), .int hf_14, .ref m19, .ref m20, .ref m21, .ref m22, .ref m23, .ref m24, .ref m25, .int (nI (mps)), .int (nI (mkw)), .ref m28, .ref m29, .ref m30, .ref m31, .ref m32, .ref m33, .ref m34, .ref m35, .ref m36, .int thr, .int (nI (ho)), .long xx, .ref m40, .ref m41, .ref m42, .ref m43, .ref m44, .int (nI (mkn)), .ref m46, .ref m47, .ref m48, .ref m49, .ref m50, .int (nI (mka))])), (m1, .inl (mc1, 120, .inl mf1)), (m2, .inl (mc2, 1680, .inl f_36)), (m3, .inl (mc3, 14, .inl mf3)), (m4, .inl (mc4, 128, .inl mf4)), (m19, .inl (mc19, 10, .inl mf19)), (m20, .inl (mc20, 10, .inl mf20)), (m21, .inl (mc21, 10, .inl mf21)), (m22, .inl (mc22, 10, .inl mf22)), (m23, .inl (mc23, 10, .inl mf23)), (m24, .inl (mc24, 4, .inl mf24)), (m25, .inl (mc25, 10, .inl mf25)), (m28, .inl (mc28, 10, .inl mf28)), (m29, .inl (mc29, 10, .inl mf29)), (m30, .inl (mc30, 10, .inl mf30)), (m31, .inl (mc31, 10, .inl mf31)), (m32, .inl (mc32, 10, .inl mf32)), (m33, .inl (mc33, 10, .inl mf33)), (m34, .inl (mc34, 10, .inl mf34)), (m35, .inl (mc35, 10, .inl mf35)), (m36, .inl (mc36, 10, .inl mf36)), (m40, .inl (mc40, 20, .inl mf40)), (m41, .inl (mc41, 20, .inl mf41)), (m42, .inl (mc42, 20, .inl mf42)), (m43, .inl (mc43, 20, .inl mf43)), (m44, .inl (mc44, 20, .inl mf44)), (m46, .inl (mc46, 14, .inr (.inl mf46))), (m47, .inl (mc47, 6, .inl mf47)), (m48, .inl (mc48, 6, .inl mf48)), (m49, .inl (mc49, 6, .inl mf49)), (m50, .inl (mc50, 6, .inl mf50))] H := by rw [ef_36]; exact ⟨hP, hD⟩
                obtain ⟨hP, hD⟩ := hPD
                refine lv_iinc (v := nI (i + 1)) hx hb dX10_text_121 hl (k := 0) rfl (kInc _ 1) kc_l_3_4 (kTo [(3, .int (nI (i + 1))), (2, .int (nI (mkl))), (0, .ref jM), (1, .int 0)]) (fun ls hl => ?_)
                refine lv_goto (tgt := 96) hx hb dX10_text_124 kc_t_124_m28 ?_
                exact ih_k_19 (i + 1) f_36 (by omega) _ _ hP hD hS ls (lv_sub hl [0, 1, 2, 3] rfl) (by omega)
          exact lp_k_19 (ml - 0 + 1) 0 mf2 (by omega) _ _ hP hD hS ls (lv_sub hl [0, 1, 2, 3] rfl) (by omega)
        · refine lv_iconst (v := (-1)) hx hb dX10_text_73 kc_i_m1 ?_
          have hP9 := hP
          have hD9 := hD
          have hK9 := hK
          rw [hQ]
          exact W.iret (v := (-1)) hx hb hr (fun t ht hW => ⟨⟨(-1), (mf2, mf3, 0, ml, mkl, mku, (.ref m1 : Value), (.int (nI (0)) : Value), (.int (nI (ml)) : Value), (.int (nI (a1_10)) : Value), (.int xf_11 : Value), (.int xd_12 : Value), (.int 0 : Value), (.int fd_13 : Value), (.ref (ad 5) : Value), (.ref (ad 7) : Value), (.int hf_14 : Value)), rfl, ⟨by omega, by omega, by omega, by omega, by omega, hTl⟩,  by rw [ht]; exact hP9, va_K.moved hW.alike hK9, hD9⟩, hS.F ht⟩) hS.2.2 dX10_text_74
      · have bd_39 : mkl < 2147483648 := by omega
        have hn_38 := keq (a := mkl) (b := 6) bd_39 kc_31_6 c_5
        refine lv_goto (tgt := 39) hx hb dX10_text_27 kc_t_27_12 ?_
        refine lv_iconst (v := (-1)) hx hb dX10_text_39 kc_i_m1 ?_
        have hP9 := hP
        have hD9 := hD
        have hK9 := hK
        rw [hQ]
        exact W.iret (v := (-1)) hx hb hr (fun t ht hW => ⟨⟨(-1), (mf2, mf3, 0, ml, mkl, mku, (v5 : Value), (v9 : Value), (v10 : Value), (v11 : Value), (v12 : Value), (v13 : Value), (v14 : Value), (v15 : Value), (v16 : Value), (v17 : Value), (v18 : Value)), rfl, ⟨by omega, by omega, by omega, by omega, by omega, hTl⟩,  by rw [ht]; exact hP9, va_K.moved hW.alike hK9, hD9⟩, hS.F ht⟩) hS.2.2 dX10_text_40
    · refine lv_iload_n hx hb dX10_text_14 rfl (lv_at hl 1 rfl) ?_
      refine lv_if_ne (tgt := 30) hx hb dX10_text_15 kc_t_15_15 (fun c_40 => ?_) (fun c_40 => absurd c_40 (by decide))
      refine lv_aload_n hx hb dX10_text_30 rfl (lv_at hl 0 rfl) ?_
      refine va_get (D := (dC, dI)) (ci := 10) (v := .int (nI (mku))) (C := RX10) (T := TX10) (N := 52) hx hb hts (fun _ h => List.mem_cons_of_mem _ (List.mem_append_right _ (List.mem_append_left _ h))) hown hK hP 0 rfl rfl 8 kc_l_8_52 (hts (.fieldLink RX10 247 "NotEndedModel" "turnings" "I") (List.mem_cons_of_mem _ (List.mem_append_left _ (List.mem_of_getElem? (i := 13) rfl)))) (fun _ h9 => h9) rfl dX10_text_31 ?_
      refine lv_bipush (v := 8) hx hb dX10_text_34 kc_b_8 ?_
      refine lv_icmp_ne (tgt := 41) hx hb dX10_text_36 kc_t_36_5 (fun c_41 => ?_) (fun c_41 => ?_)
      · have bd_43 : mku < 2147483648 := by omega
        have hn_42 := kneq (a := mku) (b := 8) bd_43 kc_31_8 c_41
        refine lv_aload_n hx hb dX10_text_41 rfl (lv_at hl 0 rfl) ?_
        refine lv_aload_n hx hb dX10_text_42 rfl (lv_at hl 0 rfl) ?_
        refine va_get (D := (dC, dI)) (ci := 10) (v := .ref m1) (C := RX10) (T := TX10) (N := 52) hx hb hts (fun _ h => List.mem_cons_of_mem _ (List.mem_append_right _ (List.mem_append_left _ h))) hown hK hP 0 rfl rfl 1 kc_l_1_52 (hts (.fieldLink RX10 9 "NotEndedModel" "tape" "[B") (List.mem_cons_of_mem _ (List.mem_append_left _ (List.mem_of_getElem? (i := 5) rfl)))) (fun _ h9 => h9) rfl dX10_text_43 ?_
        refine lv_iconst (v := 0) hx hb dX10_text_46 kc_i_0 ?_
        refine lv_aload_n hx hb dX10_text_47 rfl (lv_at hl 0 rfl) ?_
        refine va_get (D := (dC, dI)) (ci := 10) (v := .int (nI (ml))) (C := RX10) (T := TX10) (N := 52) hx hb hts (fun _ h => List.mem_cons_of_mem _ (List.mem_append_right _ (List.mem_append_left _ h))) hown hK hP 0 rfl rfl 6 kc_l_6_52 (hts (.fieldLink RX10 131 "NotEndedModel" "length" "I") (List.mem_cons_of_mem _ (List.mem_append_left _ (List.mem_of_getElem? (i := 6) rfl)))) (fun _ h9 => h9) rfl dX10_text_48 ?_
        refine lv_iload_n hx hb dX10_text_51 rfl (lv_at hl 1 rfl) ?_
        refine lv_iconst (v := 1) hx hb dX10_text_52 kc_i_1 ?_
        refine lv_icmp_ne (tgt := 60) hx hb dX10_text_53 kc_t_53_7 (fun c_44 => absurd (by decide) c_44) (fun c_44 => ?_)
        refine lv_iconst (v := 1) hx hb dX10_text_56 kc_i_1 ?_
        refine lv_goto (tgt := 61) hx hb dX10_text_57 kc_t_57_4 ?_
        refine lv_iconst (v := 0) hx hb dX10_text_61 kc_i_0 ?_
        have bd_45 : 0 + ml ≤ 120 := by omega
        have hCu := kCut (wc := [(jM, .inr (10, [.int 0, .ref m1, .ref m2, .ref m3, .ref m4, v5, .int (nI (ml)), .int (nI (mkl)), .int (nI (mku)), v9, v10, v11, v12, v13, v14, v15, v16, v17, v18, .ref m19, .ref m20, .ref m21, .ref m22, .ref m23, .ref m24, .ref m25, .int (nI (mps)), .int (nI (mkw)), .ref m28, .ref m29, .ref m30, .ref m31, .ref m32, .ref m33, .ref m34, .ref m35, .ref m36, .int thr, .int (nI (ho)), .long xx, .ref m40, .ref m41, .ref m42, .ref m43, .ref m44, .int (nI (mkn)), .ref m46, .ref m47, .ref m48, .ref m49, .ref m50, .int (nI (mka))])), (m1, .inl (mc1, 120, .inl mf1)), (m4, .inl (mc4, 128, .inl mf4))]) hP hD hS hA [0, 1, 4] rfl kc_nd_948 rfl
        have hPc := hCu.1
        have hDc := hCu.2.1
        have hFc := hCu.2.2
        have hKc := hK.sb (tys2 := [(mc1, .byte), (mc4, .int)]) [0, 3] rfl
        refine va_callv (va_runV (As := [.ref m1, .int 0, .int (nI (ml)), .int 1, .int 0]) (rest := []) ⟨hx, hb, hml, hown, hts⟩ (s_go10_1 l dC dI ad jM (.int 0 : Value) (.ref m1 : Value) (.ref m2 : Value) (.ref m3 : Value) (v5 : Value) (.int (nI (ml)) : Value) (.int (nI (mkl)) : Value) (.int (nI (mku)) : Value) (v9 : Value) (v10 : Value) (v11 : Value) (v12 : Value) (v13 : Value) (v14 : Value) (v15 : Value) (v16 : Value) (v17 : Value) (v18 : Value) (.ref m19 : Value) (.ref m20 : Value) (.ref m21 : Value) (.ref m22 : Value) (.ref m23 : Value) (.ref m24 : Value) (.ref m25 : Value) (.int (nI (mps)) : Value) (.int (nI (mkw)) : Value) (.ref m28 : Value) (.ref m29 : Value) (.ref m30 : Value) (.ref m31 : Value) (.ref m32 : Value) (.ref m33 : Value) (.ref m34 : Value) (.ref m35 : Value) (.ref m36 : Value) (.int thr : Value) (.int (nI (ho)) : Value) (.long xx : Value) (.ref m40 : Value) (.ref m41 : Value) (.ref m42 : Value) (.ref m43 : Value) (.ref m44 : Value) (.int (nI (mkn)) : Value) (.ref m46 : Value) (.ref m47 : Value) (.ref m48 : Value) (.ref m49 : Value) (.ref m50 : Value) (.int (nI (mka)) : Value) m4 m1 mc1 120 mf1 0 ml bd_45 (Nat.le_of_ble_eq_true rfl) mc4 mf4 bE nE xE hnE gnE bG nG xG hnG gnG 0 H.size) (cwV 5 hts (kG (List.forall_mem_cons.mpr ⟨(List.mem_cons_of_mem _ (List.mem_append_left _ (List.mem_of_getElem? (i := 9) rfl))), (List.forall_mem_cons.mpr ⟨(List.mem_cons_of_mem _ (List.mem_append_left _ (List.mem_of_getElem? (i := 8) rfl))), (List.forall_mem_cons.mpr ⟨(List.mem_cons_of_mem _ (List.mem_append_left _ (List.mem_of_getElem? (i := 7) rfl))), (List.forall_mem_cons.mpr ⟨(List.mem_cons_of_mem _ (List.mem_append_left _ (List.mem_of_getElem? (i := 1) rfl))), (fun _ h => absurd h List.not_mem_nil)⟩)⟩)⟩)⟩) (kGV _ _ _ _) (fun _ h => List.mem_cons_of_mem _ (List.mem_append_right _ (List.mem_append_right _ (List.mem_append_right _ (List.mem_append_right _ h))))) gw_s_go10_1) rfl rfl rfl ⟨rfl, hd_X10_goThrough⟩ ⟨(Nat.le_of_ble_eq_true rfl), (Nat.le_of_ble_eq_true rfl)⟩) (kW_V kRd_blind (kRd_give hX.2 hS hFc) (va_recv hKc hPc (ci := 10) (q0 := 0) rfl rfl) hPc hKc hDc) rfl rfl hl.1 rfl (lv_room (Nat.le_of_ble_eq_true rfl)) dX10_text_62 ⟨(Nat.le_of_ble_eq_true rfl), (Nat.le_of_ble_eq_true rfl)⟩) hS (fun q _ h => hFc q h) hFc (kU5 (fun a1_46 xf_47 xd_48 fd_49 hf_50 t H_51 locs ht hvm hw hB hz1 hk1 hS => ?_))
        have hPD : kPD dC dI A [(jM, .inr (10, [.int 0, .ref m1, .ref m2, .ref m3, .ref m4, .ref m1, .int (nI (ml)), .int (nI (mkl)), .int (nI (mku)), .int (nI (0)), .int (nI (ml)), .int (nI (a1_46)), .int xf_47, .int xd_48, .int 0, .int fd_49, .ref (ad 6), .ref (ad 8), .int hf_50, .ref m19, .ref m20, .ref m21, .ref m22, .ref m23, .ref m24, .ref m25, .int (nI (mps)), .int (nI (mkw)), .ref m28, .ref m29, .ref m30, .ref m31, .ref m32, .ref m33, .ref m34, .ref m35, .ref m36, .int thr, .int (nI (ho)), .long xx, .ref m40, .ref m41, .ref m42, .ref m43, .ref m44, .int (nI (mkn)), .ref m46, .ref m47, .ref m48, .ref m49, .ref m50, .int (nI (mka))])), (m1, .inl (mc1, 120, .inl mf1)), (m2, .inl (mc2, 1680, .inl mf2)), (m3, .inl (mc3, 14, .inl mf3)), (m4, .inl (mc4, 128, .inl mf4)), (m19, .inl (mc19, 10, .inl mf19)), (m20, .inl (mc20, 10, .inl mf20)), (m21, .inl (mc21, 10, .inl mf21)), (m22, .inl (mc22, 10, .inl mf22)), (m23, .inl (mc23, 10, .inl mf23)), (m24, .inl (mc24, 4, .inl mf24)), (m25, .inl (mc25, 10, .inl mf25)), (m28, .inl (mc28, 10, .inl mf28)), (m29, .inl (mc29, 10, .inl mf29)), (m30, .inl (mc30, 10, .inl mf30)), (m31, .inl (mc31, 10, .inl mf31)), (m32, .inl (mc32, 10, .inl mf32)), (m33, .inl (mc33, 10, .inl mf33)), (m34, .inl (mc34, 10, .inl mf34)), (m35, .inl (mc35, 10, .inl mf35)), (m36, .inl (mc36, 10, .inl mf36)), (m40, .inl (mc40, 20, .inl mf40)), (m41, .inl (mc41, 20, .inl mf41)), (m42, .inl (mc42, 20, .inl mf42)), (m43, .inl (mc43, 20, .inl mf43)), (m44, .inl (mc44, 20, .inl mf44)), (m46, .inl (mc46, 14, .inr (.inl mf46))), (m47, .inl (mc47, 6, .inl mf47)), (m48, .inl (mc48, 6, .inl mf48)), (m49, .inl (mc49, 6, .inl mf49)), (m50, .inl (mc50, 6, .inl mf50))] H_51 := kJoinX hP hD [0, 1, 4] rfl hk1 hFc hB.1 ht hB.2.2 rfl [some 0, some 1, none, none, some 2, none, none, none, none, none, none, none, none, none, none, none, none, none, none, none, none, none, none, none, none, none, none, none, none, none, none] rfl rfl
        obtain ⟨hP, hD⟩ := hPD
        refine lv_aload_n hx hb dX10_text_65 rfl (lv_at hl 0 rfl) ?_
        refine va_get (D := (dC, dI)) (ci := 10) (v := .int xf_47) (C := RX10) (T := TX10) (N := 52) hx hb hts (fun _ h => List.mem_cons_of_mem _ (List.mem_append_right _ (List.mem_append_left _ h))) hown hK hP 0 rfl rfl 12 kc_l_12_52 (hts (.fieldLink RX10 150 "NotEndedModel" "fault" "I") (List.mem_cons_of_mem _ (List.mem_append_left _ (List.mem_of_getElem? (i := 10) rfl)))) (fun _ h9 => h9) rfl dX10_text_66 ?_
        refine lv_iconst (v := (-1)) hx hb dX10_text_69 kc_i_m1 ?_
        refine lv_icmp_eq (tgt := 75) hx hb dX10_text_70 kc_t_70_5 (fun c_53 => ?_) (fun c_53 => ?_)
        · refine lv_iload_n hx hb dX10_text_75 rfl (lv_at hl 1 rfl) ?_
          refine lv_if_ne (tgt := 86) hx hb dX10_text_76 kc_t_76_10 (fun c_54 => ?_) (fun c_54 => absurd c_54 (by decide))
          refine lv_bipush (v := 6) hx hb dX10_text_86 kc_b_6 ?_
          refine lv_aload_n hx hb dX10_text_88 rfl (lv_at hl 0 rfl) ?_
          refine va_get (D := (dC, dI)) (ci := 10) (v := .int (nI (mku))) (C := RX10) (T := TX10) (N := 52) hx hb hts (fun _ h => List.mem_cons_of_mem _ (List.mem_append_right _ (List.mem_append_left _ h))) hown hK hP 0 rfl rfl 8 kc_l_8_52 (hts (.fieldLink RX10 247 "NotEndedModel" "turnings" "I") (List.mem_cons_of_mem _ (List.mem_append_left _ (List.mem_of_getElem? (i := 13) rfl)))) (fun _ h9 => h9) rfl dX10_text_89 ?_
          refine lv_iadd hx hb dX10_text_92 ?_
          refine lv_topi (fun y_55 ey_55 => ?_)
          obtain rfl : y_55 = nI (6 + mku) := ey_55.trans (nI_add (6) (mku))
          refine lv_istore_n hx hb dX10_text_93 rfl hl kc_l_2_4 (kTo [(2, .int (nI (6 + mku))), (0, .ref jM), (1, .int 1)]) (fun ls hl => ?_)
          refine lv_iconst (v := 0) hx hb dX10_text_94 kc_i_0 ?_
          refine lv_istore_n hx hb dX10_text_95 rfl hl kc_l_3_4 (kTo [(3, .int 0), (2, .int (nI (6 + mku))), (0, .ref jM), (1, .int 1)]) (fun ls hl => ?_)
          have lp_k_56 : ∀ (n9 : Nat) (i : Nat) (l2 : Nat → Int32) (ivk_56_0 : i ≤ ml) (H : Heap) (locs : List Loc) (_ : va_P (dC, dI) vwCl [(jM, .inr (10, [.int 0, .ref m1, .ref m2, .ref m3, .ref m4, .ref m1, .int (nI (ml)), .int (nI (mkl)), .int (nI (mku)), .int (nI (0)), .int (nI (ml)), .int (nI (a1_46)), .int xf_47, .int xd_48, .int 0, .int fd_49, .ref (ad 6), .ref (ad 8), .int hf_50, .ref m19, .ref m20, .ref m21, .ref m22, .ref m23, .ref m24, .ref m25, .int (nI (mps)), .int (nI (mkw)), .ref m28, .ref m29, .ref m30, .ref m31, .ref m32, .ref m33, .ref m34, .ref m35, .ref m36, .int thr, .int (nI (ho)), .long xx, .ref m40, .ref m41, .ref m42, .ref m43, .ref m44, .int (nI (mkn)), .ref m46, .ref m47, .ref m48, .ref m49, .ref m50, .int (nI (mka))])), (m1, .inl (mc1, 120, .inl mf1)), (m2, .inl (mc2, 1680, .inl l2)), (m3, .inl (mc3, 14, .inl mf3)), (m4, .inl (mc4, 128, .inl mf4)), (m19, .inl (mc19, 10, .inl mf19)), (m20, .inl (mc20, 10, .inl mf20)), (m21, .inl (mc21, 10, .inl mf21)), (m22, .inl (mc22, 10, .inl mf22)), (m23, .inl (mc23, 10, .inl mf23)), (m24, .inl (mc24, 4, .inl mf24)), (m25, .inl (mc25, 10, .inl mf25)), (m28, .inl (mc28, 10, .inl mf28)), (m29, .inl (mc29, 10, .inl mf29)), (m30, .inl (mc30, 10, .inl mf30)), (m31, .inl (mc31, 10, .inl mf31)), (m32, .inl (mc32, 10, .inl mf32)), (m33, .inl (mc33, 10, .inl mf33)), (m34, .inl (mc34, 10, .inl mf34)), (m35, .inl (mc35, 10, .inl mf35)), (m36, .inl (mc36, 10, .inl mf36)), (m40, .inl (mc40, 20, .inl mf40)), (m41, .inl (mc41, 20, .inl mf41)), (m42, .inl (mc42, 20, .inl mf42)), (m43, .inl (mc43, 20, .inl mf43)), (m44, .inl (mc44, 20, .inl mf44)), (m46, .inl (mc46, 14, .inr (.inl mf46))), (m47, .inl (mc47, 6, .inl mf47)), (m48, .inl (mc48, 6, .inl mf48)), (m49, .inl (mc49, 6, .inl mf49)), (m50, .inl (mc50, 6, .inl mf50))] H) (_ : va_D A [(jM, .inr (10, [.int 0, .ref m1, .ref m2, .ref m3, .ref m4, .ref m1, .int (nI (ml)), .int (nI (mkl)), .int (nI (mku)), .int (nI (0)), .int (nI (ml)), .int (nI (a1_46)), .int xf_47, .int xd_48, .int 0, .int fd_49, .ref (ad 6), .ref (ad 8), .int hf_50, .ref m19, .ref m20, .ref m21, .ref m22, .ref m23, .ref m24, .ref m25, .int (nI (mps)), .int (nI (mkw)), .ref m28, .ref m29, .ref m30, .ref m31, .ref m32, .ref m33, .ref m34, .ref m35, .ref m36, .int thr, .int (nI (ho)), .long xx, .ref m40, .ref m41, .ref m42, .ref m43, .ref m44, .int (nI (mkn)), .ref m46, .ref m47, .ref m48, .ref m49, .ref m50, .int (nI (mka))])), (m1, .inl (mc1, 120, .inl mf1)), (m2, .inl (mc2, 1680, .inl l2)), (m3, .inl (mc3, 14, .inl mf3)), (m4, .inl (mc4, 128, .inl mf4)), (m19, .inl (mc19, 10, .inl mf19)), (m20, .inl (mc20, 10, .inl mf20)), (m21, .inl (mc21, 10, .inl mf21)), (m22, .inl (mc22, 10, .inl mf22)), (m23, .inl (mc23, 10, .inl mf23)), (m24, .inl (mc24, 4, .inl mf24)), (m25, .inl (mc25, 10, .inl mf25)), (m28, .inl (mc28, 10, .inl mf28)), (m29, .inl (mc29, 10, .inl mf29)), (m30, .inl (mc30, 10, .inl mf30)), (m31, .inl (mc31, 10, .inl mf31)), (m32, .inl (mc32, 10, .inl mf32)), (m33, .inl (mc33, 10, .inl mf33)), (m34, .inl (mc34, 10, .inl mf34)), (m35, .inl (mc35, 10, .inl mf35)), (m36, .inl (mc36, 10, .inl mf36)), (m40, .inl (mc40, 20, .inl mf40)), (m41, .inl (mc41, 20, .inl mf41)), (m42, .inl (mc42, 20, .inl mf42)), (m43, .inl (mc43, 20, .inl mf43)), (m44, .inl (mc44, 20, .inl mf44)), (m46, .inl (mc46, 14, .inr (.inl mf46))), (m47, .inl (mc47, 6, .inl mf47)), (m48, .inl (mc48, 6, .inl mf48)), (m49, .inl (mc49, 6, .inl mf49)), (m50, .inl (mc50, 6, .inl mf50))]) (_ : va_S A s.heap H locs) (ls : Array Slot) (_ : lv_has ls 4 [(3, .int (nI (i))), (2, .int (nI (6 + mku))), (0, .ref jM), (1, .int 1)]) (_ : ml - i < n9), W p l e (headSpec w_s_text10 ({ frames := 60, cells := 0, slots := 0, locals := 3600 })).room s m (#[.ref jM, .int 1] : Array Value) below meth c H locs 0 0 Q (F0 m 96 ls []) := by
            intro n9
            induction n9 with
            | zero => intro i l2 ivk_56_0 H locs hP hD hS ls hl hm9; exact absurd hm9 (Nat.not_lt_zero _)
            | succ n9 ih_k_56 =>
              intro i l2 ivk_56_0 H locs hP hD hS ls hl hm9
              refine lv_iload_n hx hb dX10_text_96 rfl (lv_at hl 0 rfl) ?_
              refine lv_aload_n hx hb dX10_text_97 rfl (lv_at hl 2 rfl) ?_
              refine va_get (D := (dC, dI)) (ci := 10) (v := .int (nI (ml))) (C := RX10) (T := TX10) (N := 52) hx hb hts (fun _ h => List.mem_cons_of_mem _ (List.mem_append_right _ (List.mem_append_left _ h))) hown hK hP 0 rfl rfl 6 kc_l_6_52 (hts (.fieldLink RX10 131 "NotEndedModel" "length" "I") (List.mem_cons_of_mem _ (List.mem_append_left _ (List.mem_of_getElem? (i := 6) rfl)))) (fun _ h9 => h9) rfl dX10_text_98 ?_
              refine lv_icmp_ge (tgt := 127) hx hb dX10_text_101 kc_t_101_26 (fun c_57 => ?_) (fun c_57 => ?_)
              · have bd_59 : ml < 2147483648 := by omega
                have bd_60 : i < 2147483648 := by omega
                have hn_58 := kle (a := ml) (b := i) bd_59 bd_60 c_57
                refine lv_aload_n hx hb dX10_text_127 rfl (lv_at hl 2 rfl) ?_
                refine va_get (D := (dC, dI)) (ci := 10) (v := .ref m3) (C := RX10) (T := TX10) (N := 52) hx hb hts (fun _ h => List.mem_cons_of_mem _ (List.mem_append_right _ (List.mem_append_left _ h))) hown hK hP 0 rfl rfl 3 kc_l_3_52 (hts (.fieldLink RX10 16 "NotEndedModel" "textLong" "[I") (List.mem_cons_of_mem _ (List.mem_append_left _ (List.mem_of_getElem? (i := 11) rfl)))) (fun _ h9 => h9) rfl dX10_text_128 ?_
                refine lv_iload_n hx hb dX10_text_131 rfl (lv_at hl 1 rfl) ?_
                refine lv_aload_n hx hb dX10_text_132 rfl (lv_at hl 2 rfl) ?_
                refine va_get (D := (dC, dI)) (ci := 10) (v := .int (nI (ml))) (C := RX10) (T := TX10) (N := 52) hx hb hts (fun _ h => List.mem_cons_of_mem _ (List.mem_append_right _ (List.mem_append_left _ h))) hown hK hP 0 rfl rfl 6 kc_l_6_52 (hts (.fieldLink RX10 131 "NotEndedModel" "length" "I") (List.mem_cons_of_mem _ (List.mem_append_left _ (List.mem_of_getElem? (i := 6) rfl)))) (fun _ h9 => h9) rfl dX10_text_133 ?_
                have bd_62 : 6 + mku < 14 := by omega
                refine va_iast hx hb hK hP hD hS 3 2 rfl rfl (vp_in_nI (n := 6 + mku) (N := 14) bd_62 kc_31_14) dX10_text_136 (fun H locs hP hD hS => ?_)
                obtain ⟨f_61, ef_61⟩ : ∃ gg9 : Nat → Int32, gg9 = upd mf3 (Int32.toNatClampNeg (nI (6 + mku))) (nI (ml)) := ⟨_, rfl⟩
                have hPD : kPD dC dI A [(jM, .inr (10, [.int 0, .ref m1, .ref m2, .ref m3, .ref m4, .ref m1, .int (nI (ml)), .int (nI (mkl)), .int (nI (mku)), .int (nI (0)), .int (nI (ml)), .int (nI (a1_46)), .int xf_47, .int xd_48, .int 0, .int fd_49, .ref (ad 6), .ref (ad 8), .int hf_50, .ref m19, .ref m20, .ref m21, .ref m22, .ref m23, .ref m24, .ref m25, .int (nI (mps)), .int (nI (mkw)), .ref m28, .ref m29, .ref m30, .ref m31, .ref m32, .ref m33, .ref m34, .ref m35, .ref m36, .int thr, .int (nI (ho)), .long xx, .ref m40, .ref m41, .ref m42, .ref m43, .ref m44, .int (nI (mkn)), .ref m46, .ref m47, .ref m48, .ref m49, .ref m50, .int (nI (mka))])), (m1, .inl (mc1, 120, .inl mf1)), (m2, .inl (mc2, 1680, .inl l2)), (m3, .inl (mc3, 14, .inl f_61)), (m4, .inl (mc4, 128, .inl mf4)), (m19, .inl (mc19, 10, .inl mf19)), (m20, .inl (mc20, 10, .inl mf20)), (m21, .inl (mc21, 10, .inl mf21)), (m22, .inl (mc22, 10, .inl mf22)), (m23, .inl (mc23, 10, .inl mf23)), (m24, .inl (mc24, 4, .inl mf24)), (m25, .inl (mc25, 10, .inl mf25)), (m28, .inl (mc28, 10, .inl mf28)), (m29, .inl (mc29, 10, .inl mf29)), (m30, .inl (mc30, 10, .inl mf30)), (m31, .inl (mc31, 10, .inl mf31)), (m32, .inl (mc32, 10, .inl mf32)), (m33, .inl (mc33, 10, .inl mf33)), (m34, .inl (mc34, 10, .inl mf34)), (m35, .inl (mc35, 10, .inl mf35)), (m36, .inl (mc36, 10, .inl mf36)), (m40, .inl (mc40, 20, .inl mf40)), (m41, .inl (mc41, 20, .inl mf41)), (m42, .inl (mc42, 20, .inl mf42)), (m43, .inl (mc43, 20, .inl mf43)), (m44, .inl (mc44, 20, .inl mf44)), (m46, .inl (mc46, 14, .inr (.inl mf46))), (m47, .inl (mc47, 6, .inl mf47)), (m48, .inl (mc48, 6, .inl mf48)), (m49, .inl (mc49, 6, .inl mf49)), (m50, .inl (mc50, 6, .inl mf50))] H := by rw [ef_61]; exact ⟨hP, hD⟩
                obtain ⟨hP, hD⟩ := hPD
                refine lv_aload_n hx hb dX10_text_137 rfl (lv_at hl 2 rfl) ?_
                refine lv_iconst (v := 0) hx hb dX10_text_138 kc_i_0 ?_
                refine va_put (D := (dC, dI)) (ci := 10) (v := .int 0) (ty := tyX10 6) (C := RX10) (T := TX10) (N := 52) hx hb hts (fun _ h => List.mem_cons_of_mem _ (List.mem_append_right _ (List.mem_append_left _ h))) tyX10 tyX10_ok nmX10 hown hK hP hD hS 0 rfl rfl 6 kc_l_6_52 (hts (.fieldLink RX10 131 "NotEndedModel" "length" "I") (List.mem_cons_of_mem _ (List.mem_append_left _ (List.mem_of_getElem? (i := 6) rfl)))) (fun _ h9 => h9) rfl (tyX10_ok 6 kc_l_6_52) rfl rfl (Nat.le_of_ble_eq_true rfl) dX10_text_139 (fun H locs hP hD hS => ?_)
                have hPD : kPD dC dI A [(jM, .inr (10, [.int 0, .ref m1, .ref m2, .ref m3, .ref m4, .ref m1, .int 0, .int (nI (mkl)), .int (nI (mku)), .int (nI (0)), .int (nI (ml)), .int (nI (a1_46)), .int xf_47, .int xd_48, .int 0, .int fd_49, .ref (ad 6), .ref (ad 8), .int hf_50, .ref m19, .ref m20, .ref m21, .ref m22, .ref m23, .ref m24, .ref m25, .int (nI (mps)), .int (nI (mkw)), .ref m28, .ref m29, .ref m30, .ref m31, .ref m32, .ref m33, .ref m34, .ref m35, .ref m36, .int thr, .int (nI (ho)), .long xx, .ref m40, .ref m41, .ref m42, .ref m43, .ref m44, .int (nI (mkn)), .ref m46, .ref m47, .ref m48, .ref m49, .ref m50, .int (nI (mka))])), (m1, .inl (mc1, 120, .inl mf1)), (m2, .inl (mc2, 1680, .inl l2)), (m3, .inl (mc3, 14, .inl f_61)), (m4, .inl (mc4, 128, .inl mf4)), (m19, .inl (mc19, 10, .inl mf19)), (m20, .inl (mc20, 10, .inl mf20)), (m21, .inl (mc21, 10, .inl mf21)), (m22, .inl (mc22, 10, .inl mf22)), (m23, .inl (mc23, 10, .inl mf23)), (m24, .inl (mc24, 4, .inl mf24)), (m25, .inl (mc25, 10, .inl mf25)), (m28, .inl (mc28, 10, .inl mf28)), (m29, .inl (mc29, 10, .inl mf29)), (m30, .inl (mc30, 10, .inl mf30)), (m31, .inl (mc31, 10, .inl mf31)), (m32, .inl (mc32, 10, .inl mf32)), (m33, .inl (mc33, 10, .inl mf33)), (m34, .inl (mc34, 10, .inl mf34)), (m35, .inl (mc35, 10, .inl mf35)), (m36, .inl (mc36, 10, .inl mf36)), (m40, .inl (mc40, 20, .inl mf40)), (m41, .inl (mc41, 20, .inl mf41)), (m42, .inl (mc42, 20, .inl mf42)), (m43, .inl (mc43, 20, .inl mf43)), (m44, .inl (mc44, 20, .inl mf44)), (m46, .inl (mc46, 14, .inr (.inl mf46))), (m47, .inl (mc47, 6, .inl mf47)), (m48, .inl (mc48, 6, .inl mf48)), (m49, .inl (mc49, 6, .inl mf49)), (m50, .inl (mc50, 6, .inl mf50))] H := ⟨hP, hD⟩
                obtain ⟨hP, hD⟩ := hPD
                refine lv_iload_n hx hb dX10_text_142 rfl (lv_at hl 3 rfl) ?_
                refine lv_iconst (v := 1) hx hb dX10_text_143 kc_i_1 ?_
                refine lv_icmp_ne (tgt := 164) hx hb dX10_text_144 kc_t_144_20 (fun c_63 => absurd (by decide) c_63) (fun c_63 => ?_)
                refine lv_aload_n hx hb dX10_text_147 rfl (lv_at hl 2 rfl) ?_
                refine lv_dup hx hb dX10_text_148 rfl ?_
                refine va_get (D := (dC, dI)) (ci := 10) (v := .int (nI (mku))) (C := RX10) (T := TX10) (N := 52) hx hb hts (fun _ h => List.mem_cons_of_mem _ (List.mem_append_right _ (List.mem_append_left _ h))) hown hK hP 0 rfl rfl 8 kc_l_8_52 (hts (.fieldLink RX10 247 "NotEndedModel" "turnings" "I") (List.mem_cons_of_mem _ (List.mem_append_left _ (List.mem_of_getElem? (i := 13) rfl)))) (fun _ h9 => h9) rfl dX10_text_149 ?_
                refine lv_iconst (v := 1) hx hb dX10_text_152 kc_i_1 ?_
                refine lv_iadd hx hb dX10_text_153 ?_
                refine lv_topi (fun y_64 ey_64 => ?_)
                obtain rfl : y_64 = nI (mku + 1) := ey_64.trans (nI_add (mku) (1))
                refine va_put (D := (dC, dI)) (ci := 10) (v := .int (nI (mku + 1))) (ty := tyX10 8) (C := RX10) (T := TX10) (N := 52) hx hb hts (fun _ h => List.mem_cons_of_mem _ (List.mem_append_right _ (List.mem_append_left _ h))) tyX10 tyX10_ok nmX10 hown hK hP hD hS 0 rfl rfl 8 kc_l_8_52 (hts (.fieldLink RX10 247 "NotEndedModel" "turnings" "I") (List.mem_cons_of_mem _ (List.mem_append_left _ (List.mem_of_getElem? (i := 13) rfl)))) (fun _ h9 => h9) rfl (tyX10_ok 8 kc_l_8_52) rfl rfl (Nat.le_of_ble_eq_true rfl) dX10_text_154 (fun H locs hP hD hS => ?_)
                have hPD : kPD dC dI A [(jM, .inr (10, [.int 0, .ref m1, .ref m2, .ref m3, .ref m4, .ref m1, .int 0, .int (nI (mkl)), .int (nI (mku + 1)), .int (nI (0)), .int (nI (ml)), .int (nI (a1_46)), .int xf_47, .int xd_48, .int 0, .int fd_49, .ref (ad 6), .ref (ad 8), .int hf_50, .ref m19, .ref m20, .ref m21, .ref m22, .ref m23, .ref m24, .ref m25, .int (nI (mps)), .int (nI (mkw)), .ref m28, .ref m29, .ref m30, .ref m31, .ref m32, .ref m33, .ref m34, .ref m35, .ref m36, .int thr, .int (nI (ho)), .long xx, .ref m40, .ref m41, .ref m42, .ref m43, .ref m44, .int (nI (mkn)), .ref m46, .ref m47, .ref m48, .ref m49, .ref m50, .int (nI (mka))])), (m1, .inl (mc1, 120, .inl mf1)), (m2, .inl (mc2, 1680, .inl l2)), (m3, .inl (mc3, 14, .inl f_61)), (m4, .inl (mc4, 128, .inl mf4)), (m19, .inl (mc19, 10, .inl mf19)), (m20, .inl (mc20, 10, .inl mf20)), (m21, .inl (mc21, 10, .inl mf21)), (m22, .inl (mc22, 10, .inl mf22)), (m23, .inl (mc23, 10, .inl mf23)), (m24, .inl (mc24, 4, .inl mf24)), (m25, .inl (mc25, 10, .inl mf25)), (m28, .inl (mc28, 10, .inl mf28)), (m29, .inl (mc29, 10, .inl mf29)), (m30, .inl (mc30, 10, .inl mf30)), (m31, .inl (mc31, 10, .inl mf31)), (m32, .inl (mc32, 10, .inl mf32)), (m33, .inl (mc33, 10, .inl mf33)), (m34, .inl (mc34, 10, .inl mf34)), (m35, .inl (mc35, 10, .inl mf35)), (m36, .inl (mc36, 10, .inl mf36)), (m40, .inl (mc40, 20, .inl mf40)), (m41, .inl (mc41, 20, .inl mf41)), (m42, .inl (mc42, 20, .inl mf42)), (m43, .inl (mc43, 20, .inl mf43)), (m44, .inl (mc44, 20, .inl mf44)), (m46, .inl (mc46, 14, .inr (.inl mf46))), (m47, .inl (mc47, 6, .inl mf47)), (m48, .inl (mc48, 6, .inl mf48)), (m49, .inl (mc49, 6, .inl mf49)), (m50, .inl (mc50, 6, .inl mf50))] H := ⟨hP, hD⟩
                obtain ⟨hP, hD⟩ := hPD
                refine lv_aload_n hx hb dX10_text_157 rfl (lv_at hl 2 rfl) ?_
                refine va_get (D := (dC, dI)) (ci := 10) (v := .int (nI (mku + 1))) (C := RX10) (T := TX10) (N := 52) hx hb hts (fun _ h => List.mem_cons_of_mem _ (List.mem_append_right _ (List.mem_append_left _ h))) hown hK hP 0 rfl rfl 8 kc_l_8_52 (hts (.fieldLink RX10 247 "NotEndedModel" "turnings" "I") (List.mem_cons_of_mem _ (List.mem_append_left _ (List.mem_of_getElem? (i := 13) rfl)))) (fun _ h9 => h9) rfl dX10_text_158 ?_
                refine lv_iconst (v := 1) hx hb dX10_text_161 kc_i_1 ?_
                refine lv_isub hx hb dX10_text_162 ?_
                refine lv_topi (fun y_65 ey_65 => ?_)
                obtain rfl : y_65 = nI (mku + 1 - 1) := ey_65.trans (pk_sub (a := mku + 1) (b := 1) (by omega))
                have hP9 := hP
                have hD9 := hD
                have hK9 := hK
                rw [hQ]
                exact W.iret (v := nI (mku + 1 - 1)) hx hb hr (fun t ht hW => ⟨⟨nI (mku + 1 - 1), (l2, f_61, 0, 0, mkl, (mku + 1), (.ref m1 : Value), (.int (nI (0)) : Value), (.int (nI (ml)) : Value), (.int (nI (a1_46)) : Value), (.int xf_47 : Value), (.int xd_48 : Value), (.int 0 : Value), (.int fd_49 : Value), (.ref (ad 6) : Value), (.ref (ad 8) : Value), (.int hf_50 : Value)), rfl, ⟨by omega, by omega, by omega, by omega, by omega, kTlU (by omega) (by omega) ef_61 hTl⟩,  by rw [ht]; exact hP9, va_K.moved hW.alike hK9, hD9⟩, hS.F ht⟩) hS.2.2 dX10_text_163
              · have bd_67 : ml < 2147483648 := by omega
                have bd_68 : i < 2147483648 := by omega
                have hn_66 := knle (a := ml) (b := i) bd_67 bd_68 c_57
                refine lv_aload_n hx hb dX10_text_104 rfl (lv_at hl 2 rfl) ?_
                refine va_get (D := (dC, dI)) (ci := 10) (v := .ref m2) (C := RX10) (T := TX10) (N := 52) hx hb hts (fun _ h => List.mem_cons_of_mem _ (List.mem_append_right _ (List.mem_append_left _ h))) hown hK hP 0 rfl rfl 2 kc_l_2_52 (hts (.fieldLink RX10 13 "NotEndedModel" "texts" "[B") (List.mem_cons_of_mem _ (List.mem_append_left _ (List.mem_of_getElem? (i := 12) rfl)))) (fun _ h9 => h9) rfl dX10_text_105 ?_
                refine lv_bipush (v := 120) hx hb dX10_text_108 kc_b_120 ?_
                refine lv_iload_n hx hb dX10_text_110 rfl (lv_at hl 1 rfl) ?_
                refine lv_imul hx hb dX10_text_111 ?_
                refine lv_topi (fun y_69 ey_69 => ?_)
                obtain rfl : y_69 = nI ((120) * (6 + mku)) := ey_69.trans (pk_mul _ _)
                refine lv_iload_n hx hb dX10_text_112 rfl (lv_at hl 0 rfl) ?_
                refine lv_iadd hx hb dX10_text_113 ?_
                refine lv_topi (fun y_70 ey_70 => ?_)
                obtain rfl : y_70 = nI ((120) * (6 + mku) + i) := ey_70.trans (nI_add ((120) * (6 + mku)) (i))
                refine lv_aload_n hx hb dX10_text_114 rfl (lv_at hl 2 rfl) ?_
                refine va_get (D := (dC, dI)) (ci := 10) (v := .ref m1) (C := RX10) (T := TX10) (N := 52) hx hb hts (fun _ h => List.mem_cons_of_mem _ (List.mem_append_right _ (List.mem_append_left _ h))) hown hK hP 0 rfl rfl 1 kc_l_1_52 (hts (.fieldLink RX10 9 "NotEndedModel" "tape" "[B") (List.mem_cons_of_mem _ (List.mem_append_left _ (List.mem_of_getElem? (i := 5) rfl)))) (fun _ h9 => h9) rfl dX10_text_115 ?_
                refine lv_iload_n hx hb dX10_text_118 rfl (lv_at hl 0 rfl) ?_
                have bd_71 : i < 120 := by omega
                refine va_bald hx hb hK hP 1 0 rfl rfl (vp_in_nI (n := i) (N := 120) bd_71 kc_31_120) dX10_text_119 ?_
                refine lv_topi (fun x_72 ex_72 => ?_)
                have bd_74 : (120) * (6 + mku) + i < 1680 := by omega
                refine va_bast hx hb hK hP hD hS 2 1 rfl rfl (vp_in_nI (n := (120) * (6 + mku) + i) (N := 1680) bd_74 kc_31_1680) dX10_text_120 (fun H locs hP hD hS => ?_)
                obtain ⟨f_73, ef_73⟩ : ∃ gg9 : Nat → Int32, gg9 = upd l2 (Int32.toNatClampNeg (nI ((120) * (6 + mku) + i))) (vp_nar .byte x_72) := ⟨_, rfl⟩
                have hPD : kPD dC dI A [(jM, .inr (10, [.int 0, .ref m1, .ref m2, .ref m3, .ref m4, .ref m1, .int (nI (ml)), .int (nI (mkl)), .int (nI (mku)), .int (nI (0)), .int (nI (ml)), .int (nI (a1_46)), .int xf_47, .int xd_48, .int 0, .int fd_49, .ref (ad 6), .ref (ad 8), .int hf_50, .ref m19, .ref m20, .ref m21, .ref m22, .ref m23, .ref m24, .ref m25, .int (nI (mps)), .int (nI (mkw)), .ref m28, .ref m29, .ref m30, .ref m31, .ref m32, .ref m33, .ref m34, .ref m35, .ref m36, .int thr, .int (nI (ho)), .long xx, .ref m40, .ref m41, .ref m42, .ref m43, .ref m44, .int (nI (mkn)), .ref m46, .ref m47, .ref m48, .ref m49, .ref m50, .int (nI (mka))])), (m1, .inl (mc1, 120, .inl mf1)), (m2, .inl (mc2, 1680, .inl f_73)), (m3, .inl (mc3, 14, .inl mf3)), (m4, .inl (mc4, 128, .inl mf4)), (m19, .inl (mc19, 10, .inl mf19)), (m20, .inl (mc20, 10, .inl mf20)), (m21, .inl (mc21, 10, .inl mf21)), (m22, .inl (mc22, 10, .inl mf22)), (m23, .inl (mc23, 10, .inl mf23)), (m24, .inl (mc24, 4, .inl mf24)), (m25, .inl (mc25, 10, .inl mf25)), (m28, .inl (mc28, 10, .inl mf28)), (m29, .inl (mc29, 10, .inl mf29)), (m30, .inl (mc30, 10, .inl mf30)), (m31, .inl (mc31, 10, .inl mf31)), (m32, .inl (mc32, 10, .inl mf32)), (m33, .inl (mc33, 10, .inl mf33)), (m34, .inl (mc34, 10, .inl mf34)), (m35, .inl (mc35, 10, .inl mf35)), (m36, .inl (mc36, 10, .inl mf36)), (m40, .inl (mc40, 20, .inl mf40)), (m41, .inl (mc41, 20, .inl mf41)), (m42, .inl (mc42, 20, .inl mf42)), (m43, .inl (mc43, 20, .inl mf43)), (m44, .inl (mc44, 20, .inl mf44)), (m46, .inl (mc46, 14, .inr (.inl mf46))), (m47, .inl (mc47, 6, .inl mf47)), (m48, .inl (mc48, 6, .inl mf48)), (m49, .inl (mc49, 6, .inl mf49)), (m50, .inl (mc50, 6, .inl mf50))] H := by rw [ef_73]; exact ⟨hP, hD⟩
                obtain ⟨hP, hD⟩ := hPD
                refine lv_iinc (v := nI (i + 1)) hx hb dX10_text_121 hl (k := 0) rfl (kInc _ 1) kc_l_3_4 (kTo [(3, .int (nI (i + 1))), (2, .int (nI (6 + mku))), (0, .ref jM), (1, .int 1)]) (fun ls hl => ?_)
                refine lv_goto (tgt := 96) hx hb dX10_text_124 kc_t_124_m28 ?_
                exact ih_k_56 (i + 1) f_73 (by omega) _ _ hP hD hS ls (lv_sub hl [0, 1, 2, 3] rfl) (by omega)
          exact lp_k_56 (ml - 0 + 1) 0 mf2 (by omega) _ _ hP hD hS ls (lv_sub hl [0, 1, 2, 3] rfl) (by omega)
        · refine lv_iconst (v := (-1)) hx hb dX10_text_73 kc_i_m1 ?_
          have hP9 := hP
          have hD9 := hD
          have hK9 := hK
          rw [hQ]
          exact W.iret (v := (-1)) hx hb hr (fun t ht hW => ⟨⟨(-1), (mf2, mf3, 0, ml, mkl, mku, (.ref m1 : Value), (.int (nI (0)) : Value), (.int (nI (ml)) : Value), (.int (nI (a1_46)) : Value), (.int xf_47 : Value), (.int xd_48 : Value), (.int 0 : Value), (.int fd_49 : Value), (.ref (ad 6) : Value), (.ref (ad 8) : Value), (.int hf_50 : Value)), rfl, ⟨by omega, by omega, by omega, by omega, by omega, hTl⟩,  by rw [ht]; exact hP9, va_K.moved hW.alike hK9, hD9⟩, hS.F ht⟩) hS.2.2 dX10_text_74
      · have bd_76 : mku < 2147483648 := by omega
        have hn_75 := keq (a := mku) (b := 8) bd_76 kc_31_8 c_41
        refine lv_iconst (v := (-1)) hx hb dX10_text_39 kc_i_m1 ?_
        have hP9 := hP
        have hD9 := hD
        have hK9 := hK
        rw [hQ]
        exact W.iret (v := (-1)) hx hb hr (fun t ht hW => ⟨⟨(-1), (mf2, mf3, 0, ml, mkl, mku, (v5 : Value), (v9 : Value), (v10 : Value), (v11 : Value), (v12 : Value), (v13 : Value), (v14 : Value), (v15 : Value), (v16 : Value), (v17 : Value), (v18 : Value)), rfl, ⟨by omega, by omega, by omega, by omega, by omega, hTl⟩,  by rw [ht]; exact hP9, va_K.moved hW.alike hK9, hD9⟩, hS.F ht⟩) hS.2.2 dX10_text_40

theorem dX10_bytesIn_0 : decode cX10_bytesIn 0 = .ok (.iconst 0, 1) := by decide +kernel
theorem dX10_bytesIn_1 : decode cX10_bytesIn 1 = .ok (.istore_n 1, 1) := by decide +kernel
theorem dX10_bytesIn_2 : decode cX10_bytesIn 2 = .ok (.bipush 24, 2) := by decide +kernel
theorem dX10_bytesIn_4 : decode cX10_bytesIn 4 = .ok (.istore_n 2, 1) := by decide +kernel
theorem dX10_bytesIn_5 : decode cX10_bytesIn 5 = .ok (.iload_n 2, 1) := by decide +kernel
theorem dX10_bytesIn_6 : decode cX10_bytesIn 6 = .ok (.ifCond .lt 27, 3) := by decide +kernel
theorem dX10_bytesIn_9 : decode cX10_bytesIn 9 = .ok (.iload_n 1, 1) := by decide +kernel
theorem dX10_bytesIn_10 : decode cX10_bytesIn 10 = .ok (.iload_n 0, 1) := by decide +kernel
theorem dX10_bytesIn_11 : decode cX10_bytesIn 11 = .ok (.iload_n 2, 1) := by decide +kernel
theorem dX10_bytesIn_12 : decode cX10_bytesIn 12 = .ok (.ishr, 1) := by decide +kernel
theorem dX10_bytesIn_13 : decode cX10_bytesIn 13 = .ok (.sipush 255, 3) := by decide +kernel
theorem dX10_bytesIn_16 : decode cX10_bytesIn 16 = .ok (.iand, 1) := by decide +kernel
theorem dX10_bytesIn_17 : decode cX10_bytesIn 17 = .ok (.ifCond .eq 7, 3) := by decide +kernel
theorem dX10_bytesIn_24 : decode cX10_bytesIn 24 = .ok (.iconst 0, 1) := by decide +kernel
theorem dX10_bytesIn_25 : decode cX10_bytesIn 25 = .ok (.iadd, 1) := by decide +kernel
theorem dX10_bytesIn_26 : decode cX10_bytesIn 26 = .ok (.istore_n 1, 1) := by decide +kernel
theorem dX10_bytesIn_27 : decode cX10_bytesIn 27 = .ok (.iinc 2 (-8), 3) := by decide +kernel
theorem dX10_bytesIn_30 : decode cX10_bytesIn 30 = .ok (.goto (-25), 3) := by decide +kernel
theorem dX10_bytesIn_33 : decode cX10_bytesIn 33 = .ok (.iload_n 1, 1) := by decide +kernel
theorem dX10_bytesIn_34 : decode cX10_bytesIn 34 = .ok (.ireturn, 1) := by decide +kernel
theorem dX10_bytesIn_20 : decode cX10_bytesIn 20 = .ok (.iconst 1, 1) := by decide +kernel
theorem dX10_bytesIn_21 : decode cX10_bytesIn 21 = .ok (.goto 4, 3) := by decide +kernel
def w_s_bytes10 : List Cond := .code yX10_bytesIn cX10_bytesIn 3 (some .int) :: ([])
theorem gw_s_bytes10 : (w_s_bytes10).all goodWord = true := kGc rfl kGn
theorem hd_X10_bytesIn : yX10_bytesIn.cls ≠ "java/lang/invoke/MethodHandle" ∧ yX10_bytesIn.cls ≠ "java/lang/invoke/VarHandle" ∧ (parseMethodDescriptor yX10_bytesIn.desc).map (fun d => d.parameters.length) = some 1 := by decide +kernel
set_option maxHeartbeats 4000000 in
set_option maxRecDepth 100000 in
theorem s_bytes10 (l : Launch) (dC : Nat → ClassId) (dI : Nat → Nat → Nat) (p0 : Int32) : Met l yX10_bytesIn w_s_bytes10 ({ frames := 1, cells := 0, slots := 0, locals := 60 }) (kR dC dI [.int p0] [] [] kT) (vp_Si (fun r : Int32 => r = nI (kCnt p0))) 0 0 (fun _ => False) := by
  refine Met.ofW (cc := cX10_bytesIn) (maxL := 3) (ret := (some .int)) (by decide) rfl ?_
  intro p e s m args below meth c s₁ B hml hv
  obtain ⟨rfl, hP, hK, hX⟩ := hv
  have hx := B.exec
  have hb := B.bytes
  have hr := B.returns
  have hts := atoms_spec (ws := w_s_bytes10) B.pre
  have hown : s.vm.findClass RX10 = some m.cls := findClass_of_methodNamed B.named
  have hlocks := B.notSynchronized
  have hP : va_P (dC, dI) vwCl [] s.heap := hP
  have hl := lv_entry ([.int p0]) (n := 3) (Nat.le_of_ble_eq_true rfl)
  rw [lg_entry_eq]
  generalize (lg_sl ([.int p0]) ++ List.replicate (3 - (lg_sl ([.int p0])).length) Slot.unset).toArray = ls at hl ⊢
  have hl : lv_has ls 3 [(0, .int p0)] := hl
  refine kQ (fun Q hQ => ?_)
  refine lv_iconst (v := 0) hx hb dX10_bytesIn_0 kc_i_0 ?_
  refine lv_istore_n hx hb dX10_bytesIn_1 rfl hl kc_l_1_3 (kTo [(1, .int 0), (0, .int p0)]) (fun ls hl => ?_)
  refine lv_bipush (v := 24) hx hb dX10_bytesIn_2 kc_b_24 ?_
  refine lv_istore_n hx hb dX10_bytesIn_4 rfl hl kc_l_2_3 (kTo [(2, .int 24), (1, .int 0), (0, .int p0)]) (fun ls hl => ?_)
  refine lv_iload_n hx hb dX10_bytesIn_5 rfl (lv_at hl 0 rfl) ?_
  refine lv_if_lt (tgt := 33) hx hb dX10_bytesIn_6 kc_t_6_27 (fun c_1 => absurd c_1 (by decide)) (fun c_1 => ?_)
  refine lv_iload_n hx hb dX10_bytesIn_9 rfl (lv_at hl 1 rfl) ?_
  refine lv_iload_n hx hb dX10_bytesIn_10 rfl (lv_at hl 2 rfl) ?_
  refine lv_iload_n hx hb dX10_bytesIn_11 rfl (lv_at hl 0 rfl) ?_
  refine lv_ishr hx hb dX10_bytesIn_12 ?_
  refine lv_topi (fun x_2 ex_2 => ?_)
  refine lv_sipush (v := 255) hx hb dX10_bytesIn_13 kc_s_255 ?_
  refine lv_iand hx hb dX10_bytesIn_16 ?_
  refine lv_topi (fun x_3 ex_3 => ?_)
  have hy_4 : kS p0 24 = x_3 := by rw [ex_3, ex_2]; rfl
  refine lv_if_eq (tgt := 24) hx hb dX10_bytesIn_17 kc_t_17_7 (fun c_5 => ?_) (fun c_5 => ?_)
  · refine lv_iconst (v := 0) hx hb dX10_bytesIn_24 kc_i_0 ?_
    refine lv_iadd hx hb dX10_bytesIn_25 ?_
    refine lv_topi (fun y_6 ey_6 => ?_)
    obtain rfl : y_6 = 0 := ey_6.trans (by decide)
    refine lv_istore_n hx hb dX10_bytesIn_26 rfl hl kc_l_1_3 (kTo [(1, .int 0), (2, .int 24), (0, .int p0)]) (fun ls hl => ?_)
    refine lv_iinc (v := 16) hx hb dX10_bytesIn_27 hl (k := 1) rfl (by decide) kc_l_2_3 (kTo [(2, .int 16), (1, .int 0), (0, .int p0)]) (fun ls hl => ?_)
    refine lv_goto (tgt := 5) hx hb dX10_bytesIn_30 kc_t_30_m25 ?_
    refine lv_iload_n hx hb dX10_bytesIn_5 rfl (lv_at hl 0 rfl) ?_
    refine lv_if_lt (tgt := 33) hx hb dX10_bytesIn_6 kc_t_6_27 (fun c_7 => absurd c_7 (by decide)) (fun c_7 => ?_)
    refine lv_iload_n hx hb dX10_bytesIn_9 rfl (lv_at hl 1 rfl) ?_
    refine lv_iload_n hx hb dX10_bytesIn_10 rfl (lv_at hl 2 rfl) ?_
    refine lv_iload_n hx hb dX10_bytesIn_11 rfl (lv_at hl 0 rfl) ?_
    refine lv_ishr hx hb dX10_bytesIn_12 ?_
    refine lv_topi (fun x_8 ex_8 => ?_)
    refine lv_sipush (v := 255) hx hb dX10_bytesIn_13 kc_s_255 ?_
    refine lv_iand hx hb dX10_bytesIn_16 ?_
    refine lv_topi (fun x_9 ex_9 => ?_)
    have hy_10 : kS p0 16 = x_9 := by rw [ex_9, ex_8]; rfl
    refine lv_if_eq (tgt := 24) hx hb dX10_bytesIn_17 kc_t_17_7 (fun c_11 => ?_) (fun c_11 => ?_)
    · refine lv_iconst (v := 0) hx hb dX10_bytesIn_24 kc_i_0 ?_
      refine lv_iadd hx hb dX10_bytesIn_25 ?_
      refine lv_topi (fun y_12 ey_12 => ?_)
      obtain rfl : y_12 = 0 := ey_12.trans (by decide)
      refine lv_istore_n hx hb dX10_bytesIn_26 rfl hl kc_l_1_3 (kTo [(1, .int 0), (2, .int 16), (0, .int p0)]) (fun ls hl => ?_)
      refine lv_iinc (v := 8) hx hb dX10_bytesIn_27 hl (k := 1) rfl (by decide) kc_l_2_3 (kTo [(2, .int 8), (1, .int 0), (0, .int p0)]) (fun ls hl => ?_)
      refine lv_goto (tgt := 5) hx hb dX10_bytesIn_30 kc_t_30_m25 ?_
      refine lv_iload_n hx hb dX10_bytesIn_5 rfl (lv_at hl 0 rfl) ?_
      refine lv_if_lt (tgt := 33) hx hb dX10_bytesIn_6 kc_t_6_27 (fun c_13 => absurd c_13 (by decide)) (fun c_13 => ?_)
      refine lv_iload_n hx hb dX10_bytesIn_9 rfl (lv_at hl 1 rfl) ?_
      refine lv_iload_n hx hb dX10_bytesIn_10 rfl (lv_at hl 2 rfl) ?_
      refine lv_iload_n hx hb dX10_bytesIn_11 rfl (lv_at hl 0 rfl) ?_
      refine lv_ishr hx hb dX10_bytesIn_12 ?_
      refine lv_topi (fun x_14 ex_14 => ?_)
      refine lv_sipush (v := 255) hx hb dX10_bytesIn_13 kc_s_255 ?_
      refine lv_iand hx hb dX10_bytesIn_16 ?_
      refine lv_topi (fun x_15 ex_15 => ?_)
      have hy_16 : kS p0 8 = x_15 := by rw [ex_15, ex_14]; rfl
      refine lv_if_eq (tgt := 24) hx hb dX10_bytesIn_17 kc_t_17_7 (fun c_17 => ?_) (fun c_17 => ?_)
      · refine lv_iconst (v := 0) hx hb dX10_bytesIn_24 kc_i_0 ?_
        refine lv_iadd hx hb dX10_bytesIn_25 ?_
        refine lv_topi (fun y_18 ey_18 => ?_)
        obtain rfl : y_18 = 0 := ey_18.trans (by decide)
        refine lv_istore_n hx hb dX10_bytesIn_26 rfl hl kc_l_1_3 (kTo [(1, .int 0), (2, .int 8), (0, .int p0)]) (fun ls hl => ?_)
        refine lv_iinc (v := 0) hx hb dX10_bytesIn_27 hl (k := 1) rfl (by decide) kc_l_2_3 (kTo [(2, .int 0), (1, .int 0), (0, .int p0)]) (fun ls hl => ?_)
        refine lv_goto (tgt := 5) hx hb dX10_bytesIn_30 kc_t_30_m25 ?_
        refine lv_iload_n hx hb dX10_bytesIn_5 rfl (lv_at hl 0 rfl) ?_
        refine lv_if_lt (tgt := 33) hx hb dX10_bytesIn_6 kc_t_6_27 (fun c_19 => absurd c_19 (by decide)) (fun c_19 => ?_)
        refine lv_iload_n hx hb dX10_bytesIn_9 rfl (lv_at hl 1 rfl) ?_
        refine lv_iload_n hx hb dX10_bytesIn_10 rfl (lv_at hl 2 rfl) ?_
        refine lv_iload_n hx hb dX10_bytesIn_11 rfl (lv_at hl 0 rfl) ?_
        refine lv_ishr hx hb dX10_bytesIn_12 ?_
        refine lv_topi (fun x_20 ex_20 => ?_)
        refine lv_sipush (v := 255) hx hb dX10_bytesIn_13 kc_s_255 ?_
        refine lv_iand hx hb dX10_bytesIn_16 ?_
        refine lv_topi (fun x_21 ex_21 => ?_)
        have hy_22 : kS p0 0 = x_21 := by rw [ex_21, ex_20]; rfl
        refine lv_if_eq (tgt := 24) hx hb dX10_bytesIn_17 kc_t_17_7 (fun c_23 => ?_) (fun c_23 => ?_)
        · refine lv_iconst (v := 0) hx hb dX10_bytesIn_24 kc_i_0 ?_
          refine lv_iadd hx hb dX10_bytesIn_25 ?_
          refine lv_topi (fun y_24 ey_24 => ?_)
          obtain rfl : y_24 = 0 := ey_24.trans (by decide)
          refine lv_istore_n hx hb dX10_bytesIn_26 rfl hl kc_l_1_3 (kTo [(1, .int 0), (2, .int 0), (0, .int p0)]) (fun ls hl => ?_)
          refine lv_iinc (v := (-8)) hx hb dX10_bytesIn_27 hl (k := 1) rfl (by decide) kc_l_2_3 (kTo [(2, .int (-8)), (1, .int 0), (0, .int p0)]) (fun ls hl => ?_)
          refine lv_goto (tgt := 5) hx hb dX10_bytesIn_30 kc_t_30_m25 ?_
          refine lv_iload_n hx hb dX10_bytesIn_5 rfl (lv_at hl 0 rfl) ?_
          refine lv_if_lt (tgt := 33) hx hb dX10_bytesIn_6 kc_t_6_27 (fun c_25 => ?_) (fun c_25 => absurd (by decide) c_25)
          refine lv_iload_n hx hb dX10_bytesIn_33 rfl (lv_at hl 1 rfl) ?_
          have hk : kCnt p0 = 0 := by simp [kCnt, kC1, hy_4, hy_10, hy_16, hy_22, c_5, c_11, c_17, c_23]
          rw [hQ]
          exact W.iret (v := 0) hx hb hr (fun t ht hW => ⟨0, rfl, (by rw [hk]; rfl), ht⟩) (fun _ h => nomatch h) dX10_bytesIn_34
        · refine lv_iconst (v := 1) hx hb dX10_bytesIn_20 kc_i_1 ?_
          refine lv_goto (tgt := 25) hx hb dX10_bytesIn_21 kc_t_21_4 ?_
          refine lv_iadd hx hb dX10_bytesIn_25 ?_
          refine lv_topi (fun y_26 ey_26 => ?_)
          obtain rfl : y_26 = 1 := ey_26.trans (by decide)
          refine lv_istore_n hx hb dX10_bytesIn_26 rfl hl kc_l_1_3 (kTo [(1, .int 1), (2, .int 0), (0, .int p0)]) (fun ls hl => ?_)
          refine lv_iinc (v := (-8)) hx hb dX10_bytesIn_27 hl (k := 1) rfl (by decide) kc_l_2_3 (kTo [(2, .int (-8)), (1, .int 1), (0, .int p0)]) (fun ls hl => ?_)
          refine lv_goto (tgt := 5) hx hb dX10_bytesIn_30 kc_t_30_m25 ?_
          refine lv_iload_n hx hb dX10_bytesIn_5 rfl (lv_at hl 0 rfl) ?_
          refine lv_if_lt (tgt := 33) hx hb dX10_bytesIn_6 kc_t_6_27 (fun c_27 => ?_) (fun c_27 => absurd (by decide) c_27)
          refine lv_iload_n hx hb dX10_bytesIn_33 rfl (lv_at hl 1 rfl) ?_
          have hk : kCnt p0 = 1 := by simp [kCnt, kC1, hy_4, hy_10, hy_16, hy_22, c_5, c_11, c_17, c_23]
          rw [hQ]
          exact W.iret (v := 1) hx hb hr (fun t ht hW => ⟨1, rfl, (by rw [hk]; rfl), ht⟩) (fun _ h => nomatch h) dX10_bytesIn_34
      · refine lv_iconst (v := 1) hx hb dX10_bytesIn_20 kc_i_1 ?_
        refine lv_goto (tgt := 25) hx hb dX10_bytesIn_21 kc_t_21_4 ?_
        refine lv_iadd hx hb dX10_bytesIn_25 ?_
        refine lv_topi (fun y_28 ey_28 => ?_)
        obtain rfl : y_28 = 1 := ey_28.trans (by decide)
        refine lv_istore_n hx hb dX10_bytesIn_26 rfl hl kc_l_1_3 (kTo [(1, .int 1), (2, .int 8), (0, .int p0)]) (fun ls hl => ?_)
        refine lv_iinc (v := 0) hx hb dX10_bytesIn_27 hl (k := 1) rfl (by decide) kc_l_2_3 (kTo [(2, .int 0), (1, .int 1), (0, .int p0)]) (fun ls hl => ?_)
        refine lv_goto (tgt := 5) hx hb dX10_bytesIn_30 kc_t_30_m25 ?_
        refine lv_iload_n hx hb dX10_bytesIn_5 rfl (lv_at hl 0 rfl) ?_
        refine lv_if_lt (tgt := 33) hx hb dX10_bytesIn_6 kc_t_6_27 (fun c_29 => absurd c_29 (by decide)) (fun c_29 => ?_)
        refine lv_iload_n hx hb dX10_bytesIn_9 rfl (lv_at hl 1 rfl) ?_
        refine lv_iload_n hx hb dX10_bytesIn_10 rfl (lv_at hl 2 rfl) ?_
        refine lv_iload_n hx hb dX10_bytesIn_11 rfl (lv_at hl 0 rfl) ?_
        refine lv_ishr hx hb dX10_bytesIn_12 ?_
        refine lv_topi (fun x_30 ex_30 => ?_)
        refine lv_sipush (v := 255) hx hb dX10_bytesIn_13 kc_s_255 ?_
        refine lv_iand hx hb dX10_bytesIn_16 ?_
        refine lv_topi (fun x_31 ex_31 => ?_)
        have hy_32 : kS p0 0 = x_31 := by rw [ex_31, ex_30]; rfl
        refine lv_if_eq (tgt := 24) hx hb dX10_bytesIn_17 kc_t_17_7 (fun c_33 => ?_) (fun c_33 => ?_)
        · refine lv_iconst (v := 0) hx hb dX10_bytesIn_24 kc_i_0 ?_
          refine lv_iadd hx hb dX10_bytesIn_25 ?_
          refine lv_topi (fun y_34 ey_34 => ?_)
          obtain rfl : y_34 = 1 := ey_34.trans (by decide)
          refine lv_istore_n hx hb dX10_bytesIn_26 rfl hl kc_l_1_3 (kTo [(1, .int 1), (2, .int 0), (0, .int p0)]) (fun ls hl => ?_)
          refine lv_iinc (v := (-8)) hx hb dX10_bytesIn_27 hl (k := 1) rfl (by decide) kc_l_2_3 (kTo [(2, .int (-8)), (1, .int 1), (0, .int p0)]) (fun ls hl => ?_)
          refine lv_goto (tgt := 5) hx hb dX10_bytesIn_30 kc_t_30_m25 ?_
          refine lv_iload_n hx hb dX10_bytesIn_5 rfl (lv_at hl 0 rfl) ?_
          refine lv_if_lt (tgt := 33) hx hb dX10_bytesIn_6 kc_t_6_27 (fun c_35 => ?_) (fun c_35 => absurd (by decide) c_35)
          refine lv_iload_n hx hb dX10_bytesIn_33 rfl (lv_at hl 1 rfl) ?_
          have hk : kCnt p0 = 1 := by simp [kCnt, kC1, hy_4, hy_10, hy_16, hy_32, c_5, c_11, c_17, c_33]
          rw [hQ]
          exact W.iret (v := 1) hx hb hr (fun t ht hW => ⟨1, rfl, (by rw [hk]; rfl), ht⟩) (fun _ h => nomatch h) dX10_bytesIn_34
        · refine lv_iconst (v := 1) hx hb dX10_bytesIn_20 kc_i_1 ?_
          refine lv_goto (tgt := 25) hx hb dX10_bytesIn_21 kc_t_21_4 ?_
          refine lv_iadd hx hb dX10_bytesIn_25 ?_
          refine lv_topi (fun y_36 ey_36 => ?_)
          obtain rfl : y_36 = 2 := ey_36.trans (by decide)
          refine lv_istore_n hx hb dX10_bytesIn_26 rfl hl kc_l_1_3 (kTo [(1, .int 2), (2, .int 0), (0, .int p0)]) (fun ls hl => ?_)
          refine lv_iinc (v := (-8)) hx hb dX10_bytesIn_27 hl (k := 1) rfl (by decide) kc_l_2_3 (kTo [(2, .int (-8)), (1, .int 2), (0, .int p0)]) (fun ls hl => ?_)
          refine lv_goto (tgt := 5) hx hb dX10_bytesIn_30 kc_t_30_m25 ?_
          refine lv_iload_n hx hb dX10_bytesIn_5 rfl (lv_at hl 0 rfl) ?_
          refine lv_if_lt (tgt := 33) hx hb dX10_bytesIn_6 kc_t_6_27 (fun c_37 => ?_) (fun c_37 => absurd (by decide) c_37)
          refine lv_iload_n hx hb dX10_bytesIn_33 rfl (lv_at hl 1 rfl) ?_
          have hk : kCnt p0 = 2 := by simp [kCnt, kC1, hy_4, hy_10, hy_16, hy_32, c_5, c_11, c_17, c_33]
          rw [hQ]
          exact W.iret (v := 2) hx hb hr (fun t ht hW => ⟨2, rfl, (by rw [hk]; rfl), ht⟩) (fun _ h => nomatch h) dX10_bytesIn_34
    · refine lv_iconst (v := 1) hx hb dX10_bytesIn_20 kc_i_1 ?_
      refine lv_goto (tgt := 25) hx hb dX10_bytesIn_21 kc_t_21_4 ?_
      refine lv_iadd hx hb dX10_bytesIn_25 ?_
      refine lv_topi (fun y_38 ey_38 => ?_)
      obtain rfl : y_38 = 1 := ey_38.trans (by decide)
      refine lv_istore_n hx hb dX10_bytesIn_26 rfl hl kc_l_1_3 (kTo [(1, .int 1), (2, .int 16), (0, .int p0)]) (fun ls hl => ?_)
      refine lv_iinc (v := 8) hx hb dX10_bytesIn_27 hl (k := 1) rfl (by decide) kc_l_2_3 (kTo [(2, .int 8), (1, .int 1), (0, .int p0)]) (fun ls hl => ?_)
      refine lv_goto (tgt := 5) hx hb dX10_bytesIn_30 kc_t_30_m25 ?_
      refine lv_iload_n hx hb dX10_bytesIn_5 rfl (lv_at hl 0 rfl) ?_
      refine lv_if_lt (tgt := 33) hx hb dX10_bytesIn_6 kc_t_6_27 (fun c_39 => absurd c_39 (by decide)) (fun c_39 => ?_)
      refine lv_iload_n hx hb dX10_bytesIn_9 rfl (lv_at hl 1 rfl) ?_
      refine lv_iload_n hx hb dX10_bytesIn_10 rfl (lv_at hl 2 rfl) ?_
      refine lv_iload_n hx hb dX10_bytesIn_11 rfl (lv_at hl 0 rfl) ?_
      refine lv_ishr hx hb dX10_bytesIn_12 ?_
      refine lv_topi (fun x_40 ex_40 => ?_)
      refine lv_sipush (v := 255) hx hb dX10_bytesIn_13 kc_s_255 ?_
      refine lv_iand hx hb dX10_bytesIn_16 ?_
      refine lv_topi (fun x_41 ex_41 => ?_)
      have hy_42 : kS p0 8 = x_41 := by rw [ex_41, ex_40]; rfl
      refine lv_if_eq (tgt := 24) hx hb dX10_bytesIn_17 kc_t_17_7 (fun c_43 => ?_) (fun c_43 => ?_)
      · refine lv_iconst (v := 0) hx hb dX10_bytesIn_24 kc_i_0 ?_
        refine lv_iadd hx hb dX10_bytesIn_25 ?_
        refine lv_topi (fun y_44 ey_44 => ?_)
        obtain rfl : y_44 = 1 := ey_44.trans (by decide)
        refine lv_istore_n hx hb dX10_bytesIn_26 rfl hl kc_l_1_3 (kTo [(1, .int 1), (2, .int 8), (0, .int p0)]) (fun ls hl => ?_)
        refine lv_iinc (v := 0) hx hb dX10_bytesIn_27 hl (k := 1) rfl (by decide) kc_l_2_3 (kTo [(2, .int 0), (1, .int 1), (0, .int p0)]) (fun ls hl => ?_)
        refine lv_goto (tgt := 5) hx hb dX10_bytesIn_30 kc_t_30_m25 ?_
        refine lv_iload_n hx hb dX10_bytesIn_5 rfl (lv_at hl 0 rfl) ?_
        refine lv_if_lt (tgt := 33) hx hb dX10_bytesIn_6 kc_t_6_27 (fun c_45 => absurd c_45 (by decide)) (fun c_45 => ?_)
        refine lv_iload_n hx hb dX10_bytesIn_9 rfl (lv_at hl 1 rfl) ?_
        refine lv_iload_n hx hb dX10_bytesIn_10 rfl (lv_at hl 2 rfl) ?_
        refine lv_iload_n hx hb dX10_bytesIn_11 rfl (lv_at hl 0 rfl) ?_
        refine lv_ishr hx hb dX10_bytesIn_12 ?_
        refine lv_topi (fun x_46 ex_46 => ?_)
        refine lv_sipush (v := 255) hx hb dX10_bytesIn_13 kc_s_255 ?_
        refine lv_iand hx hb dX10_bytesIn_16 ?_
        refine lv_topi (fun x_47 ex_47 => ?_)
        have hy_48 : kS p0 0 = x_47 := by rw [ex_47, ex_46]; rfl
        refine lv_if_eq (tgt := 24) hx hb dX10_bytesIn_17 kc_t_17_7 (fun c_49 => ?_) (fun c_49 => ?_)
        · refine lv_iconst (v := 0) hx hb dX10_bytesIn_24 kc_i_0 ?_
          refine lv_iadd hx hb dX10_bytesIn_25 ?_
          refine lv_topi (fun y_50 ey_50 => ?_)
          obtain rfl : y_50 = 1 := ey_50.trans (by decide)
          refine lv_istore_n hx hb dX10_bytesIn_26 rfl hl kc_l_1_3 (kTo [(1, .int 1), (2, .int 0), (0, .int p0)]) (fun ls hl => ?_)
          refine lv_iinc (v := (-8)) hx hb dX10_bytesIn_27 hl (k := 1) rfl (by decide) kc_l_2_3 (kTo [(2, .int (-8)), (1, .int 1), (0, .int p0)]) (fun ls hl => ?_)
          refine lv_goto (tgt := 5) hx hb dX10_bytesIn_30 kc_t_30_m25 ?_
          refine lv_iload_n hx hb dX10_bytesIn_5 rfl (lv_at hl 0 rfl) ?_
          refine lv_if_lt (tgt := 33) hx hb dX10_bytesIn_6 kc_t_6_27 (fun c_51 => ?_) (fun c_51 => absurd (by decide) c_51)
          refine lv_iload_n hx hb dX10_bytesIn_33 rfl (lv_at hl 1 rfl) ?_
          have hk : kCnt p0 = 1 := by simp [kCnt, kC1, hy_4, hy_10, hy_42, hy_48, c_5, c_11, c_43, c_49]
          rw [hQ]
          exact W.iret (v := 1) hx hb hr (fun t ht hW => ⟨1, rfl, (by rw [hk]; rfl), ht⟩) (fun _ h => nomatch h) dX10_bytesIn_34
        · refine lv_iconst (v := 1) hx hb dX10_bytesIn_20 kc_i_1 ?_
          refine lv_goto (tgt := 25) hx hb dX10_bytesIn_21 kc_t_21_4 ?_
          refine lv_iadd hx hb dX10_bytesIn_25 ?_
          refine lv_topi (fun y_52 ey_52 => ?_)
          obtain rfl : y_52 = 2 := ey_52.trans (by decide)
          refine lv_istore_n hx hb dX10_bytesIn_26 rfl hl kc_l_1_3 (kTo [(1, .int 2), (2, .int 0), (0, .int p0)]) (fun ls hl => ?_)
          refine lv_iinc (v := (-8)) hx hb dX10_bytesIn_27 hl (k := 1) rfl (by decide) kc_l_2_3 (kTo [(2, .int (-8)), (1, .int 2), (0, .int p0)]) (fun ls hl => ?_)
          refine lv_goto (tgt := 5) hx hb dX10_bytesIn_30 kc_t_30_m25 ?_
          refine lv_iload_n hx hb dX10_bytesIn_5 rfl (lv_at hl 0 rfl) ?_
          refine lv_if_lt (tgt := 33) hx hb dX10_bytesIn_6 kc_t_6_27 (fun c_53 => ?_) (fun c_53 => absurd (by decide) c_53)
          refine lv_iload_n hx hb dX10_bytesIn_33 rfl (lv_at hl 1 rfl) ?_
          have hk : kCnt p0 = 2 := by simp [kCnt, kC1, hy_4, hy_10, hy_42, hy_48, c_5, c_11, c_43, c_49]
          rw [hQ]
          exact W.iret (v := 2) hx hb hr (fun t ht hW => ⟨2, rfl, (by rw [hk]; rfl), ht⟩) (fun _ h => nomatch h) dX10_bytesIn_34
      · refine lv_iconst (v := 1) hx hb dX10_bytesIn_20 kc_i_1 ?_
        refine lv_goto (tgt := 25) hx hb dX10_bytesIn_21 kc_t_21_4 ?_
        refine lv_iadd hx hb dX10_bytesIn_25 ?_
        refine lv_topi (fun y_54 ey_54 => ?_)
        obtain rfl : y_54 = 2 := ey_54.trans (by decide)
        refine lv_istore_n hx hb dX10_bytesIn_26 rfl hl kc_l_1_3 (kTo [(1, .int 2), (2, .int 8), (0, .int p0)]) (fun ls hl => ?_)
        refine lv_iinc (v := 0) hx hb dX10_bytesIn_27 hl (k := 1) rfl (by decide) kc_l_2_3 (kTo [(2, .int 0), (1, .int 2), (0, .int p0)]) (fun ls hl => ?_)
        refine lv_goto (tgt := 5) hx hb dX10_bytesIn_30 kc_t_30_m25 ?_
        refine lv_iload_n hx hb dX10_bytesIn_5 rfl (lv_at hl 0 rfl) ?_
        refine lv_if_lt (tgt := 33) hx hb dX10_bytesIn_6 kc_t_6_27 (fun c_55 => absurd c_55 (by decide)) (fun c_55 => ?_)
        refine lv_iload_n hx hb dX10_bytesIn_9 rfl (lv_at hl 1 rfl) ?_
        refine lv_iload_n hx hb dX10_bytesIn_10 rfl (lv_at hl 2 rfl) ?_
        refine lv_iload_n hx hb dX10_bytesIn_11 rfl (lv_at hl 0 rfl) ?_
        refine lv_ishr hx hb dX10_bytesIn_12 ?_
        refine lv_topi (fun x_56 ex_56 => ?_)
        refine lv_sipush (v := 255) hx hb dX10_bytesIn_13 kc_s_255 ?_
        refine lv_iand hx hb dX10_bytesIn_16 ?_
        refine lv_topi (fun x_57 ex_57 => ?_)
        have hy_58 : kS p0 0 = x_57 := by rw [ex_57, ex_56]; rfl
        refine lv_if_eq (tgt := 24) hx hb dX10_bytesIn_17 kc_t_17_7 (fun c_59 => ?_) (fun c_59 => ?_)
        · refine lv_iconst (v := 0) hx hb dX10_bytesIn_24 kc_i_0 ?_
          refine lv_iadd hx hb dX10_bytesIn_25 ?_
          refine lv_topi (fun y_60 ey_60 => ?_)
          obtain rfl : y_60 = 2 := ey_60.trans (by decide)
          refine lv_istore_n hx hb dX10_bytesIn_26 rfl hl kc_l_1_3 (kTo [(1, .int 2), (2, .int 0), (0, .int p0)]) (fun ls hl => ?_)
          refine lv_iinc (v := (-8)) hx hb dX10_bytesIn_27 hl (k := 1) rfl (by decide) kc_l_2_3 (kTo [(2, .int (-8)), (1, .int 2), (0, .int p0)]) (fun ls hl => ?_)
          refine lv_goto (tgt := 5) hx hb dX10_bytesIn_30 kc_t_30_m25 ?_
          refine lv_iload_n hx hb dX10_bytesIn_5 rfl (lv_at hl 0 rfl) ?_
          refine lv_if_lt (tgt := 33) hx hb dX10_bytesIn_6 kc_t_6_27 (fun c_61 => ?_) (fun c_61 => absurd (by decide) c_61)
          refine lv_iload_n hx hb dX10_bytesIn_33 rfl (lv_at hl 1 rfl) ?_
          have hk : kCnt p0 = 2 := by simp [kCnt, kC1, hy_4, hy_10, hy_42, hy_58, c_5, c_11, c_43, c_59]
          rw [hQ]
          exact W.iret (v := 2) hx hb hr (fun t ht hW => ⟨2, rfl, (by rw [hk]; rfl), ht⟩) (fun _ h => nomatch h) dX10_bytesIn_34
        · refine lv_iconst (v := 1) hx hb dX10_bytesIn_20 kc_i_1 ?_
          refine lv_goto (tgt := 25) hx hb dX10_bytesIn_21 kc_t_21_4 ?_
          refine lv_iadd hx hb dX10_bytesIn_25 ?_
          refine lv_topi (fun y_62 ey_62 => ?_)
          obtain rfl : y_62 = 3 := ey_62.trans (by decide)
          refine lv_istore_n hx hb dX10_bytesIn_26 rfl hl kc_l_1_3 (kTo [(1, .int 3), (2, .int 0), (0, .int p0)]) (fun ls hl => ?_)
          refine lv_iinc (v := (-8)) hx hb dX10_bytesIn_27 hl (k := 1) rfl (by decide) kc_l_2_3 (kTo [(2, .int (-8)), (1, .int 3), (0, .int p0)]) (fun ls hl => ?_)
          refine lv_goto (tgt := 5) hx hb dX10_bytesIn_30 kc_t_30_m25 ?_
          refine lv_iload_n hx hb dX10_bytesIn_5 rfl (lv_at hl 0 rfl) ?_
          refine lv_if_lt (tgt := 33) hx hb dX10_bytesIn_6 kc_t_6_27 (fun c_63 => ?_) (fun c_63 => absurd (by decide) c_63)
          refine lv_iload_n hx hb dX10_bytesIn_33 rfl (lv_at hl 1 rfl) ?_
          have hk : kCnt p0 = 3 := by simp [kCnt, kC1, hy_4, hy_10, hy_42, hy_58, c_5, c_11, c_43, c_59]
          rw [hQ]
          exact W.iret (v := 3) hx hb hr (fun t ht hW => ⟨3, rfl, (by rw [hk]; rfl), ht⟩) (fun _ h => nomatch h) dX10_bytesIn_34
  · refine lv_iconst (v := 1) hx hb dX10_bytesIn_20 kc_i_1 ?_
    refine lv_goto (tgt := 25) hx hb dX10_bytesIn_21 kc_t_21_4 ?_
    refine lv_iadd hx hb dX10_bytesIn_25 ?_
    refine lv_topi (fun y_64 ey_64 => ?_)
    obtain rfl : y_64 = 1 := ey_64.trans (by decide)
    refine lv_istore_n hx hb dX10_bytesIn_26 rfl hl kc_l_1_3 (kTo [(1, .int 1), (2, .int 24), (0, .int p0)]) (fun ls hl => ?_)
    refine lv_iinc (v := 16) hx hb dX10_bytesIn_27 hl (k := 1) rfl (by decide) kc_l_2_3 (kTo [(2, .int 16), (1, .int 1), (0, .int p0)]) (fun ls hl => ?_)
    refine lv_goto (tgt := 5) hx hb dX10_bytesIn_30 kc_t_30_m25 ?_
    refine lv_iload_n hx hb dX10_bytesIn_5 rfl (lv_at hl 0 rfl) ?_
    refine lv_if_lt (tgt := 33) hx hb dX10_bytesIn_6 kc_t_6_27 (fun c_65 => absurd c_65 (by decide)) (fun c_65 => ?_)
    refine lv_iload_n hx hb dX10_bytesIn_9 rfl (lv_at hl 1 rfl) ?_
    refine lv_iload_n hx hb dX10_bytesIn_10 rfl (lv_at hl 2 rfl) ?_
    refine lv_iload_n hx hb dX10_bytesIn_11 rfl (lv_at hl 0 rfl) ?_
    refine lv_ishr hx hb dX10_bytesIn_12 ?_
    refine lv_topi (fun x_66 ex_66 => ?_)
    refine lv_sipush (v := 255) hx hb dX10_bytesIn_13 kc_s_255 ?_
    refine lv_iand hx hb dX10_bytesIn_16 ?_
    refine lv_topi (fun x_67 ex_67 => ?_)
    have hy_68 : kS p0 16 = x_67 := by rw [ex_67, ex_66]; rfl
    refine lv_if_eq (tgt := 24) hx hb dX10_bytesIn_17 kc_t_17_7 (fun c_69 => ?_) (fun c_69 => ?_)
    · refine lv_iconst (v := 0) hx hb dX10_bytesIn_24 kc_i_0 ?_
      refine lv_iadd hx hb dX10_bytesIn_25 ?_
      refine lv_topi (fun y_70 ey_70 => ?_)
      obtain rfl : y_70 = 1 := ey_70.trans (by decide)
      refine lv_istore_n hx hb dX10_bytesIn_26 rfl hl kc_l_1_3 (kTo [(1, .int 1), (2, .int 16), (0, .int p0)]) (fun ls hl => ?_)
      refine lv_iinc (v := 8) hx hb dX10_bytesIn_27 hl (k := 1) rfl (by decide) kc_l_2_3 (kTo [(2, .int 8), (1, .int 1), (0, .int p0)]) (fun ls hl => ?_)
      refine lv_goto (tgt := 5) hx hb dX10_bytesIn_30 kc_t_30_m25 ?_
      refine lv_iload_n hx hb dX10_bytesIn_5 rfl (lv_at hl 0 rfl) ?_
      refine lv_if_lt (tgt := 33) hx hb dX10_bytesIn_6 kc_t_6_27 (fun c_71 => absurd c_71 (by decide)) (fun c_71 => ?_)
      refine lv_iload_n hx hb dX10_bytesIn_9 rfl (lv_at hl 1 rfl) ?_
      refine lv_iload_n hx hb dX10_bytesIn_10 rfl (lv_at hl 2 rfl) ?_
      refine lv_iload_n hx hb dX10_bytesIn_11 rfl (lv_at hl 0 rfl) ?_
      refine lv_ishr hx hb dX10_bytesIn_12 ?_
      refine lv_topi (fun x_72 ex_72 => ?_)
      refine lv_sipush (v := 255) hx hb dX10_bytesIn_13 kc_s_255 ?_
      refine lv_iand hx hb dX10_bytesIn_16 ?_
      refine lv_topi (fun x_73 ex_73 => ?_)
      have hy_74 : kS p0 8 = x_73 := by rw [ex_73, ex_72]; rfl
      refine lv_if_eq (tgt := 24) hx hb dX10_bytesIn_17 kc_t_17_7 (fun c_75 => ?_) (fun c_75 => ?_)
      · refine lv_iconst (v := 0) hx hb dX10_bytesIn_24 kc_i_0 ?_
        refine lv_iadd hx hb dX10_bytesIn_25 ?_
        refine lv_topi (fun y_76 ey_76 => ?_)
        obtain rfl : y_76 = 1 := ey_76.trans (by decide)
        refine lv_istore_n hx hb dX10_bytesIn_26 rfl hl kc_l_1_3 (kTo [(1, .int 1), (2, .int 8), (0, .int p0)]) (fun ls hl => ?_)
        refine lv_iinc (v := 0) hx hb dX10_bytesIn_27 hl (k := 1) rfl (by decide) kc_l_2_3 (kTo [(2, .int 0), (1, .int 1), (0, .int p0)]) (fun ls hl => ?_)
        refine lv_goto (tgt := 5) hx hb dX10_bytesIn_30 kc_t_30_m25 ?_
        refine lv_iload_n hx hb dX10_bytesIn_5 rfl (lv_at hl 0 rfl) ?_
        refine lv_if_lt (tgt := 33) hx hb dX10_bytesIn_6 kc_t_6_27 (fun c_77 => absurd c_77 (by decide)) (fun c_77 => ?_)
        refine lv_iload_n hx hb dX10_bytesIn_9 rfl (lv_at hl 1 rfl) ?_
        refine lv_iload_n hx hb dX10_bytesIn_10 rfl (lv_at hl 2 rfl) ?_
        refine lv_iload_n hx hb dX10_bytesIn_11 rfl (lv_at hl 0 rfl) ?_
        refine lv_ishr hx hb dX10_bytesIn_12 ?_
        refine lv_topi (fun x_78 ex_78 => ?_)
        refine lv_sipush (v := 255) hx hb dX10_bytesIn_13 kc_s_255 ?_
        refine lv_iand hx hb dX10_bytesIn_16 ?_
        refine lv_topi (fun x_79 ex_79 => ?_)
        have hy_80 : kS p0 0 = x_79 := by rw [ex_79, ex_78]; rfl
        refine lv_if_eq (tgt := 24) hx hb dX10_bytesIn_17 kc_t_17_7 (fun c_81 => ?_) (fun c_81 => ?_)
        · refine lv_iconst (v := 0) hx hb dX10_bytesIn_24 kc_i_0 ?_
          refine lv_iadd hx hb dX10_bytesIn_25 ?_
          refine lv_topi (fun y_82 ey_82 => ?_)
          obtain rfl : y_82 = 1 := ey_82.trans (by decide)
          refine lv_istore_n hx hb dX10_bytesIn_26 rfl hl kc_l_1_3 (kTo [(1, .int 1), (2, .int 0), (0, .int p0)]) (fun ls hl => ?_)
          refine lv_iinc (v := (-8)) hx hb dX10_bytesIn_27 hl (k := 1) rfl (by decide) kc_l_2_3 (kTo [(2, .int (-8)), (1, .int 1), (0, .int p0)]) (fun ls hl => ?_)
          refine lv_goto (tgt := 5) hx hb dX10_bytesIn_30 kc_t_30_m25 ?_
          refine lv_iload_n hx hb dX10_bytesIn_5 rfl (lv_at hl 0 rfl) ?_
          refine lv_if_lt (tgt := 33) hx hb dX10_bytesIn_6 kc_t_6_27 (fun c_83 => ?_) (fun c_83 => absurd (by decide) c_83)
          refine lv_iload_n hx hb dX10_bytesIn_33 rfl (lv_at hl 1 rfl) ?_
          have hk : kCnt p0 = 1 := by simp [kCnt, kC1, hy_4, hy_68, hy_74, hy_80, c_5, c_69, c_75, c_81]
          rw [hQ]
          exact W.iret (v := 1) hx hb hr (fun t ht hW => ⟨1, rfl, (by rw [hk]; rfl), ht⟩) (fun _ h => nomatch h) dX10_bytesIn_34
        · refine lv_iconst (v := 1) hx hb dX10_bytesIn_20 kc_i_1 ?_
          refine lv_goto (tgt := 25) hx hb dX10_bytesIn_21 kc_t_21_4 ?_
          refine lv_iadd hx hb dX10_bytesIn_25 ?_
          refine lv_topi (fun y_84 ey_84 => ?_)
          obtain rfl : y_84 = 2 := ey_84.trans (by decide)
          refine lv_istore_n hx hb dX10_bytesIn_26 rfl hl kc_l_1_3 (kTo [(1, .int 2), (2, .int 0), (0, .int p0)]) (fun ls hl => ?_)
          refine lv_iinc (v := (-8)) hx hb dX10_bytesIn_27 hl (k := 1) rfl (by decide) kc_l_2_3 (kTo [(2, .int (-8)), (1, .int 2), (0, .int p0)]) (fun ls hl => ?_)
          refine lv_goto (tgt := 5) hx hb dX10_bytesIn_30 kc_t_30_m25 ?_
          refine lv_iload_n hx hb dX10_bytesIn_5 rfl (lv_at hl 0 rfl) ?_
          refine lv_if_lt (tgt := 33) hx hb dX10_bytesIn_6 kc_t_6_27 (fun c_85 => ?_) (fun c_85 => absurd (by decide) c_85)
          refine lv_iload_n hx hb dX10_bytesIn_33 rfl (lv_at hl 1 rfl) ?_
          have hk : kCnt p0 = 2 := by simp [kCnt, kC1, hy_4, hy_68, hy_74, hy_80, c_5, c_69, c_75, c_81]
          rw [hQ]
          exact W.iret (v := 2) hx hb hr (fun t ht hW => ⟨2, rfl, (by rw [hk]; rfl), ht⟩) (fun _ h => nomatch h) dX10_bytesIn_34
      · refine lv_iconst (v := 1) hx hb dX10_bytesIn_20 kc_i_1 ?_
        refine lv_goto (tgt := 25) hx hb dX10_bytesIn_21 kc_t_21_4 ?_
        refine lv_iadd hx hb dX10_bytesIn_25 ?_
        refine lv_topi (fun y_86 ey_86 => ?_)
        obtain rfl : y_86 = 2 := ey_86.trans (by decide)
        refine lv_istore_n hx hb dX10_bytesIn_26 rfl hl kc_l_1_3 (kTo [(1, .int 2), (2, .int 8), (0, .int p0)]) (fun ls hl => ?_)
        refine lv_iinc (v := 0) hx hb dX10_bytesIn_27 hl (k := 1) rfl (by decide) kc_l_2_3 (kTo [(2, .int 0), (1, .int 2), (0, .int p0)]) (fun ls hl => ?_)
        refine lv_goto (tgt := 5) hx hb dX10_bytesIn_30 kc_t_30_m25 ?_
        refine lv_iload_n hx hb dX10_bytesIn_5 rfl (lv_at hl 0 rfl) ?_
        refine lv_if_lt (tgt := 33) hx hb dX10_bytesIn_6 kc_t_6_27 (fun c_87 => absurd c_87 (by decide)) (fun c_87 => ?_)
        refine lv_iload_n hx hb dX10_bytesIn_9 rfl (lv_at hl 1 rfl) ?_
        refine lv_iload_n hx hb dX10_bytesIn_10 rfl (lv_at hl 2 rfl) ?_
        refine lv_iload_n hx hb dX10_bytesIn_11 rfl (lv_at hl 0 rfl) ?_
        refine lv_ishr hx hb dX10_bytesIn_12 ?_
        refine lv_topi (fun x_88 ex_88 => ?_)
        refine lv_sipush (v := 255) hx hb dX10_bytesIn_13 kc_s_255 ?_
        refine lv_iand hx hb dX10_bytesIn_16 ?_
        refine lv_topi (fun x_89 ex_89 => ?_)
        have hy_90 : kS p0 0 = x_89 := by rw [ex_89, ex_88]; rfl
        refine lv_if_eq (tgt := 24) hx hb dX10_bytesIn_17 kc_t_17_7 (fun c_91 => ?_) (fun c_91 => ?_)
        · refine lv_iconst (v := 0) hx hb dX10_bytesIn_24 kc_i_0 ?_
          refine lv_iadd hx hb dX10_bytesIn_25 ?_
          refine lv_topi (fun y_92 ey_92 => ?_)
          obtain rfl : y_92 = 2 := ey_92.trans (by decide)
          refine lv_istore_n hx hb dX10_bytesIn_26 rfl hl kc_l_1_3 (kTo [(1, .int 2), (2, .int 0), (0, .int p0)]) (fun ls hl => ?_)
          refine lv_iinc (v := (-8)) hx hb dX10_bytesIn_27 hl (k := 1) rfl (by decide) kc_l_2_3 (kTo [(2, .int (-8)), (1, .int 2), (0, .int p0)]) (fun ls hl => ?_)
          refine lv_goto (tgt := 5) hx hb dX10_bytesIn_30 kc_t_30_m25 ?_
          refine lv_iload_n hx hb dX10_bytesIn_5 rfl (lv_at hl 0 rfl) ?_
          refine lv_if_lt (tgt := 33) hx hb dX10_bytesIn_6 kc_t_6_27 (fun c_93 => ?_) (fun c_93 => absurd (by decide) c_93)
          refine lv_iload_n hx hb dX10_bytesIn_33 rfl (lv_at hl 1 rfl) ?_
          have hk : kCnt p0 = 2 := by simp [kCnt, kC1, hy_4, hy_68, hy_74, hy_90, c_5, c_69, c_75, c_91]
          rw [hQ]
          exact W.iret (v := 2) hx hb hr (fun t ht hW => ⟨2, rfl, (by rw [hk]; rfl), ht⟩) (fun _ h => nomatch h) dX10_bytesIn_34
        · refine lv_iconst (v := 1) hx hb dX10_bytesIn_20 kc_i_1 ?_
          refine lv_goto (tgt := 25) hx hb dX10_bytesIn_21 kc_t_21_4 ?_
          refine lv_iadd hx hb dX10_bytesIn_25 ?_
          refine lv_topi (fun y_94 ey_94 => ?_)
          obtain rfl : y_94 = 3 := ey_94.trans (by decide)
          refine lv_istore_n hx hb dX10_bytesIn_26 rfl hl kc_l_1_3 (kTo [(1, .int 3), (2, .int 0), (0, .int p0)]) (fun ls hl => ?_)
          refine lv_iinc (v := (-8)) hx hb dX10_bytesIn_27 hl (k := 1) rfl (by decide) kc_l_2_3 (kTo [(2, .int (-8)), (1, .int 3), (0, .int p0)]) (fun ls hl => ?_)
          refine lv_goto (tgt := 5) hx hb dX10_bytesIn_30 kc_t_30_m25 ?_
          refine lv_iload_n hx hb dX10_bytesIn_5 rfl (lv_at hl 0 rfl) ?_
          refine lv_if_lt (tgt := 33) hx hb dX10_bytesIn_6 kc_t_6_27 (fun c_95 => ?_) (fun c_95 => absurd (by decide) c_95)
          refine lv_iload_n hx hb dX10_bytesIn_33 rfl (lv_at hl 1 rfl) ?_
          have hk : kCnt p0 = 3 := by simp [kCnt, kC1, hy_4, hy_68, hy_74, hy_90, c_5, c_69, c_75, c_91]
          rw [hQ]
          exact W.iret (v := 3) hx hb hr (fun t ht hW => ⟨3, rfl, (by rw [hk]; rfl), ht⟩) (fun _ h => nomatch h) dX10_bytesIn_34
    · refine lv_iconst (v := 1) hx hb dX10_bytesIn_20 kc_i_1 ?_
      refine lv_goto (tgt := 25) hx hb dX10_bytesIn_21 kc_t_21_4 ?_
      refine lv_iadd hx hb dX10_bytesIn_25 ?_
      refine lv_topi (fun y_96 ey_96 => ?_)
      obtain rfl : y_96 = 2 := ey_96.trans (by decide)
      refine lv_istore_n hx hb dX10_bytesIn_26 rfl hl kc_l_1_3 (kTo [(1, .int 2), (2, .int 16), (0, .int p0)]) (fun ls hl => ?_)
      refine lv_iinc (v := 8) hx hb dX10_bytesIn_27 hl (k := 1) rfl (by decide) kc_l_2_3 (kTo [(2, .int 8), (1, .int 2), (0, .int p0)]) (fun ls hl => ?_)
      refine lv_goto (tgt := 5) hx hb dX10_bytesIn_30 kc_t_30_m25 ?_
      refine lv_iload_n hx hb dX10_bytesIn_5 rfl (lv_at hl 0 rfl) ?_
      refine lv_if_lt (tgt := 33) hx hb dX10_bytesIn_6 kc_t_6_27 (fun c_97 => absurd c_97 (by decide)) (fun c_97 => ?_)
      refine lv_iload_n hx hb dX10_bytesIn_9 rfl (lv_at hl 1 rfl) ?_
      refine lv_iload_n hx hb dX10_bytesIn_10 rfl (lv_at hl 2 rfl) ?_
      refine lv_iload_n hx hb dX10_bytesIn_11 rfl (lv_at hl 0 rfl) ?_
      refine lv_ishr hx hb dX10_bytesIn_12 ?_
      refine lv_topi (fun x_98 ex_98 => ?_)
      refine lv_sipush (v := 255) hx hb dX10_bytesIn_13 kc_s_255 ?_
      refine lv_iand hx hb dX10_bytesIn_16 ?_
      refine lv_topi (fun x_99 ex_99 => ?_)
      have hy_100 : kS p0 8 = x_99 := by rw [ex_99, ex_98]; rfl
      refine lv_if_eq (tgt := 24) hx hb dX10_bytesIn_17 kc_t_17_7 (fun c_101 => ?_) (fun c_101 => ?_)
      · refine lv_iconst (v := 0) hx hb dX10_bytesIn_24 kc_i_0 ?_
        refine lv_iadd hx hb dX10_bytesIn_25 ?_
        refine lv_topi (fun y_102 ey_102 => ?_)
        obtain rfl : y_102 = 2 := ey_102.trans (by decide)
        refine lv_istore_n hx hb dX10_bytesIn_26 rfl hl kc_l_1_3 (kTo [(1, .int 2), (2, .int 8), (0, .int p0)]) (fun ls hl => ?_)
        refine lv_iinc (v := 0) hx hb dX10_bytesIn_27 hl (k := 1) rfl (by decide) kc_l_2_3 (kTo [(2, .int 0), (1, .int 2), (0, .int p0)]) (fun ls hl => ?_)
        refine lv_goto (tgt := 5) hx hb dX10_bytesIn_30 kc_t_30_m25 ?_
        refine lv_iload_n hx hb dX10_bytesIn_5 rfl (lv_at hl 0 rfl) ?_
        refine lv_if_lt (tgt := 33) hx hb dX10_bytesIn_6 kc_t_6_27 (fun c_103 => absurd c_103 (by decide)) (fun c_103 => ?_)
        refine lv_iload_n hx hb dX10_bytesIn_9 rfl (lv_at hl 1 rfl) ?_
        refine lv_iload_n hx hb dX10_bytesIn_10 rfl (lv_at hl 2 rfl) ?_
        refine lv_iload_n hx hb dX10_bytesIn_11 rfl (lv_at hl 0 rfl) ?_
        refine lv_ishr hx hb dX10_bytesIn_12 ?_
        refine lv_topi (fun x_104 ex_104 => ?_)
        refine lv_sipush (v := 255) hx hb dX10_bytesIn_13 kc_s_255 ?_
        refine lv_iand hx hb dX10_bytesIn_16 ?_
        refine lv_topi (fun x_105 ex_105 => ?_)
        have hy_106 : kS p0 0 = x_105 := by rw [ex_105, ex_104]; rfl
        refine lv_if_eq (tgt := 24) hx hb dX10_bytesIn_17 kc_t_17_7 (fun c_107 => ?_) (fun c_107 => ?_)
        · refine lv_iconst (v := 0) hx hb dX10_bytesIn_24 kc_i_0 ?_
          refine lv_iadd hx hb dX10_bytesIn_25 ?_
          refine lv_topi (fun y_108 ey_108 => ?_)
          obtain rfl : y_108 = 2 := ey_108.trans (by decide)
          refine lv_istore_n hx hb dX10_bytesIn_26 rfl hl kc_l_1_3 (kTo [(1, .int 2), (2, .int 0), (0, .int p0)]) (fun ls hl => ?_)
          refine lv_iinc (v := (-8)) hx hb dX10_bytesIn_27 hl (k := 1) rfl (by decide) kc_l_2_3 (kTo [(2, .int (-8)), (1, .int 2), (0, .int p0)]) (fun ls hl => ?_)
          refine lv_goto (tgt := 5) hx hb dX10_bytesIn_30 kc_t_30_m25 ?_
          refine lv_iload_n hx hb dX10_bytesIn_5 rfl (lv_at hl 0 rfl) ?_
          refine lv_if_lt (tgt := 33) hx hb dX10_bytesIn_6 kc_t_6_27 (fun c_109 => ?_) (fun c_109 => absurd (by decide) c_109)
          refine lv_iload_n hx hb dX10_bytesIn_33 rfl (lv_at hl 1 rfl) ?_
          have hk : kCnt p0 = 2 := by simp [kCnt, kC1, hy_4, hy_68, hy_100, hy_106, c_5, c_69, c_101, c_107]
          rw [hQ]
          exact W.iret (v := 2) hx hb hr (fun t ht hW => ⟨2, rfl, (by rw [hk]; rfl), ht⟩) (fun _ h => nomatch h) dX10_bytesIn_34
        · refine lv_iconst (v := 1) hx hb dX10_bytesIn_20 kc_i_1 ?_
          refine lv_goto (tgt := 25) hx hb dX10_bytesIn_21 kc_t_21_4 ?_
          refine lv_iadd hx hb dX10_bytesIn_25 ?_
          refine lv_topi (fun y_110 ey_110 => ?_)
          obtain rfl : y_110 = 3 := ey_110.trans (by decide)
          refine lv_istore_n hx hb dX10_bytesIn_26 rfl hl kc_l_1_3 (kTo [(1, .int 3), (2, .int 0), (0, .int p0)]) (fun ls hl => ?_)
          refine lv_iinc (v := (-8)) hx hb dX10_bytesIn_27 hl (k := 1) rfl (by decide) kc_l_2_3 (kTo [(2, .int (-8)), (1, .int 3), (0, .int p0)]) (fun ls hl => ?_)
          refine lv_goto (tgt := 5) hx hb dX10_bytesIn_30 kc_t_30_m25 ?_
          refine lv_iload_n hx hb dX10_bytesIn_5 rfl (lv_at hl 0 rfl) ?_
          refine lv_if_lt (tgt := 33) hx hb dX10_bytesIn_6 kc_t_6_27 (fun c_111 => ?_) (fun c_111 => absurd (by decide) c_111)
          refine lv_iload_n hx hb dX10_bytesIn_33 rfl (lv_at hl 1 rfl) ?_
          have hk : kCnt p0 = 3 := by simp [kCnt, kC1, hy_4, hy_68, hy_100, hy_106, c_5, c_69, c_101, c_107]
          rw [hQ]
          exact W.iret (v := 3) hx hb hr (fun t ht hW => ⟨3, rfl, (by rw [hk]; rfl), ht⟩) (fun _ h => nomatch h) dX10_bytesIn_34
      · refine lv_iconst (v := 1) hx hb dX10_bytesIn_20 kc_i_1 ?_
        refine lv_goto (tgt := 25) hx hb dX10_bytesIn_21 kc_t_21_4 ?_
        refine lv_iadd hx hb dX10_bytesIn_25 ?_
        refine lv_topi (fun y_112 ey_112 => ?_)
        obtain rfl : y_112 = 3 := ey_112.trans (by decide)
        refine lv_istore_n hx hb dX10_bytesIn_26 rfl hl kc_l_1_3 (kTo [(1, .int 3), (2, .int 8), (0, .int p0)]) (fun ls hl => ?_)
        refine lv_iinc (v := 0) hx hb dX10_bytesIn_27 hl (k := 1) rfl (by decide) kc_l_2_3 (kTo [(2, .int 0), (1, .int 3), (0, .int p0)]) (fun ls hl => ?_)
        refine lv_goto (tgt := 5) hx hb dX10_bytesIn_30 kc_t_30_m25 ?_
        refine lv_iload_n hx hb dX10_bytesIn_5 rfl (lv_at hl 0 rfl) ?_
        refine lv_if_lt (tgt := 33) hx hb dX10_bytesIn_6 kc_t_6_27 (fun c_113 => absurd c_113 (by decide)) (fun c_113 => ?_)
        refine lv_iload_n hx hb dX10_bytesIn_9 rfl (lv_at hl 1 rfl) ?_
        refine lv_iload_n hx hb dX10_bytesIn_10 rfl (lv_at hl 2 rfl) ?_
        refine lv_iload_n hx hb dX10_bytesIn_11 rfl (lv_at hl 0 rfl) ?_
        refine lv_ishr hx hb dX10_bytesIn_12 ?_
        refine lv_topi (fun x_114 ex_114 => ?_)
        refine lv_sipush (v := 255) hx hb dX10_bytesIn_13 kc_s_255 ?_
        refine lv_iand hx hb dX10_bytesIn_16 ?_
        refine lv_topi (fun x_115 ex_115 => ?_)
        have hy_116 : kS p0 0 = x_115 := by rw [ex_115, ex_114]; rfl
        refine lv_if_eq (tgt := 24) hx hb dX10_bytesIn_17 kc_t_17_7 (fun c_117 => ?_) (fun c_117 => ?_)
        · refine lv_iconst (v := 0) hx hb dX10_bytesIn_24 kc_i_0 ?_
          refine lv_iadd hx hb dX10_bytesIn_25 ?_
          refine lv_topi (fun y_118 ey_118 => ?_)
          obtain rfl : y_118 = 3 := ey_118.trans (by decide)
          refine lv_istore_n hx hb dX10_bytesIn_26 rfl hl kc_l_1_3 (kTo [(1, .int 3), (2, .int 0), (0, .int p0)]) (fun ls hl => ?_)
          refine lv_iinc (v := (-8)) hx hb dX10_bytesIn_27 hl (k := 1) rfl (by decide) kc_l_2_3 (kTo [(2, .int (-8)), (1, .int 3), (0, .int p0)]) (fun ls hl => ?_)
          refine lv_goto (tgt := 5) hx hb dX10_bytesIn_30 kc_t_30_m25 ?_
          refine lv_iload_n hx hb dX10_bytesIn_5 rfl (lv_at hl 0 rfl) ?_
          refine lv_if_lt (tgt := 33) hx hb dX10_bytesIn_6 kc_t_6_27 (fun c_119 => ?_) (fun c_119 => absurd (by decide) c_119)
          refine lv_iload_n hx hb dX10_bytesIn_33 rfl (lv_at hl 1 rfl) ?_
          have hk : kCnt p0 = 3 := by simp [kCnt, kC1, hy_4, hy_68, hy_100, hy_116, c_5, c_69, c_101, c_117]
          rw [hQ]
          exact W.iret (v := 3) hx hb hr (fun t ht hW => ⟨3, rfl, (by rw [hk]; rfl), ht⟩) (fun _ h => nomatch h) dX10_bytesIn_34
        · refine lv_iconst (v := 1) hx hb dX10_bytesIn_20 kc_i_1 ?_
          refine lv_goto (tgt := 25) hx hb dX10_bytesIn_21 kc_t_21_4 ?_
          refine lv_iadd hx hb dX10_bytesIn_25 ?_
          refine lv_topi (fun y_120 ey_120 => ?_)
          obtain rfl : y_120 = 4 := ey_120.trans (by decide)
          refine lv_istore_n hx hb dX10_bytesIn_26 rfl hl kc_l_1_3 (kTo [(1, .int 4), (2, .int 0), (0, .int p0)]) (fun ls hl => ?_)
          refine lv_iinc (v := (-8)) hx hb dX10_bytesIn_27 hl (k := 1) rfl (by decide) kc_l_2_3 (kTo [(2, .int (-8)), (1, .int 4), (0, .int p0)]) (fun ls hl => ?_)
          refine lv_goto (tgt := 5) hx hb dX10_bytesIn_30 kc_t_30_m25 ?_
          refine lv_iload_n hx hb dX10_bytesIn_5 rfl (lv_at hl 0 rfl) ?_
          refine lv_if_lt (tgt := 33) hx hb dX10_bytesIn_6 kc_t_6_27 (fun c_121 => ?_) (fun c_121 => absurd (by decide) c_121)
          refine lv_iload_n hx hb dX10_bytesIn_33 rfl (lv_at hl 1 rfl) ?_
          have hk : kCnt p0 = 4 := by simp [kCnt, kC1, hy_4, hy_68, hy_100, hy_116, c_5, c_69, c_101, c_117]
          rw [hQ]
          exact W.iret (v := 4) hx hb hr (fun t ht hW => ⟨4, rfl, (by rw [hk]; rfl), ht⟩) (fun _ h => nomatch h) dX10_bytesIn_34

theorem dX10_put_0 : decode cX10_put 0 = .ok (.bipush 24, 2) := by decide +kernel
theorem dX10_put_2 : decode cX10_put 2 = .ok (.istore_n 2, 1) := by decide +kernel
theorem dX10_put_3 : decode cX10_put 3 = .ok (.iload_n 2, 1) := by decide +kernel
theorem dX10_put_4 : decode cX10_put 4 = .ok (.ifCond .lt 45, 3) := by decide +kernel
theorem dX10_put_7 : decode cX10_put 7 = .ok (.iload_n 1, 1) := by decide +kernel
theorem dX10_put_8 : decode cX10_put 8 = .ok (.iload_n 2, 1) := by decide +kernel
theorem dX10_put_9 : decode cX10_put 9 = .ok (.ishr, 1) := by decide +kernel
theorem dX10_put_10 : decode cX10_put 10 = .ok (.sipush 255, 3) := by decide +kernel
theorem dX10_put_13 : decode cX10_put 13 = .ok (.iand, 1) := by decide +kernel
theorem dX10_put_14 : decode cX10_put 14 = .ok (.ifCond .ne 6, 3) := by decide +kernel
theorem dX10_put_20 : decode cX10_put 20 = .ok (.aload_n 0, 1) := by decide +kernel
theorem dX10_put_21 : decode cX10_put 21 = .ok (.getfield 9, 3) := by decide +kernel
theorem dX10_put_24 : decode cX10_put 24 = .ok (.aload_n 0, 1) := by decide +kernel
theorem dX10_put_25 : decode cX10_put 25 = .ok (.getfield 131, 3) := by decide +kernel
theorem dX10_put_28 : decode cX10_put 28 = .ok (.iload_n 1, 1) := by decide +kernel
theorem dX10_put_29 : decode cX10_put 29 = .ok (.iload_n 2, 1) := by decide +kernel
theorem dX10_put_30 : decode cX10_put 30 = .ok (.ishr, 1) := by decide +kernel
theorem dX10_put_31 : decode cX10_put 31 = .ok (.i2b, 1) := by decide +kernel
theorem dX10_put_32 : decode cX10_put 32 = .ok (.bastore, 1) := by decide +kernel
theorem dX10_put_33 : decode cX10_put 33 = .ok (.aload_n 0, 1) := by decide +kernel
theorem dX10_put_34 : decode cX10_put 34 = .ok (.dup, 1) := by decide +kernel
theorem dX10_put_35 : decode cX10_put 35 = .ok (.getfield 131, 3) := by decide +kernel
theorem dX10_put_38 : decode cX10_put 38 = .ok (.iconst 1, 1) := by decide +kernel
theorem dX10_put_39 : decode cX10_put 39 = .ok (.iadd, 1) := by decide +kernel
theorem dX10_put_40 : decode cX10_put 40 = .ok (.putfield 131, 3) := by decide +kernel
theorem dX10_put_43 : decode cX10_put 43 = .ok (.iinc 2 (-8), 3) := by decide +kernel
theorem dX10_put_46 : decode cX10_put 46 = .ok (.goto (-43), 3) := by decide +kernel
theorem dX10_put_49 : decode cX10_put 49 = .ok (.return_, 1) := by decide +kernel
theorem dX10_put_17 : decode cX10_put 17 = .ok (.goto 26, 3) := by decide +kernel
def w_s_put10 : List Cond := .code yX10_put cX10_put 3 none :: ([.fieldLink RX10 9 "NotEndedModel" "tape" "[B", .fieldLink RX10 131 "NotEndedModel" "length" "I"] ++ (wsX100))
theorem gw_s_put10 : (w_s_put10).all goodWord = true := kGc rfl (kGa (by decide +kernel) gw_wsX100)
theorem hd_X10_put : yX10_put.cls ≠ "java/lang/invoke/MethodHandle" ∧ yX10_put.cls ≠ "java/lang/invoke/VarHandle" ∧ (parseMethodDescriptor yX10_put.desc).map (fun d => d.parameters.length) = some 1 := by decide +kernel
set_option maxHeartbeats 4000000 in
set_option maxRecDepth 100000 in
theorem s_put10 (l : Launch) (dC : Nat → ClassId) (dI : Nat → Nat → Nat) (jM : Nat) (m1 : Nat) (mc1 : ClassId) (g : Nat → Int32) (v0 : Value) (v2 : Value) (v3 : Value) (v4 : Value) (v5 : Value) (v7 : Value) (v8 : Value) (v9 : Value) (v10 : Value) (v11 : Value) (v12 : Value) (v13 : Value) (v14 : Value) (v15 : Value) (v16 : Value) (v17 : Value) (v18 : Value) (v19 : Value) (v20 : Value) (v21 : Value) (v22 : Value) (v23 : Value) (v24 : Value) (v25 : Value) (v26 : Value) (v27 : Value) (v28 : Value) (v29 : Value) (v30 : Value) (v31 : Value) (v32 : Value) (v33 : Value) (v34 : Value) (v35 : Value) (v36 : Value) (v37 : Value) (v38 : Value) (v39 : Value) (v40 : Value) (v41 : Value) (v42 : Value) (v43 : Value) (v44 : Value) (v45 : Value) (v46 : Value) (v47 : Value) (v48 : Value) (v49 : Value) (v50 : Value) (v51 : Value) (k : Nat) (p0 : Int32) (hk : k + kCnt p0 ≤ 120) (sz : Nat) : Met l yX10_put w_s_put10 ({ frames := 1, cells := 0, slots := 0, locals := 60 }) (kW dC dI [.ref jM, .int p0] [(jM, .inr (10, [v0, .ref m1, v2, v3, v4, v5, .int (nI (k)), v7, v8, v9, v10, v11, v12, v13, v14, v15, v16, v17, v18, v19, v20, v21, v22, v23, v24, v25, v26, v27, v28, v29, v30, v31, v32, v33, v34, v35, v36, v37, v38, v39, v40, v41, v42, v43, v44, v45, v46, v47, v48, v49, v50, v51])), (m1, .inl (mc1, 120, .inl g))] [(mc1, .byte)] kT sz) (va_Qv (fun (g1 : (Nat → Int32)) => True) (fun (g1 : (Nat → Int32)) => fun t : State => kB dC dI [(jM, .inr (10, [v0, .ref m1, v2, v3, v4, v5, .int (nI (k + kCnt p0)), v7, v8, v9, v10, v11, v12, v13, v14, v15, v16, v17, v18, v19, v20, v21, v22, v23, v24, v25, v26, v27, v28, v29, v30, v31, v32, v33, v34, v35, v36, v37, v38, v39, v40, v41, v42, v43, v44, v45, v46, v47, v48, v49, v50, v51])), (m1, .inl (mc1, 120, .inl g1))] [(mc1, .byte)] (va_A [(jM, .inr (10, [v0, .ref m1, v2, v3, v4, v5, .int (nI (k)), v7, v8, v9, v10, v11, v12, v13, v14, v15, v16, v17, v18, v19, v20, v21, v22, v23, v24, v25, v26, v27, v28, v29, v30, v31, v32, v33, v34, v35, v36, v37, v38, v39, v40, v41, v42, v43, v44, v45, v46, v47, v48, v49, v50, v51])), (m1, .inl (mc1, 120, .inl g))] sz) t) (va_A [(jM, .inr (10, [v0, .ref m1, v2, v3, v4, v5, .int (nI (k)), v7, v8, v9, v10, v11, v12, v13, v14, v15, v16, v17, v18, v19, v20, v21, v22, v23, v24, v25, v26, v27, v28, v29, v30, v31, v32, v33, v34, v35, v36, v37, v38, v39, v40, v41, v42, v43, v44, v45, v46, v47, v48, v49, v50, v51])), (m1, .inl (mc1, 120, .inl g))] sz)) 0 0 (va_A [(jM, .inr (10, [v0, .ref m1, v2, v3, v4, v5, .int (nI (k)), v7, v8, v9, v10, v11, v12, v13, v14, v15, v16, v17, v18, v19, v20, v21, v22, v23, v24, v25, v26, v27, v28, v29, v30, v31, v32, v33, v34, v35, v36, v37, v38, v39, v40, v41, v42, v43, v44, v45, v46, v47, v48, v49, v50, v51])), (m1, .inl (mc1, 120, .inl g))] sz) := by
  refine Met.ofW (cc := cX10_put) (maxL := 3) (ret := none) (by decide) rfl ?_
  intro p e s m args below meth c s₁ B hml hv
  obtain ⟨rfl, hsz, hP, hK, hD0, hX⟩ := hv
  have hx := B.exec
  have hb := B.bytes
  have hr := B.returns
  have hts := atoms_spec (ws := w_s_put10) B.pre
  have hown : s.vm.findClass RX10 = some m.cls := findClass_of_methodNamed B.named
  have hlocks := B.notSynchronized
  subst hsz
  have hD := hD0.self (sz := s.heap.size)
  generalize hAe : va_A [(jM, .inr (10, [v0, .ref m1, v2, v3, v4, v5, .int (nI (k)), v7, v8, v9, v10, v11, v12, v13, v14, v15, v16, v17, v18, v19, v20, v21, v22, v23, v24, v25, v26, v27, v28, v29, v30, v31, v32, v33, v34, v35, v36, v37, v38, v39, v40, v41, v42, v43, v44, v45, v46, v47, v48, v49, v50, v51])), (m1, .inl (mc1, 120, .inl g))] s.heap.size = A at hD ⊢
  have hA : ∀ q : Nat, s.heap.size ≤ q → A q := fun q h => by rw [← hAe]; exact Or.inr h
  have hS : va_S A s.heap s.heap [] := va_S.rf
  have hP : va_P (dC, dI) vwCl [(jM, .inr (10, [v0, .ref m1, v2, v3, v4, v5, .int (nI (k)), v7, v8, v9, v10, v11, v12, v13, v14, v15, v16, v17, v18, v19, v20, v21, v22, v23, v24, v25, v26, v27, v28, v29, v30, v31, v32, v33, v34, v35, v36, v37, v38, v39, v40, v41, v42, v43, v44, v45, v46, v47, v48, v49, v50, v51])), (m1, .inl (mc1, 120, .inl g))] s.heap := hP
  have hl := lv_entry ([.ref jM, .int p0]) (n := 3) (Nat.le_of_ble_eq_true rfl)
  rw [lg_entry_eq]
  generalize (lg_sl ([.ref jM, .int p0]) ++ List.replicate (3 - (lg_sl ([.ref jM, .int p0])).length) Slot.unset).toArray = ls at hl ⊢
  have hl : lv_has ls 3 [(0, .ref jM), (1, .int p0)] := hl
  refine kQ (fun Q hQ => ?_)
  have hu9 : kCnt p0 = kC1 p0 24 + kC1 p0 16 + kC1 p0 8 + kC1 p0 0 := rfl
  refine lv_bipush (v := 24) hx hb dX10_put_0 kc_b_24 ?_
  refine lv_istore_n hx hb dX10_put_2 rfl hl kc_l_2_3 (kTo [(2, .int 24), (0, .ref jM), (1, .int p0)]) (fun ls hl => ?_)
  refine lv_iload_n hx hb dX10_put_3 rfl (lv_at hl 0 rfl) ?_
  refine lv_if_lt (tgt := 49) hx hb dX10_put_4 kc_t_4_45 (fun c_1 => absurd c_1 (by decide)) (fun c_1 => ?_)
  refine lv_iload_n hx hb dX10_put_7 rfl (lv_at hl 2 rfl) ?_
  refine lv_iload_n hx hb dX10_put_8 rfl (lv_at hl 0 rfl) ?_
  refine lv_ishr hx hb dX10_put_9 ?_
  refine lv_topi (fun x_2 ex_2 => ?_)
  refine lv_sipush (v := 255) hx hb dX10_put_10 kc_s_255 ?_
  refine lv_iand hx hb dX10_put_13 ?_
  refine lv_topi (fun x_3 ex_3 => ?_)
  have hy_4 : kS p0 24 = x_3 := by rw [ex_3, ex_2]; rfl
  refine lv_if_ne (tgt := 20) hx hb dX10_put_14 kc_t_14_6 (fun c_5 => ?_) (fun c_5 => ?_)
  · refine lv_aload_n hx hb dX10_put_20 rfl (lv_at hl 1 rfl) ?_
    refine va_get (D := (dC, dI)) (ci := 10) (v := .ref m1) (C := RX10) (T := TX10) (N := 52) hx hb hts (fun _ h => List.mem_cons_of_mem _ (List.mem_append_right _ h)) hown hK hP 0 rfl rfl 1 kc_l_1_52 (hts (.fieldLink RX10 9 "NotEndedModel" "tape" "[B") (List.mem_cons_of_mem _ (List.mem_append_left _ (List.mem_of_getElem? (i := 0) rfl)))) (fun _ h9 => h9) rfl dX10_put_21 ?_
    refine lv_aload_n hx hb dX10_put_24 rfl (lv_at hl 1 rfl) ?_
    refine va_get (D := (dC, dI)) (ci := 10) (v := .int (nI (k))) (C := RX10) (T := TX10) (N := 52) hx hb hts (fun _ h => List.mem_cons_of_mem _ (List.mem_append_right _ h)) hown hK hP 0 rfl rfl 6 kc_l_6_52 (hts (.fieldLink RX10 131 "NotEndedModel" "length" "I") (List.mem_cons_of_mem _ (List.mem_append_left _ (List.mem_of_getElem? (i := 1) rfl)))) (fun _ h9 => h9) rfl dX10_put_25 ?_
    refine lv_iload_n hx hb dX10_put_28 rfl (lv_at hl 2 rfl) ?_
    refine lv_iload_n hx hb dX10_put_29 rfl (lv_at hl 0 rfl) ?_
    refine lv_ishr hx hb dX10_put_30 ?_
    refine lv_topi (fun x_6 ex_6 => ?_)
    obtain ⟨x_7, ex_7⟩ : ∃ z : Int32, z = (Int32.toInt8 x_6).toInt32 := ⟨_, rfl⟩
    refine lv_i2b (v := x_7) hx hb dX10_put_31 ex_7.symm ?_
    have hc_8 : kC1 p0 24 = 1 := by simp [kC1, hy_4, c_5]
    refine va_bast hx hb hK hP hD hS 1 0 rfl rfl (vp_in_nI (n := k) (N := 120) (by omega) (by decide)) dX10_put_32 (fun H locs hP hD hS => ?_)
    obtain ⟨f_9, ef_9⟩ : ∃ gg9 : Nat → Int32, gg9 = upd g (Int32.toNatClampNeg (nI (k))) (vp_nar .byte x_7) := ⟨_, rfl⟩
    have hPD : kPD dC dI A [(jM, .inr (10, [v0, .ref m1, v2, v3, v4, v5, .int (nI (k)), v7, v8, v9, v10, v11, v12, v13, v14, v15, v16, v17, v18, v19, v20, v21, v22, v23, v24, v25, v26, v27, v28, v29, v30, v31, v32, v33, v34, v35, v36, v37, v38, v39, v40, v41, v42, v43, v44, v45, v46, v47, v48, v49, v50, v51])), (m1, .inl (mc1, 120, .inl f_9))] H := by rw [ef_9]; exact ⟨hP, hD⟩
    obtain ⟨hP, hD⟩ := hPD
    refine lv_aload_n hx hb dX10_put_33 rfl (lv_at hl 1 rfl) ?_
    refine lv_dup hx hb dX10_put_34 rfl ?_
    refine va_get (D := (dC, dI)) (ci := 10) (v := .int (nI (k))) (C := RX10) (T := TX10) (N := 52) hx hb hts (fun _ h => List.mem_cons_of_mem _ (List.mem_append_right _ h)) hown hK hP 0 rfl rfl 6 kc_l_6_52 (hts (.fieldLink RX10 131 "NotEndedModel" "length" "I") (List.mem_cons_of_mem _ (List.mem_append_left _ (List.mem_of_getElem? (i := 1) rfl)))) (fun _ h9 => h9) rfl dX10_put_35 ?_
    refine lv_iconst (v := 1) hx hb dX10_put_38 kc_i_1 ?_
    refine lv_iadd hx hb dX10_put_39 ?_
    refine lv_topi (fun y_10 ey_10 => ?_)
    obtain rfl : y_10 = nI (k + 1) := ey_10.trans (nI_add (k) (1))
    refine va_put (D := (dC, dI)) (ci := 10) (v := .int (nI (k + 1))) (ty := tyX10 6) (C := RX10) (T := TX10) (N := 52) hx hb hts (fun _ h => List.mem_cons_of_mem _ (List.mem_append_right _ h)) tyX10 tyX10_ok nmX10 hown hK hP hD hS 0 rfl rfl 6 kc_l_6_52 (hts (.fieldLink RX10 131 "NotEndedModel" "length" "I") (List.mem_cons_of_mem _ (List.mem_append_left _ (List.mem_of_getElem? (i := 1) rfl)))) (fun _ h9 => h9) rfl (tyX10_ok 6 kc_l_6_52) rfl rfl (Nat.le_of_ble_eq_true rfl) dX10_put_40 (fun H locs hP hD hS => ?_)
    have hPD : kPD dC dI A [(jM, .inr (10, [v0, .ref m1, v2, v3, v4, v5, .int (nI (k + 1)), v7, v8, v9, v10, v11, v12, v13, v14, v15, v16, v17, v18, v19, v20, v21, v22, v23, v24, v25, v26, v27, v28, v29, v30, v31, v32, v33, v34, v35, v36, v37, v38, v39, v40, v41, v42, v43, v44, v45, v46, v47, v48, v49, v50, v51])), (m1, .inl (mc1, 120, .inl f_9))] H := ⟨hP, hD⟩
    obtain ⟨hP, hD⟩ := hPD
    refine lv_iinc (v := 16) hx hb dX10_put_43 hl (k := 0) rfl (by decide) kc_l_2_3 (kTo [(2, .int 16), (0, .ref jM), (1, .int p0)]) (fun ls hl => ?_)
    refine lv_goto (tgt := 3) hx hb dX10_put_46 kc_t_46_m43 ?_
    refine lv_iload_n hx hb dX10_put_3 rfl (lv_at hl 0 rfl) ?_
    refine lv_if_lt (tgt := 49) hx hb dX10_put_4 kc_t_4_45 (fun c_11 => absurd c_11 (by decide)) (fun c_11 => ?_)
    refine lv_iload_n hx hb dX10_put_7 rfl (lv_at hl 2 rfl) ?_
    refine lv_iload_n hx hb dX10_put_8 rfl (lv_at hl 0 rfl) ?_
    refine lv_ishr hx hb dX10_put_9 ?_
    refine lv_topi (fun x_12 ex_12 => ?_)
    refine lv_sipush (v := 255) hx hb dX10_put_10 kc_s_255 ?_
    refine lv_iand hx hb dX10_put_13 ?_
    refine lv_topi (fun x_13 ex_13 => ?_)
    have hy_14 : kS p0 16 = x_13 := by rw [ex_13, ex_12]; rfl
    refine lv_if_ne (tgt := 20) hx hb dX10_put_14 kc_t_14_6 (fun c_15 => ?_) (fun c_15 => ?_)
    · refine lv_aload_n hx hb dX10_put_20 rfl (lv_at hl 1 rfl) ?_
      refine va_get (D := (dC, dI)) (ci := 10) (v := .ref m1) (C := RX10) (T := TX10) (N := 52) hx hb hts (fun _ h => List.mem_cons_of_mem _ (List.mem_append_right _ h)) hown hK hP 0 rfl rfl 1 kc_l_1_52 (hts (.fieldLink RX10 9 "NotEndedModel" "tape" "[B") (List.mem_cons_of_mem _ (List.mem_append_left _ (List.mem_of_getElem? (i := 0) rfl)))) (fun _ h9 => h9) rfl dX10_put_21 ?_
      refine lv_aload_n hx hb dX10_put_24 rfl (lv_at hl 1 rfl) ?_
      refine va_get (D := (dC, dI)) (ci := 10) (v := .int (nI (k + 1))) (C := RX10) (T := TX10) (N := 52) hx hb hts (fun _ h => List.mem_cons_of_mem _ (List.mem_append_right _ h)) hown hK hP 0 rfl rfl 6 kc_l_6_52 (hts (.fieldLink RX10 131 "NotEndedModel" "length" "I") (List.mem_cons_of_mem _ (List.mem_append_left _ (List.mem_of_getElem? (i := 1) rfl)))) (fun _ h9 => h9) rfl dX10_put_25 ?_
      refine lv_iload_n hx hb dX10_put_28 rfl (lv_at hl 2 rfl) ?_
      refine lv_iload_n hx hb dX10_put_29 rfl (lv_at hl 0 rfl) ?_
      refine lv_ishr hx hb dX10_put_30 ?_
      refine lv_topi (fun x_16 ex_16 => ?_)
      obtain ⟨x_17, ex_17⟩ : ∃ z : Int32, z = (Int32.toInt8 x_16).toInt32 := ⟨_, rfl⟩
      refine lv_i2b (v := x_17) hx hb dX10_put_31 ex_17.symm ?_
      have hc_18 : kC1 p0 16 = 1 := by simp [kC1, hy_14, c_15]
      refine va_bast hx hb hK hP hD hS 1 0 rfl rfl (vp_in_nI (n := k + 1) (N := 120) (by omega) (by decide)) dX10_put_32 (fun H locs hP hD hS => ?_)
      obtain ⟨f_19, ef_19⟩ : ∃ gg9 : Nat → Int32, gg9 = upd f_9 (Int32.toNatClampNeg (nI (k + 1))) (vp_nar .byte x_17) := ⟨_, rfl⟩
      have hPD : kPD dC dI A [(jM, .inr (10, [v0, .ref m1, v2, v3, v4, v5, .int (nI (k + 1)), v7, v8, v9, v10, v11, v12, v13, v14, v15, v16, v17, v18, v19, v20, v21, v22, v23, v24, v25, v26, v27, v28, v29, v30, v31, v32, v33, v34, v35, v36, v37, v38, v39, v40, v41, v42, v43, v44, v45, v46, v47, v48, v49, v50, v51])), (m1, .inl (mc1, 120, .inl f_19))] H := by rw [ef_19]; exact ⟨hP, hD⟩
      obtain ⟨hP, hD⟩ := hPD
      refine lv_aload_n hx hb dX10_put_33 rfl (lv_at hl 1 rfl) ?_
      refine lv_dup hx hb dX10_put_34 rfl ?_
      refine va_get (D := (dC, dI)) (ci := 10) (v := .int (nI (k + 1))) (C := RX10) (T := TX10) (N := 52) hx hb hts (fun _ h => List.mem_cons_of_mem _ (List.mem_append_right _ h)) hown hK hP 0 rfl rfl 6 kc_l_6_52 (hts (.fieldLink RX10 131 "NotEndedModel" "length" "I") (List.mem_cons_of_mem _ (List.mem_append_left _ (List.mem_of_getElem? (i := 1) rfl)))) (fun _ h9 => h9) rfl dX10_put_35 ?_
      refine lv_iconst (v := 1) hx hb dX10_put_38 kc_i_1 ?_
      refine lv_iadd hx hb dX10_put_39 ?_
      refine lv_topi (fun y_20 ey_20 => ?_)
      obtain rfl : y_20 = nI (k + 1 + 1) := ey_20.trans (nI_add (k + 1) (1))
      refine va_put (D := (dC, dI)) (ci := 10) (v := .int (nI (k + 1 + 1))) (ty := tyX10 6) (C := RX10) (T := TX10) (N := 52) hx hb hts (fun _ h => List.mem_cons_of_mem _ (List.mem_append_right _ h)) tyX10 tyX10_ok nmX10 hown hK hP hD hS 0 rfl rfl 6 kc_l_6_52 (hts (.fieldLink RX10 131 "NotEndedModel" "length" "I") (List.mem_cons_of_mem _ (List.mem_append_left _ (List.mem_of_getElem? (i := 1) rfl)))) (fun _ h9 => h9) rfl (tyX10_ok 6 kc_l_6_52) rfl rfl (Nat.le_of_ble_eq_true rfl) dX10_put_40 (fun H locs hP hD hS => ?_)
      have hPD : kPD dC dI A [(jM, .inr (10, [v0, .ref m1, v2, v3, v4, v5, .int (nI (k + 1 + 1)), v7, v8, v9, v10, v11, v12, v13, v14, v15, v16, v17, v18, v19, v20, v21, v22, v23, v24, v25, v26, v27, v28, v29, v30, v31, v32, v33, v34, v35, v36, v37, v38, v39, v40, v41, v42, v43, v44, v45, v46, v47, v48, v49, v50, v51])), (m1, .inl (mc1, 120, .inl f_19))] H := ⟨hP, hD⟩
      obtain ⟨hP, hD⟩ := hPD
      refine lv_iinc (v := 8) hx hb dX10_put_43 hl (k := 0) rfl (by decide) kc_l_2_3 (kTo [(2, .int 8), (0, .ref jM), (1, .int p0)]) (fun ls hl => ?_)
      refine lv_goto (tgt := 3) hx hb dX10_put_46 kc_t_46_m43 ?_
      refine lv_iload_n hx hb dX10_put_3 rfl (lv_at hl 0 rfl) ?_
      refine lv_if_lt (tgt := 49) hx hb dX10_put_4 kc_t_4_45 (fun c_21 => absurd c_21 (by decide)) (fun c_21 => ?_)
      refine lv_iload_n hx hb dX10_put_7 rfl (lv_at hl 2 rfl) ?_
      refine lv_iload_n hx hb dX10_put_8 rfl (lv_at hl 0 rfl) ?_
      refine lv_ishr hx hb dX10_put_9 ?_
      refine lv_topi (fun x_22 ex_22 => ?_)
      refine lv_sipush (v := 255) hx hb dX10_put_10 kc_s_255 ?_
      refine lv_iand hx hb dX10_put_13 ?_
      refine lv_topi (fun x_23 ex_23 => ?_)
      have hy_24 : kS p0 8 = x_23 := by rw [ex_23, ex_22]; rfl
      refine lv_if_ne (tgt := 20) hx hb dX10_put_14 kc_t_14_6 (fun c_25 => ?_) (fun c_25 => ?_)
      · refine lv_aload_n hx hb dX10_put_20 rfl (lv_at hl 1 rfl) ?_
        refine va_get (D := (dC, dI)) (ci := 10) (v := .ref m1) (C := RX10) (T := TX10) (N := 52) hx hb hts (fun _ h => List.mem_cons_of_mem _ (List.mem_append_right _ h)) hown hK hP 0 rfl rfl 1 kc_l_1_52 (hts (.fieldLink RX10 9 "NotEndedModel" "tape" "[B") (List.mem_cons_of_mem _ (List.mem_append_left _ (List.mem_of_getElem? (i := 0) rfl)))) (fun _ h9 => h9) rfl dX10_put_21 ?_
        refine lv_aload_n hx hb dX10_put_24 rfl (lv_at hl 1 rfl) ?_
        refine va_get (D := (dC, dI)) (ci := 10) (v := .int (nI (k + 1 + 1))) (C := RX10) (T := TX10) (N := 52) hx hb hts (fun _ h => List.mem_cons_of_mem _ (List.mem_append_right _ h)) hown hK hP 0 rfl rfl 6 kc_l_6_52 (hts (.fieldLink RX10 131 "NotEndedModel" "length" "I") (List.mem_cons_of_mem _ (List.mem_append_left _ (List.mem_of_getElem? (i := 1) rfl)))) (fun _ h9 => h9) rfl dX10_put_25 ?_
        refine lv_iload_n hx hb dX10_put_28 rfl (lv_at hl 2 rfl) ?_
        refine lv_iload_n hx hb dX10_put_29 rfl (lv_at hl 0 rfl) ?_
        refine lv_ishr hx hb dX10_put_30 ?_
        refine lv_topi (fun x_26 ex_26 => ?_)
        obtain ⟨x_27, ex_27⟩ : ∃ z : Int32, z = (Int32.toInt8 x_26).toInt32 := ⟨_, rfl⟩
        refine lv_i2b (v := x_27) hx hb dX10_put_31 ex_27.symm ?_
        have hc_28 : kC1 p0 8 = 1 := by simp [kC1, hy_24, c_25]
        refine va_bast hx hb hK hP hD hS 1 0 rfl rfl (vp_in_nI (n := k + 1 + 1) (N := 120) (by omega) (by decide)) dX10_put_32 (fun H locs hP hD hS => ?_)
        obtain ⟨f_29, ef_29⟩ : ∃ gg9 : Nat → Int32, gg9 = upd f_19 (Int32.toNatClampNeg (nI (k + 1 + 1))) (vp_nar .byte x_27) := ⟨_, rfl⟩
        have hPD : kPD dC dI A [(jM, .inr (10, [v0, .ref m1, v2, v3, v4, v5, .int (nI (k + 1 + 1)), v7, v8, v9, v10, v11, v12, v13, v14, v15, v16, v17, v18, v19, v20, v21, v22, v23, v24, v25, v26, v27, v28, v29, v30, v31, v32, v33, v34, v35, v36, v37, v38, v39, v40, v41, v42, v43, v44, v45, v46, v47, v48, v49, v50, v51])), (m1, .inl (mc1, 120, .inl f_29))] H := by rw [ef_29]; exact ⟨hP, hD⟩
        obtain ⟨hP, hD⟩ := hPD
        refine lv_aload_n hx hb dX10_put_33 rfl (lv_at hl 1 rfl) ?_
        refine lv_dup hx hb dX10_put_34 rfl ?_
        refine va_get (D := (dC, dI)) (ci := 10) (v := .int (nI (k + 1 + 1))) (C := RX10) (T := TX10) (N := 52) hx hb hts (fun _ h => List.mem_cons_of_mem _ (List.mem_append_right _ h)) hown hK hP 0 rfl rfl 6 kc_l_6_52 (hts (.fieldLink RX10 131 "NotEndedModel" "length" "I") (List.mem_cons_of_mem _ (List.mem_append_left _ (List.mem_of_getElem? (i := 1) rfl)))) (fun _ h9 => h9) rfl dX10_put_35 ?_
        refine lv_iconst (v := 1) hx hb dX10_put_38 kc_i_1 ?_
        refine lv_iadd hx hb dX10_put_39 ?_
        refine lv_topi (fun y_30 ey_30 => ?_)
        obtain rfl : y_30 = nI (k + 1 + 1 + 1) := ey_30.trans (nI_add (k + 1 + 1) (1))
        refine va_put (D := (dC, dI)) (ci := 10) (v := .int (nI (k + 1 + 1 + 1))) (ty := tyX10 6) (C := RX10) (T := TX10) (N := 52) hx hb hts (fun _ h => List.mem_cons_of_mem _ (List.mem_append_right _ h)) tyX10 tyX10_ok nmX10 hown hK hP hD hS 0 rfl rfl 6 kc_l_6_52 (hts (.fieldLink RX10 131 "NotEndedModel" "length" "I") (List.mem_cons_of_mem _ (List.mem_append_left _ (List.mem_of_getElem? (i := 1) rfl)))) (fun _ h9 => h9) rfl (tyX10_ok 6 kc_l_6_52) rfl rfl (Nat.le_of_ble_eq_true rfl) dX10_put_40 (fun H locs hP hD hS => ?_)
        have hPD : kPD dC dI A [(jM, .inr (10, [v0, .ref m1, v2, v3, v4, v5, .int (nI (k + 1 + 1 + 1)), v7, v8, v9, v10, v11, v12, v13, v14, v15, v16, v17, v18, v19, v20, v21, v22, v23, v24, v25, v26, v27, v28, v29, v30, v31, v32, v33, v34, v35, v36, v37, v38, v39, v40, v41, v42, v43, v44, v45, v46, v47, v48, v49, v50, v51])), (m1, .inl (mc1, 120, .inl f_29))] H := ⟨hP, hD⟩
        obtain ⟨hP, hD⟩ := hPD
        refine lv_iinc (v := 0) hx hb dX10_put_43 hl (k := 0) rfl (by decide) kc_l_2_3 (kTo [(2, .int 0), (0, .ref jM), (1, .int p0)]) (fun ls hl => ?_)
        refine lv_goto (tgt := 3) hx hb dX10_put_46 kc_t_46_m43 ?_
        refine lv_iload_n hx hb dX10_put_3 rfl (lv_at hl 0 rfl) ?_
        refine lv_if_lt (tgt := 49) hx hb dX10_put_4 kc_t_4_45 (fun c_31 => absurd c_31 (by decide)) (fun c_31 => ?_)
        refine lv_iload_n hx hb dX10_put_7 rfl (lv_at hl 2 rfl) ?_
        refine lv_iload_n hx hb dX10_put_8 rfl (lv_at hl 0 rfl) ?_
        refine lv_ishr hx hb dX10_put_9 ?_
        refine lv_topi (fun x_32 ex_32 => ?_)
        refine lv_sipush (v := 255) hx hb dX10_put_10 kc_s_255 ?_
        refine lv_iand hx hb dX10_put_13 ?_
        refine lv_topi (fun x_33 ex_33 => ?_)
        have hy_34 : kS p0 0 = x_33 := by rw [ex_33, ex_32]; rfl
        refine lv_if_ne (tgt := 20) hx hb dX10_put_14 kc_t_14_6 (fun c_35 => ?_) (fun c_35 => ?_)
        · refine lv_aload_n hx hb dX10_put_20 rfl (lv_at hl 1 rfl) ?_
          refine va_get (D := (dC, dI)) (ci := 10) (v := .ref m1) (C := RX10) (T := TX10) (N := 52) hx hb hts (fun _ h => List.mem_cons_of_mem _ (List.mem_append_right _ h)) hown hK hP 0 rfl rfl 1 kc_l_1_52 (hts (.fieldLink RX10 9 "NotEndedModel" "tape" "[B") (List.mem_cons_of_mem _ (List.mem_append_left _ (List.mem_of_getElem? (i := 0) rfl)))) (fun _ h9 => h9) rfl dX10_put_21 ?_
          refine lv_aload_n hx hb dX10_put_24 rfl (lv_at hl 1 rfl) ?_
          refine va_get (D := (dC, dI)) (ci := 10) (v := .int (nI (k + 1 + 1 + 1))) (C := RX10) (T := TX10) (N := 52) hx hb hts (fun _ h => List.mem_cons_of_mem _ (List.mem_append_right _ h)) hown hK hP 0 rfl rfl 6 kc_l_6_52 (hts (.fieldLink RX10 131 "NotEndedModel" "length" "I") (List.mem_cons_of_mem _ (List.mem_append_left _ (List.mem_of_getElem? (i := 1) rfl)))) (fun _ h9 => h9) rfl dX10_put_25 ?_
          refine lv_iload_n hx hb dX10_put_28 rfl (lv_at hl 2 rfl) ?_
          refine lv_iload_n hx hb dX10_put_29 rfl (lv_at hl 0 rfl) ?_
          refine lv_ishr hx hb dX10_put_30 ?_
          refine lv_topi (fun x_36 ex_36 => ?_)
          obtain ⟨x_37, ex_37⟩ : ∃ z : Int32, z = (Int32.toInt8 x_36).toInt32 := ⟨_, rfl⟩
          refine lv_i2b (v := x_37) hx hb dX10_put_31 ex_37.symm ?_
          have hc_38 : kC1 p0 0 = 1 := by simp [kC1, hy_34, c_35]
          refine va_bast hx hb hK hP hD hS 1 0 rfl rfl (vp_in_nI (n := k + 1 + 1 + 1) (N := 120) (by omega) (by decide)) dX10_put_32 (fun H locs hP hD hS => ?_)
          obtain ⟨f_39, ef_39⟩ : ∃ gg9 : Nat → Int32, gg9 = upd f_29 (Int32.toNatClampNeg (nI (k + 1 + 1 + 1))) (vp_nar .byte x_37) := ⟨_, rfl⟩
          have hPD : kPD dC dI A [(jM, .inr (10, [v0, .ref m1, v2, v3, v4, v5, .int (nI (k + 1 + 1 + 1)), v7, v8, v9, v10, v11, v12, v13, v14, v15, v16, v17, v18, v19, v20, v21, v22, v23, v24, v25, v26, v27, v28, v29, v30, v31, v32, v33, v34, v35, v36, v37, v38, v39, v40, v41, v42, v43, v44, v45, v46, v47, v48, v49, v50, v51])), (m1, .inl (mc1, 120, .inl f_39))] H := by rw [ef_39]; exact ⟨hP, hD⟩
          obtain ⟨hP, hD⟩ := hPD
          refine lv_aload_n hx hb dX10_put_33 rfl (lv_at hl 1 rfl) ?_
          refine lv_dup hx hb dX10_put_34 rfl ?_
          refine va_get (D := (dC, dI)) (ci := 10) (v := .int (nI (k + 1 + 1 + 1))) (C := RX10) (T := TX10) (N := 52) hx hb hts (fun _ h => List.mem_cons_of_mem _ (List.mem_append_right _ h)) hown hK hP 0 rfl rfl 6 kc_l_6_52 (hts (.fieldLink RX10 131 "NotEndedModel" "length" "I") (List.mem_cons_of_mem _ (List.mem_append_left _ (List.mem_of_getElem? (i := 1) rfl)))) (fun _ h9 => h9) rfl dX10_put_35 ?_
          refine lv_iconst (v := 1) hx hb dX10_put_38 kc_i_1 ?_
          refine lv_iadd hx hb dX10_put_39 ?_
          refine lv_topi (fun y_40 ey_40 => ?_)
          obtain rfl : y_40 = nI (k + 1 + 1 + 1 + 1) := ey_40.trans (nI_add (k + 1 + 1 + 1) (1))
          refine va_put (D := (dC, dI)) (ci := 10) (v := .int (nI (k + 1 + 1 + 1 + 1))) (ty := tyX10 6) (C := RX10) (T := TX10) (N := 52) hx hb hts (fun _ h => List.mem_cons_of_mem _ (List.mem_append_right _ h)) tyX10 tyX10_ok nmX10 hown hK hP hD hS 0 rfl rfl 6 kc_l_6_52 (hts (.fieldLink RX10 131 "NotEndedModel" "length" "I") (List.mem_cons_of_mem _ (List.mem_append_left _ (List.mem_of_getElem? (i := 1) rfl)))) (fun _ h9 => h9) rfl (tyX10_ok 6 kc_l_6_52) rfl rfl (Nat.le_of_ble_eq_true rfl) dX10_put_40 (fun H locs hP hD hS => ?_)
          have hPD : kPD dC dI A [(jM, .inr (10, [v0, .ref m1, v2, v3, v4, v5, .int (nI (k + 1 + 1 + 1 + 1)), v7, v8, v9, v10, v11, v12, v13, v14, v15, v16, v17, v18, v19, v20, v21, v22, v23, v24, v25, v26, v27, v28, v29, v30, v31, v32, v33, v34, v35, v36, v37, v38, v39, v40, v41, v42, v43, v44, v45, v46, v47, v48, v49, v50, v51])), (m1, .inl (mc1, 120, .inl f_39))] H := ⟨hP, hD⟩
          obtain ⟨hP, hD⟩ := hPD
          refine lv_iinc (v := (-8)) hx hb dX10_put_43 hl (k := 0) rfl (by decide) kc_l_2_3 (kTo [(2, .int (-8)), (0, .ref jM), (1, .int p0)]) (fun ls hl => ?_)
          refine lv_goto (tgt := 3) hx hb dX10_put_46 kc_t_46_m43 ?_
          refine lv_iload_n hx hb dX10_put_3 rfl (lv_at hl 0 rfl) ?_
          refine lv_if_lt (tgt := 49) hx hb dX10_put_4 kc_t_4_45 (fun c_41 => ?_) (fun c_41 => absurd (by decide) c_41)
          have hk9 : kCnt p0 = 4 := by simp [kCnt, kC1, hy_4, hy_14, hy_24, hy_34, c_5, c_15, c_25, c_35]
          have hP9 : va_P (dC, dI) vwCl [(jM, .inr (10, [v0, .ref m1, v2, v3, v4, v5, .int (nI (k + kCnt p0)), v7, v8, v9, v10, v11, v12, v13, v14, v15, v16, v17, v18, v19, v20, v21, v22, v23, v24, v25, v26, v27, v28, v29, v30, v31, v32, v33, v34, v35, v36, v37, v38, v39, v40, v41, v42, v43, v44, v45, v46, v47, v48, v49, v50, v51])), (m1, .inl (mc1, 120, .inl f_39))] H := by rw [hk9]; exact hP.sub [0, 1] rfl
          have hD9 : va_D A [(jM, .inr (10, [v0, .ref m1, v2, v3, v4, v5, .int (nI (k + kCnt p0)), v7, v8, v9, v10, v11, v12, v13, v14, v15, v16, v17, v18, v19, v20, v21, v22, v23, v24, v25, v26, v27, v28, v29, v30, v31, v32, v33, v34, v35, v36, v37, v38, v39, v40, v41, v42, v43, v44, v45, v46, v47, v48, v49, v50, v51])), (m1, .inl (mc1, 120, .inl f_39))] := by rw [hk9]; exact hD.sub [0, 1] (by decide) rfl
          have hK9 := hK
          rw [hQ]
          exact W.vret hx hb hr (fun t ht hW => ⟨⟨f_39, rfl, trivial,  by rw [ht]; exact hP9, va_K.moved hW.alike hK9, hD9⟩, hS.F ht⟩) hS.2.2 dX10_put_49
        · refine lv_goto (tgt := 43) hx hb dX10_put_17 kc_t_17_26 ?_
          refine lv_iinc (v := (-8)) hx hb dX10_put_43 hl (k := 0) rfl (by decide) kc_l_2_3 (kTo [(2, .int (-8)), (0, .ref jM), (1, .int p0)]) (fun ls hl => ?_)
          refine lv_goto (tgt := 3) hx hb dX10_put_46 kc_t_46_m43 ?_
          refine lv_iload_n hx hb dX10_put_3 rfl (lv_at hl 0 rfl) ?_
          refine lv_if_lt (tgt := 49) hx hb dX10_put_4 kc_t_4_45 (fun c_42 => ?_) (fun c_42 => absurd (by decide) c_42)
          have hk9 : kCnt p0 = 3 := by simp [kCnt, kC1, hy_4, hy_14, hy_24, hy_34, c_5, c_15, c_25, c_35]
          have hP9 : va_P (dC, dI) vwCl [(jM, .inr (10, [v0, .ref m1, v2, v3, v4, v5, .int (nI (k + kCnt p0)), v7, v8, v9, v10, v11, v12, v13, v14, v15, v16, v17, v18, v19, v20, v21, v22, v23, v24, v25, v26, v27, v28, v29, v30, v31, v32, v33, v34, v35, v36, v37, v38, v39, v40, v41, v42, v43, v44, v45, v46, v47, v48, v49, v50, v51])), (m1, .inl (mc1, 120, .inl f_29))] H := by rw [hk9]; exact hP.sub [0, 1] rfl
          have hD9 : va_D A [(jM, .inr (10, [v0, .ref m1, v2, v3, v4, v5, .int (nI (k + kCnt p0)), v7, v8, v9, v10, v11, v12, v13, v14, v15, v16, v17, v18, v19, v20, v21, v22, v23, v24, v25, v26, v27, v28, v29, v30, v31, v32, v33, v34, v35, v36, v37, v38, v39, v40, v41, v42, v43, v44, v45, v46, v47, v48, v49, v50, v51])), (m1, .inl (mc1, 120, .inl f_29))] := by rw [hk9]; exact hD.sub [0, 1] (by decide) rfl
          have hK9 := hK
          rw [hQ]
          exact W.vret hx hb hr (fun t ht hW => ⟨⟨f_29, rfl, trivial,  by rw [ht]; exact hP9, va_K.moved hW.alike hK9, hD9⟩, hS.F ht⟩) hS.2.2 dX10_put_49
      · refine lv_goto (tgt := 43) hx hb dX10_put_17 kc_t_17_26 ?_
        refine lv_iinc (v := 0) hx hb dX10_put_43 hl (k := 0) rfl (by decide) kc_l_2_3 (kTo [(2, .int 0), (0, .ref jM), (1, .int p0)]) (fun ls hl => ?_)
        refine lv_goto (tgt := 3) hx hb dX10_put_46 kc_t_46_m43 ?_
        refine lv_iload_n hx hb dX10_put_3 rfl (lv_at hl 0 rfl) ?_
        refine lv_if_lt (tgt := 49) hx hb dX10_put_4 kc_t_4_45 (fun c_43 => absurd c_43 (by decide)) (fun c_43 => ?_)
        refine lv_iload_n hx hb dX10_put_7 rfl (lv_at hl 2 rfl) ?_
        refine lv_iload_n hx hb dX10_put_8 rfl (lv_at hl 0 rfl) ?_
        refine lv_ishr hx hb dX10_put_9 ?_
        refine lv_topi (fun x_44 ex_44 => ?_)
        refine lv_sipush (v := 255) hx hb dX10_put_10 kc_s_255 ?_
        refine lv_iand hx hb dX10_put_13 ?_
        refine lv_topi (fun x_45 ex_45 => ?_)
        have hy_46 : kS p0 0 = x_45 := by rw [ex_45, ex_44]; rfl
        refine lv_if_ne (tgt := 20) hx hb dX10_put_14 kc_t_14_6 (fun c_47 => ?_) (fun c_47 => ?_)
        · refine lv_aload_n hx hb dX10_put_20 rfl (lv_at hl 1 rfl) ?_
          refine va_get (D := (dC, dI)) (ci := 10) (v := .ref m1) (C := RX10) (T := TX10) (N := 52) hx hb hts (fun _ h => List.mem_cons_of_mem _ (List.mem_append_right _ h)) hown hK hP 0 rfl rfl 1 kc_l_1_52 (hts (.fieldLink RX10 9 "NotEndedModel" "tape" "[B") (List.mem_cons_of_mem _ (List.mem_append_left _ (List.mem_of_getElem? (i := 0) rfl)))) (fun _ h9 => h9) rfl dX10_put_21 ?_
          refine lv_aload_n hx hb dX10_put_24 rfl (lv_at hl 1 rfl) ?_
          refine va_get (D := (dC, dI)) (ci := 10) (v := .int (nI (k + 1 + 1))) (C := RX10) (T := TX10) (N := 52) hx hb hts (fun _ h => List.mem_cons_of_mem _ (List.mem_append_right _ h)) hown hK hP 0 rfl rfl 6 kc_l_6_52 (hts (.fieldLink RX10 131 "NotEndedModel" "length" "I") (List.mem_cons_of_mem _ (List.mem_append_left _ (List.mem_of_getElem? (i := 1) rfl)))) (fun _ h9 => h9) rfl dX10_put_25 ?_
          refine lv_iload_n hx hb dX10_put_28 rfl (lv_at hl 2 rfl) ?_
          refine lv_iload_n hx hb dX10_put_29 rfl (lv_at hl 0 rfl) ?_
          refine lv_ishr hx hb dX10_put_30 ?_
          refine lv_topi (fun x_48 ex_48 => ?_)
          obtain ⟨x_49, ex_49⟩ : ∃ z : Int32, z = (Int32.toInt8 x_48).toInt32 := ⟨_, rfl⟩
          refine lv_i2b (v := x_49) hx hb dX10_put_31 ex_49.symm ?_
          have hc_50 : kC1 p0 0 = 1 := by simp [kC1, hy_46, c_47]
          refine va_bast hx hb hK hP hD hS 1 0 rfl rfl (vp_in_nI (n := k + 1 + 1) (N := 120) (by omega) (by decide)) dX10_put_32 (fun H locs hP hD hS => ?_)
          obtain ⟨f_51, ef_51⟩ : ∃ gg9 : Nat → Int32, gg9 = upd f_19 (Int32.toNatClampNeg (nI (k + 1 + 1))) (vp_nar .byte x_49) := ⟨_, rfl⟩
          have hPD : kPD dC dI A [(jM, .inr (10, [v0, .ref m1, v2, v3, v4, v5, .int (nI (k + 1 + 1)), v7, v8, v9, v10, v11, v12, v13, v14, v15, v16, v17, v18, v19, v20, v21, v22, v23, v24, v25, v26, v27, v28, v29, v30, v31, v32, v33, v34, v35, v36, v37, v38, v39, v40, v41, v42, v43, v44, v45, v46, v47, v48, v49, v50, v51])), (m1, .inl (mc1, 120, .inl f_51))] H := by rw [ef_51]; exact ⟨hP, hD⟩
          obtain ⟨hP, hD⟩ := hPD
          refine lv_aload_n hx hb dX10_put_33 rfl (lv_at hl 1 rfl) ?_
          refine lv_dup hx hb dX10_put_34 rfl ?_
          refine va_get (D := (dC, dI)) (ci := 10) (v := .int (nI (k + 1 + 1))) (C := RX10) (T := TX10) (N := 52) hx hb hts (fun _ h => List.mem_cons_of_mem _ (List.mem_append_right _ h)) hown hK hP 0 rfl rfl 6 kc_l_6_52 (hts (.fieldLink RX10 131 "NotEndedModel" "length" "I") (List.mem_cons_of_mem _ (List.mem_append_left _ (List.mem_of_getElem? (i := 1) rfl)))) (fun _ h9 => h9) rfl dX10_put_35 ?_
          refine lv_iconst (v := 1) hx hb dX10_put_38 kc_i_1 ?_
          refine lv_iadd hx hb dX10_put_39 ?_
          refine lv_topi (fun y_52 ey_52 => ?_)
          obtain rfl : y_52 = nI (k + 1 + 1 + 1) := ey_52.trans (nI_add (k + 1 + 1) (1))
          refine va_put (D := (dC, dI)) (ci := 10) (v := .int (nI (k + 1 + 1 + 1))) (ty := tyX10 6) (C := RX10) (T := TX10) (N := 52) hx hb hts (fun _ h => List.mem_cons_of_mem _ (List.mem_append_right _ h)) tyX10 tyX10_ok nmX10 hown hK hP hD hS 0 rfl rfl 6 kc_l_6_52 (hts (.fieldLink RX10 131 "NotEndedModel" "length" "I") (List.mem_cons_of_mem _ (List.mem_append_left _ (List.mem_of_getElem? (i := 1) rfl)))) (fun _ h9 => h9) rfl (tyX10_ok 6 kc_l_6_52) rfl rfl (Nat.le_of_ble_eq_true rfl) dX10_put_40 (fun H locs hP hD hS => ?_)
          have hPD : kPD dC dI A [(jM, .inr (10, [v0, .ref m1, v2, v3, v4, v5, .int (nI (k + 1 + 1 + 1)), v7, v8, v9, v10, v11, v12, v13, v14, v15, v16, v17, v18, v19, v20, v21, v22, v23, v24, v25, v26, v27, v28, v29, v30, v31, v32, v33, v34, v35, v36, v37, v38, v39, v40, v41, v42, v43, v44, v45, v46, v47, v48, v49, v50, v51])), (m1, .inl (mc1, 120, .inl f_51))] H := ⟨hP, hD⟩
          obtain ⟨hP, hD⟩ := hPD
          refine lv_iinc (v := (-8)) hx hb dX10_put_43 hl (k := 0) rfl (by decide) kc_l_2_3 (kTo [(2, .int (-8)), (0, .ref jM), (1, .int p0)]) (fun ls hl => ?_)
          refine lv_goto (tgt := 3) hx hb dX10_put_46 kc_t_46_m43 ?_
          refine lv_iload_n hx hb dX10_put_3 rfl (lv_at hl 0 rfl) ?_
          refine lv_if_lt (tgt := 49) hx hb dX10_put_4 kc_t_4_45 (fun c_53 => ?_) (fun c_53 => absurd (by decide) c_53)
          have hk9 : kCnt p0 = 3 := by simp [kCnt, kC1, hy_4, hy_14, hy_24, hy_46, c_5, c_15, c_25, c_47]
          have hP9 : va_P (dC, dI) vwCl [(jM, .inr (10, [v0, .ref m1, v2, v3, v4, v5, .int (nI (k + kCnt p0)), v7, v8, v9, v10, v11, v12, v13, v14, v15, v16, v17, v18, v19, v20, v21, v22, v23, v24, v25, v26, v27, v28, v29, v30, v31, v32, v33, v34, v35, v36, v37, v38, v39, v40, v41, v42, v43, v44, v45, v46, v47, v48, v49, v50, v51])), (m1, .inl (mc1, 120, .inl f_51))] H := by rw [hk9]; exact hP.sub [0, 1] rfl
          have hD9 : va_D A [(jM, .inr (10, [v0, .ref m1, v2, v3, v4, v5, .int (nI (k + kCnt p0)), v7, v8, v9, v10, v11, v12, v13, v14, v15, v16, v17, v18, v19, v20, v21, v22, v23, v24, v25, v26, v27, v28, v29, v30, v31, v32, v33, v34, v35, v36, v37, v38, v39, v40, v41, v42, v43, v44, v45, v46, v47, v48, v49, v50, v51])), (m1, .inl (mc1, 120, .inl f_51))] := by rw [hk9]; exact hD.sub [0, 1] (by decide) rfl
          have hK9 := hK
          rw [hQ]
          exact W.vret hx hb hr (fun t ht hW => ⟨⟨f_51, rfl, trivial,  by rw [ht]; exact hP9, va_K.moved hW.alike hK9, hD9⟩, hS.F ht⟩) hS.2.2 dX10_put_49
        · refine lv_goto (tgt := 43) hx hb dX10_put_17 kc_t_17_26 ?_
          refine lv_iinc (v := (-8)) hx hb dX10_put_43 hl (k := 0) rfl (by decide) kc_l_2_3 (kTo [(2, .int (-8)), (0, .ref jM), (1, .int p0)]) (fun ls hl => ?_)
          refine lv_goto (tgt := 3) hx hb dX10_put_46 kc_t_46_m43 ?_
          refine lv_iload_n hx hb dX10_put_3 rfl (lv_at hl 0 rfl) ?_
          refine lv_if_lt (tgt := 49) hx hb dX10_put_4 kc_t_4_45 (fun c_54 => ?_) (fun c_54 => absurd (by decide) c_54)
          have hk9 : kCnt p0 = 2 := by simp [kCnt, kC1, hy_4, hy_14, hy_24, hy_46, c_5, c_15, c_25, c_47]
          have hP9 : va_P (dC, dI) vwCl [(jM, .inr (10, [v0, .ref m1, v2, v3, v4, v5, .int (nI (k + kCnt p0)), v7, v8, v9, v10, v11, v12, v13, v14, v15, v16, v17, v18, v19, v20, v21, v22, v23, v24, v25, v26, v27, v28, v29, v30, v31, v32, v33, v34, v35, v36, v37, v38, v39, v40, v41, v42, v43, v44, v45, v46, v47, v48, v49, v50, v51])), (m1, .inl (mc1, 120, .inl f_19))] H := by rw [hk9]; exact hP.sub [0, 1] rfl
          have hD9 : va_D A [(jM, .inr (10, [v0, .ref m1, v2, v3, v4, v5, .int (nI (k + kCnt p0)), v7, v8, v9, v10, v11, v12, v13, v14, v15, v16, v17, v18, v19, v20, v21, v22, v23, v24, v25, v26, v27, v28, v29, v30, v31, v32, v33, v34, v35, v36, v37, v38, v39, v40, v41, v42, v43, v44, v45, v46, v47, v48, v49, v50, v51])), (m1, .inl (mc1, 120, .inl f_19))] := by rw [hk9]; exact hD.sub [0, 1] (by decide) rfl
          have hK9 := hK
          rw [hQ]
          exact W.vret hx hb hr (fun t ht hW => ⟨⟨f_19, rfl, trivial,  by rw [ht]; exact hP9, va_K.moved hW.alike hK9, hD9⟩, hS.F ht⟩) hS.2.2 dX10_put_49
    · refine lv_goto (tgt := 43) hx hb dX10_put_17 kc_t_17_26 ?_
      refine lv_iinc (v := 8) hx hb dX10_put_43 hl (k := 0) rfl (by decide) kc_l_2_3 (kTo [(2, .int 8), (0, .ref jM), (1, .int p0)]) (fun ls hl => ?_)
      refine lv_goto (tgt := 3) hx hb dX10_put_46 kc_t_46_m43 ?_
      refine lv_iload_n hx hb dX10_put_3 rfl (lv_at hl 0 rfl) ?_
      refine lv_if_lt (tgt := 49) hx hb dX10_put_4 kc_t_4_45 (fun c_55 => absurd c_55 (by decide)) (fun c_55 => ?_)
      refine lv_iload_n hx hb dX10_put_7 rfl (lv_at hl 2 rfl) ?_
      refine lv_iload_n hx hb dX10_put_8 rfl (lv_at hl 0 rfl) ?_
      refine lv_ishr hx hb dX10_put_9 ?_
      refine lv_topi (fun x_56 ex_56 => ?_)
      refine lv_sipush (v := 255) hx hb dX10_put_10 kc_s_255 ?_
      refine lv_iand hx hb dX10_put_13 ?_
      refine lv_topi (fun x_57 ex_57 => ?_)
      have hy_58 : kS p0 8 = x_57 := by rw [ex_57, ex_56]; rfl
      refine lv_if_ne (tgt := 20) hx hb dX10_put_14 kc_t_14_6 (fun c_59 => ?_) (fun c_59 => ?_)
      · refine lv_aload_n hx hb dX10_put_20 rfl (lv_at hl 1 rfl) ?_
        refine va_get (D := (dC, dI)) (ci := 10) (v := .ref m1) (C := RX10) (T := TX10) (N := 52) hx hb hts (fun _ h => List.mem_cons_of_mem _ (List.mem_append_right _ h)) hown hK hP 0 rfl rfl 1 kc_l_1_52 (hts (.fieldLink RX10 9 "NotEndedModel" "tape" "[B") (List.mem_cons_of_mem _ (List.mem_append_left _ (List.mem_of_getElem? (i := 0) rfl)))) (fun _ h9 => h9) rfl dX10_put_21 ?_
        refine lv_aload_n hx hb dX10_put_24 rfl (lv_at hl 1 rfl) ?_
        refine va_get (D := (dC, dI)) (ci := 10) (v := .int (nI (k + 1))) (C := RX10) (T := TX10) (N := 52) hx hb hts (fun _ h => List.mem_cons_of_mem _ (List.mem_append_right _ h)) hown hK hP 0 rfl rfl 6 kc_l_6_52 (hts (.fieldLink RX10 131 "NotEndedModel" "length" "I") (List.mem_cons_of_mem _ (List.mem_append_left _ (List.mem_of_getElem? (i := 1) rfl)))) (fun _ h9 => h9) rfl dX10_put_25 ?_
        refine lv_iload_n hx hb dX10_put_28 rfl (lv_at hl 2 rfl) ?_
        refine lv_iload_n hx hb dX10_put_29 rfl (lv_at hl 0 rfl) ?_
        refine lv_ishr hx hb dX10_put_30 ?_
        refine lv_topi (fun x_60 ex_60 => ?_)
        obtain ⟨x_61, ex_61⟩ : ∃ z : Int32, z = (Int32.toInt8 x_60).toInt32 := ⟨_, rfl⟩
        refine lv_i2b (v := x_61) hx hb dX10_put_31 ex_61.symm ?_
        have hc_62 : kC1 p0 8 = 1 := by simp [kC1, hy_58, c_59]
        refine va_bast hx hb hK hP hD hS 1 0 rfl rfl (vp_in_nI (n := k + 1) (N := 120) (by omega) (by decide)) dX10_put_32 (fun H locs hP hD hS => ?_)
        obtain ⟨f_63, ef_63⟩ : ∃ gg9 : Nat → Int32, gg9 = upd f_9 (Int32.toNatClampNeg (nI (k + 1))) (vp_nar .byte x_61) := ⟨_, rfl⟩
        have hPD : kPD dC dI A [(jM, .inr (10, [v0, .ref m1, v2, v3, v4, v5, .int (nI (k + 1)), v7, v8, v9, v10, v11, v12, v13, v14, v15, v16, v17, v18, v19, v20, v21, v22, v23, v24, v25, v26, v27, v28, v29, v30, v31, v32, v33, v34, v35, v36, v37, v38, v39, v40, v41, v42, v43, v44, v45, v46, v47, v48, v49, v50, v51])), (m1, .inl (mc1, 120, .inl f_63))] H := by rw [ef_63]; exact ⟨hP, hD⟩
        obtain ⟨hP, hD⟩ := hPD
        refine lv_aload_n hx hb dX10_put_33 rfl (lv_at hl 1 rfl) ?_
        refine lv_dup hx hb dX10_put_34 rfl ?_
        refine va_get (D := (dC, dI)) (ci := 10) (v := .int (nI (k + 1))) (C := RX10) (T := TX10) (N := 52) hx hb hts (fun _ h => List.mem_cons_of_mem _ (List.mem_append_right _ h)) hown hK hP 0 rfl rfl 6 kc_l_6_52 (hts (.fieldLink RX10 131 "NotEndedModel" "length" "I") (List.mem_cons_of_mem _ (List.mem_append_left _ (List.mem_of_getElem? (i := 1) rfl)))) (fun _ h9 => h9) rfl dX10_put_35 ?_
        refine lv_iconst (v := 1) hx hb dX10_put_38 kc_i_1 ?_
        refine lv_iadd hx hb dX10_put_39 ?_
        refine lv_topi (fun y_64 ey_64 => ?_)
        obtain rfl : y_64 = nI (k + 1 + 1) := ey_64.trans (nI_add (k + 1) (1))
        refine va_put (D := (dC, dI)) (ci := 10) (v := .int (nI (k + 1 + 1))) (ty := tyX10 6) (C := RX10) (T := TX10) (N := 52) hx hb hts (fun _ h => List.mem_cons_of_mem _ (List.mem_append_right _ h)) tyX10 tyX10_ok nmX10 hown hK hP hD hS 0 rfl rfl 6 kc_l_6_52 (hts (.fieldLink RX10 131 "NotEndedModel" "length" "I") (List.mem_cons_of_mem _ (List.mem_append_left _ (List.mem_of_getElem? (i := 1) rfl)))) (fun _ h9 => h9) rfl (tyX10_ok 6 kc_l_6_52) rfl rfl (Nat.le_of_ble_eq_true rfl) dX10_put_40 (fun H locs hP hD hS => ?_)
        have hPD : kPD dC dI A [(jM, .inr (10, [v0, .ref m1, v2, v3, v4, v5, .int (nI (k + 1 + 1)), v7, v8, v9, v10, v11, v12, v13, v14, v15, v16, v17, v18, v19, v20, v21, v22, v23, v24, v25, v26, v27, v28, v29, v30, v31, v32, v33, v34, v35, v36, v37, v38, v39, v40, v41, v42, v43, v44, v45, v46, v47, v48, v49, v50, v51])), (m1, .inl (mc1, 120, .inl f_63))] H := ⟨hP, hD⟩
        obtain ⟨hP, hD⟩ := hPD
        refine lv_iinc (v := 0) hx hb dX10_put_43 hl (k := 0) rfl (by decide) kc_l_2_3 (kTo [(2, .int 0), (0, .ref jM), (1, .int p0)]) (fun ls hl => ?_)
        refine lv_goto (tgt := 3) hx hb dX10_put_46 kc_t_46_m43 ?_
        refine lv_iload_n hx hb dX10_put_3 rfl (lv_at hl 0 rfl) ?_
        refine lv_if_lt (tgt := 49) hx hb dX10_put_4 kc_t_4_45 (fun c_65 => absurd c_65 (by decide)) (fun c_65 => ?_)
        refine lv_iload_n hx hb dX10_put_7 rfl (lv_at hl 2 rfl) ?_
        refine lv_iload_n hx hb dX10_put_8 rfl (lv_at hl 0 rfl) ?_
        refine lv_ishr hx hb dX10_put_9 ?_
        refine lv_topi (fun x_66 ex_66 => ?_)
        refine lv_sipush (v := 255) hx hb dX10_put_10 kc_s_255 ?_
        refine lv_iand hx hb dX10_put_13 ?_
        refine lv_topi (fun x_67 ex_67 => ?_)
        have hy_68 : kS p0 0 = x_67 := by rw [ex_67, ex_66]; rfl
        refine lv_if_ne (tgt := 20) hx hb dX10_put_14 kc_t_14_6 (fun c_69 => ?_) (fun c_69 => ?_)
        · refine lv_aload_n hx hb dX10_put_20 rfl (lv_at hl 1 rfl) ?_
          refine va_get (D := (dC, dI)) (ci := 10) (v := .ref m1) (C := RX10) (T := TX10) (N := 52) hx hb hts (fun _ h => List.mem_cons_of_mem _ (List.mem_append_right _ h)) hown hK hP 0 rfl rfl 1 kc_l_1_52 (hts (.fieldLink RX10 9 "NotEndedModel" "tape" "[B") (List.mem_cons_of_mem _ (List.mem_append_left _ (List.mem_of_getElem? (i := 0) rfl)))) (fun _ h9 => h9) rfl dX10_put_21 ?_
          refine lv_aload_n hx hb dX10_put_24 rfl (lv_at hl 1 rfl) ?_
          refine va_get (D := (dC, dI)) (ci := 10) (v := .int (nI (k + 1 + 1))) (C := RX10) (T := TX10) (N := 52) hx hb hts (fun _ h => List.mem_cons_of_mem _ (List.mem_append_right _ h)) hown hK hP 0 rfl rfl 6 kc_l_6_52 (hts (.fieldLink RX10 131 "NotEndedModel" "length" "I") (List.mem_cons_of_mem _ (List.mem_append_left _ (List.mem_of_getElem? (i := 1) rfl)))) (fun _ h9 => h9) rfl dX10_put_25 ?_
          refine lv_iload_n hx hb dX10_put_28 rfl (lv_at hl 2 rfl) ?_
          refine lv_iload_n hx hb dX10_put_29 rfl (lv_at hl 0 rfl) ?_
          refine lv_ishr hx hb dX10_put_30 ?_
          refine lv_topi (fun x_70 ex_70 => ?_)
          obtain ⟨x_71, ex_71⟩ : ∃ z : Int32, z = (Int32.toInt8 x_70).toInt32 := ⟨_, rfl⟩
          refine lv_i2b (v := x_71) hx hb dX10_put_31 ex_71.symm ?_
          have hc_72 : kC1 p0 0 = 1 := by simp [kC1, hy_68, c_69]
          refine va_bast hx hb hK hP hD hS 1 0 rfl rfl (vp_in_nI (n := k + 1 + 1) (N := 120) (by omega) (by decide)) dX10_put_32 (fun H locs hP hD hS => ?_)
          obtain ⟨f_73, ef_73⟩ : ∃ gg9 : Nat → Int32, gg9 = upd f_63 (Int32.toNatClampNeg (nI (k + 1 + 1))) (vp_nar .byte x_71) := ⟨_, rfl⟩
          have hPD : kPD dC dI A [(jM, .inr (10, [v0, .ref m1, v2, v3, v4, v5, .int (nI (k + 1 + 1)), v7, v8, v9, v10, v11, v12, v13, v14, v15, v16, v17, v18, v19, v20, v21, v22, v23, v24, v25, v26, v27, v28, v29, v30, v31, v32, v33, v34, v35, v36, v37, v38, v39, v40, v41, v42, v43, v44, v45, v46, v47, v48, v49, v50, v51])), (m1, .inl (mc1, 120, .inl f_73))] H := by rw [ef_73]; exact ⟨hP, hD⟩
          obtain ⟨hP, hD⟩ := hPD
          refine lv_aload_n hx hb dX10_put_33 rfl (lv_at hl 1 rfl) ?_
          refine lv_dup hx hb dX10_put_34 rfl ?_
          refine va_get (D := (dC, dI)) (ci := 10) (v := .int (nI (k + 1 + 1))) (C := RX10) (T := TX10) (N := 52) hx hb hts (fun _ h => List.mem_cons_of_mem _ (List.mem_append_right _ h)) hown hK hP 0 rfl rfl 6 kc_l_6_52 (hts (.fieldLink RX10 131 "NotEndedModel" "length" "I") (List.mem_cons_of_mem _ (List.mem_append_left _ (List.mem_of_getElem? (i := 1) rfl)))) (fun _ h9 => h9) rfl dX10_put_35 ?_
          refine lv_iconst (v := 1) hx hb dX10_put_38 kc_i_1 ?_
          refine lv_iadd hx hb dX10_put_39 ?_
          refine lv_topi (fun y_74 ey_74 => ?_)
          obtain rfl : y_74 = nI (k + 1 + 1 + 1) := ey_74.trans (nI_add (k + 1 + 1) (1))
          refine va_put (D := (dC, dI)) (ci := 10) (v := .int (nI (k + 1 + 1 + 1))) (ty := tyX10 6) (C := RX10) (T := TX10) (N := 52) hx hb hts (fun _ h => List.mem_cons_of_mem _ (List.mem_append_right _ h)) tyX10 tyX10_ok nmX10 hown hK hP hD hS 0 rfl rfl 6 kc_l_6_52 (hts (.fieldLink RX10 131 "NotEndedModel" "length" "I") (List.mem_cons_of_mem _ (List.mem_append_left _ (List.mem_of_getElem? (i := 1) rfl)))) (fun _ h9 => h9) rfl (tyX10_ok 6 kc_l_6_52) rfl rfl (Nat.le_of_ble_eq_true rfl) dX10_put_40 (fun H locs hP hD hS => ?_)
          have hPD : kPD dC dI A [(jM, .inr (10, [v0, .ref m1, v2, v3, v4, v5, .int (nI (k + 1 + 1 + 1)), v7, v8, v9, v10, v11, v12, v13, v14, v15, v16, v17, v18, v19, v20, v21, v22, v23, v24, v25, v26, v27, v28, v29, v30, v31, v32, v33, v34, v35, v36, v37, v38, v39, v40, v41, v42, v43, v44, v45, v46, v47, v48, v49, v50, v51])), (m1, .inl (mc1, 120, .inl f_73))] H := ⟨hP, hD⟩
          obtain ⟨hP, hD⟩ := hPD
          refine lv_iinc (v := (-8)) hx hb dX10_put_43 hl (k := 0) rfl (by decide) kc_l_2_3 (kTo [(2, .int (-8)), (0, .ref jM), (1, .int p0)]) (fun ls hl => ?_)
          refine lv_goto (tgt := 3) hx hb dX10_put_46 kc_t_46_m43 ?_
          refine lv_iload_n hx hb dX10_put_3 rfl (lv_at hl 0 rfl) ?_
          refine lv_if_lt (tgt := 49) hx hb dX10_put_4 kc_t_4_45 (fun c_75 => ?_) (fun c_75 => absurd (by decide) c_75)
          have hk9 : kCnt p0 = 3 := by simp [kCnt, kC1, hy_4, hy_14, hy_58, hy_68, c_5, c_15, c_59, c_69]
          have hP9 : va_P (dC, dI) vwCl [(jM, .inr (10, [v0, .ref m1, v2, v3, v4, v5, .int (nI (k + kCnt p0)), v7, v8, v9, v10, v11, v12, v13, v14, v15, v16, v17, v18, v19, v20, v21, v22, v23, v24, v25, v26, v27, v28, v29, v30, v31, v32, v33, v34, v35, v36, v37, v38, v39, v40, v41, v42, v43, v44, v45, v46, v47, v48, v49, v50, v51])), (m1, .inl (mc1, 120, .inl f_73))] H := by rw [hk9]; exact hP.sub [0, 1] rfl
          have hD9 : va_D A [(jM, .inr (10, [v0, .ref m1, v2, v3, v4, v5, .int (nI (k + kCnt p0)), v7, v8, v9, v10, v11, v12, v13, v14, v15, v16, v17, v18, v19, v20, v21, v22, v23, v24, v25, v26, v27, v28, v29, v30, v31, v32, v33, v34, v35, v36, v37, v38, v39, v40, v41, v42, v43, v44, v45, v46, v47, v48, v49, v50, v51])), (m1, .inl (mc1, 120, .inl f_73))] := by rw [hk9]; exact hD.sub [0, 1] (by decide) rfl
          have hK9 := hK
          rw [hQ]
          exact W.vret hx hb hr (fun t ht hW => ⟨⟨f_73, rfl, trivial,  by rw [ht]; exact hP9, va_K.moved hW.alike hK9, hD9⟩, hS.F ht⟩) hS.2.2 dX10_put_49
        · refine lv_goto (tgt := 43) hx hb dX10_put_17 kc_t_17_26 ?_
          refine lv_iinc (v := (-8)) hx hb dX10_put_43 hl (k := 0) rfl (by decide) kc_l_2_3 (kTo [(2, .int (-8)), (0, .ref jM), (1, .int p0)]) (fun ls hl => ?_)
          refine lv_goto (tgt := 3) hx hb dX10_put_46 kc_t_46_m43 ?_
          refine lv_iload_n hx hb dX10_put_3 rfl (lv_at hl 0 rfl) ?_
          refine lv_if_lt (tgt := 49) hx hb dX10_put_4 kc_t_4_45 (fun c_76 => ?_) (fun c_76 => absurd (by decide) c_76)
          have hk9 : kCnt p0 = 2 := by simp [kCnt, kC1, hy_4, hy_14, hy_58, hy_68, c_5, c_15, c_59, c_69]
          have hP9 : va_P (dC, dI) vwCl [(jM, .inr (10, [v0, .ref m1, v2, v3, v4, v5, .int (nI (k + kCnt p0)), v7, v8, v9, v10, v11, v12, v13, v14, v15, v16, v17, v18, v19, v20, v21, v22, v23, v24, v25, v26, v27, v28, v29, v30, v31, v32, v33, v34, v35, v36, v37, v38, v39, v40, v41, v42, v43, v44, v45, v46, v47, v48, v49, v50, v51])), (m1, .inl (mc1, 120, .inl f_63))] H := by rw [hk9]; exact hP.sub [0, 1] rfl
          have hD9 : va_D A [(jM, .inr (10, [v0, .ref m1, v2, v3, v4, v5, .int (nI (k + kCnt p0)), v7, v8, v9, v10, v11, v12, v13, v14, v15, v16, v17, v18, v19, v20, v21, v22, v23, v24, v25, v26, v27, v28, v29, v30, v31, v32, v33, v34, v35, v36, v37, v38, v39, v40, v41, v42, v43, v44, v45, v46, v47, v48, v49, v50, v51])), (m1, .inl (mc1, 120, .inl f_63))] := by rw [hk9]; exact hD.sub [0, 1] (by decide) rfl
          have hK9 := hK
          rw [hQ]
          exact W.vret hx hb hr (fun t ht hW => ⟨⟨f_63, rfl, trivial,  by rw [ht]; exact hP9, va_K.moved hW.alike hK9, hD9⟩, hS.F ht⟩) hS.2.2 dX10_put_49
      · refine lv_goto (tgt := 43) hx hb dX10_put_17 kc_t_17_26 ?_
        refine lv_iinc (v := 0) hx hb dX10_put_43 hl (k := 0) rfl (by decide) kc_l_2_3 (kTo [(2, .int 0), (0, .ref jM), (1, .int p0)]) (fun ls hl => ?_)
        refine lv_goto (tgt := 3) hx hb dX10_put_46 kc_t_46_m43 ?_
        refine lv_iload_n hx hb dX10_put_3 rfl (lv_at hl 0 rfl) ?_
        refine lv_if_lt (tgt := 49) hx hb dX10_put_4 kc_t_4_45 (fun c_77 => absurd c_77 (by decide)) (fun c_77 => ?_)
        refine lv_iload_n hx hb dX10_put_7 rfl (lv_at hl 2 rfl) ?_
        refine lv_iload_n hx hb dX10_put_8 rfl (lv_at hl 0 rfl) ?_
        refine lv_ishr hx hb dX10_put_9 ?_
        refine lv_topi (fun x_78 ex_78 => ?_)
        refine lv_sipush (v := 255) hx hb dX10_put_10 kc_s_255 ?_
        refine lv_iand hx hb dX10_put_13 ?_
        refine lv_topi (fun x_79 ex_79 => ?_)
        have hy_80 : kS p0 0 = x_79 := by rw [ex_79, ex_78]; rfl
        refine lv_if_ne (tgt := 20) hx hb dX10_put_14 kc_t_14_6 (fun c_81 => ?_) (fun c_81 => ?_)
        · refine lv_aload_n hx hb dX10_put_20 rfl (lv_at hl 1 rfl) ?_
          refine va_get (D := (dC, dI)) (ci := 10) (v := .ref m1) (C := RX10) (T := TX10) (N := 52) hx hb hts (fun _ h => List.mem_cons_of_mem _ (List.mem_append_right _ h)) hown hK hP 0 rfl rfl 1 kc_l_1_52 (hts (.fieldLink RX10 9 "NotEndedModel" "tape" "[B") (List.mem_cons_of_mem _ (List.mem_append_left _ (List.mem_of_getElem? (i := 0) rfl)))) (fun _ h9 => h9) rfl dX10_put_21 ?_
          refine lv_aload_n hx hb dX10_put_24 rfl (lv_at hl 1 rfl) ?_
          refine va_get (D := (dC, dI)) (ci := 10) (v := .int (nI (k + 1))) (C := RX10) (T := TX10) (N := 52) hx hb hts (fun _ h => List.mem_cons_of_mem _ (List.mem_append_right _ h)) hown hK hP 0 rfl rfl 6 kc_l_6_52 (hts (.fieldLink RX10 131 "NotEndedModel" "length" "I") (List.mem_cons_of_mem _ (List.mem_append_left _ (List.mem_of_getElem? (i := 1) rfl)))) (fun _ h9 => h9) rfl dX10_put_25 ?_
          refine lv_iload_n hx hb dX10_put_28 rfl (lv_at hl 2 rfl) ?_
          refine lv_iload_n hx hb dX10_put_29 rfl (lv_at hl 0 rfl) ?_
          refine lv_ishr hx hb dX10_put_30 ?_
          refine lv_topi (fun x_82 ex_82 => ?_)
          obtain ⟨x_83, ex_83⟩ : ∃ z : Int32, z = (Int32.toInt8 x_82).toInt32 := ⟨_, rfl⟩
          refine lv_i2b (v := x_83) hx hb dX10_put_31 ex_83.symm ?_
          have hc_84 : kC1 p0 0 = 1 := by simp [kC1, hy_80, c_81]
          refine va_bast hx hb hK hP hD hS 1 0 rfl rfl (vp_in_nI (n := k + 1) (N := 120) (by omega) (by decide)) dX10_put_32 (fun H locs hP hD hS => ?_)
          obtain ⟨f_85, ef_85⟩ : ∃ gg9 : Nat → Int32, gg9 = upd f_9 (Int32.toNatClampNeg (nI (k + 1))) (vp_nar .byte x_83) := ⟨_, rfl⟩
          have hPD : kPD dC dI A [(jM, .inr (10, [v0, .ref m1, v2, v3, v4, v5, .int (nI (k + 1)), v7, v8, v9, v10, v11, v12, v13, v14, v15, v16, v17, v18, v19, v20, v21, v22, v23, v24, v25, v26, v27, v28, v29, v30, v31, v32, v33, v34, v35, v36, v37, v38, v39, v40, v41, v42, v43, v44, v45, v46, v47, v48, v49, v50, v51])), (m1, .inl (mc1, 120, .inl f_85))] H := by rw [ef_85]; exact ⟨hP, hD⟩
          obtain ⟨hP, hD⟩ := hPD
          refine lv_aload_n hx hb dX10_put_33 rfl (lv_at hl 1 rfl) ?_
          refine lv_dup hx hb dX10_put_34 rfl ?_
          refine va_get (D := (dC, dI)) (ci := 10) (v := .int (nI (k + 1))) (C := RX10) (T := TX10) (N := 52) hx hb hts (fun _ h => List.mem_cons_of_mem _ (List.mem_append_right _ h)) hown hK hP 0 rfl rfl 6 kc_l_6_52 (hts (.fieldLink RX10 131 "NotEndedModel" "length" "I") (List.mem_cons_of_mem _ (List.mem_append_left _ (List.mem_of_getElem? (i := 1) rfl)))) (fun _ h9 => h9) rfl dX10_put_35 ?_
          refine lv_iconst (v := 1) hx hb dX10_put_38 kc_i_1 ?_
          refine lv_iadd hx hb dX10_put_39 ?_
          refine lv_topi (fun y_86 ey_86 => ?_)
          obtain rfl : y_86 = nI (k + 1 + 1) := ey_86.trans (nI_add (k + 1) (1))
          refine va_put (D := (dC, dI)) (ci := 10) (v := .int (nI (k + 1 + 1))) (ty := tyX10 6) (C := RX10) (T := TX10) (N := 52) hx hb hts (fun _ h => List.mem_cons_of_mem _ (List.mem_append_right _ h)) tyX10 tyX10_ok nmX10 hown hK hP hD hS 0 rfl rfl 6 kc_l_6_52 (hts (.fieldLink RX10 131 "NotEndedModel" "length" "I") (List.mem_cons_of_mem _ (List.mem_append_left _ (List.mem_of_getElem? (i := 1) rfl)))) (fun _ h9 => h9) rfl (tyX10_ok 6 kc_l_6_52) rfl rfl (Nat.le_of_ble_eq_true rfl) dX10_put_40 (fun H locs hP hD hS => ?_)
          have hPD : kPD dC dI A [(jM, .inr (10, [v0, .ref m1, v2, v3, v4, v5, .int (nI (k + 1 + 1)), v7, v8, v9, v10, v11, v12, v13, v14, v15, v16, v17, v18, v19, v20, v21, v22, v23, v24, v25, v26, v27, v28, v29, v30, v31, v32, v33, v34, v35, v36, v37, v38, v39, v40, v41, v42, v43, v44, v45, v46, v47, v48, v49, v50, v51])), (m1, .inl (mc1, 120, .inl f_85))] H := ⟨hP, hD⟩
          obtain ⟨hP, hD⟩ := hPD
          refine lv_iinc (v := (-8)) hx hb dX10_put_43 hl (k := 0) rfl (by decide) kc_l_2_3 (kTo [(2, .int (-8)), (0, .ref jM), (1, .int p0)]) (fun ls hl => ?_)
          refine lv_goto (tgt := 3) hx hb dX10_put_46 kc_t_46_m43 ?_
          refine lv_iload_n hx hb dX10_put_3 rfl (lv_at hl 0 rfl) ?_
          refine lv_if_lt (tgt := 49) hx hb dX10_put_4 kc_t_4_45 (fun c_87 => ?_) (fun c_87 => absurd (by decide) c_87)
          have hk9 : kCnt p0 = 2 := by simp [kCnt, kC1, hy_4, hy_14, hy_58, hy_80, c_5, c_15, c_59, c_81]
          have hP9 : va_P (dC, dI) vwCl [(jM, .inr (10, [v0, .ref m1, v2, v3, v4, v5, .int (nI (k + kCnt p0)), v7, v8, v9, v10, v11, v12, v13, v14, v15, v16, v17, v18, v19, v20, v21, v22, v23, v24, v25, v26, v27, v28, v29, v30, v31, v32, v33, v34, v35, v36, v37, v38, v39, v40, v41, v42, v43, v44, v45, v46, v47, v48, v49, v50, v51])), (m1, .inl (mc1, 120, .inl f_85))] H := by rw [hk9]; exact hP.sub [0, 1] rfl
          have hD9 : va_D A [(jM, .inr (10, [v0, .ref m1, v2, v3, v4, v5, .int (nI (k + kCnt p0)), v7, v8, v9, v10, v11, v12, v13, v14, v15, v16, v17, v18, v19, v20, v21, v22, v23, v24, v25, v26, v27, v28, v29, v30, v31, v32, v33, v34, v35, v36, v37, v38, v39, v40, v41, v42, v43, v44, v45, v46, v47, v48, v49, v50, v51])), (m1, .inl (mc1, 120, .inl f_85))] := by rw [hk9]; exact hD.sub [0, 1] (by decide) rfl
          have hK9 := hK
          rw [hQ]
          exact W.vret hx hb hr (fun t ht hW => ⟨⟨f_85, rfl, trivial,  by rw [ht]; exact hP9, va_K.moved hW.alike hK9, hD9⟩, hS.F ht⟩) hS.2.2 dX10_put_49
        · refine lv_goto (tgt := 43) hx hb dX10_put_17 kc_t_17_26 ?_
          refine lv_iinc (v := (-8)) hx hb dX10_put_43 hl (k := 0) rfl (by decide) kc_l_2_3 (kTo [(2, .int (-8)), (0, .ref jM), (1, .int p0)]) (fun ls hl => ?_)
          refine lv_goto (tgt := 3) hx hb dX10_put_46 kc_t_46_m43 ?_
          refine lv_iload_n hx hb dX10_put_3 rfl (lv_at hl 0 rfl) ?_
          refine lv_if_lt (tgt := 49) hx hb dX10_put_4 kc_t_4_45 (fun c_88 => ?_) (fun c_88 => absurd (by decide) c_88)
          have hk9 : kCnt p0 = 1 := by simp [kCnt, kC1, hy_4, hy_14, hy_58, hy_80, c_5, c_15, c_59, c_81]
          have hP9 : va_P (dC, dI) vwCl [(jM, .inr (10, [v0, .ref m1, v2, v3, v4, v5, .int (nI (k + kCnt p0)), v7, v8, v9, v10, v11, v12, v13, v14, v15, v16, v17, v18, v19, v20, v21, v22, v23, v24, v25, v26, v27, v28, v29, v30, v31, v32, v33, v34, v35, v36, v37, v38, v39, v40, v41, v42, v43, v44, v45, v46, v47, v48, v49, v50, v51])), (m1, .inl (mc1, 120, .inl f_9))] H := by rw [hk9]; exact hP.sub [0, 1] rfl
          have hD9 : va_D A [(jM, .inr (10, [v0, .ref m1, v2, v3, v4, v5, .int (nI (k + kCnt p0)), v7, v8, v9, v10, v11, v12, v13, v14, v15, v16, v17, v18, v19, v20, v21, v22, v23, v24, v25, v26, v27, v28, v29, v30, v31, v32, v33, v34, v35, v36, v37, v38, v39, v40, v41, v42, v43, v44, v45, v46, v47, v48, v49, v50, v51])), (m1, .inl (mc1, 120, .inl f_9))] := by rw [hk9]; exact hD.sub [0, 1] (by decide) rfl
          have hK9 := hK
          rw [hQ]
          exact W.vret hx hb hr (fun t ht hW => ⟨⟨f_9, rfl, trivial,  by rw [ht]; exact hP9, va_K.moved hW.alike hK9, hD9⟩, hS.F ht⟩) hS.2.2 dX10_put_49
  · refine lv_goto (tgt := 43) hx hb dX10_put_17 kc_t_17_26 ?_
    refine lv_iinc (v := 16) hx hb dX10_put_43 hl (k := 0) rfl (by decide) kc_l_2_3 (kTo [(2, .int 16), (0, .ref jM), (1, .int p0)]) (fun ls hl => ?_)
    refine lv_goto (tgt := 3) hx hb dX10_put_46 kc_t_46_m43 ?_
    refine lv_iload_n hx hb dX10_put_3 rfl (lv_at hl 0 rfl) ?_
    refine lv_if_lt (tgt := 49) hx hb dX10_put_4 kc_t_4_45 (fun c_89 => absurd c_89 (by decide)) (fun c_89 => ?_)
    refine lv_iload_n hx hb dX10_put_7 rfl (lv_at hl 2 rfl) ?_
    refine lv_iload_n hx hb dX10_put_8 rfl (lv_at hl 0 rfl) ?_
    refine lv_ishr hx hb dX10_put_9 ?_
    refine lv_topi (fun x_90 ex_90 => ?_)
    refine lv_sipush (v := 255) hx hb dX10_put_10 kc_s_255 ?_
    refine lv_iand hx hb dX10_put_13 ?_
    refine lv_topi (fun x_91 ex_91 => ?_)
    have hy_92 : kS p0 16 = x_91 := by rw [ex_91, ex_90]; rfl
    refine lv_if_ne (tgt := 20) hx hb dX10_put_14 kc_t_14_6 (fun c_93 => ?_) (fun c_93 => ?_)
    · refine lv_aload_n hx hb dX10_put_20 rfl (lv_at hl 1 rfl) ?_
      refine va_get (D := (dC, dI)) (ci := 10) (v := .ref m1) (C := RX10) (T := TX10) (N := 52) hx hb hts (fun _ h => List.mem_cons_of_mem _ (List.mem_append_right _ h)) hown hK hP 0 rfl rfl 1 kc_l_1_52 (hts (.fieldLink RX10 9 "NotEndedModel" "tape" "[B") (List.mem_cons_of_mem _ (List.mem_append_left _ (List.mem_of_getElem? (i := 0) rfl)))) (fun _ h9 => h9) rfl dX10_put_21 ?_
      refine lv_aload_n hx hb dX10_put_24 rfl (lv_at hl 1 rfl) ?_
      refine va_get (D := (dC, dI)) (ci := 10) (v := .int (nI (k))) (C := RX10) (T := TX10) (N := 52) hx hb hts (fun _ h => List.mem_cons_of_mem _ (List.mem_append_right _ h)) hown hK hP 0 rfl rfl 6 kc_l_6_52 (hts (.fieldLink RX10 131 "NotEndedModel" "length" "I") (List.mem_cons_of_mem _ (List.mem_append_left _ (List.mem_of_getElem? (i := 1) rfl)))) (fun _ h9 => h9) rfl dX10_put_25 ?_
      refine lv_iload_n hx hb dX10_put_28 rfl (lv_at hl 2 rfl) ?_
      refine lv_iload_n hx hb dX10_put_29 rfl (lv_at hl 0 rfl) ?_
      refine lv_ishr hx hb dX10_put_30 ?_
      refine lv_topi (fun x_94 ex_94 => ?_)
      obtain ⟨x_95, ex_95⟩ : ∃ z : Int32, z = (Int32.toInt8 x_94).toInt32 := ⟨_, rfl⟩
      refine lv_i2b (v := x_95) hx hb dX10_put_31 ex_95.symm ?_
      have hc_96 : kC1 p0 16 = 1 := by simp [kC1, hy_92, c_93]
      refine va_bast hx hb hK hP hD hS 1 0 rfl rfl (vp_in_nI (n := k) (N := 120) (by omega) (by decide)) dX10_put_32 (fun H locs hP hD hS => ?_)
      obtain ⟨f_97, ef_97⟩ : ∃ gg9 : Nat → Int32, gg9 = upd g (Int32.toNatClampNeg (nI (k))) (vp_nar .byte x_95) := ⟨_, rfl⟩
      have hPD : kPD dC dI A [(jM, .inr (10, [v0, .ref m1, v2, v3, v4, v5, .int (nI (k)), v7, v8, v9, v10, v11, v12, v13, v14, v15, v16, v17, v18, v19, v20, v21, v22, v23, v24, v25, v26, v27, v28, v29, v30, v31, v32, v33, v34, v35, v36, v37, v38, v39, v40, v41, v42, v43, v44, v45, v46, v47, v48, v49, v50, v51])), (m1, .inl (mc1, 120, .inl f_97))] H := by rw [ef_97]; exact ⟨hP, hD⟩
      obtain ⟨hP, hD⟩ := hPD
      refine lv_aload_n hx hb dX10_put_33 rfl (lv_at hl 1 rfl) ?_
      refine lv_dup hx hb dX10_put_34 rfl ?_
      refine va_get (D := (dC, dI)) (ci := 10) (v := .int (nI (k))) (C := RX10) (T := TX10) (N := 52) hx hb hts (fun _ h => List.mem_cons_of_mem _ (List.mem_append_right _ h)) hown hK hP 0 rfl rfl 6 kc_l_6_52 (hts (.fieldLink RX10 131 "NotEndedModel" "length" "I") (List.mem_cons_of_mem _ (List.mem_append_left _ (List.mem_of_getElem? (i := 1) rfl)))) (fun _ h9 => h9) rfl dX10_put_35 ?_
      refine lv_iconst (v := 1) hx hb dX10_put_38 kc_i_1 ?_
      refine lv_iadd hx hb dX10_put_39 ?_
      refine lv_topi (fun y_98 ey_98 => ?_)
      obtain rfl : y_98 = nI (k + 1) := ey_98.trans (nI_add (k) (1))
      refine va_put (D := (dC, dI)) (ci := 10) (v := .int (nI (k + 1))) (ty := tyX10 6) (C := RX10) (T := TX10) (N := 52) hx hb hts (fun _ h => List.mem_cons_of_mem _ (List.mem_append_right _ h)) tyX10 tyX10_ok nmX10 hown hK hP hD hS 0 rfl rfl 6 kc_l_6_52 (hts (.fieldLink RX10 131 "NotEndedModel" "length" "I") (List.mem_cons_of_mem _ (List.mem_append_left _ (List.mem_of_getElem? (i := 1) rfl)))) (fun _ h9 => h9) rfl (tyX10_ok 6 kc_l_6_52) rfl rfl (Nat.le_of_ble_eq_true rfl) dX10_put_40 (fun H locs hP hD hS => ?_)
      have hPD : kPD dC dI A [(jM, .inr (10, [v0, .ref m1, v2, v3, v4, v5, .int (nI (k + 1)), v7, v8, v9, v10, v11, v12, v13, v14, v15, v16, v17, v18, v19, v20, v21, v22, v23, v24, v25, v26, v27, v28, v29, v30, v31, v32, v33, v34, v35, v36, v37, v38, v39, v40, v41, v42, v43, v44, v45, v46, v47, v48, v49, v50, v51])), (m1, .inl (mc1, 120, .inl f_97))] H := ⟨hP, hD⟩
      obtain ⟨hP, hD⟩ := hPD
      refine lv_iinc (v := 8) hx hb dX10_put_43 hl (k := 0) rfl (by decide) kc_l_2_3 (kTo [(2, .int 8), (0, .ref jM), (1, .int p0)]) (fun ls hl => ?_)
      refine lv_goto (tgt := 3) hx hb dX10_put_46 kc_t_46_m43 ?_
      refine lv_iload_n hx hb dX10_put_3 rfl (lv_at hl 0 rfl) ?_
      refine lv_if_lt (tgt := 49) hx hb dX10_put_4 kc_t_4_45 (fun c_99 => absurd c_99 (by decide)) (fun c_99 => ?_)
      refine lv_iload_n hx hb dX10_put_7 rfl (lv_at hl 2 rfl) ?_
      refine lv_iload_n hx hb dX10_put_8 rfl (lv_at hl 0 rfl) ?_
      refine lv_ishr hx hb dX10_put_9 ?_
      refine lv_topi (fun x_100 ex_100 => ?_)
      refine lv_sipush (v := 255) hx hb dX10_put_10 kc_s_255 ?_
      refine lv_iand hx hb dX10_put_13 ?_
      refine lv_topi (fun x_101 ex_101 => ?_)
      have hy_102 : kS p0 8 = x_101 := by rw [ex_101, ex_100]; rfl
      refine lv_if_ne (tgt := 20) hx hb dX10_put_14 kc_t_14_6 (fun c_103 => ?_) (fun c_103 => ?_)
      · refine lv_aload_n hx hb dX10_put_20 rfl (lv_at hl 1 rfl) ?_
        refine va_get (D := (dC, dI)) (ci := 10) (v := .ref m1) (C := RX10) (T := TX10) (N := 52) hx hb hts (fun _ h => List.mem_cons_of_mem _ (List.mem_append_right _ h)) hown hK hP 0 rfl rfl 1 kc_l_1_52 (hts (.fieldLink RX10 9 "NotEndedModel" "tape" "[B") (List.mem_cons_of_mem _ (List.mem_append_left _ (List.mem_of_getElem? (i := 0) rfl)))) (fun _ h9 => h9) rfl dX10_put_21 ?_
        refine lv_aload_n hx hb dX10_put_24 rfl (lv_at hl 1 rfl) ?_
        refine va_get (D := (dC, dI)) (ci := 10) (v := .int (nI (k + 1))) (C := RX10) (T := TX10) (N := 52) hx hb hts (fun _ h => List.mem_cons_of_mem _ (List.mem_append_right _ h)) hown hK hP 0 rfl rfl 6 kc_l_6_52 (hts (.fieldLink RX10 131 "NotEndedModel" "length" "I") (List.mem_cons_of_mem _ (List.mem_append_left _ (List.mem_of_getElem? (i := 1) rfl)))) (fun _ h9 => h9) rfl dX10_put_25 ?_
        refine lv_iload_n hx hb dX10_put_28 rfl (lv_at hl 2 rfl) ?_
        refine lv_iload_n hx hb dX10_put_29 rfl (lv_at hl 0 rfl) ?_
        refine lv_ishr hx hb dX10_put_30 ?_
        refine lv_topi (fun x_104 ex_104 => ?_)
        obtain ⟨x_105, ex_105⟩ : ∃ z : Int32, z = (Int32.toInt8 x_104).toInt32 := ⟨_, rfl⟩
        refine lv_i2b (v := x_105) hx hb dX10_put_31 ex_105.symm ?_
        have hc_106 : kC1 p0 8 = 1 := by simp [kC1, hy_102, c_103]
        refine va_bast hx hb hK hP hD hS 1 0 rfl rfl (vp_in_nI (n := k + 1) (N := 120) (by omega) (by decide)) dX10_put_32 (fun H locs hP hD hS => ?_)
        obtain ⟨f_107, ef_107⟩ : ∃ gg9 : Nat → Int32, gg9 = upd f_97 (Int32.toNatClampNeg (nI (k + 1))) (vp_nar .byte x_105) := ⟨_, rfl⟩
        have hPD : kPD dC dI A [(jM, .inr (10, [v0, .ref m1, v2, v3, v4, v5, .int (nI (k + 1)), v7, v8, v9, v10, v11, v12, v13, v14, v15, v16, v17, v18, v19, v20, v21, v22, v23, v24, v25, v26, v27, v28, v29, v30, v31, v32, v33, v34, v35, v36, v37, v38, v39, v40, v41, v42, v43, v44, v45, v46, v47, v48, v49, v50, v51])), (m1, .inl (mc1, 120, .inl f_107))] H := by rw [ef_107]; exact ⟨hP, hD⟩
        obtain ⟨hP, hD⟩ := hPD
        refine lv_aload_n hx hb dX10_put_33 rfl (lv_at hl 1 rfl) ?_
        refine lv_dup hx hb dX10_put_34 rfl ?_
        refine va_get (D := (dC, dI)) (ci := 10) (v := .int (nI (k + 1))) (C := RX10) (T := TX10) (N := 52) hx hb hts (fun _ h => List.mem_cons_of_mem _ (List.mem_append_right _ h)) hown hK hP 0 rfl rfl 6 kc_l_6_52 (hts (.fieldLink RX10 131 "NotEndedModel" "length" "I") (List.mem_cons_of_mem _ (List.mem_append_left _ (List.mem_of_getElem? (i := 1) rfl)))) (fun _ h9 => h9) rfl dX10_put_35 ?_
        refine lv_iconst (v := 1) hx hb dX10_put_38 kc_i_1 ?_
        refine lv_iadd hx hb dX10_put_39 ?_
        refine lv_topi (fun y_108 ey_108 => ?_)
        obtain rfl : y_108 = nI (k + 1 + 1) := ey_108.trans (nI_add (k + 1) (1))
        refine va_put (D := (dC, dI)) (ci := 10) (v := .int (nI (k + 1 + 1))) (ty := tyX10 6) (C := RX10) (T := TX10) (N := 52) hx hb hts (fun _ h => List.mem_cons_of_mem _ (List.mem_append_right _ h)) tyX10 tyX10_ok nmX10 hown hK hP hD hS 0 rfl rfl 6 kc_l_6_52 (hts (.fieldLink RX10 131 "NotEndedModel" "length" "I") (List.mem_cons_of_mem _ (List.mem_append_left _ (List.mem_of_getElem? (i := 1) rfl)))) (fun _ h9 => h9) rfl (tyX10_ok 6 kc_l_6_52) rfl rfl (Nat.le_of_ble_eq_true rfl) dX10_put_40 (fun H locs hP hD hS => ?_)
        have hPD : kPD dC dI A [(jM, .inr (10, [v0, .ref m1, v2, v3, v4, v5, .int (nI (k + 1 + 1)), v7, v8, v9, v10, v11, v12, v13, v14, v15, v16, v17, v18, v19, v20, v21, v22, v23, v24, v25, v26, v27, v28, v29, v30, v31, v32, v33, v34, v35, v36, v37, v38, v39, v40, v41, v42, v43, v44, v45, v46, v47, v48, v49, v50, v51])), (m1, .inl (mc1, 120, .inl f_107))] H := ⟨hP, hD⟩
        obtain ⟨hP, hD⟩ := hPD
        refine lv_iinc (v := 0) hx hb dX10_put_43 hl (k := 0) rfl (by decide) kc_l_2_3 (kTo [(2, .int 0), (0, .ref jM), (1, .int p0)]) (fun ls hl => ?_)
        refine lv_goto (tgt := 3) hx hb dX10_put_46 kc_t_46_m43 ?_
        refine lv_iload_n hx hb dX10_put_3 rfl (lv_at hl 0 rfl) ?_
        refine lv_if_lt (tgt := 49) hx hb dX10_put_4 kc_t_4_45 (fun c_109 => absurd c_109 (by decide)) (fun c_109 => ?_)
        refine lv_iload_n hx hb dX10_put_7 rfl (lv_at hl 2 rfl) ?_
        refine lv_iload_n hx hb dX10_put_8 rfl (lv_at hl 0 rfl) ?_
        refine lv_ishr hx hb dX10_put_9 ?_
        refine lv_topi (fun x_110 ex_110 => ?_)
        refine lv_sipush (v := 255) hx hb dX10_put_10 kc_s_255 ?_
        refine lv_iand hx hb dX10_put_13 ?_
        refine lv_topi (fun x_111 ex_111 => ?_)
        have hy_112 : kS p0 0 = x_111 := by rw [ex_111, ex_110]; rfl
        refine lv_if_ne (tgt := 20) hx hb dX10_put_14 kc_t_14_6 (fun c_113 => ?_) (fun c_113 => ?_)
        · refine lv_aload_n hx hb dX10_put_20 rfl (lv_at hl 1 rfl) ?_
          refine va_get (D := (dC, dI)) (ci := 10) (v := .ref m1) (C := RX10) (T := TX10) (N := 52) hx hb hts (fun _ h => List.mem_cons_of_mem _ (List.mem_append_right _ h)) hown hK hP 0 rfl rfl 1 kc_l_1_52 (hts (.fieldLink RX10 9 "NotEndedModel" "tape" "[B") (List.mem_cons_of_mem _ (List.mem_append_left _ (List.mem_of_getElem? (i := 0) rfl)))) (fun _ h9 => h9) rfl dX10_put_21 ?_
          refine lv_aload_n hx hb dX10_put_24 rfl (lv_at hl 1 rfl) ?_
          refine va_get (D := (dC, dI)) (ci := 10) (v := .int (nI (k + 1 + 1))) (C := RX10) (T := TX10) (N := 52) hx hb hts (fun _ h => List.mem_cons_of_mem _ (List.mem_append_right _ h)) hown hK hP 0 rfl rfl 6 kc_l_6_52 (hts (.fieldLink RX10 131 "NotEndedModel" "length" "I") (List.mem_cons_of_mem _ (List.mem_append_left _ (List.mem_of_getElem? (i := 1) rfl)))) (fun _ h9 => h9) rfl dX10_put_25 ?_
          refine lv_iload_n hx hb dX10_put_28 rfl (lv_at hl 2 rfl) ?_
          refine lv_iload_n hx hb dX10_put_29 rfl (lv_at hl 0 rfl) ?_
          refine lv_ishr hx hb dX10_put_30 ?_
          refine lv_topi (fun x_114 ex_114 => ?_)
          obtain ⟨x_115, ex_115⟩ : ∃ z : Int32, z = (Int32.toInt8 x_114).toInt32 := ⟨_, rfl⟩
          refine lv_i2b (v := x_115) hx hb dX10_put_31 ex_115.symm ?_
          have hc_116 : kC1 p0 0 = 1 := by simp [kC1, hy_112, c_113]
          refine va_bast hx hb hK hP hD hS 1 0 rfl rfl (vp_in_nI (n := k + 1 + 1) (N := 120) (by omega) (by decide)) dX10_put_32 (fun H locs hP hD hS => ?_)
          obtain ⟨f_117, ef_117⟩ : ∃ gg9 : Nat → Int32, gg9 = upd f_107 (Int32.toNatClampNeg (nI (k + 1 + 1))) (vp_nar .byte x_115) := ⟨_, rfl⟩
          have hPD : kPD dC dI A [(jM, .inr (10, [v0, .ref m1, v2, v3, v4, v5, .int (nI (k + 1 + 1)), v7, v8, v9, v10, v11, v12, v13, v14, v15, v16, v17, v18, v19, v20, v21, v22, v23, v24, v25, v26, v27, v28, v29, v30, v31, v32, v33, v34, v35, v36, v37, v38, v39, v40, v41, v42, v43, v44, v45, v46, v47, v48, v49, v50, v51])), (m1, .inl (mc1, 120, .inl f_117))] H := by rw [ef_117]; exact ⟨hP, hD⟩
          obtain ⟨hP, hD⟩ := hPD
          refine lv_aload_n hx hb dX10_put_33 rfl (lv_at hl 1 rfl) ?_
          refine lv_dup hx hb dX10_put_34 rfl ?_
          refine va_get (D := (dC, dI)) (ci := 10) (v := .int (nI (k + 1 + 1))) (C := RX10) (T := TX10) (N := 52) hx hb hts (fun _ h => List.mem_cons_of_mem _ (List.mem_append_right _ h)) hown hK hP 0 rfl rfl 6 kc_l_6_52 (hts (.fieldLink RX10 131 "NotEndedModel" "length" "I") (List.mem_cons_of_mem _ (List.mem_append_left _ (List.mem_of_getElem? (i := 1) rfl)))) (fun _ h9 => h9) rfl dX10_put_35 ?_
          refine lv_iconst (v := 1) hx hb dX10_put_38 kc_i_1 ?_
          refine lv_iadd hx hb dX10_put_39 ?_
          refine lv_topi (fun y_118 ey_118 => ?_)
          obtain rfl : y_118 = nI (k + 1 + 1 + 1) := ey_118.trans (nI_add (k + 1 + 1) (1))
          refine va_put (D := (dC, dI)) (ci := 10) (v := .int (nI (k + 1 + 1 + 1))) (ty := tyX10 6) (C := RX10) (T := TX10) (N := 52) hx hb hts (fun _ h => List.mem_cons_of_mem _ (List.mem_append_right _ h)) tyX10 tyX10_ok nmX10 hown hK hP hD hS 0 rfl rfl 6 kc_l_6_52 (hts (.fieldLink RX10 131 "NotEndedModel" "length" "I") (List.mem_cons_of_mem _ (List.mem_append_left _ (List.mem_of_getElem? (i := 1) rfl)))) (fun _ h9 => h9) rfl (tyX10_ok 6 kc_l_6_52) rfl rfl (Nat.le_of_ble_eq_true rfl) dX10_put_40 (fun H locs hP hD hS => ?_)
          have hPD : kPD dC dI A [(jM, .inr (10, [v0, .ref m1, v2, v3, v4, v5, .int (nI (k + 1 + 1 + 1)), v7, v8, v9, v10, v11, v12, v13, v14, v15, v16, v17, v18, v19, v20, v21, v22, v23, v24, v25, v26, v27, v28, v29, v30, v31, v32, v33, v34, v35, v36, v37, v38, v39, v40, v41, v42, v43, v44, v45, v46, v47, v48, v49, v50, v51])), (m1, .inl (mc1, 120, .inl f_117))] H := ⟨hP, hD⟩
          obtain ⟨hP, hD⟩ := hPD
          refine lv_iinc (v := (-8)) hx hb dX10_put_43 hl (k := 0) rfl (by decide) kc_l_2_3 (kTo [(2, .int (-8)), (0, .ref jM), (1, .int p0)]) (fun ls hl => ?_)
          refine lv_goto (tgt := 3) hx hb dX10_put_46 kc_t_46_m43 ?_
          refine lv_iload_n hx hb dX10_put_3 rfl (lv_at hl 0 rfl) ?_
          refine lv_if_lt (tgt := 49) hx hb dX10_put_4 kc_t_4_45 (fun c_119 => ?_) (fun c_119 => absurd (by decide) c_119)
          have hk9 : kCnt p0 = 3 := by simp [kCnt, kC1, hy_4, hy_92, hy_102, hy_112, c_5, c_93, c_103, c_113]
          have hP9 : va_P (dC, dI) vwCl [(jM, .inr (10, [v0, .ref m1, v2, v3, v4, v5, .int (nI (k + kCnt p0)), v7, v8, v9, v10, v11, v12, v13, v14, v15, v16, v17, v18, v19, v20, v21, v22, v23, v24, v25, v26, v27, v28, v29, v30, v31, v32, v33, v34, v35, v36, v37, v38, v39, v40, v41, v42, v43, v44, v45, v46, v47, v48, v49, v50, v51])), (m1, .inl (mc1, 120, .inl f_117))] H := by rw [hk9]; exact hP.sub [0, 1] rfl
          have hD9 : va_D A [(jM, .inr (10, [v0, .ref m1, v2, v3, v4, v5, .int (nI (k + kCnt p0)), v7, v8, v9, v10, v11, v12, v13, v14, v15, v16, v17, v18, v19, v20, v21, v22, v23, v24, v25, v26, v27, v28, v29, v30, v31, v32, v33, v34, v35, v36, v37, v38, v39, v40, v41, v42, v43, v44, v45, v46, v47, v48, v49, v50, v51])), (m1, .inl (mc1, 120, .inl f_117))] := by rw [hk9]; exact hD.sub [0, 1] (by decide) rfl
          have hK9 := hK
          rw [hQ]
          exact W.vret hx hb hr (fun t ht hW => ⟨⟨f_117, rfl, trivial,  by rw [ht]; exact hP9, va_K.moved hW.alike hK9, hD9⟩, hS.F ht⟩) hS.2.2 dX10_put_49
        · refine lv_goto (tgt := 43) hx hb dX10_put_17 kc_t_17_26 ?_
          refine lv_iinc (v := (-8)) hx hb dX10_put_43 hl (k := 0) rfl (by decide) kc_l_2_3 (kTo [(2, .int (-8)), (0, .ref jM), (1, .int p0)]) (fun ls hl => ?_)
          refine lv_goto (tgt := 3) hx hb dX10_put_46 kc_t_46_m43 ?_
          refine lv_iload_n hx hb dX10_put_3 rfl (lv_at hl 0 rfl) ?_
          refine lv_if_lt (tgt := 49) hx hb dX10_put_4 kc_t_4_45 (fun c_120 => ?_) (fun c_120 => absurd (by decide) c_120)
          have hk9 : kCnt p0 = 2 := by simp [kCnt, kC1, hy_4, hy_92, hy_102, hy_112, c_5, c_93, c_103, c_113]
          have hP9 : va_P (dC, dI) vwCl [(jM, .inr (10, [v0, .ref m1, v2, v3, v4, v5, .int (nI (k + kCnt p0)), v7, v8, v9, v10, v11, v12, v13, v14, v15, v16, v17, v18, v19, v20, v21, v22, v23, v24, v25, v26, v27, v28, v29, v30, v31, v32, v33, v34, v35, v36, v37, v38, v39, v40, v41, v42, v43, v44, v45, v46, v47, v48, v49, v50, v51])), (m1, .inl (mc1, 120, .inl f_107))] H := by rw [hk9]; exact hP.sub [0, 1] rfl
          have hD9 : va_D A [(jM, .inr (10, [v0, .ref m1, v2, v3, v4, v5, .int (nI (k + kCnt p0)), v7, v8, v9, v10, v11, v12, v13, v14, v15, v16, v17, v18, v19, v20, v21, v22, v23, v24, v25, v26, v27, v28, v29, v30, v31, v32, v33, v34, v35, v36, v37, v38, v39, v40, v41, v42, v43, v44, v45, v46, v47, v48, v49, v50, v51])), (m1, .inl (mc1, 120, .inl f_107))] := by rw [hk9]; exact hD.sub [0, 1] (by decide) rfl
          have hK9 := hK
          rw [hQ]
          exact W.vret hx hb hr (fun t ht hW => ⟨⟨f_107, rfl, trivial,  by rw [ht]; exact hP9, va_K.moved hW.alike hK9, hD9⟩, hS.F ht⟩) hS.2.2 dX10_put_49
      · refine lv_goto (tgt := 43) hx hb dX10_put_17 kc_t_17_26 ?_
        refine lv_iinc (v := 0) hx hb dX10_put_43 hl (k := 0) rfl (by decide) kc_l_2_3 (kTo [(2, .int 0), (0, .ref jM), (1, .int p0)]) (fun ls hl => ?_)
        refine lv_goto (tgt := 3) hx hb dX10_put_46 kc_t_46_m43 ?_
        refine lv_iload_n hx hb dX10_put_3 rfl (lv_at hl 0 rfl) ?_
        refine lv_if_lt (tgt := 49) hx hb dX10_put_4 kc_t_4_45 (fun c_121 => absurd c_121 (by decide)) (fun c_121 => ?_)
        refine lv_iload_n hx hb dX10_put_7 rfl (lv_at hl 2 rfl) ?_
        refine lv_iload_n hx hb dX10_put_8 rfl (lv_at hl 0 rfl) ?_
        refine lv_ishr hx hb dX10_put_9 ?_
        refine lv_topi (fun x_122 ex_122 => ?_)
        refine lv_sipush (v := 255) hx hb dX10_put_10 kc_s_255 ?_
        refine lv_iand hx hb dX10_put_13 ?_
        refine lv_topi (fun x_123 ex_123 => ?_)
        have hy_124 : kS p0 0 = x_123 := by rw [ex_123, ex_122]; rfl
        refine lv_if_ne (tgt := 20) hx hb dX10_put_14 kc_t_14_6 (fun c_125 => ?_) (fun c_125 => ?_)
        · refine lv_aload_n hx hb dX10_put_20 rfl (lv_at hl 1 rfl) ?_
          refine va_get (D := (dC, dI)) (ci := 10) (v := .ref m1) (C := RX10) (T := TX10) (N := 52) hx hb hts (fun _ h => List.mem_cons_of_mem _ (List.mem_append_right _ h)) hown hK hP 0 rfl rfl 1 kc_l_1_52 (hts (.fieldLink RX10 9 "NotEndedModel" "tape" "[B") (List.mem_cons_of_mem _ (List.mem_append_left _ (List.mem_of_getElem? (i := 0) rfl)))) (fun _ h9 => h9) rfl dX10_put_21 ?_
          refine lv_aload_n hx hb dX10_put_24 rfl (lv_at hl 1 rfl) ?_
          refine va_get (D := (dC, dI)) (ci := 10) (v := .int (nI (k + 1))) (C := RX10) (T := TX10) (N := 52) hx hb hts (fun _ h => List.mem_cons_of_mem _ (List.mem_append_right _ h)) hown hK hP 0 rfl rfl 6 kc_l_6_52 (hts (.fieldLink RX10 131 "NotEndedModel" "length" "I") (List.mem_cons_of_mem _ (List.mem_append_left _ (List.mem_of_getElem? (i := 1) rfl)))) (fun _ h9 => h9) rfl dX10_put_25 ?_
          refine lv_iload_n hx hb dX10_put_28 rfl (lv_at hl 2 rfl) ?_
          refine lv_iload_n hx hb dX10_put_29 rfl (lv_at hl 0 rfl) ?_
          refine lv_ishr hx hb dX10_put_30 ?_
          refine lv_topi (fun x_126 ex_126 => ?_)
          obtain ⟨x_127, ex_127⟩ : ∃ z : Int32, z = (Int32.toInt8 x_126).toInt32 := ⟨_, rfl⟩
          refine lv_i2b (v := x_127) hx hb dX10_put_31 ex_127.symm ?_
          have hc_128 : kC1 p0 0 = 1 := by simp [kC1, hy_124, c_125]
          refine va_bast hx hb hK hP hD hS 1 0 rfl rfl (vp_in_nI (n := k + 1) (N := 120) (by omega) (by decide)) dX10_put_32 (fun H locs hP hD hS => ?_)
          obtain ⟨f_129, ef_129⟩ : ∃ gg9 : Nat → Int32, gg9 = upd f_97 (Int32.toNatClampNeg (nI (k + 1))) (vp_nar .byte x_127) := ⟨_, rfl⟩
          have hPD : kPD dC dI A [(jM, .inr (10, [v0, .ref m1, v2, v3, v4, v5, .int (nI (k + 1)), v7, v8, v9, v10, v11, v12, v13, v14, v15, v16, v17, v18, v19, v20, v21, v22, v23, v24, v25, v26, v27, v28, v29, v30, v31, v32, v33, v34, v35, v36, v37, v38, v39, v40, v41, v42, v43, v44, v45, v46, v47, v48, v49, v50, v51])), (m1, .inl (mc1, 120, .inl f_129))] H := by rw [ef_129]; exact ⟨hP, hD⟩
          obtain ⟨hP, hD⟩ := hPD
          refine lv_aload_n hx hb dX10_put_33 rfl (lv_at hl 1 rfl) ?_
          refine lv_dup hx hb dX10_put_34 rfl ?_
          refine va_get (D := (dC, dI)) (ci := 10) (v := .int (nI (k + 1))) (C := RX10) (T := TX10) (N := 52) hx hb hts (fun _ h => List.mem_cons_of_mem _ (List.mem_append_right _ h)) hown hK hP 0 rfl rfl 6 kc_l_6_52 (hts (.fieldLink RX10 131 "NotEndedModel" "length" "I") (List.mem_cons_of_mem _ (List.mem_append_left _ (List.mem_of_getElem? (i := 1) rfl)))) (fun _ h9 => h9) rfl dX10_put_35 ?_
          refine lv_iconst (v := 1) hx hb dX10_put_38 kc_i_1 ?_
          refine lv_iadd hx hb dX10_put_39 ?_
          refine lv_topi (fun y_130 ey_130 => ?_)
          obtain rfl : y_130 = nI (k + 1 + 1) := ey_130.trans (nI_add (k + 1) (1))
          refine va_put (D := (dC, dI)) (ci := 10) (v := .int (nI (k + 1 + 1))) (ty := tyX10 6) (C := RX10) (T := TX10) (N := 52) hx hb hts (fun _ h => List.mem_cons_of_mem _ (List.mem_append_right _ h)) tyX10 tyX10_ok nmX10 hown hK hP hD hS 0 rfl rfl 6 kc_l_6_52 (hts (.fieldLink RX10 131 "NotEndedModel" "length" "I") (List.mem_cons_of_mem _ (List.mem_append_left _ (List.mem_of_getElem? (i := 1) rfl)))) (fun _ h9 => h9) rfl (tyX10_ok 6 kc_l_6_52) rfl rfl (Nat.le_of_ble_eq_true rfl) dX10_put_40 (fun H locs hP hD hS => ?_)
          have hPD : kPD dC dI A [(jM, .inr (10, [v0, .ref m1, v2, v3, v4, v5, .int (nI (k + 1 + 1)), v7, v8, v9, v10, v11, v12, v13, v14, v15, v16, v17, v18, v19, v20, v21, v22, v23, v24, v25, v26, v27, v28, v29, v30, v31, v32, v33, v34, v35, v36, v37, v38, v39, v40, v41, v42, v43, v44, v45, v46, v47, v48, v49, v50, v51])), (m1, .inl (mc1, 120, .inl f_129))] H := ⟨hP, hD⟩
          obtain ⟨hP, hD⟩ := hPD
          refine lv_iinc (v := (-8)) hx hb dX10_put_43 hl (k := 0) rfl (by decide) kc_l_2_3 (kTo [(2, .int (-8)), (0, .ref jM), (1, .int p0)]) (fun ls hl => ?_)
          refine lv_goto (tgt := 3) hx hb dX10_put_46 kc_t_46_m43 ?_
          refine lv_iload_n hx hb dX10_put_3 rfl (lv_at hl 0 rfl) ?_
          refine lv_if_lt (tgt := 49) hx hb dX10_put_4 kc_t_4_45 (fun c_131 => ?_) (fun c_131 => absurd (by decide) c_131)
          have hk9 : kCnt p0 = 2 := by simp [kCnt, kC1, hy_4, hy_92, hy_102, hy_124, c_5, c_93, c_103, c_125]
          have hP9 : va_P (dC, dI) vwCl [(jM, .inr (10, [v0, .ref m1, v2, v3, v4, v5, .int (nI (k + kCnt p0)), v7, v8, v9, v10, v11, v12, v13, v14, v15, v16, v17, v18, v19, v20, v21, v22, v23, v24, v25, v26, v27, v28, v29, v30, v31, v32, v33, v34, v35, v36, v37, v38, v39, v40, v41, v42, v43, v44, v45, v46, v47, v48, v49, v50, v51])), (m1, .inl (mc1, 120, .inl f_129))] H := by rw [hk9]; exact hP.sub [0, 1] rfl
          have hD9 : va_D A [(jM, .inr (10, [v0, .ref m1, v2, v3, v4, v5, .int (nI (k + kCnt p0)), v7, v8, v9, v10, v11, v12, v13, v14, v15, v16, v17, v18, v19, v20, v21, v22, v23, v24, v25, v26, v27, v28, v29, v30, v31, v32, v33, v34, v35, v36, v37, v38, v39, v40, v41, v42, v43, v44, v45, v46, v47, v48, v49, v50, v51])), (m1, .inl (mc1, 120, .inl f_129))] := by rw [hk9]; exact hD.sub [0, 1] (by decide) rfl
          have hK9 := hK
          rw [hQ]
          exact W.vret hx hb hr (fun t ht hW => ⟨⟨f_129, rfl, trivial,  by rw [ht]; exact hP9, va_K.moved hW.alike hK9, hD9⟩, hS.F ht⟩) hS.2.2 dX10_put_49
        · refine lv_goto (tgt := 43) hx hb dX10_put_17 kc_t_17_26 ?_
          refine lv_iinc (v := (-8)) hx hb dX10_put_43 hl (k := 0) rfl (by decide) kc_l_2_3 (kTo [(2, .int (-8)), (0, .ref jM), (1, .int p0)]) (fun ls hl => ?_)
          refine lv_goto (tgt := 3) hx hb dX10_put_46 kc_t_46_m43 ?_
          refine lv_iload_n hx hb dX10_put_3 rfl (lv_at hl 0 rfl) ?_
          refine lv_if_lt (tgt := 49) hx hb dX10_put_4 kc_t_4_45 (fun c_132 => ?_) (fun c_132 => absurd (by decide) c_132)
          have hk9 : kCnt p0 = 1 := by simp [kCnt, kC1, hy_4, hy_92, hy_102, hy_124, c_5, c_93, c_103, c_125]
          have hP9 : va_P (dC, dI) vwCl [(jM, .inr (10, [v0, .ref m1, v2, v3, v4, v5, .int (nI (k + kCnt p0)), v7, v8, v9, v10, v11, v12, v13, v14, v15, v16, v17, v18, v19, v20, v21, v22, v23, v24, v25, v26, v27, v28, v29, v30, v31, v32, v33, v34, v35, v36, v37, v38, v39, v40, v41, v42, v43, v44, v45, v46, v47, v48, v49, v50, v51])), (m1, .inl (mc1, 120, .inl f_97))] H := by rw [hk9]; exact hP.sub [0, 1] rfl
          have hD9 : va_D A [(jM, .inr (10, [v0, .ref m1, v2, v3, v4, v5, .int (nI (k + kCnt p0)), v7, v8, v9, v10, v11, v12, v13, v14, v15, v16, v17, v18, v19, v20, v21, v22, v23, v24, v25, v26, v27, v28, v29, v30, v31, v32, v33, v34, v35, v36, v37, v38, v39, v40, v41, v42, v43, v44, v45, v46, v47, v48, v49, v50, v51])), (m1, .inl (mc1, 120, .inl f_97))] := by rw [hk9]; exact hD.sub [0, 1] (by decide) rfl
          have hK9 := hK
          rw [hQ]
          exact W.vret hx hb hr (fun t ht hW => ⟨⟨f_97, rfl, trivial,  by rw [ht]; exact hP9, va_K.moved hW.alike hK9, hD9⟩, hS.F ht⟩) hS.2.2 dX10_put_49
    · refine lv_goto (tgt := 43) hx hb dX10_put_17 kc_t_17_26 ?_
      refine lv_iinc (v := 8) hx hb dX10_put_43 hl (k := 0) rfl (by decide) kc_l_2_3 (kTo [(2, .int 8), (0, .ref jM), (1, .int p0)]) (fun ls hl => ?_)
      refine lv_goto (tgt := 3) hx hb dX10_put_46 kc_t_46_m43 ?_
      refine lv_iload_n hx hb dX10_put_3 rfl (lv_at hl 0 rfl) ?_
      refine lv_if_lt (tgt := 49) hx hb dX10_put_4 kc_t_4_45 (fun c_133 => absurd c_133 (by decide)) (fun c_133 => ?_)
      refine lv_iload_n hx hb dX10_put_7 rfl (lv_at hl 2 rfl) ?_
      refine lv_iload_n hx hb dX10_put_8 rfl (lv_at hl 0 rfl) ?_
      refine lv_ishr hx hb dX10_put_9 ?_
      refine lv_topi (fun x_134 ex_134 => ?_)
      refine lv_sipush (v := 255) hx hb dX10_put_10 kc_s_255 ?_
      refine lv_iand hx hb dX10_put_13 ?_
      refine lv_topi (fun x_135 ex_135 => ?_)
      have hy_136 : kS p0 8 = x_135 := by rw [ex_135, ex_134]; rfl
      refine lv_if_ne (tgt := 20) hx hb dX10_put_14 kc_t_14_6 (fun c_137 => ?_) (fun c_137 => ?_)
      · refine lv_aload_n hx hb dX10_put_20 rfl (lv_at hl 1 rfl) ?_
        refine va_get (D := (dC, dI)) (ci := 10) (v := .ref m1) (C := RX10) (T := TX10) (N := 52) hx hb hts (fun _ h => List.mem_cons_of_mem _ (List.mem_append_right _ h)) hown hK hP 0 rfl rfl 1 kc_l_1_52 (hts (.fieldLink RX10 9 "NotEndedModel" "tape" "[B") (List.mem_cons_of_mem _ (List.mem_append_left _ (List.mem_of_getElem? (i := 0) rfl)))) (fun _ h9 => h9) rfl dX10_put_21 ?_
        refine lv_aload_n hx hb dX10_put_24 rfl (lv_at hl 1 rfl) ?_
        refine va_get (D := (dC, dI)) (ci := 10) (v := .int (nI (k))) (C := RX10) (T := TX10) (N := 52) hx hb hts (fun _ h => List.mem_cons_of_mem _ (List.mem_append_right _ h)) hown hK hP 0 rfl rfl 6 kc_l_6_52 (hts (.fieldLink RX10 131 "NotEndedModel" "length" "I") (List.mem_cons_of_mem _ (List.mem_append_left _ (List.mem_of_getElem? (i := 1) rfl)))) (fun _ h9 => h9) rfl dX10_put_25 ?_
        refine lv_iload_n hx hb dX10_put_28 rfl (lv_at hl 2 rfl) ?_
        refine lv_iload_n hx hb dX10_put_29 rfl (lv_at hl 0 rfl) ?_
        refine lv_ishr hx hb dX10_put_30 ?_
        refine lv_topi (fun x_138 ex_138 => ?_)
        obtain ⟨x_139, ex_139⟩ : ∃ z : Int32, z = (Int32.toInt8 x_138).toInt32 := ⟨_, rfl⟩
        refine lv_i2b (v := x_139) hx hb dX10_put_31 ex_139.symm ?_
        have hc_140 : kC1 p0 8 = 1 := by simp [kC1, hy_136, c_137]
        refine va_bast hx hb hK hP hD hS 1 0 rfl rfl (vp_in_nI (n := k) (N := 120) (by omega) (by decide)) dX10_put_32 (fun H locs hP hD hS => ?_)
        obtain ⟨f_141, ef_141⟩ : ∃ gg9 : Nat → Int32, gg9 = upd g (Int32.toNatClampNeg (nI (k))) (vp_nar .byte x_139) := ⟨_, rfl⟩
        have hPD : kPD dC dI A [(jM, .inr (10, [v0, .ref m1, v2, v3, v4, v5, .int (nI (k)), v7, v8, v9, v10, v11, v12, v13, v14, v15, v16, v17, v18, v19, v20, v21, v22, v23, v24, v25, v26, v27, v28, v29, v30, v31, v32, v33, v34, v35, v36, v37, v38, v39, v40, v41, v42, v43, v44, v45, v46, v47, v48, v49, v50, v51])), (m1, .inl (mc1, 120, .inl f_141))] H := by rw [ef_141]; exact ⟨hP, hD⟩
        obtain ⟨hP, hD⟩ := hPD
        refine lv_aload_n hx hb dX10_put_33 rfl (lv_at hl 1 rfl) ?_
        refine lv_dup hx hb dX10_put_34 rfl ?_
        refine va_get (D := (dC, dI)) (ci := 10) (v := .int (nI (k))) (C := RX10) (T := TX10) (N := 52) hx hb hts (fun _ h => List.mem_cons_of_mem _ (List.mem_append_right _ h)) hown hK hP 0 rfl rfl 6 kc_l_6_52 (hts (.fieldLink RX10 131 "NotEndedModel" "length" "I") (List.mem_cons_of_mem _ (List.mem_append_left _ (List.mem_of_getElem? (i := 1) rfl)))) (fun _ h9 => h9) rfl dX10_put_35 ?_
        refine lv_iconst (v := 1) hx hb dX10_put_38 kc_i_1 ?_
        refine lv_iadd hx hb dX10_put_39 ?_
        refine lv_topi (fun y_142 ey_142 => ?_)
        obtain rfl : y_142 = nI (k + 1) := ey_142.trans (nI_add (k) (1))
        refine va_put (D := (dC, dI)) (ci := 10) (v := .int (nI (k + 1))) (ty := tyX10 6) (C := RX10) (T := TX10) (N := 52) hx hb hts (fun _ h => List.mem_cons_of_mem _ (List.mem_append_right _ h)) tyX10 tyX10_ok nmX10 hown hK hP hD hS 0 rfl rfl 6 kc_l_6_52 (hts (.fieldLink RX10 131 "NotEndedModel" "length" "I") (List.mem_cons_of_mem _ (List.mem_append_left _ (List.mem_of_getElem? (i := 1) rfl)))) (fun _ h9 => h9) rfl (tyX10_ok 6 kc_l_6_52) rfl rfl (Nat.le_of_ble_eq_true rfl) dX10_put_40 (fun H locs hP hD hS => ?_)
        have hPD : kPD dC dI A [(jM, .inr (10, [v0, .ref m1, v2, v3, v4, v5, .int (nI (k + 1)), v7, v8, v9, v10, v11, v12, v13, v14, v15, v16, v17, v18, v19, v20, v21, v22, v23, v24, v25, v26, v27, v28, v29, v30, v31, v32, v33, v34, v35, v36, v37, v38, v39, v40, v41, v42, v43, v44, v45, v46, v47, v48, v49, v50, v51])), (m1, .inl (mc1, 120, .inl f_141))] H := ⟨hP, hD⟩
        obtain ⟨hP, hD⟩ := hPD
        refine lv_iinc (v := 0) hx hb dX10_put_43 hl (k := 0) rfl (by decide) kc_l_2_3 (kTo [(2, .int 0), (0, .ref jM), (1, .int p0)]) (fun ls hl => ?_)
        refine lv_goto (tgt := 3) hx hb dX10_put_46 kc_t_46_m43 ?_
        refine lv_iload_n hx hb dX10_put_3 rfl (lv_at hl 0 rfl) ?_
        refine lv_if_lt (tgt := 49) hx hb dX10_put_4 kc_t_4_45 (fun c_143 => absurd c_143 (by decide)) (fun c_143 => ?_)
        refine lv_iload_n hx hb dX10_put_7 rfl (lv_at hl 2 rfl) ?_
        refine lv_iload_n hx hb dX10_put_8 rfl (lv_at hl 0 rfl) ?_
        refine lv_ishr hx hb dX10_put_9 ?_
        refine lv_topi (fun x_144 ex_144 => ?_)
        refine lv_sipush (v := 255) hx hb dX10_put_10 kc_s_255 ?_
        refine lv_iand hx hb dX10_put_13 ?_
        refine lv_topi (fun x_145 ex_145 => ?_)
        have hy_146 : kS p0 0 = x_145 := by rw [ex_145, ex_144]; rfl
        refine lv_if_ne (tgt := 20) hx hb dX10_put_14 kc_t_14_6 (fun c_147 => ?_) (fun c_147 => ?_)
        · refine lv_aload_n hx hb dX10_put_20 rfl (lv_at hl 1 rfl) ?_
          refine va_get (D := (dC, dI)) (ci := 10) (v := .ref m1) (C := RX10) (T := TX10) (N := 52) hx hb hts (fun _ h => List.mem_cons_of_mem _ (List.mem_append_right _ h)) hown hK hP 0 rfl rfl 1 kc_l_1_52 (hts (.fieldLink RX10 9 "NotEndedModel" "tape" "[B") (List.mem_cons_of_mem _ (List.mem_append_left _ (List.mem_of_getElem? (i := 0) rfl)))) (fun _ h9 => h9) rfl dX10_put_21 ?_
          refine lv_aload_n hx hb dX10_put_24 rfl (lv_at hl 1 rfl) ?_
          refine va_get (D := (dC, dI)) (ci := 10) (v := .int (nI (k + 1))) (C := RX10) (T := TX10) (N := 52) hx hb hts (fun _ h => List.mem_cons_of_mem _ (List.mem_append_right _ h)) hown hK hP 0 rfl rfl 6 kc_l_6_52 (hts (.fieldLink RX10 131 "NotEndedModel" "length" "I") (List.mem_cons_of_mem _ (List.mem_append_left _ (List.mem_of_getElem? (i := 1) rfl)))) (fun _ h9 => h9) rfl dX10_put_25 ?_
          refine lv_iload_n hx hb dX10_put_28 rfl (lv_at hl 2 rfl) ?_
          refine lv_iload_n hx hb dX10_put_29 rfl (lv_at hl 0 rfl) ?_
          refine lv_ishr hx hb dX10_put_30 ?_
          refine lv_topi (fun x_148 ex_148 => ?_)
          obtain ⟨x_149, ex_149⟩ : ∃ z : Int32, z = (Int32.toInt8 x_148).toInt32 := ⟨_, rfl⟩
          refine lv_i2b (v := x_149) hx hb dX10_put_31 ex_149.symm ?_
          have hc_150 : kC1 p0 0 = 1 := by simp [kC1, hy_146, c_147]
          refine va_bast hx hb hK hP hD hS 1 0 rfl rfl (vp_in_nI (n := k + 1) (N := 120) (by omega) (by decide)) dX10_put_32 (fun H locs hP hD hS => ?_)
          obtain ⟨f_151, ef_151⟩ : ∃ gg9 : Nat → Int32, gg9 = upd f_141 (Int32.toNatClampNeg (nI (k + 1))) (vp_nar .byte x_149) := ⟨_, rfl⟩
          have hPD : kPD dC dI A [(jM, .inr (10, [v0, .ref m1, v2, v3, v4, v5, .int (nI (k + 1)), v7, v8, v9, v10, v11, v12, v13, v14, v15, v16, v17, v18, v19, v20, v21, v22, v23, v24, v25, v26, v27, v28, v29, v30, v31, v32, v33, v34, v35, v36, v37, v38, v39, v40, v41, v42, v43, v44, v45, v46, v47, v48, v49, v50, v51])), (m1, .inl (mc1, 120, .inl f_151))] H := by rw [ef_151]; exact ⟨hP, hD⟩
          obtain ⟨hP, hD⟩ := hPD
          refine lv_aload_n hx hb dX10_put_33 rfl (lv_at hl 1 rfl) ?_
          refine lv_dup hx hb dX10_put_34 rfl ?_
          refine va_get (D := (dC, dI)) (ci := 10) (v := .int (nI (k + 1))) (C := RX10) (T := TX10) (N := 52) hx hb hts (fun _ h => List.mem_cons_of_mem _ (List.mem_append_right _ h)) hown hK hP 0 rfl rfl 6 kc_l_6_52 (hts (.fieldLink RX10 131 "NotEndedModel" "length" "I") (List.mem_cons_of_mem _ (List.mem_append_left _ (List.mem_of_getElem? (i := 1) rfl)))) (fun _ h9 => h9) rfl dX10_put_35 ?_
          refine lv_iconst (v := 1) hx hb dX10_put_38 kc_i_1 ?_
          refine lv_iadd hx hb dX10_put_39 ?_
          refine lv_topi (fun y_152 ey_152 => ?_)
          obtain rfl : y_152 = nI (k + 1 + 1) := ey_152.trans (nI_add (k + 1) (1))
          refine va_put (D := (dC, dI)) (ci := 10) (v := .int (nI (k + 1 + 1))) (ty := tyX10 6) (C := RX10) (T := TX10) (N := 52) hx hb hts (fun _ h => List.mem_cons_of_mem _ (List.mem_append_right _ h)) tyX10 tyX10_ok nmX10 hown hK hP hD hS 0 rfl rfl 6 kc_l_6_52 (hts (.fieldLink RX10 131 "NotEndedModel" "length" "I") (List.mem_cons_of_mem _ (List.mem_append_left _ (List.mem_of_getElem? (i := 1) rfl)))) (fun _ h9 => h9) rfl (tyX10_ok 6 kc_l_6_52) rfl rfl (Nat.le_of_ble_eq_true rfl) dX10_put_40 (fun H locs hP hD hS => ?_)
          have hPD : kPD dC dI A [(jM, .inr (10, [v0, .ref m1, v2, v3, v4, v5, .int (nI (k + 1 + 1)), v7, v8, v9, v10, v11, v12, v13, v14, v15, v16, v17, v18, v19, v20, v21, v22, v23, v24, v25, v26, v27, v28, v29, v30, v31, v32, v33, v34, v35, v36, v37, v38, v39, v40, v41, v42, v43, v44, v45, v46, v47, v48, v49, v50, v51])), (m1, .inl (mc1, 120, .inl f_151))] H := ⟨hP, hD⟩
          obtain ⟨hP, hD⟩ := hPD
          refine lv_iinc (v := (-8)) hx hb dX10_put_43 hl (k := 0) rfl (by decide) kc_l_2_3 (kTo [(2, .int (-8)), (0, .ref jM), (1, .int p0)]) (fun ls hl => ?_)
          refine lv_goto (tgt := 3) hx hb dX10_put_46 kc_t_46_m43 ?_
          refine lv_iload_n hx hb dX10_put_3 rfl (lv_at hl 0 rfl) ?_
          refine lv_if_lt (tgt := 49) hx hb dX10_put_4 kc_t_4_45 (fun c_153 => ?_) (fun c_153 => absurd (by decide) c_153)
          have hk9 : kCnt p0 = 2 := by simp [kCnt, kC1, hy_4, hy_92, hy_136, hy_146, c_5, c_93, c_137, c_147]
          have hP9 : va_P (dC, dI) vwCl [(jM, .inr (10, [v0, .ref m1, v2, v3, v4, v5, .int (nI (k + kCnt p0)), v7, v8, v9, v10, v11, v12, v13, v14, v15, v16, v17, v18, v19, v20, v21, v22, v23, v24, v25, v26, v27, v28, v29, v30, v31, v32, v33, v34, v35, v36, v37, v38, v39, v40, v41, v42, v43, v44, v45, v46, v47, v48, v49, v50, v51])), (m1, .inl (mc1, 120, .inl f_151))] H := by rw [hk9]; exact hP.sub [0, 1] rfl
          have hD9 : va_D A [(jM, .inr (10, [v0, .ref m1, v2, v3, v4, v5, .int (nI (k + kCnt p0)), v7, v8, v9, v10, v11, v12, v13, v14, v15, v16, v17, v18, v19, v20, v21, v22, v23, v24, v25, v26, v27, v28, v29, v30, v31, v32, v33, v34, v35, v36, v37, v38, v39, v40, v41, v42, v43, v44, v45, v46, v47, v48, v49, v50, v51])), (m1, .inl (mc1, 120, .inl f_151))] := by rw [hk9]; exact hD.sub [0, 1] (by decide) rfl
          have hK9 := hK
          rw [hQ]
          exact W.vret hx hb hr (fun t ht hW => ⟨⟨f_151, rfl, trivial,  by rw [ht]; exact hP9, va_K.moved hW.alike hK9, hD9⟩, hS.F ht⟩) hS.2.2 dX10_put_49
        · refine lv_goto (tgt := 43) hx hb dX10_put_17 kc_t_17_26 ?_
          refine lv_iinc (v := (-8)) hx hb dX10_put_43 hl (k := 0) rfl (by decide) kc_l_2_3 (kTo [(2, .int (-8)), (0, .ref jM), (1, .int p0)]) (fun ls hl => ?_)
          refine lv_goto (tgt := 3) hx hb dX10_put_46 kc_t_46_m43 ?_
          refine lv_iload_n hx hb dX10_put_3 rfl (lv_at hl 0 rfl) ?_
          refine lv_if_lt (tgt := 49) hx hb dX10_put_4 kc_t_4_45 (fun c_154 => ?_) (fun c_154 => absurd (by decide) c_154)
          have hk9 : kCnt p0 = 1 := by simp [kCnt, kC1, hy_4, hy_92, hy_136, hy_146, c_5, c_93, c_137, c_147]
          have hP9 : va_P (dC, dI) vwCl [(jM, .inr (10, [v0, .ref m1, v2, v3, v4, v5, .int (nI (k + kCnt p0)), v7, v8, v9, v10, v11, v12, v13, v14, v15, v16, v17, v18, v19, v20, v21, v22, v23, v24, v25, v26, v27, v28, v29, v30, v31, v32, v33, v34, v35, v36, v37, v38, v39, v40, v41, v42, v43, v44, v45, v46, v47, v48, v49, v50, v51])), (m1, .inl (mc1, 120, .inl f_141))] H := by rw [hk9]; exact hP.sub [0, 1] rfl
          have hD9 : va_D A [(jM, .inr (10, [v0, .ref m1, v2, v3, v4, v5, .int (nI (k + kCnt p0)), v7, v8, v9, v10, v11, v12, v13, v14, v15, v16, v17, v18, v19, v20, v21, v22, v23, v24, v25, v26, v27, v28, v29, v30, v31, v32, v33, v34, v35, v36, v37, v38, v39, v40, v41, v42, v43, v44, v45, v46, v47, v48, v49, v50, v51])), (m1, .inl (mc1, 120, .inl f_141))] := by rw [hk9]; exact hD.sub [0, 1] (by decide) rfl
          have hK9 := hK
          rw [hQ]
          exact W.vret hx hb hr (fun t ht hW => ⟨⟨f_141, rfl, trivial,  by rw [ht]; exact hP9, va_K.moved hW.alike hK9, hD9⟩, hS.F ht⟩) hS.2.2 dX10_put_49
      · refine lv_goto (tgt := 43) hx hb dX10_put_17 kc_t_17_26 ?_
        refine lv_iinc (v := 0) hx hb dX10_put_43 hl (k := 0) rfl (by decide) kc_l_2_3 (kTo [(2, .int 0), (0, .ref jM), (1, .int p0)]) (fun ls hl => ?_)
        refine lv_goto (tgt := 3) hx hb dX10_put_46 kc_t_46_m43 ?_
        refine lv_iload_n hx hb dX10_put_3 rfl (lv_at hl 0 rfl) ?_
        refine lv_if_lt (tgt := 49) hx hb dX10_put_4 kc_t_4_45 (fun c_155 => absurd c_155 (by decide)) (fun c_155 => ?_)
        refine lv_iload_n hx hb dX10_put_7 rfl (lv_at hl 2 rfl) ?_
        refine lv_iload_n hx hb dX10_put_8 rfl (lv_at hl 0 rfl) ?_
        refine lv_ishr hx hb dX10_put_9 ?_
        refine lv_topi (fun x_156 ex_156 => ?_)
        refine lv_sipush (v := 255) hx hb dX10_put_10 kc_s_255 ?_
        refine lv_iand hx hb dX10_put_13 ?_
        refine lv_topi (fun x_157 ex_157 => ?_)
        have hy_158 : kS p0 0 = x_157 := by rw [ex_157, ex_156]; rfl
        refine lv_if_ne (tgt := 20) hx hb dX10_put_14 kc_t_14_6 (fun c_159 => ?_) (fun c_159 => ?_)
        · refine lv_aload_n hx hb dX10_put_20 rfl (lv_at hl 1 rfl) ?_
          refine va_get (D := (dC, dI)) (ci := 10) (v := .ref m1) (C := RX10) (T := TX10) (N := 52) hx hb hts (fun _ h => List.mem_cons_of_mem _ (List.mem_append_right _ h)) hown hK hP 0 rfl rfl 1 kc_l_1_52 (hts (.fieldLink RX10 9 "NotEndedModel" "tape" "[B") (List.mem_cons_of_mem _ (List.mem_append_left _ (List.mem_of_getElem? (i := 0) rfl)))) (fun _ h9 => h9) rfl dX10_put_21 ?_
          refine lv_aload_n hx hb dX10_put_24 rfl (lv_at hl 1 rfl) ?_
          refine va_get (D := (dC, dI)) (ci := 10) (v := .int (nI (k))) (C := RX10) (T := TX10) (N := 52) hx hb hts (fun _ h => List.mem_cons_of_mem _ (List.mem_append_right _ h)) hown hK hP 0 rfl rfl 6 kc_l_6_52 (hts (.fieldLink RX10 131 "NotEndedModel" "length" "I") (List.mem_cons_of_mem _ (List.mem_append_left _ (List.mem_of_getElem? (i := 1) rfl)))) (fun _ h9 => h9) rfl dX10_put_25 ?_
          refine lv_iload_n hx hb dX10_put_28 rfl (lv_at hl 2 rfl) ?_
          refine lv_iload_n hx hb dX10_put_29 rfl (lv_at hl 0 rfl) ?_
          refine lv_ishr hx hb dX10_put_30 ?_
          refine lv_topi (fun x_160 ex_160 => ?_)
          obtain ⟨x_161, ex_161⟩ : ∃ z : Int32, z = (Int32.toInt8 x_160).toInt32 := ⟨_, rfl⟩
          refine lv_i2b (v := x_161) hx hb dX10_put_31 ex_161.symm ?_
          have hc_162 : kC1 p0 0 = 1 := by simp [kC1, hy_158, c_159]
          refine va_bast hx hb hK hP hD hS 1 0 rfl rfl (vp_in_nI (n := k) (N := 120) (by omega) (by decide)) dX10_put_32 (fun H locs hP hD hS => ?_)
          obtain ⟨f_163, ef_163⟩ : ∃ gg9 : Nat → Int32, gg9 = upd g (Int32.toNatClampNeg (nI (k))) (vp_nar .byte x_161) := ⟨_, rfl⟩
          have hPD : kPD dC dI A [(jM, .inr (10, [v0, .ref m1, v2, v3, v4, v5, .int (nI (k)), v7, v8, v9, v10, v11, v12, v13, v14, v15, v16, v17, v18, v19, v20, v21, v22, v23, v24, v25, v26, v27, v28, v29, v30, v31, v32, v33, v34, v35, v36, v37, v38, v39, v40, v41, v42, v43, v44, v45, v46, v47, v48, v49, v50, v51])), (m1, .inl (mc1, 120, .inl f_163))] H := by rw [ef_163]; exact ⟨hP, hD⟩
          obtain ⟨hP, hD⟩ := hPD
          refine lv_aload_n hx hb dX10_put_33 rfl (lv_at hl 1 rfl) ?_
          refine lv_dup hx hb dX10_put_34 rfl ?_
          refine va_get (D := (dC, dI)) (ci := 10) (v := .int (nI (k))) (C := RX10) (T := TX10) (N := 52) hx hb hts (fun _ h => List.mem_cons_of_mem _ (List.mem_append_right _ h)) hown hK hP 0 rfl rfl 6 kc_l_6_52 (hts (.fieldLink RX10 131 "NotEndedModel" "length" "I") (List.mem_cons_of_mem _ (List.mem_append_left _ (List.mem_of_getElem? (i := 1) rfl)))) (fun _ h9 => h9) rfl dX10_put_35 ?_
          refine lv_iconst (v := 1) hx hb dX10_put_38 kc_i_1 ?_
          refine lv_iadd hx hb dX10_put_39 ?_
          refine lv_topi (fun y_164 ey_164 => ?_)
          obtain rfl : y_164 = nI (k + 1) := ey_164.trans (nI_add (k) (1))
          refine va_put (D := (dC, dI)) (ci := 10) (v := .int (nI (k + 1))) (ty := tyX10 6) (C := RX10) (T := TX10) (N := 52) hx hb hts (fun _ h => List.mem_cons_of_mem _ (List.mem_append_right _ h)) tyX10 tyX10_ok nmX10 hown hK hP hD hS 0 rfl rfl 6 kc_l_6_52 (hts (.fieldLink RX10 131 "NotEndedModel" "length" "I") (List.mem_cons_of_mem _ (List.mem_append_left _ (List.mem_of_getElem? (i := 1) rfl)))) (fun _ h9 => h9) rfl (tyX10_ok 6 kc_l_6_52) rfl rfl (Nat.le_of_ble_eq_true rfl) dX10_put_40 (fun H locs hP hD hS => ?_)
          have hPD : kPD dC dI A [(jM, .inr (10, [v0, .ref m1, v2, v3, v4, v5, .int (nI (k + 1)), v7, v8, v9, v10, v11, v12, v13, v14, v15, v16, v17, v18, v19, v20, v21, v22, v23, v24, v25, v26, v27, v28, v29, v30, v31, v32, v33, v34, v35, v36, v37, v38, v39, v40, v41, v42, v43, v44, v45, v46, v47, v48, v49, v50, v51])), (m1, .inl (mc1, 120, .inl f_163))] H := ⟨hP, hD⟩
          obtain ⟨hP, hD⟩ := hPD
          refine lv_iinc (v := (-8)) hx hb dX10_put_43 hl (k := 0) rfl (by decide) kc_l_2_3 (kTo [(2, .int (-8)), (0, .ref jM), (1, .int p0)]) (fun ls hl => ?_)
          refine lv_goto (tgt := 3) hx hb dX10_put_46 kc_t_46_m43 ?_
          refine lv_iload_n hx hb dX10_put_3 rfl (lv_at hl 0 rfl) ?_
          refine lv_if_lt (tgt := 49) hx hb dX10_put_4 kc_t_4_45 (fun c_165 => ?_) (fun c_165 => absurd (by decide) c_165)
          have hk9 : kCnt p0 = 1 := by simp [kCnt, kC1, hy_4, hy_92, hy_136, hy_158, c_5, c_93, c_137, c_159]
          have hP9 : va_P (dC, dI) vwCl [(jM, .inr (10, [v0, .ref m1, v2, v3, v4, v5, .int (nI (k + kCnt p0)), v7, v8, v9, v10, v11, v12, v13, v14, v15, v16, v17, v18, v19, v20, v21, v22, v23, v24, v25, v26, v27, v28, v29, v30, v31, v32, v33, v34, v35, v36, v37, v38, v39, v40, v41, v42, v43, v44, v45, v46, v47, v48, v49, v50, v51])), (m1, .inl (mc1, 120, .inl f_163))] H := by rw [hk9]; exact hP.sub [0, 1] rfl
          have hD9 : va_D A [(jM, .inr (10, [v0, .ref m1, v2, v3, v4, v5, .int (nI (k + kCnt p0)), v7, v8, v9, v10, v11, v12, v13, v14, v15, v16, v17, v18, v19, v20, v21, v22, v23, v24, v25, v26, v27, v28, v29, v30, v31, v32, v33, v34, v35, v36, v37, v38, v39, v40, v41, v42, v43, v44, v45, v46, v47, v48, v49, v50, v51])), (m1, .inl (mc1, 120, .inl f_163))] := by rw [hk9]; exact hD.sub [0, 1] (by decide) rfl
          have hK9 := hK
          rw [hQ]
          exact W.vret hx hb hr (fun t ht hW => ⟨⟨f_163, rfl, trivial,  by rw [ht]; exact hP9, va_K.moved hW.alike hK9, hD9⟩, hS.F ht⟩) hS.2.2 dX10_put_49
        · refine lv_goto (tgt := 43) hx hb dX10_put_17 kc_t_17_26 ?_
          refine lv_iinc (v := (-8)) hx hb dX10_put_43 hl (k := 0) rfl (by decide) kc_l_2_3 (kTo [(2, .int (-8)), (0, .ref jM), (1, .int p0)]) (fun ls hl => ?_)
          refine lv_goto (tgt := 3) hx hb dX10_put_46 kc_t_46_m43 ?_
          refine lv_iload_n hx hb dX10_put_3 rfl (lv_at hl 0 rfl) ?_
          refine lv_if_lt (tgt := 49) hx hb dX10_put_4 kc_t_4_45 (fun c_166 => ?_) (fun c_166 => absurd (by decide) c_166)
          have hk9 : kCnt p0 = 0 := by simp [kCnt, kC1, hy_4, hy_92, hy_136, hy_158, c_5, c_93, c_137, c_159]
          have hP9 : va_P (dC, dI) vwCl [(jM, .inr (10, [v0, .ref m1, v2, v3, v4, v5, .int (nI (k + kCnt p0)), v7, v8, v9, v10, v11, v12, v13, v14, v15, v16, v17, v18, v19, v20, v21, v22, v23, v24, v25, v26, v27, v28, v29, v30, v31, v32, v33, v34, v35, v36, v37, v38, v39, v40, v41, v42, v43, v44, v45, v46, v47, v48, v49, v50, v51])), (m1, .inl (mc1, 120, .inl g))] s.heap := by rw [hk9]; exact hP.sub [0, 1] rfl
          have hD9 : va_D A [(jM, .inr (10, [v0, .ref m1, v2, v3, v4, v5, .int (nI (k + kCnt p0)), v7, v8, v9, v10, v11, v12, v13, v14, v15, v16, v17, v18, v19, v20, v21, v22, v23, v24, v25, v26, v27, v28, v29, v30, v31, v32, v33, v34, v35, v36, v37, v38, v39, v40, v41, v42, v43, v44, v45, v46, v47, v48, v49, v50, v51])), (m1, .inl (mc1, 120, .inl g))] := by rw [hk9]; exact hD.sub [0, 1] (by decide) rfl
          have hK9 := hK
          rw [hQ]
          exact W.vret hx hb hr (fun t ht hW => ⟨⟨g, rfl, trivial,  by rw [ht]; exact hP9, va_K.moved hW.alike hK9, hD9⟩, hS.F ht⟩) hS.2.2 dX10_put_49

theorem dX10_feed_0 : decode cX10_feed 0 = .ok (.aload_n 0, 1) := by decide +kernel
theorem dX10_feed_1 : decode cX10_feed 1 = .ok (.iconst 0, 1) := by decide +kernel
theorem dX10_feed_2 : decode cX10_feed 2 = .ok (.putfield 117, 3) := by decide +kernel
theorem dX10_feed_5 : decode cX10_feed 5 = .ok (.aload_n 0, 1) := by decide +kernel
theorem dX10_feed_6 : decode cX10_feed 6 = .ok (.getfield 131, 3) := by decide +kernel
theorem dX10_feed_9 : decode cX10_feed 9 = .ok (.iload_n 1, 1) := by decide +kernel
theorem dX10_feed_10 : decode cX10_feed 10 = .ok (.invokestatic 133, 3) := by decide +kernel
theorem dX10_feed_13 : decode cX10_feed 13 = .ok (.iadd, 1) := by decide +kernel
theorem dX10_feed_14 : decode cX10_feed 14 = .ok (.iload_n 2, 1) := by decide +kernel
theorem dX10_feed_15 : decode cX10_feed 15 = .ok (.invokestatic 133, 3) := by decide +kernel
theorem dX10_feed_18 : decode cX10_feed 18 = .ok (.iadd, 1) := by decide +kernel
theorem dX10_feed_19 : decode cX10_feed 19 = .ok (.iload_n 3, 1) := by decide +kernel
theorem dX10_feed_20 : decode cX10_feed 20 = .ok (.invokestatic 133, 3) := by decide +kernel
theorem dX10_feed_23 : decode cX10_feed 23 = .ok (.iadd, 1) := by decide +kernel
theorem dX10_feed_24 : decode cX10_feed 24 = .ok (.iload 4, 2) := by decide +kernel
theorem dX10_feed_26 : decode cX10_feed 26 = .ok (.invokestatic 133, 3) := by decide +kernel
theorem dX10_feed_29 : decode cX10_feed 29 = .ok (.iadd, 1) := by decide +kernel
theorem dX10_feed_30 : decode cX10_feed 30 = .ok (.iload 5, 2) := by decide +kernel
theorem dX10_feed_32 : decode cX10_feed 32 = .ok (.invokestatic 133, 3) := by decide +kernel
theorem dX10_feed_35 : decode cX10_feed 35 = .ok (.iadd, 1) := by decide +kernel
theorem dX10_feed_36 : decode cX10_feed 36 = .ok (.bipush 120, 2) := by decide +kernel
theorem dX10_feed_38 : decode cX10_feed 38 = .ok (.if_icmp .le 5, 3) := by decide +kernel
theorem dX10_feed_43 : decode cX10_feed 43 = .ok (.aload_n 0, 1) := by decide +kernel
theorem dX10_feed_44 : decode cX10_feed 44 = .ok (.iload_n 1, 1) := by decide +kernel
theorem dX10_feed_45 : decode cX10_feed 45 = .ok (.invokevirtual 137, 3) := by decide +kernel
theorem dX10_feed_48 : decode cX10_feed 48 = .ok (.aload_n 0, 1) := by decide +kernel
theorem dX10_feed_49 : decode cX10_feed 49 = .ok (.iload_n 2, 1) := by decide +kernel
theorem dX10_feed_50 : decode cX10_feed 50 = .ok (.invokevirtual 137, 3) := by decide +kernel
theorem dX10_feed_53 : decode cX10_feed 53 = .ok (.aload_n 0, 1) := by decide +kernel
theorem dX10_feed_54 : decode cX10_feed 54 = .ok (.iload_n 3, 1) := by decide +kernel
theorem dX10_feed_55 : decode cX10_feed 55 = .ok (.invokevirtual 137, 3) := by decide +kernel
theorem dX10_feed_58 : decode cX10_feed 58 = .ok (.aload_n 0, 1) := by decide +kernel
theorem dX10_feed_59 : decode cX10_feed 59 = .ok (.iload 4, 2) := by decide +kernel
theorem dX10_feed_61 : decode cX10_feed 61 = .ok (.invokevirtual 137, 3) := by decide +kernel
theorem dX10_feed_64 : decode cX10_feed 64 = .ok (.aload_n 0, 1) := by decide +kernel
theorem dX10_feed_65 : decode cX10_feed 65 = .ok (.iload 5, 2) := by decide +kernel
theorem dX10_feed_67 : decode cX10_feed 67 = .ok (.invokevirtual 137, 3) := by decide +kernel
theorem dX10_feed_70 : decode cX10_feed 70 = .ok (.aload_n 0, 1) := by decide +kernel
theorem dX10_feed_71 : decode cX10_feed 71 = .ok (.getfield 131, 3) := by decide +kernel
theorem dX10_feed_74 : decode cX10_feed 74 = .ok (.ireturn, 1) := by decide +kernel
theorem dX10_feed_41 : decode cX10_feed 41 = .ok (.iconst (-1), 1) := by decide +kernel
theorem dX10_feed_42 : decode cX10_feed 42 = .ok (.ireturn, 1) := by decide +kernel
def w_s_feed10 : List Cond := .code yX10_feed cX10_feed 6 (some .int) :: ([.fieldLink RX10 117 "NotEndedModel" "thrown" "I", .fieldLink RX10 131 "NotEndedModel" "length" "I", .initialized RX10, .static yX10_bytesIn, .methodLink RX10 133 yX10_bytesIn, .selects RX10 yX10_put yX10_put, .instanceMethod yX10_put, .methodLink RX10 137 yX10_put] ++ (wsX100 ++ (w_s_bytes10 ++ (w_s_put10))))
theorem gw_s_feed10 : (w_s_feed10).all goodWord = true := kGc rfl (kGa (by decide +kernel) (kGa gw_wsX100 (kGa gw_s_bytes10 gw_s_put10)))
theorem hd_X10_feed : yX10_feed.cls ≠ "java/lang/invoke/MethodHandle" ∧ yX10_feed.cls ≠ "java/lang/invoke/VarHandle" ∧ (parseMethodDescriptor yX10_feed.desc).map (fun d => d.parameters.length) = some 5 := by decide +kernel
set_option maxHeartbeats 4000000 in
set_option maxRecDepth 100000 in
theorem s_feed10 (l : Launch) (dC : Nat → ClassId) (dI : Nat → Nat → Nat) (jM : Nat) (th : Int32) (thr : Int32) (xx : Int64) (v5 : Value) (v9 : Value) (v10 : Value) (v11 : Value) (v12 : Value) (v13 : Value) (v14 : Value) (v15 : Value) (v16 : Value) (v17 : Value) (v18 : Value) (m1 : Nat) (m2 : Nat) (m3 : Nat) (m4 : Nat) (m19 : Nat) (m20 : Nat) (m21 : Nat) (m22 : Nat) (m23 : Nat) (m24 : Nat) (m25 : Nat) (m28 : Nat) (m29 : Nat) (m30 : Nat) (m31 : Nat) (m32 : Nat) (m33 : Nat) (m34 : Nat) (m35 : Nat) (m36 : Nat) (m40 : Nat) (m41 : Nat) (m42 : Nat) (m43 : Nat) (m44 : Nat) (m46 : Nat) (m47 : Nat) (m48 : Nat) (m49 : Nat) (m50 : Nat) (mc1 : ClassId) (mc2 : ClassId) (mc3 : ClassId) (mc4 : ClassId) (mc19 : ClassId) (mc20 : ClassId) (mc21 : ClassId) (mc22 : ClassId) (mc23 : ClassId) (mc24 : ClassId) (mc25 : ClassId) (mc28 : ClassId) (mc29 : ClassId) (mc30 : ClassId) (mc31 : ClassId) (mc32 : ClassId) (mc33 : ClassId) (mc34 : ClassId) (mc35 : ClassId) (mc36 : ClassId) (mc40 : ClassId) (mc41 : ClassId) (mc42 : ClassId) (mc43 : ClassId) (mc44 : ClassId) (mc46 : ClassId) (mc47 : ClassId) (mc48 : ClassId) (mc49 : ClassId) (mc50 : ClassId) (mf1 : Nat → Int32) (mf2 : Nat → Int32) (mf3 : Nat → Int32) (mf4 : Nat → Int32) (mf19 : Nat → Int32) (mf20 : Nat → Int32) (mf21 : Nat → Int32) (mf22 : Nat → Int32) (mf23 : Nat → Int32) (mf24 : Nat → Int32) (mf25 : Nat → Int32) (mf28 : Nat → Int32) (mf29 : Nat → Int32) (mf30 : Nat → Int32) (mf31 : Nat → Int32) (mf32 : Nat → Int32) (mf33 : Nat → Int32) (mf34 : Nat → Int32) (mf35 : Nat → Int32) (mf36 : Nat → Int32) (mf40 : Nat → Int32) (mf41 : Nat → Int32) (mf42 : Nat → Int32) (mf43 : Nat → Int32) (mf44 : Nat → Int32) (mf46 : Nat → Int64) (mf47 : Nat → Int32) (mf48 : Nat → Int32) (mf49 : Nat → Int32) (mf50 : Nat → Int32) (ml : Nat) (mkl : Nat) (mku : Nat) (mps : Nat) (mkw : Nat) (ho : Nat) (mkn : Nat) (mka : Nat) (hml : ml ≤ 120) (hmkl : mkl ≤ 6) (hmku : mku ≤ 8) (hmps : mps ≤ 10) (hmkw : mkw ≤ 4) (hho : ho ≤ 48) (hmkn : mkn ≤ 20) (hmka : mka ≤ 6) (p0 : Int32) (p1 : Int32) (p2 : Int32) (p3 : Int32) (p4 : Int32) (sz : Nat) : Met l yX10_feed w_s_feed10 ({ frames := 3, cells := 0, slots := 0, locals := 180 }) (kW dC dI [.ref jM, .int p0, .int p1, .int p2, .int p3, .int p4] [(jM, .inr (10, [.int th, .ref m1, .ref m2, .ref m3, .ref m4, v5, .int (nI (ml)), .int (nI (mkl)), .int (nI (mku)), v9, v10, v11, v12, v13, v14, v15, v16, v17, v18, .ref m19, .ref m20, .ref m21, .ref m22, .ref m23, .ref m24, .ref m25, .int (nI (mps)), .int (nI (mkw)), .ref m28, .ref m29, .ref m30, .ref m31, .ref m32, .ref m33, .ref m34, .ref m35, .ref m36, .int thr, .int (nI (ho)), .long xx, .ref m40, .ref m41, .ref m42, .ref m43, .ref m44, .int (nI (mkn)), .ref m46, .ref m47, .ref m48, .ref m49, .ref m50, .int (nI (mka))])), (m1, .inl (mc1, 120, .inl mf1)), (m2, .inl (mc2, 1680, .inl mf2)), (m3, .inl (mc3, 14, .inl mf3)), (m4, .inl (mc4, 128, .inl mf4)), (m19, .inl (mc19, 10, .inl mf19)), (m20, .inl (mc20, 10, .inl mf20)), (m21, .inl (mc21, 10, .inl mf21)), (m22, .inl (mc22, 10, .inl mf22)), (m23, .inl (mc23, 10, .inl mf23)), (m24, .inl (mc24, 4, .inl mf24)), (m25, .inl (mc25, 10, .inl mf25)), (m28, .inl (mc28, 10, .inl mf28)), (m29, .inl (mc29, 10, .inl mf29)), (m30, .inl (mc30, 10, .inl mf30)), (m31, .inl (mc31, 10, .inl mf31)), (m32, .inl (mc32, 10, .inl mf32)), (m33, .inl (mc33, 10, .inl mf33)), (m34, .inl (mc34, 10, .inl mf34)), (m35, .inl (mc35, 10, .inl mf35)), (m36, .inl (mc36, 10, .inl mf36)), (m40, .inl (mc40, 20, .inl mf40)), (m41, .inl (mc41, 20, .inl mf41)), (m42, .inl (mc42, 20, .inl mf42)), (m43, .inl (mc43, 20, .inl mf43)), (m44, .inl (mc44, 20, .inl mf44)), (m46, .inl (mc46, 14, .inr (.inl mf46))), (m47, .inl (mc47, 6, .inl mf47)), (m48, .inl (mc48, 6, .inl mf48)), (m49, .inl (mc49, 6, .inl mf49)), (m50, .inl (mc50, 6, .inl mf50))] [(mc1, .byte), (mc2, .byte), (mc3, .int), (mc4, .int), (mc19, .int), (mc20, .int), (mc21, .int), (mc22, .int), (mc23, .int), (mc24, .int), (mc25, .boolean), (mc28, .int), (mc29, .int), (mc30, .int), (mc31, .int), (mc32, .int), (mc33, .int), (mc34, .int), (mc35, .int), (mc36, .int), (mc40, .int), (mc41, .int), (mc42, .int), (mc43, .int), (mc44, .int), (mc46, .long), (mc47, .int), (mc48, .int), (mc49, .int), (mc50, .int)] kT sz) (va_Qi (fun (r : Int32) (u : (Nat → Int32) × Int32 × Nat) => match u with | (S1, Th0, ml1) => ml1 ≤ 120) (fun (u : (Nat → Int32) × Int32 × Nat) => match u with | (S1, Th0, ml1) => fun t : State => kB dC dI [(jM, .inr (10, [.int Th0, .ref m1, .ref m2, .ref m3, .ref m4, v5, .int (nI (ml1)), .int (nI (mkl)), .int (nI (mku)), v9, v10, v11, v12, v13, v14, v15, v16, v17, v18, .ref m19, .ref m20, .ref m21, .ref m22, .ref m23, .ref m24, .ref m25, .int (nI (mps)), .int (nI (mkw)), .ref m28, .ref m29, .ref m30, .ref m31, .ref m32, .ref m33, .ref m34, .ref m35, .ref m36, .int thr, .int (nI (ho)), .long xx, .ref m40, .ref m41, .ref m42, .ref m43, .ref m44, .int (nI (mkn)), .ref m46, .ref m47, .ref m48, .ref m49, .ref m50, .int (nI (mka))])), (m1, .inl (mc1, 120, .inl S1)), (m2, .inl (mc2, 1680, .inl mf2)), (m3, .inl (mc3, 14, .inl mf3)), (m4, .inl (mc4, 128, .inl mf4)), (m19, .inl (mc19, 10, .inl mf19)), (m20, .inl (mc20, 10, .inl mf20)), (m21, .inl (mc21, 10, .inl mf21)), (m22, .inl (mc22, 10, .inl mf22)), (m23, .inl (mc23, 10, .inl mf23)), (m24, .inl (mc24, 4, .inl mf24)), (m25, .inl (mc25, 10, .inl mf25)), (m28, .inl (mc28, 10, .inl mf28)), (m29, .inl (mc29, 10, .inl mf29)), (m30, .inl (mc30, 10, .inl mf30)), (m31, .inl (mc31, 10, .inl mf31)), (m32, .inl (mc32, 10, .inl mf32)), (m33, .inl (mc33, 10, .inl mf33)), (m34, .inl (mc34, 10, .inl mf34)), (m35, .inl (mc35, 10, .inl mf35)), (m36, .inl (mc36, 10, .inl mf36)), (m40, .inl (mc40, 20, .inl mf40)), (m41, .inl (mc41, 20, .inl mf41)), (m42, .inl (mc42, 20, .inl mf42)), (m43, .inl (mc43, 20, .inl mf43)), (m44, .inl (mc44, 20, .inl mf44)), (m46, .inl (mc46, 14, .inr (.inl mf46))), (m47, .inl (mc47, 6, .inl mf47)), (m48, .inl (mc48, 6, .inl mf48)), (m49, .inl (mc49, 6, .inl mf49)), (m50, .inl (mc50, 6, .inl mf50))] [(mc1, .byte), (mc2, .byte), (mc3, .int), (mc4, .int), (mc19, .int), (mc20, .int), (mc21, .int), (mc22, .int), (mc23, .int), (mc24, .int), (mc25, .boolean), (mc28, .int), (mc29, .int), (mc30, .int), (mc31, .int), (mc32, .int), (mc33, .int), (mc34, .int), (mc35, .int), (mc36, .int), (mc40, .int), (mc41, .int), (mc42, .int), (mc43, .int), (mc44, .int), (mc46, .long), (mc47, .int), (mc48, .int), (mc49, .int), (mc50, .int)] (va_A [(jM, .inr (10, [.int th, .ref m1, .ref m2, .ref m3, .ref m4, v5, .int (nI (ml)), .int (nI (mkl)), .int (nI (mku)), v9, v10, v11, v12, v13, v14, v15, v16, v17, v18, .ref m19, .ref m20, .ref m21, .ref m22, .ref m23, .ref m24, .ref m25, .int (nI (mps)), .int (nI (mkw)), .ref m28, .ref m29, .ref m30, .ref m31, .ref m32, .ref m33, .ref m34, .ref m35, .ref m36, .int thr, .int (nI (ho)), .long xx, .ref m40, .ref m41, .ref m42, .ref m43, .ref m44, .int (nI (mkn)), .ref m46, .ref m47, .ref m48, .ref m49, .ref m50, .int (nI (mka))])), (m1, .inl (mc1, 120, .inl mf1)), (m2, .inl (mc2, 1680, .inl mf2)), (m3, .inl (mc3, 14, .inl mf3)), (m4, .inl (mc4, 128, .inl mf4)), (m19, .inl (mc19, 10, .inl mf19)), (m20, .inl (mc20, 10, .inl mf20)), (m21, .inl (mc21, 10, .inl mf21)), (m22, .inl (mc22, 10, .inl mf22)), (m23, .inl (mc23, 10, .inl mf23)), (m24, .inl (mc24, 4, .inl mf24)), (m25, .inl (mc25, 10, .inl mf25)), (m28, .inl (mc28, 10, .inl mf28)), (m29, .inl (mc29, 10, .inl mf29)), (m30, .inl (mc30, 10, .inl mf30)), (m31, .inl (mc31, 10, .inl mf31)), (m32, .inl (mc32, 10, .inl mf32)), (m33, .inl (mc33, 10, .inl mf33)), (m34, .inl (mc34, 10, .inl mf34)), (m35, .inl (mc35, 10, .inl mf35)), (m36, .inl (mc36, 10, .inl mf36)), (m40, .inl (mc40, 20, .inl mf40)), (m41, .inl (mc41, 20, .inl mf41)), (m42, .inl (mc42, 20, .inl mf42)), (m43, .inl (mc43, 20, .inl mf43)), (m44, .inl (mc44, 20, .inl mf44)), (m46, .inl (mc46, 14, .inr (.inl mf46))), (m47, .inl (mc47, 6, .inl mf47)), (m48, .inl (mc48, 6, .inl mf48)), (m49, .inl (mc49, 6, .inl mf49)), (m50, .inl (mc50, 6, .inl mf50))] sz) t) (va_A [(jM, .inr (10, [.int th, .ref m1, .ref m2, .ref m3, .ref m4, v5, .int (nI (ml)), .int (nI (mkl)), .int (nI (mku)), v9, v10, v11, v12, v13, v14, v15, v16, v17, v18, .ref m19, .ref m20, .ref m21, .ref m22, .ref m23, .ref m24, .ref m25, .int (nI (mps)), .int (nI (mkw)), .ref m28, .ref m29, .ref m30, .ref m31, .ref m32, .ref m33, .ref m34, .ref m35, .ref m36, .int thr, .int (nI (ho)), .long xx, .ref m40, .ref m41, .ref m42, .ref m43, .ref m44, .int (nI (mkn)), .ref m46, .ref m47, .ref m48, .ref m49, .ref m50, .int (nI (mka))])), (m1, .inl (mc1, 120, .inl mf1)), (m2, .inl (mc2, 1680, .inl mf2)), (m3, .inl (mc3, 14, .inl mf3)), (m4, .inl (mc4, 128, .inl mf4)), (m19, .inl (mc19, 10, .inl mf19)), (m20, .inl (mc20, 10, .inl mf20)), (m21, .inl (mc21, 10, .inl mf21)), (m22, .inl (mc22, 10, .inl mf22)), (m23, .inl (mc23, 10, .inl mf23)), (m24, .inl (mc24, 4, .inl mf24)), (m25, .inl (mc25, 10, .inl mf25)), (m28, .inl (mc28, 10, .inl mf28)), (m29, .inl (mc29, 10, .inl mf29)), (m30, .inl (mc30, 10, .inl mf30)), (m31, .inl (mc31, 10, .inl mf31)), (m32, .inl (mc32, 10, .inl mf32)), (m33, .inl (mc33, 10, .inl mf33)), (m34, .inl (mc34, 10, .inl mf34)), (m35, .inl (mc35, 10, .inl mf35)), (m36, .inl (mc36, 10, .inl mf36)), (m40, .inl (mc40, 20, .inl mf40)), (m41, .inl (mc41, 20, .inl mf41)), (m42, .inl (mc42, 20, .inl mf42)), (m43, .inl (mc43, 20, .inl mf43)), (m44, .inl (mc44, 20, .inl mf44)), (m46, .inl (mc46, 14, .inr (.inl mf46))), (m47, .inl (mc47, 6, .inl mf47)), (m48, .inl (mc48, 6, .inl mf48)), (m49, .inl (mc49, 6, .inl mf49)), (m50, .inl (mc50, 6, .inl mf50))] sz)) 0 0 (va_A [(jM, .inr (10, [.int th, .ref m1, .ref m2, .ref m3, .ref m4, v5, .int (nI (ml)), .int (nI (mkl)), .int (nI (mku)), v9, v10, v11, v12, v13, v14, v15, v16, v17, v18, .ref m19, .ref m20, .ref m21, .ref m22, .ref m23, .ref m24, .ref m25, .int (nI (mps)), .int (nI (mkw)), .ref m28, .ref m29, .ref m30, .ref m31, .ref m32, .ref m33, .ref m34, .ref m35, .ref m36, .int thr, .int (nI (ho)), .long xx, .ref m40, .ref m41, .ref m42, .ref m43, .ref m44, .int (nI (mkn)), .ref m46, .ref m47, .ref m48, .ref m49, .ref m50, .int (nI (mka))])), (m1, .inl (mc1, 120, .inl mf1)), (m2, .inl (mc2, 1680, .inl mf2)), (m3, .inl (mc3, 14, .inl mf3)), (m4, .inl (mc4, 128, .inl mf4)), (m19, .inl (mc19, 10, .inl mf19)), (m20, .inl (mc20, 10, .inl mf20)), (m21, .inl (mc21, 10, .inl mf21)), (m22, .inl (mc22, 10, .inl mf22)), (m23, .inl (mc23, 10, .inl mf23)), (m24, .inl (mc24, 4, .inl mf24)), (m25, .inl (mc25, 10, .inl mf25)), (m28, .inl (mc28, 10, .inl mf28)), (m29, .inl (mc29, 10, .inl mf29)), (m30, .inl (mc30, 10, .inl mf30)), (m31, .inl (mc31, 10, .inl mf31)), (m32, .inl (mc32, 10, .inl mf32)), (m33, .inl (mc33, 10, .inl mf33)), (m34, .inl (mc34, 10, .inl mf34)), (m35, .inl (mc35, 10, .inl mf35)), (m36, .inl (mc36, 10, .inl mf36)), (m40, .inl (mc40, 20, .inl mf40)), (m41, .inl (mc41, 20, .inl mf41)), (m42, .inl (mc42, 20, .inl mf42)), (m43, .inl (mc43, 20, .inl mf43)), (m44, .inl (mc44, 20, .inl mf44)), (m46, .inl (mc46, 14, .inr (.inl mf46))), (m47, .inl (mc47, 6, .inl mf47)), (m48, .inl (mc48, 6, .inl mf48)), (m49, .inl (mc49, 6, .inl mf49)), (m50, .inl (mc50, 6, .inl mf50))] sz) := by
  refine Met.ofW (cc := cX10_feed) (maxL := 6) (ret := (some .int)) (by decide) rfl ?_
  intro p e s m args below meth c s₁ B hml hv
  obtain ⟨rfl, hsz, hP, hK, hD0, hX⟩ := hv
  have hx := B.exec
  have hb := B.bytes
  have hr := B.returns
  have hts := atoms_spec (ws := w_s_feed10) B.pre
  have hown : s.vm.findClass RX10 = some m.cls := findClass_of_methodNamed B.named
  have hlocks := B.notSynchronized
  subst hsz
  have hD := hD0.self (sz := s.heap.size)
  generalize hAe : va_A [(jM, .inr (10, [.int th, .ref m1, .ref m2, .ref m3, .ref m4, v5, .int (nI (ml)), .int (nI (mkl)), .int (nI (mku)), v9, v10, v11, v12, v13, v14, v15, v16, v17, v18, .ref m19, .ref m20, .ref m21, .ref m22, .ref m23, .ref m24, .ref m25, .int (nI (mps)), .int (nI (mkw)), .ref m28, .ref m29, .ref m30, .ref m31, .ref m32, .ref m33, .ref m34, .ref m35, .ref m36, .int thr, .int (nI (ho)), .long xx, .ref m40, .ref m41, .ref m42, .ref m43, .ref m44, .int (nI (mkn)), .ref m46, .ref m47, .ref m48, .ref m49, .ref m50, .int (nI (mka))])), (m1, .inl (mc1, 120, .inl mf1)), (m2, .inl (mc2, 1680, .inl mf2)), (m3, .inl (mc3, 14, .inl mf3)), (m4, .inl (mc4, 128, .inl mf4)), (m19, .inl (mc19, 10, .inl mf19)), (m20, .inl (mc20, 10, .inl mf20)), (m21, .inl (mc21, 10, .inl mf21)), (m22, .inl (mc22, 10, .inl mf22)), (m23, .inl (mc23, 10, .inl mf23)), (m24, .inl (mc24, 4, .inl mf24)), (m25, .inl (mc25, 10, .inl mf25)), (m28, .inl (mc28, 10, .inl mf28)), (m29, .inl (mc29, 10, .inl mf29)), (m30, .inl (mc30, 10, .inl mf30)), (m31, .inl (mc31, 10, .inl mf31)), (m32, .inl (mc32, 10, .inl mf32)), (m33, .inl (mc33, 10, .inl mf33)), (m34, .inl (mc34, 10, .inl mf34)), (m35, .inl (mc35, 10, .inl mf35)), (m36, .inl (mc36, 10, .inl mf36)), (m40, .inl (mc40, 20, .inl mf40)), (m41, .inl (mc41, 20, .inl mf41)), (m42, .inl (mc42, 20, .inl mf42)), (m43, .inl (mc43, 20, .inl mf43)), (m44, .inl (mc44, 20, .inl mf44)), (m46, .inl (mc46, 14, .inr (.inl mf46))), (m47, .inl (mc47, 6, .inl mf47)), (m48, .inl (mc48, 6, .inl mf48)), (m49, .inl (mc49, 6, .inl mf49)), (m50, .inl (mc50, 6, .inl mf50))] s.heap.size = A at hD ⊢
  have hA : ∀ q : Nat, s.heap.size ≤ q → A q := fun q h => by rw [← hAe]; exact Or.inr h
  have hS : va_S A s.heap s.heap [] := va_S.rf
  have hP : va_P (dC, dI) vwCl [(jM, .inr (10, [.int th, .ref m1, .ref m2, .ref m3, .ref m4, v5, .int (nI (ml)), .int (nI (mkl)), .int (nI (mku)), v9, v10, v11, v12, v13, v14, v15, v16, v17, v18, .ref m19, .ref m20, .ref m21, .ref m22, .ref m23, .ref m24, .ref m25, .int (nI (mps)), .int (nI (mkw)), .ref m28, .ref m29, .ref m30, .ref m31, .ref m32, .ref m33, .ref m34, .ref m35, .ref m36, .int thr, .int (nI (ho)), .long xx, .ref m40, .ref m41, .ref m42, .ref m43, .ref m44, .int (nI (mkn)), .ref m46, .ref m47, .ref m48, .ref m49, .ref m50, .int (nI (mka))])), (m1, .inl (mc1, 120, .inl mf1)), (m2, .inl (mc2, 1680, .inl mf2)), (m3, .inl (mc3, 14, .inl mf3)), (m4, .inl (mc4, 128, .inl mf4)), (m19, .inl (mc19, 10, .inl mf19)), (m20, .inl (mc20, 10, .inl mf20)), (m21, .inl (mc21, 10, .inl mf21)), (m22, .inl (mc22, 10, .inl mf22)), (m23, .inl (mc23, 10, .inl mf23)), (m24, .inl (mc24, 4, .inl mf24)), (m25, .inl (mc25, 10, .inl mf25)), (m28, .inl (mc28, 10, .inl mf28)), (m29, .inl (mc29, 10, .inl mf29)), (m30, .inl (mc30, 10, .inl mf30)), (m31, .inl (mc31, 10, .inl mf31)), (m32, .inl (mc32, 10, .inl mf32)), (m33, .inl (mc33, 10, .inl mf33)), (m34, .inl (mc34, 10, .inl mf34)), (m35, .inl (mc35, 10, .inl mf35)), (m36, .inl (mc36, 10, .inl mf36)), (m40, .inl (mc40, 20, .inl mf40)), (m41, .inl (mc41, 20, .inl mf41)), (m42, .inl (mc42, 20, .inl mf42)), (m43, .inl (mc43, 20, .inl mf43)), (m44, .inl (mc44, 20, .inl mf44)), (m46, .inl (mc46, 14, .inr (.inl mf46))), (m47, .inl (mc47, 6, .inl mf47)), (m48, .inl (mc48, 6, .inl mf48)), (m49, .inl (mc49, 6, .inl mf49)), (m50, .inl (mc50, 6, .inl mf50))] s.heap := hP
  have hl := lv_entry ([.ref jM, .int p0, .int p1, .int p2, .int p3, .int p4]) (n := 6) (Nat.le_of_ble_eq_true rfl)
  rw [lg_entry_eq]
  generalize (lg_sl ([.ref jM, .int p0, .int p1, .int p2, .int p3, .int p4]) ++ List.replicate (6 - (lg_sl ([.ref jM, .int p0, .int p1, .int p2, .int p3, .int p4])).length) Slot.unset).toArray = ls at hl ⊢
  have hl : lv_has ls 6 [(0, .ref jM), (1, .int p0), (2, .int p1), (3, .int p2), (4, .int p3), (5, .int p4)] := hl
  refine kQ (fun Q hQ => ?_)
  have hq0 := kCnt_le p0
  have hq1 := kCnt_le p1
  have hq2 := kCnt_le p2
  have hq3 := kCnt_le p3
  have hq4 := kCnt_le p4
  refine lv_aload_n hx hb dX10_feed_0 rfl (lv_at hl 0 rfl) ?_
  refine lv_iconst (v := 0) hx hb dX10_feed_1 kc_i_0 ?_
  refine va_put (D := (dC, dI)) (ci := 10) (v := .int 0) (ty := tyX10 0) (C := RX10) (T := TX10) (N := 52) hx hb hts (fun _ h => List.mem_cons_of_mem _ (List.mem_append_right _ (List.mem_append_left _ h))) tyX10 tyX10_ok nmX10 hown hK hP hD hS 0 rfl rfl 0 kc_l_0_52 (hts (.fieldLink RX10 117 "NotEndedModel" "thrown" "I") (List.mem_cons_of_mem _ (List.mem_append_left _ (List.mem_of_getElem? (i := 0) rfl)))) (fun _ h9 => h9) rfl (tyX10_ok 0 kc_l_0_52) rfl rfl (Nat.le_of_ble_eq_true rfl) dX10_feed_2 (fun H locs hP hD hS => ?_)
  have hPD : kPD dC dI A [(jM, .inr (10, [.int 0, .ref m1, .ref m2, .ref m3, .ref m4, v5, .int (nI (ml)), .int (nI (mkl)), .int (nI (mku)), v9, v10, v11, v12, v13, v14, v15, v16, v17, v18, .ref m19, .ref m20, .ref m21, .ref m22, .ref m23, .ref m24, .ref m25, .int (nI (mps)), .int (nI (mkw)), .ref m28, .ref m29, .ref m30, .ref m31, .ref m32, .ref m33, .ref m34, .ref m35, .ref m36, .int thr, .int (nI (ho)), .long xx, .ref m40, .ref m41, .ref m42, .ref m43, .ref m44, .int (nI (mkn)), .ref m46, .ref m47, .ref m48, .ref m49, .ref m50, .int (nI (mka))])), (m1, .inl (mc1, 120, .inl mf1)), (m2, .inl (mc2, 1680, .inl mf2)), (m3, .inl (mc3, 14, .inl mf3)), (m4, .inl (mc4, 128, .inl mf4)), (m19, .inl (mc19, 10, .inl mf19)), (m20, .inl (mc20, 10, .inl mf20)), (m21, .inl (mc21, 10, .inl mf21)), (m22, .inl (mc22, 10, .inl mf22)), (m23, .inl (mc23, 10, .inl mf23)), (m24, .inl (mc24, 4, .inl mf24)), (m25, .inl (mc25, 10, .inl mf25)), (m28, .inl (mc28, 10, .inl mf28)), (m29, .inl (mc29, 10, .inl mf29)), (m30, .inl (mc30, 10, .inl mf30)), (m31, .inl (mc31, 10, .inl mf31)), (m32, .inl (mc32, 10, .inl mf32)), (m33, .inl (mc33, 10, .inl mf33)), (m34, .inl (mc34, 10, .inl mf34)), (m35, .inl (mc35, 10, .inl mf35)), (m36, .inl (mc36, 10, .inl mf36)), (m40, .inl (mc40, 20, .inl mf40)), (m41, .inl (mc41, 20, .inl mf41)), (m42, .inl (mc42, 20, .inl mf42)), (m43, .inl (mc43, 20, .inl mf43)), (m44, .inl (mc44, 20, .inl mf44)), (m46, .inl (mc46, 14, .inr (.inl mf46))), (m47, .inl (mc47, 6, .inl mf47)), (m48, .inl (mc48, 6, .inl mf48)), (m49, .inl (mc49, 6, .inl mf49)), (m50, .inl (mc50, 6, .inl mf50))] H := ⟨hP, hD⟩
  obtain ⟨hP, hD⟩ := hPD
  refine lv_aload_n hx hb dX10_feed_5 rfl (lv_at hl 0 rfl) ?_
  refine va_get (D := (dC, dI)) (ci := 10) (v := .int (nI (ml))) (C := RX10) (T := TX10) (N := 52) hx hb hts (fun _ h => List.mem_cons_of_mem _ (List.mem_append_right _ (List.mem_append_left _ h))) hown hK hP 0 rfl rfl 6 kc_l_6_52 (hts (.fieldLink RX10 131 "NotEndedModel" "length" "I") (List.mem_cons_of_mem _ (List.mem_append_left _ (List.mem_of_getElem? (i := 1) rfl)))) (fun _ h9 => h9) rfl dX10_feed_6 ?_
  refine lv_iload_n hx hb dX10_feed_9 rfl (lv_at hl 1 rfl) ?_
  have hPc := hP.sb (ws2 := []) [] rfl
  have hKc := hK.sb (tys2 := []) [] rfl
  refine vp_callSi (va_runS (As := [.int p0]) (rest := [.int (nI (ml))]) ⟨hx, hb, hml, hown, hts⟩ (s_bytes10 l dC dI p0) (va_cwS 1 hts (kG (List.forall_mem_cons.mpr ⟨(List.mem_cons_of_mem _ (List.mem_append_left _ (List.mem_of_getElem? (i := 4) rfl))), (List.forall_mem_cons.mpr ⟨(List.mem_cons_of_mem _ (List.mem_append_left _ (List.mem_of_getElem? (i := 3) rfl))), (List.forall_mem_cons.mpr ⟨(List.mem_cons_of_mem _ (List.mem_append_left _ (List.mem_of_getElem? (i := 2) rfl))), (fun _ h => absurd h List.not_mem_nil)⟩)⟩)⟩) (kGS _ _ _) (fun _ h => List.mem_cons_of_mem _ (List.mem_append_right _ (List.mem_append_right _ (List.mem_append_left _ h)))) gw_s_bytes10) rfl rfl rfl hd_X10_bytesIn ⟨(Nat.le_of_ble_eq_true rfl), (Nat.le_of_ble_eq_true rfl)⟩) (kR_S kT_blind kT_give hPc hKc) rfl rfl hl.1 rfl (lv_room (Nat.le_of_ble_eq_true rfl)) dX10_feed_10 ⟨(Nat.le_of_ble_eq_true rfl), (Nat.le_of_ble_eq_true rfl)⟩).run (fun r_1 hw => ?_)
  obtain rfl : r_1 = nI (kCnt p0) := hw
  refine lv_iadd hx hb dX10_feed_13 ?_
  refine lv_topi (fun y_2 ey_2 => ?_)
  obtain rfl : y_2 = nI (ml + kCnt p0) := ey_2.trans (nI_add (ml) (kCnt p0))
  refine lv_iload_n hx hb dX10_feed_14 rfl (lv_at hl 2 rfl) ?_
  have hPc := hP.sb (ws2 := []) [] rfl
  have hKc := hK.sb (tys2 := []) [] rfl
  refine vp_callSi (va_runS (As := [.int p1]) (rest := [.int (nI (ml + kCnt p0))]) ⟨hx, hb, hml, hown, hts⟩ (s_bytes10 l dC dI p1) (va_cwS 1 hts (kG (List.forall_mem_cons.mpr ⟨(List.mem_cons_of_mem _ (List.mem_append_left _ (List.mem_of_getElem? (i := 4) rfl))), (List.forall_mem_cons.mpr ⟨(List.mem_cons_of_mem _ (List.mem_append_left _ (List.mem_of_getElem? (i := 3) rfl))), (List.forall_mem_cons.mpr ⟨(List.mem_cons_of_mem _ (List.mem_append_left _ (List.mem_of_getElem? (i := 2) rfl))), (fun _ h => absurd h List.not_mem_nil)⟩)⟩)⟩) (kGS _ _ _) (fun _ h => List.mem_cons_of_mem _ (List.mem_append_right _ (List.mem_append_right _ (List.mem_append_left _ h)))) gw_s_bytes10) rfl rfl rfl hd_X10_bytesIn ⟨(Nat.le_of_ble_eq_true rfl), (Nat.le_of_ble_eq_true rfl)⟩) (kR_S kT_blind kT_give hPc hKc) rfl rfl hl.1 rfl (lv_room (Nat.le_of_ble_eq_true rfl)) dX10_feed_15 ⟨(Nat.le_of_ble_eq_true rfl), (Nat.le_of_ble_eq_true rfl)⟩).run (fun r_3 hw => ?_)
  obtain rfl : r_3 = nI (kCnt p1) := hw
  refine lv_iadd hx hb dX10_feed_18 ?_
  refine lv_topi (fun y_4 ey_4 => ?_)
  obtain rfl : y_4 = nI (ml + kCnt p0 + kCnt p1) := ey_4.trans (nI_add (ml + kCnt p0) (kCnt p1))
  refine lv_iload_n hx hb dX10_feed_19 rfl (lv_at hl 3 rfl) ?_
  have hPc := hP.sb (ws2 := []) [] rfl
  have hKc := hK.sb (tys2 := []) [] rfl
  refine vp_callSi (va_runS (As := [.int p2]) (rest := [.int (nI (ml + kCnt p0 + kCnt p1))]) ⟨hx, hb, hml, hown, hts⟩ (s_bytes10 l dC dI p2) (va_cwS 1 hts (kG (List.forall_mem_cons.mpr ⟨(List.mem_cons_of_mem _ (List.mem_append_left _ (List.mem_of_getElem? (i := 4) rfl))), (List.forall_mem_cons.mpr ⟨(List.mem_cons_of_mem _ (List.mem_append_left _ (List.mem_of_getElem? (i := 3) rfl))), (List.forall_mem_cons.mpr ⟨(List.mem_cons_of_mem _ (List.mem_append_left _ (List.mem_of_getElem? (i := 2) rfl))), (fun _ h => absurd h List.not_mem_nil)⟩)⟩)⟩) (kGS _ _ _) (fun _ h => List.mem_cons_of_mem _ (List.mem_append_right _ (List.mem_append_right _ (List.mem_append_left _ h)))) gw_s_bytes10) rfl rfl rfl hd_X10_bytesIn ⟨(Nat.le_of_ble_eq_true rfl), (Nat.le_of_ble_eq_true rfl)⟩) (kR_S kT_blind kT_give hPc hKc) rfl rfl hl.1 rfl (lv_room (Nat.le_of_ble_eq_true rfl)) dX10_feed_20 ⟨(Nat.le_of_ble_eq_true rfl), (Nat.le_of_ble_eq_true rfl)⟩).run (fun r_5 hw => ?_)
  obtain rfl : r_5 = nI (kCnt p2) := hw
  refine lv_iadd hx hb dX10_feed_23 ?_
  refine lv_topi (fun y_6 ey_6 => ?_)
  obtain rfl : y_6 = nI (ml + kCnt p0 + kCnt p1 + kCnt p2) := ey_6.trans (nI_add (ml + kCnt p0 + kCnt p1) (kCnt p2))
  refine lv_iload hx hb dX10_feed_24 (lv_at hl 4 rfl) ?_
  have hPc := hP.sb (ws2 := []) [] rfl
  have hKc := hK.sb (tys2 := []) [] rfl
  refine vp_callSi (va_runS (As := [.int p3]) (rest := [.int (nI (ml + kCnt p0 + kCnt p1 + kCnt p2))]) ⟨hx, hb, hml, hown, hts⟩ (s_bytes10 l dC dI p3) (va_cwS 1 hts (kG (List.forall_mem_cons.mpr ⟨(List.mem_cons_of_mem _ (List.mem_append_left _ (List.mem_of_getElem? (i := 4) rfl))), (List.forall_mem_cons.mpr ⟨(List.mem_cons_of_mem _ (List.mem_append_left _ (List.mem_of_getElem? (i := 3) rfl))), (List.forall_mem_cons.mpr ⟨(List.mem_cons_of_mem _ (List.mem_append_left _ (List.mem_of_getElem? (i := 2) rfl))), (fun _ h => absurd h List.not_mem_nil)⟩)⟩)⟩) (kGS _ _ _) (fun _ h => List.mem_cons_of_mem _ (List.mem_append_right _ (List.mem_append_right _ (List.mem_append_left _ h)))) gw_s_bytes10) rfl rfl rfl hd_X10_bytesIn ⟨(Nat.le_of_ble_eq_true rfl), (Nat.le_of_ble_eq_true rfl)⟩) (kR_S kT_blind kT_give hPc hKc) rfl rfl hl.1 rfl (lv_room (Nat.le_of_ble_eq_true rfl)) dX10_feed_26 ⟨(Nat.le_of_ble_eq_true rfl), (Nat.le_of_ble_eq_true rfl)⟩).run (fun r_7 hw => ?_)
  obtain rfl : r_7 = nI (kCnt p3) := hw
  refine lv_iadd hx hb dX10_feed_29 ?_
  refine lv_topi (fun y_8 ey_8 => ?_)
  obtain rfl : y_8 = nI (ml + kCnt p0 + kCnt p1 + kCnt p2 + kCnt p3) := ey_8.trans (nI_add (ml + kCnt p0 + kCnt p1 + kCnt p2) (kCnt p3))
  refine lv_iload hx hb dX10_feed_30 (lv_at hl 5 rfl) ?_
  have hPc := hP.sb (ws2 := []) [] rfl
  have hKc := hK.sb (tys2 := []) [] rfl
  refine vp_callSi (va_runS (As := [.int p4]) (rest := [.int (nI (ml + kCnt p0 + kCnt p1 + kCnt p2 + kCnt p3))]) ⟨hx, hb, hml, hown, hts⟩ (s_bytes10 l dC dI p4) (va_cwS 1 hts (kG (List.forall_mem_cons.mpr ⟨(List.mem_cons_of_mem _ (List.mem_append_left _ (List.mem_of_getElem? (i := 4) rfl))), (List.forall_mem_cons.mpr ⟨(List.mem_cons_of_mem _ (List.mem_append_left _ (List.mem_of_getElem? (i := 3) rfl))), (List.forall_mem_cons.mpr ⟨(List.mem_cons_of_mem _ (List.mem_append_left _ (List.mem_of_getElem? (i := 2) rfl))), (fun _ h => absurd h List.not_mem_nil)⟩)⟩)⟩) (kGS _ _ _) (fun _ h => List.mem_cons_of_mem _ (List.mem_append_right _ (List.mem_append_right _ (List.mem_append_left _ h)))) gw_s_bytes10) rfl rfl rfl hd_X10_bytesIn ⟨(Nat.le_of_ble_eq_true rfl), (Nat.le_of_ble_eq_true rfl)⟩) (kR_S kT_blind kT_give hPc hKc) rfl rfl hl.1 rfl (lv_room (Nat.le_of_ble_eq_true rfl)) dX10_feed_32 ⟨(Nat.le_of_ble_eq_true rfl), (Nat.le_of_ble_eq_true rfl)⟩).run (fun r_9 hw => ?_)
  obtain rfl : r_9 = nI (kCnt p4) := hw
  refine lv_iadd hx hb dX10_feed_35 ?_
  refine lv_topi (fun y_10 ey_10 => ?_)
  obtain rfl : y_10 = nI (ml + kCnt p0 + kCnt p1 + kCnt p2 + kCnt p3 + kCnt p4) := ey_10.trans (nI_add (ml + kCnt p0 + kCnt p1 + kCnt p2 + kCnt p3) (kCnt p4))
  refine lv_bipush (v := 120) hx hb dX10_feed_36 kc_b_120 ?_
  refine lv_icmp_le (tgt := 43) hx hb dX10_feed_38 kc_t_38_5 (fun c_11 => ?_) (fun c_11 => ?_)
  · have bd_13 : ml + kCnt p0 + kCnt p1 + kCnt p2 + kCnt p3 + kCnt p4 < 2147483648 := by omega
    have hn_12 := kle (a := ml + kCnt p0 + kCnt p1 + kCnt p2 + kCnt p3 + kCnt p4) (b := 120) bd_13 kc_31_120 c_11
    refine lv_aload_n hx hb dX10_feed_43 rfl (lv_at hl 0 rfl) ?_
    refine lv_iload_n hx hb dX10_feed_44 rfl (lv_at hl 1 rfl) ?_
    have bd_14 : ml + kCnt p0 ≤ 120 := by omega
    have hCu := kCut (wc := [(jM, .inr (10, [.int 0, .ref m1, .ref m2, .ref m3, .ref m4, v5, .int (nI (ml)), .int (nI (mkl)), .int (nI (mku)), v9, v10, v11, v12, v13, v14, v15, v16, v17, v18, .ref m19, .ref m20, .ref m21, .ref m22, .ref m23, .ref m24, .ref m25, .int (nI (mps)), .int (nI (mkw)), .ref m28, .ref m29, .ref m30, .ref m31, .ref m32, .ref m33, .ref m34, .ref m35, .ref m36, .int thr, .int (nI (ho)), .long xx, .ref m40, .ref m41, .ref m42, .ref m43, .ref m44, .int (nI (mkn)), .ref m46, .ref m47, .ref m48, .ref m49, .ref m50, .int (nI (mka))])), (m1, .inl (mc1, 120, .inl mf1))]) hP hD hS hA [0, 1] rfl kc_nd_416 rfl
    have hPc := hCu.1
    have hDc := hCu.2.1
    have hFc := hCu.2.2
    have hKc := hK.sb (tys2 := [(mc1, .byte)]) [0] rfl
    refine va_callv (va_runV (As := [.int p0]) (rest := []) ⟨hx, hb, hml, hown, hts⟩ (s_put10 l dC dI jM m1 mc1 mf1 (.int 0 : Value) (.ref m2 : Value) (.ref m3 : Value) (.ref m4 : Value) (v5 : Value) (.int (nI (mkl)) : Value) (.int (nI (mku)) : Value) (v9 : Value) (v10 : Value) (v11 : Value) (v12 : Value) (v13 : Value) (v14 : Value) (v15 : Value) (v16 : Value) (v17 : Value) (v18 : Value) (.ref m19 : Value) (.ref m20 : Value) (.ref m21 : Value) (.ref m22 : Value) (.ref m23 : Value) (.ref m24 : Value) (.ref m25 : Value) (.int (nI (mps)) : Value) (.int (nI (mkw)) : Value) (.ref m28 : Value) (.ref m29 : Value) (.ref m30 : Value) (.ref m31 : Value) (.ref m32 : Value) (.ref m33 : Value) (.ref m34 : Value) (.ref m35 : Value) (.ref m36 : Value) (.int thr : Value) (.int (nI (ho)) : Value) (.long xx : Value) (.ref m40 : Value) (.ref m41 : Value) (.ref m42 : Value) (.ref m43 : Value) (.ref m44 : Value) (.int (nI (mkn)) : Value) (.ref m46 : Value) (.ref m47 : Value) (.ref m48 : Value) (.ref m49 : Value) (.ref m50 : Value) (.int (nI (mka)) : Value) ml p0 bd_14 H.size) (cwV 1 hts (kG (List.forall_mem_cons.mpr ⟨(List.mem_cons_of_mem _ (List.mem_append_left _ (List.mem_of_getElem? (i := 7) rfl))), (List.forall_mem_cons.mpr ⟨(List.mem_cons_of_mem _ (List.mem_append_left _ (List.mem_of_getElem? (i := 6) rfl))), (List.forall_mem_cons.mpr ⟨(List.mem_cons_of_mem _ (List.mem_append_left _ (List.mem_of_getElem? (i := 5) rfl))), (List.forall_mem_cons.mpr ⟨(List.mem_cons_of_mem _ (List.mem_append_left _ (List.mem_of_getElem? (i := 2) rfl))), (fun _ h => absurd h List.not_mem_nil)⟩)⟩)⟩)⟩) (kGV _ _ _ _) (fun _ h => List.mem_cons_of_mem _ (List.mem_append_right _ (List.mem_append_right _ (List.mem_append_right _ h)))) gw_s_put10) rfl rfl rfl ⟨rfl, hd_X10_put⟩ ⟨(Nat.le_of_ble_eq_true rfl), (Nat.le_of_ble_eq_true rfl)⟩) (kW_V kT_blind kT_give (va_recv hKc hPc (ci := 10) (q0 := 0) rfl rfl) hPc hKc hDc) rfl rfl hl.1 rfl (lv_room (Nat.le_of_ble_eq_true rfl)) dX10_feed_45 ⟨(Nat.le_of_ble_eq_true rfl), (Nat.le_of_ble_eq_true rfl)⟩) hS (fun q _ h => hFc q h) hFc (fun u t H1 locs ht hvm hw hB hz1 hk1 hS => ?_)
    obtain ⟨g1_15, rfl⟩ : ∃ z, z = u := ⟨_, rfl⟩
    obtain ⟨hP1, hK1, hD1⟩ := hB
    rw [ht] at hP1
    try dsimp only at hw
    have hPD : kPD dC dI A [(m2, .inl (mc2, 1680, .inl mf2)), (m3, .inl (mc3, 14, .inl mf3)), (m4, .inl (mc4, 128, .inl mf4)), (m19, .inl (mc19, 10, .inl mf19)), (m20, .inl (mc20, 10, .inl mf20)), (m21, .inl (mc21, 10, .inl mf21)), (m22, .inl (mc22, 10, .inl mf22)), (m23, .inl (mc23, 10, .inl mf23)), (m24, .inl (mc24, 4, .inl mf24)), (m25, .inl (mc25, 10, .inl mf25)), (m28, .inl (mc28, 10, .inl mf28)), (m29, .inl (mc29, 10, .inl mf29)), (m30, .inl (mc30, 10, .inl mf30)), (m31, .inl (mc31, 10, .inl mf31)), (m32, .inl (mc32, 10, .inl mf32)), (m33, .inl (mc33, 10, .inl mf33)), (m34, .inl (mc34, 10, .inl mf34)), (m35, .inl (mc35, 10, .inl mf35)), (m36, .inl (mc36, 10, .inl mf36)), (m40, .inl (mc40, 20, .inl mf40)), (m41, .inl (mc41, 20, .inl mf41)), (m42, .inl (mc42, 20, .inl mf42)), (m43, .inl (mc43, 20, .inl mf43)), (m44, .inl (mc44, 20, .inl mf44)), (m46, .inl (mc46, 14, .inr (.inl mf46))), (m47, .inl (mc47, 6, .inl mf47)), (m48, .inl (mc48, 6, .inl mf48)), (m49, .inl (mc49, 6, .inl mf49)), (m50, .inl (mc50, 6, .inl mf50)), (jM, .inr (10, [.int 0, .ref m1, .ref m2, .ref m3, .ref m4, (v5 : Value), .int (nI (ml + kCnt p0)), .int (nI (mkl)), .int (nI (mku)), (v9 : Value), (v10 : Value), (v11 : Value), (v12 : Value), (v13 : Value), (v14 : Value), (v15 : Value), (v16 : Value), (v17 : Value), (v18 : Value), .ref m19, .ref m20, .ref m21, .ref m22, .ref m23, .ref m24, .ref m25, .int (nI (mps)), .int (nI (mkw)), .ref m28, .ref m29, .ref m30, .ref m31, .ref m32, .ref m33, .ref m34, .ref m35, .ref m36, .int thr, .int (nI (ho)), .long xx, .ref m40, .ref m41, .ref m42, .ref m43, .ref m44, .int (nI (mkn)), .ref m46, .ref m47, .ref m48, .ref m49, .ref m50, .int (nI (mka))])), (m1, .inl (mc1, 120, .inl g1_15))] H1 := kJoin hP hD [0, 1] [2, 3, 4, 5, 6, 7, 8, 9, 10, 11, 12, 13, 14, 15, 16, 17, 18, 19, 20, 21, 22, 23, 24, 25, 26, 27, 28, 29, 30] rfl rfl (by decide) (by decide) hk1 hFc hP1 hD1 rfl
    obtain ⟨hP, hD⟩ := hPD
    generalize H1 = H at hP hS ⊢
    refine lv_aload_n hx hb dX10_feed_48 rfl (lv_at hl 0 rfl) ?_
    refine lv_iload_n hx hb dX10_feed_49 rfl (lv_at hl 2 rfl) ?_
    have bd_17 : (ml + kCnt p0) + kCnt p1 ≤ 120 := by omega
    have hCu := kCut (wc := [(jM, .inr (10, [.int 0, .ref m1, .ref m2, .ref m3, .ref m4, (v5 : Value), .int (nI (ml + kCnt p0)), .int (nI (mkl)), .int (nI (mku)), (v9 : Value), (v10 : Value), (v11 : Value), (v12 : Value), (v13 : Value), (v14 : Value), (v15 : Value), (v16 : Value), (v17 : Value), (v18 : Value), .ref m19, .ref m20, .ref m21, .ref m22, .ref m23, .ref m24, .ref m25, .int (nI (mps)), .int (nI (mkw)), .ref m28, .ref m29, .ref m30, .ref m31, .ref m32, .ref m33, .ref m34, .ref m35, .ref m36, .int thr, .int (nI (ho)), .long xx, .ref m40, .ref m41, .ref m42, .ref m43, .ref m44, .int (nI (mkn)), .ref m46, .ref m47, .ref m48, .ref m49, .ref m50, .int (nI (mka))])), (m1, .inl (mc1, 120, .inl g1_15))]) hP hD hS hA [29, 30] rfl kc_nd_968 rfl
    have hPc := hCu.1
    have hDc := hCu.2.1
    have hFc := hCu.2.2
    have hKc := hK.sb (tys2 := [(mc1, .byte)]) [0] rfl
    refine va_callv (va_runV (As := [.int p1]) (rest := []) ⟨hx, hb, hml, hown, hts⟩ (s_put10 l dC dI jM m1 mc1 g1_15 (.int 0 : Value) (.ref m2 : Value) (.ref m3 : Value) (.ref m4 : Value) ((v5 : Value) : Value) (.int (nI (mkl)) : Value) (.int (nI (mku)) : Value) ((v9 : Value) : Value) ((v10 : Value) : Value) ((v11 : Value) : Value) ((v12 : Value) : Value) ((v13 : Value) : Value) ((v14 : Value) : Value) ((v15 : Value) : Value) ((v16 : Value) : Value) ((v17 : Value) : Value) ((v18 : Value) : Value) (.ref m19 : Value) (.ref m20 : Value) (.ref m21 : Value) (.ref m22 : Value) (.ref m23 : Value) (.ref m24 : Value) (.ref m25 : Value) (.int (nI (mps)) : Value) (.int (nI (mkw)) : Value) (.ref m28 : Value) (.ref m29 : Value) (.ref m30 : Value) (.ref m31 : Value) (.ref m32 : Value) (.ref m33 : Value) (.ref m34 : Value) (.ref m35 : Value) (.ref m36 : Value) (.int thr : Value) (.int (nI (ho)) : Value) (.long xx : Value) (.ref m40 : Value) (.ref m41 : Value) (.ref m42 : Value) (.ref m43 : Value) (.ref m44 : Value) (.int (nI (mkn)) : Value) (.ref m46 : Value) (.ref m47 : Value) (.ref m48 : Value) (.ref m49 : Value) (.ref m50 : Value) (.int (nI (mka)) : Value) (ml + kCnt p0) p1 bd_17 H.size) (cwV 1 hts (kG (List.forall_mem_cons.mpr ⟨(List.mem_cons_of_mem _ (List.mem_append_left _ (List.mem_of_getElem? (i := 7) rfl))), (List.forall_mem_cons.mpr ⟨(List.mem_cons_of_mem _ (List.mem_append_left _ (List.mem_of_getElem? (i := 6) rfl))), (List.forall_mem_cons.mpr ⟨(List.mem_cons_of_mem _ (List.mem_append_left _ (List.mem_of_getElem? (i := 5) rfl))), (List.forall_mem_cons.mpr ⟨(List.mem_cons_of_mem _ (List.mem_append_left _ (List.mem_of_getElem? (i := 2) rfl))), (fun _ h => absurd h List.not_mem_nil)⟩)⟩)⟩)⟩) (kGV _ _ _ _) (fun _ h => List.mem_cons_of_mem _ (List.mem_append_right _ (List.mem_append_right _ (List.mem_append_right _ h)))) gw_s_put10) rfl rfl rfl ⟨rfl, hd_X10_put⟩ ⟨(Nat.le_of_ble_eq_true rfl), (Nat.le_of_ble_eq_true rfl)⟩) (kW_V kT_blind kT_give (va_recv hKc hPc (ci := 10) (q0 := 0) rfl rfl) hPc hKc hDc) rfl rfl hl.1 rfl (lv_room (Nat.le_of_ble_eq_true rfl)) dX10_feed_50 ⟨(Nat.le_of_ble_eq_true rfl), (Nat.le_of_ble_eq_true rfl)⟩) hS (fun q _ h => hFc q h) hFc (fun u t H1 locs ht hvm hw hB hz1 hk1 hS => ?_)
    obtain ⟨g1_18, rfl⟩ : ∃ z, z = u := ⟨_, rfl⟩
    obtain ⟨hP1, hK1, hD1⟩ := hB
    rw [ht] at hP1
    try dsimp only at hw
    have hPD : kPD dC dI A [(m2, .inl (mc2, 1680, .inl mf2)), (m3, .inl (mc3, 14, .inl mf3)), (m4, .inl (mc4, 128, .inl mf4)), (m19, .inl (mc19, 10, .inl mf19)), (m20, .inl (mc20, 10, .inl mf20)), (m21, .inl (mc21, 10, .inl mf21)), (m22, .inl (mc22, 10, .inl mf22)), (m23, .inl (mc23, 10, .inl mf23)), (m24, .inl (mc24, 4, .inl mf24)), (m25, .inl (mc25, 10, .inl mf25)), (m28, .inl (mc28, 10, .inl mf28)), (m29, .inl (mc29, 10, .inl mf29)), (m30, .inl (mc30, 10, .inl mf30)), (m31, .inl (mc31, 10, .inl mf31)), (m32, .inl (mc32, 10, .inl mf32)), (m33, .inl (mc33, 10, .inl mf33)), (m34, .inl (mc34, 10, .inl mf34)), (m35, .inl (mc35, 10, .inl mf35)), (m36, .inl (mc36, 10, .inl mf36)), (m40, .inl (mc40, 20, .inl mf40)), (m41, .inl (mc41, 20, .inl mf41)), (m42, .inl (mc42, 20, .inl mf42)), (m43, .inl (mc43, 20, .inl mf43)), (m44, .inl (mc44, 20, .inl mf44)), (m46, .inl (mc46, 14, .inr (.inl mf46))), (m47, .inl (mc47, 6, .inl mf47)), (m48, .inl (mc48, 6, .inl mf48)), (m49, .inl (mc49, 6, .inl mf49)), (m50, .inl (mc50, 6, .inl mf50)), (jM, .inr (10, [.int 0, .ref m1, .ref m2, .ref m3, .ref m4, ((v5 : Value) : Value), .int (nI (ml + kCnt p0 + kCnt p1)), .int (nI (mkl)), .int (nI (mku)), ((v9 : Value) : Value), ((v10 : Value) : Value), ((v11 : Value) : Value), ((v12 : Value) : Value), ((v13 : Value) : Value), ((v14 : Value) : Value), ((v15 : Value) : Value), ((v16 : Value) : Value), ((v17 : Value) : Value), ((v18 : Value) : Value), .ref m19, .ref m20, .ref m21, .ref m22, .ref m23, .ref m24, .ref m25, .int (nI (mps)), .int (nI (mkw)), .ref m28, .ref m29, .ref m30, .ref m31, .ref m32, .ref m33, .ref m34, .ref m35, .ref m36, .int thr, .int (nI (ho)), .long xx, .ref m40, .ref m41, .ref m42, .ref m43, .ref m44, .int (nI (mkn)), .ref m46, .ref m47, .ref m48, .ref m49, .ref m50, .int (nI (mka))])), (m1, .inl (mc1, 120, .inl g1_18))] H1 := kJoin hP hD [29, 30] [0, 1, 2, 3, 4, 5, 6, 7, 8, 9, 10, 11, 12, 13, 14, 15, 16, 17, 18, 19, 20, 21, 22, 23, 24, 25, 26, 27, 28] rfl rfl (by decide) (by decide) hk1 hFc hP1 hD1 rfl
    obtain ⟨hP, hD⟩ := hPD
    generalize H1 = H at hP hS ⊢
    refine lv_aload_n hx hb dX10_feed_53 rfl (lv_at hl 0 rfl) ?_
    refine lv_iload_n hx hb dX10_feed_54 rfl (lv_at hl 3 rfl) ?_
    have bd_20 : (ml + kCnt p0 + kCnt p1) + kCnt p2 ≤ 120 := by omega
    have hCu := kCut (wc := [(jM, .inr (10, [.int 0, .ref m1, .ref m2, .ref m3, .ref m4, ((v5 : Value) : Value), .int (nI (ml + kCnt p0 + kCnt p1)), .int (nI (mkl)), .int (nI (mku)), ((v9 : Value) : Value), ((v10 : Value) : Value), ((v11 : Value) : Value), ((v12 : Value) : Value), ((v13 : Value) : Value), ((v14 : Value) : Value), ((v15 : Value) : Value), ((v16 : Value) : Value), ((v17 : Value) : Value), ((v18 : Value) : Value), .ref m19, .ref m20, .ref m21, .ref m22, .ref m23, .ref m24, .ref m25, .int (nI (mps)), .int (nI (mkw)), .ref m28, .ref m29, .ref m30, .ref m31, .ref m32, .ref m33, .ref m34, .ref m35, .ref m36, .int thr, .int (nI (ho)), .long xx, .ref m40, .ref m41, .ref m42, .ref m43, .ref m44, .int (nI (mkn)), .ref m46, .ref m47, .ref m48, .ref m49, .ref m50, .int (nI (mka))])), (m1, .inl (mc1, 120, .inl g1_18))]) hP hD hS hA [29, 30] rfl kc_nd_968 rfl
    have hPc := hCu.1
    have hDc := hCu.2.1
    have hFc := hCu.2.2
    have hKc := hK.sb (tys2 := [(mc1, .byte)]) [0] rfl
    refine va_callv (va_runV (As := [.int p2]) (rest := []) ⟨hx, hb, hml, hown, hts⟩ (s_put10 l dC dI jM m1 mc1 g1_18 (.int 0 : Value) (.ref m2 : Value) (.ref m3 : Value) (.ref m4 : Value) (((v5 : Value) : Value) : Value) (.int (nI (mkl)) : Value) (.int (nI (mku)) : Value) (((v9 : Value) : Value) : Value) (((v10 : Value) : Value) : Value) (((v11 : Value) : Value) : Value) (((v12 : Value) : Value) : Value) (((v13 : Value) : Value) : Value) (((v14 : Value) : Value) : Value) (((v15 : Value) : Value) : Value) (((v16 : Value) : Value) : Value) (((v17 : Value) : Value) : Value) (((v18 : Value) : Value) : Value) (.ref m19 : Value) (.ref m20 : Value) (.ref m21 : Value) (.ref m22 : Value) (.ref m23 : Value) (.ref m24 : Value) (.ref m25 : Value) (.int (nI (mps)) : Value) (.int (nI (mkw)) : Value) (.ref m28 : Value) (.ref m29 : Value) (.ref m30 : Value) (.ref m31 : Value) (.ref m32 : Value) (.ref m33 : Value) (.ref m34 : Value) (.ref m35 : Value) (.ref m36 : Value) (.int thr : Value) (.int (nI (ho)) : Value) (.long xx : Value) (.ref m40 : Value) (.ref m41 : Value) (.ref m42 : Value) (.ref m43 : Value) (.ref m44 : Value) (.int (nI (mkn)) : Value) (.ref m46 : Value) (.ref m47 : Value) (.ref m48 : Value) (.ref m49 : Value) (.ref m50 : Value) (.int (nI (mka)) : Value) (ml + kCnt p0 + kCnt p1) p2 bd_20 H.size) (cwV 1 hts (kG (List.forall_mem_cons.mpr ⟨(List.mem_cons_of_mem _ (List.mem_append_left _ (List.mem_of_getElem? (i := 7) rfl))), (List.forall_mem_cons.mpr ⟨(List.mem_cons_of_mem _ (List.mem_append_left _ (List.mem_of_getElem? (i := 6) rfl))), (List.forall_mem_cons.mpr ⟨(List.mem_cons_of_mem _ (List.mem_append_left _ (List.mem_of_getElem? (i := 5) rfl))), (List.forall_mem_cons.mpr ⟨(List.mem_cons_of_mem _ (List.mem_append_left _ (List.mem_of_getElem? (i := 2) rfl))), (fun _ h => absurd h List.not_mem_nil)⟩)⟩)⟩)⟩) (kGV _ _ _ _) (fun _ h => List.mem_cons_of_mem _ (List.mem_append_right _ (List.mem_append_right _ (List.mem_append_right _ h)))) gw_s_put10) rfl rfl rfl ⟨rfl, hd_X10_put⟩ ⟨(Nat.le_of_ble_eq_true rfl), (Nat.le_of_ble_eq_true rfl)⟩) (kW_V kT_blind kT_give (va_recv hKc hPc (ci := 10) (q0 := 0) rfl rfl) hPc hKc hDc) rfl rfl hl.1 rfl (lv_room (Nat.le_of_ble_eq_true rfl)) dX10_feed_55 ⟨(Nat.le_of_ble_eq_true rfl), (Nat.le_of_ble_eq_true rfl)⟩) hS (fun q _ h => hFc q h) hFc (fun u t H1 locs ht hvm hw hB hz1 hk1 hS => ?_)
    obtain ⟨g1_21, rfl⟩ : ∃ z, z = u := ⟨_, rfl⟩
    obtain ⟨hP1, hK1, hD1⟩ := hB
    rw [ht] at hP1
    try dsimp only at hw
    have hPD : kPD dC dI A [(m2, .inl (mc2, 1680, .inl mf2)), (m3, .inl (mc3, 14, .inl mf3)), (m4, .inl (mc4, 128, .inl mf4)), (m19, .inl (mc19, 10, .inl mf19)), (m20, .inl (mc20, 10, .inl mf20)), (m21, .inl (mc21, 10, .inl mf21)), (m22, .inl (mc22, 10, .inl mf22)), (m23, .inl (mc23, 10, .inl mf23)), (m24, .inl (mc24, 4, .inl mf24)), (m25, .inl (mc25, 10, .inl mf25)), (m28, .inl (mc28, 10, .inl mf28)), (m29, .inl (mc29, 10, .inl mf29)), (m30, .inl (mc30, 10, .inl mf30)), (m31, .inl (mc31, 10, .inl mf31)), (m32, .inl (mc32, 10, .inl mf32)), (m33, .inl (mc33, 10, .inl mf33)), (m34, .inl (mc34, 10, .inl mf34)), (m35, .inl (mc35, 10, .inl mf35)), (m36, .inl (mc36, 10, .inl mf36)), (m40, .inl (mc40, 20, .inl mf40)), (m41, .inl (mc41, 20, .inl mf41)), (m42, .inl (mc42, 20, .inl mf42)), (m43, .inl (mc43, 20, .inl mf43)), (m44, .inl (mc44, 20, .inl mf44)), (m46, .inl (mc46, 14, .inr (.inl mf46))), (m47, .inl (mc47, 6, .inl mf47)), (m48, .inl (mc48, 6, .inl mf48)), (m49, .inl (mc49, 6, .inl mf49)), (m50, .inl (mc50, 6, .inl mf50)), (jM, .inr (10, [.int 0, .ref m1, .ref m2, .ref m3, .ref m4, (((v5 : Value) : Value) : Value), .int (nI (ml + kCnt p0 + kCnt p1 + kCnt p2)), .int (nI (mkl)), .int (nI (mku)), (((v9 : Value) : Value) : Value), (((v10 : Value) : Value) : Value), (((v11 : Value) : Value) : Value), (((v12 : Value) : Value) : Value), (((v13 : Value) : Value) : Value), (((v14 : Value) : Value) : Value), (((v15 : Value) : Value) : Value), (((v16 : Value) : Value) : Value), (((v17 : Value) : Value) : Value), (((v18 : Value) : Value) : Value), .ref m19, .ref m20, .ref m21, .ref m22, .ref m23, .ref m24, .ref m25, .int (nI (mps)), .int (nI (mkw)), .ref m28, .ref m29, .ref m30, .ref m31, .ref m32, .ref m33, .ref m34, .ref m35, .ref m36, .int thr, .int (nI (ho)), .long xx, .ref m40, .ref m41, .ref m42, .ref m43, .ref m44, .int (nI (mkn)), .ref m46, .ref m47, .ref m48, .ref m49, .ref m50, .int (nI (mka))])), (m1, .inl (mc1, 120, .inl g1_21))] H1 := kJoin hP hD [29, 30] [0, 1, 2, 3, 4, 5, 6, 7, 8, 9, 10, 11, 12, 13, 14, 15, 16, 17, 18, 19, 20, 21, 22, 23, 24, 25, 26, 27, 28] rfl rfl (by decide) (by decide) hk1 hFc hP1 hD1 rfl
    obtain ⟨hP, hD⟩ := hPD
    generalize H1 = H at hP hS ⊢
    refine lv_aload_n hx hb dX10_feed_58 rfl (lv_at hl 0 rfl) ?_
    refine lv_iload hx hb dX10_feed_59 (lv_at hl 4 rfl) ?_
    have bd_23 : (ml + kCnt p0 + kCnt p1 + kCnt p2) + kCnt p3 ≤ 120 := by omega
    have hCu := kCut (wc := [(jM, .inr (10, [.int 0, .ref m1, .ref m2, .ref m3, .ref m4, (((v5 : Value) : Value) : Value), .int (nI (ml + kCnt p0 + kCnt p1 + kCnt p2)), .int (nI (mkl)), .int (nI (mku)), (((v9 : Value) : Value) : Value), (((v10 : Value) : Value) : Value), (((v11 : Value) : Value) : Value), (((v12 : Value) : Value) : Value), (((v13 : Value) : Value) : Value), (((v14 : Value) : Value) : Value), (((v15 : Value) : Value) : Value), (((v16 : Value) : Value) : Value), (((v17 : Value) : Value) : Value), (((v18 : Value) : Value) : Value), .ref m19, .ref m20, .ref m21, .ref m22, .ref m23, .ref m24, .ref m25, .int (nI (mps)), .int (nI (mkw)), .ref m28, .ref m29, .ref m30, .ref m31, .ref m32, .ref m33, .ref m34, .ref m35, .ref m36, .int thr, .int (nI (ho)), .long xx, .ref m40, .ref m41, .ref m42, .ref m43, .ref m44, .int (nI (mkn)), .ref m46, .ref m47, .ref m48, .ref m49, .ref m50, .int (nI (mka))])), (m1, .inl (mc1, 120, .inl g1_21))]) hP hD hS hA [29, 30] rfl kc_nd_968 rfl
    have hPc := hCu.1
    have hDc := hCu.2.1
    have hFc := hCu.2.2
    have hKc := hK.sb (tys2 := [(mc1, .byte)]) [0] rfl
    refine va_callv (va_runV (As := [.int p3]) (rest := []) ⟨hx, hb, hml, hown, hts⟩ (s_put10 l dC dI jM m1 mc1 g1_21 (.int 0 : Value) (.ref m2 : Value) (.ref m3 : Value) (.ref m4 : Value) ((((v5 : Value) : Value) : Value) : Value) (.int (nI (mkl)) : Value) (.int (nI (mku)) : Value) ((((v9 : Value) : Value) : Value) : Value) ((((v10 : Value) : Value) : Value) : Value) ((((v11 : Value) : Value) : Value) : Value) ((((v12 : Value) : Value) : Value) : Value) ((((v13 : Value) : Value) : Value) : Value) ((((v14 : Value) : Value) : Value) : Value) ((((v15 : Value) : Value) : Value) : Value) ((((v16 : Value) : Value) : Value) : Value) ((((v17 : Value) : Value) : Value) : Value) ((((v18 : Value) : Value) : Value) : Value) (.ref m19 : Value) (.ref m20 : Value) (.ref m21 : Value) (.ref m22 : Value) (.ref m23 : Value) (.ref m24 : Value) (.ref m25 : Value) (.int (nI (mps)) : Value) (.int (nI (mkw)) : Value) (.ref m28 : Value) (.ref m29 : Value) (.ref m30 : Value) (.ref m31 : Value) (.ref m32 : Value) (.ref m33 : Value) (.ref m34 : Value) (.ref m35 : Value) (.ref m36 : Value) (.int thr : Value) (.int (nI (ho)) : Value) (.long xx : Value) (.ref m40 : Value) (.ref m41 : Value) (.ref m42 : Value) (.ref m43 : Value) (.ref m44 : Value) (.int (nI (mkn)) : Value) (.ref m46 : Value) (.ref m47 : Value) (.ref m48 : Value) (.ref m49 : Value) (.ref m50 : Value) (.int (nI (mka)) : Value) (ml + kCnt p0 + kCnt p1 + kCnt p2) p3 bd_23 H.size) (cwV 1 hts (kG (List.forall_mem_cons.mpr ⟨(List.mem_cons_of_mem _ (List.mem_append_left _ (List.mem_of_getElem? (i := 7) rfl))), (List.forall_mem_cons.mpr ⟨(List.mem_cons_of_mem _ (List.mem_append_left _ (List.mem_of_getElem? (i := 6) rfl))), (List.forall_mem_cons.mpr ⟨(List.mem_cons_of_mem _ (List.mem_append_left _ (List.mem_of_getElem? (i := 5) rfl))), (List.forall_mem_cons.mpr ⟨(List.mem_cons_of_mem _ (List.mem_append_left _ (List.mem_of_getElem? (i := 2) rfl))), (fun _ h => absurd h List.not_mem_nil)⟩)⟩)⟩)⟩) (kGV _ _ _ _) (fun _ h => List.mem_cons_of_mem _ (List.mem_append_right _ (List.mem_append_right _ (List.mem_append_right _ h)))) gw_s_put10) rfl rfl rfl ⟨rfl, hd_X10_put⟩ ⟨(Nat.le_of_ble_eq_true rfl), (Nat.le_of_ble_eq_true rfl)⟩) (kW_V kT_blind kT_give (va_recv hKc hPc (ci := 10) (q0 := 0) rfl rfl) hPc hKc hDc) rfl rfl hl.1 rfl (lv_room (Nat.le_of_ble_eq_true rfl)) dX10_feed_61 ⟨(Nat.le_of_ble_eq_true rfl), (Nat.le_of_ble_eq_true rfl)⟩) hS (fun q _ h => hFc q h) hFc (fun u t H1 locs ht hvm hw hB hz1 hk1 hS => ?_)
    obtain ⟨g1_24, rfl⟩ : ∃ z, z = u := ⟨_, rfl⟩
    obtain ⟨hP1, hK1, hD1⟩ := hB
    rw [ht] at hP1
    try dsimp only at hw
    have hPD : kPD dC dI A [(m2, .inl (mc2, 1680, .inl mf2)), (m3, .inl (mc3, 14, .inl mf3)), (m4, .inl (mc4, 128, .inl mf4)), (m19, .inl (mc19, 10, .inl mf19)), (m20, .inl (mc20, 10, .inl mf20)), (m21, .inl (mc21, 10, .inl mf21)), (m22, .inl (mc22, 10, .inl mf22)), (m23, .inl (mc23, 10, .inl mf23)), (m24, .inl (mc24, 4, .inl mf24)), (m25, .inl (mc25, 10, .inl mf25)), (m28, .inl (mc28, 10, .inl mf28)), (m29, .inl (mc29, 10, .inl mf29)), (m30, .inl (mc30, 10, .inl mf30)), (m31, .inl (mc31, 10, .inl mf31)), (m32, .inl (mc32, 10, .inl mf32)), (m33, .inl (mc33, 10, .inl mf33)), (m34, .inl (mc34, 10, .inl mf34)), (m35, .inl (mc35, 10, .inl mf35)), (m36, .inl (mc36, 10, .inl mf36)), (m40, .inl (mc40, 20, .inl mf40)), (m41, .inl (mc41, 20, .inl mf41)), (m42, .inl (mc42, 20, .inl mf42)), (m43, .inl (mc43, 20, .inl mf43)), (m44, .inl (mc44, 20, .inl mf44)), (m46, .inl (mc46, 14, .inr (.inl mf46))), (m47, .inl (mc47, 6, .inl mf47)), (m48, .inl (mc48, 6, .inl mf48)), (m49, .inl (mc49, 6, .inl mf49)), (m50, .inl (mc50, 6, .inl mf50)), (jM, .inr (10, [.int 0, .ref m1, .ref m2, .ref m3, .ref m4, ((((v5 : Value) : Value) : Value) : Value), .int (nI (ml + kCnt p0 + kCnt p1 + kCnt p2 + kCnt p3)), .int (nI (mkl)), .int (nI (mku)), ((((v9 : Value) : Value) : Value) : Value), ((((v10 : Value) : Value) : Value) : Value), ((((v11 : Value) : Value) : Value) : Value), ((((v12 : Value) : Value) : Value) : Value), ((((v13 : Value) : Value) : Value) : Value), ((((v14 : Value) : Value) : Value) : Value), ((((v15 : Value) : Value) : Value) : Value), ((((v16 : Value) : Value) : Value) : Value), ((((v17 : Value) : Value) : Value) : Value), ((((v18 : Value) : Value) : Value) : Value), .ref m19, .ref m20, .ref m21, .ref m22, .ref m23, .ref m24, .ref m25, .int (nI (mps)), .int (nI (mkw)), .ref m28, .ref m29, .ref m30, .ref m31, .ref m32, .ref m33, .ref m34, .ref m35, .ref m36, .int thr, .int (nI (ho)), .long xx, .ref m40, .ref m41, .ref m42, .ref m43, .ref m44, .int (nI (mkn)), .ref m46, .ref m47, .ref m48, .ref m49, .ref m50, .int (nI (mka))])), (m1, .inl (mc1, 120, .inl g1_24))] H1 := kJoin hP hD [29, 30] [0, 1, 2, 3, 4, 5, 6, 7, 8, 9, 10, 11, 12, 13, 14, 15, 16, 17, 18, 19, 20, 21, 22, 23, 24, 25, 26, 27, 28] rfl rfl (by decide) (by decide) hk1 hFc hP1 hD1 rfl
    obtain ⟨hP, hD⟩ := hPD
    generalize H1 = H at hP hS ⊢
    refine lv_aload_n hx hb dX10_feed_64 rfl (lv_at hl 0 rfl) ?_
    refine lv_iload hx hb dX10_feed_65 (lv_at hl 5 rfl) ?_
    have bd_26 : (ml + kCnt p0 + kCnt p1 + kCnt p2 + kCnt p3) + kCnt p4 ≤ 120 := by omega
    have hCu := kCut (wc := [(jM, .inr (10, [.int 0, .ref m1, .ref m2, .ref m3, .ref m4, ((((v5 : Value) : Value) : Value) : Value), .int (nI (ml + kCnt p0 + kCnt p1 + kCnt p2 + kCnt p3)), .int (nI (mkl)), .int (nI (mku)), ((((v9 : Value) : Value) : Value) : Value), ((((v10 : Value) : Value) : Value) : Value), ((((v11 : Value) : Value) : Value) : Value), ((((v12 : Value) : Value) : Value) : Value), ((((v13 : Value) : Value) : Value) : Value), ((((v14 : Value) : Value) : Value) : Value), ((((v15 : Value) : Value) : Value) : Value), ((((v16 : Value) : Value) : Value) : Value), ((((v17 : Value) : Value) : Value) : Value), ((((v18 : Value) : Value) : Value) : Value), .ref m19, .ref m20, .ref m21, .ref m22, .ref m23, .ref m24, .ref m25, .int (nI (mps)), .int (nI (mkw)), .ref m28, .ref m29, .ref m30, .ref m31, .ref m32, .ref m33, .ref m34, .ref m35, .ref m36, .int thr, .int (nI (ho)), .long xx, .ref m40, .ref m41, .ref m42, .ref m43, .ref m44, .int (nI (mkn)), .ref m46, .ref m47, .ref m48, .ref m49, .ref m50, .int (nI (mka))])), (m1, .inl (mc1, 120, .inl g1_24))]) hP hD hS hA [29, 30] rfl kc_nd_968 rfl
    have hPc := hCu.1
    have hDc := hCu.2.1
    have hFc := hCu.2.2
    have hKc := hK.sb (tys2 := [(mc1, .byte)]) [0] rfl
    refine va_callv (va_runV (As := [.int p4]) (rest := []) ⟨hx, hb, hml, hown, hts⟩ (s_put10 l dC dI jM m1 mc1 g1_24 (.int 0 : Value) (.ref m2 : Value) (.ref m3 : Value) (.ref m4 : Value) (((((v5 : Value) : Value) : Value) : Value) : Value) (.int (nI (mkl)) : Value) (.int (nI (mku)) : Value) (((((v9 : Value) : Value) : Value) : Value) : Value) (((((v10 : Value) : Value) : Value) : Value) : Value) (((((v11 : Value) : Value) : Value) : Value) : Value) (((((v12 : Value) : Value) : Value) : Value) : Value) (((((v13 : Value) : Value) : Value) : Value) : Value) (((((v14 : Value) : Value) : Value) : Value) : Value) (((((v15 : Value) : Value) : Value) : Value) : Value) (((((v16 : Value) : Value) : Value) : Value) : Value) (((((v17 : Value) : Value) : Value) : Value) : Value) (((((v18 : Value) : Value) : Value) : Value) : Value) (.ref m19 : Value) (.ref m20 : Value) (.ref m21 : Value) (.ref m22 : Value) (.ref m23 : Value) (.ref m24 : Value) (.ref m25 : Value) (.int (nI (mps)) : Value) (.int (nI (mkw)) : Value) (.ref m28 : Value) (.ref m29 : Value) (.ref m30 : Value) (.ref m31 : Value) (.ref m32 : Value) (.ref m33 : Value) (.ref m34 : Value) (.ref m35 : Value) (.ref m36 : Value) (.int thr : Value) (.int (nI (ho)) : Value) (.long xx : Value) (.ref m40 : Value) (.ref m41 : Value) (.ref m42 : Value) (.ref m43 : Value) (.ref m44 : Value) (.int (nI (mkn)) : Value) (.ref m46 : Value) (.ref m47 : Value) (.ref m48 : Value) (.ref m49 : Value) (.ref m50 : Value) (.int (nI (mka)) : Value) (ml + kCnt p0 + kCnt p1 + kCnt p2 + kCnt p3) p4 bd_26 H.size) (cwV 1 hts (kG (List.forall_mem_cons.mpr ⟨(List.mem_cons_of_mem _ (List.mem_append_left _ (List.mem_of_getElem? (i := 7) rfl))), (List.forall_mem_cons.mpr ⟨(List.mem_cons_of_mem _ (List.mem_append_left _ (List.mem_of_getElem? (i := 6) rfl))), (List.forall_mem_cons.mpr ⟨(List.mem_cons_of_mem _ (List.mem_append_left _ (List.mem_of_getElem? (i := 5) rfl))), (List.forall_mem_cons.mpr ⟨(List.mem_cons_of_mem _ (List.mem_append_left _ (List.mem_of_getElem? (i := 2) rfl))), (fun _ h => absurd h List.not_mem_nil)⟩)⟩)⟩)⟩) (kGV _ _ _ _) (fun _ h => List.mem_cons_of_mem _ (List.mem_append_right _ (List.mem_append_right _ (List.mem_append_right _ h)))) gw_s_put10) rfl rfl rfl ⟨rfl, hd_X10_put⟩ ⟨(Nat.le_of_ble_eq_true rfl), (Nat.le_of_ble_eq_true rfl)⟩) (kW_V kT_blind kT_give (va_recv hKc hPc (ci := 10) (q0 := 0) rfl rfl) hPc hKc hDc) rfl rfl hl.1 rfl (lv_room (Nat.le_of_ble_eq_true rfl)) dX10_feed_67 ⟨(Nat.le_of_ble_eq_true rfl), (Nat.le_of_ble_eq_true rfl)⟩) hS (fun q _ h => hFc q h) hFc (fun u t H1 locs ht hvm hw hB hz1 hk1 hS => ?_)
    obtain ⟨g1_27, rfl⟩ : ∃ z, z = u := ⟨_, rfl⟩
    obtain ⟨hP1, hK1, hD1⟩ := hB
    rw [ht] at hP1
    try dsimp only at hw
    have hPD : kPD dC dI A [(m2, .inl (mc2, 1680, .inl mf2)), (m3, .inl (mc3, 14, .inl mf3)), (m4, .inl (mc4, 128, .inl mf4)), (m19, .inl (mc19, 10, .inl mf19)), (m20, .inl (mc20, 10, .inl mf20)), (m21, .inl (mc21, 10, .inl mf21)), (m22, .inl (mc22, 10, .inl mf22)), (m23, .inl (mc23, 10, .inl mf23)), (m24, .inl (mc24, 4, .inl mf24)), (m25, .inl (mc25, 10, .inl mf25)), (m28, .inl (mc28, 10, .inl mf28)), (m29, .inl (mc29, 10, .inl mf29)), (m30, .inl (mc30, 10, .inl mf30)), (m31, .inl (mc31, 10, .inl mf31)), (m32, .inl (mc32, 10, .inl mf32)), (m33, .inl (mc33, 10, .inl mf33)), (m34, .inl (mc34, 10, .inl mf34)), (m35, .inl (mc35, 10, .inl mf35)), (m36, .inl (mc36, 10, .inl mf36)), (m40, .inl (mc40, 20, .inl mf40)), (m41, .inl (mc41, 20, .inl mf41)), (m42, .inl (mc42, 20, .inl mf42)), (m43, .inl (mc43, 20, .inl mf43)), (m44, .inl (mc44, 20, .inl mf44)), (m46, .inl (mc46, 14, .inr (.inl mf46))), (m47, .inl (mc47, 6, .inl mf47)), (m48, .inl (mc48, 6, .inl mf48)), (m49, .inl (mc49, 6, .inl mf49)), (m50, .inl (mc50, 6, .inl mf50)), (jM, .inr (10, [.int 0, .ref m1, .ref m2, .ref m3, .ref m4, (((((v5 : Value) : Value) : Value) : Value) : Value), .int (nI (ml + kCnt p0 + kCnt p1 + kCnt p2 + kCnt p3 + kCnt p4)), .int (nI (mkl)), .int (nI (mku)), (((((v9 : Value) : Value) : Value) : Value) : Value), (((((v10 : Value) : Value) : Value) : Value) : Value), (((((v11 : Value) : Value) : Value) : Value) : Value), (((((v12 : Value) : Value) : Value) : Value) : Value), (((((v13 : Value) : Value) : Value) : Value) : Value), (((((v14 : Value) : Value) : Value) : Value) : Value), (((((v15 : Value) : Value) : Value) : Value) : Value), (((((v16 : Value) : Value) : Value) : Value) : Value), (((((v17 : Value) : Value) : Value) : Value) : Value), (((((v18 : Value) : Value) : Value) : Value) : Value), .ref m19, .ref m20, .ref m21, .ref m22, .ref m23, .ref m24, .ref m25, .int (nI (mps)), .int (nI (mkw)), .ref m28, .ref m29, .ref m30, .ref m31, .ref m32, .ref m33, .ref m34, .ref m35, .ref m36, .int thr, .int (nI (ho)), .long xx, .ref m40, .ref m41, .ref m42, .ref m43, .ref m44, .int (nI (mkn)), .ref m46, .ref m47, .ref m48, .ref m49, .ref m50, .int (nI (mka))])), (m1, .inl (mc1, 120, .inl g1_27))] H1 := kJoin hP hD [29, 30] [0, 1, 2, 3, 4, 5, 6, 7, 8, 9, 10, 11, 12, 13, 14, 15, 16, 17, 18, 19, 20, 21, 22, 23, 24, 25, 26, 27, 28] rfl rfl (by decide) (by decide) hk1 hFc hP1 hD1 rfl
    obtain ⟨hP, hD⟩ := hPD
    generalize H1 = H at hP hS ⊢
    refine lv_aload_n hx hb dX10_feed_70 rfl (lv_at hl 0 rfl) ?_
    refine va_get (D := (dC, dI)) (ci := 10) (v := .int (nI (ml + kCnt p0 + kCnt p1 + kCnt p2 + kCnt p3 + kCnt p4))) (C := RX10) (T := TX10) (N := 52) hx hb hts (fun _ h => List.mem_cons_of_mem _ (List.mem_append_right _ (List.mem_append_left _ h))) hown hK hP 29 rfl rfl 6 kc_l_6_52 (hts (.fieldLink RX10 131 "NotEndedModel" "length" "I") (List.mem_cons_of_mem _ (List.mem_append_left _ (List.mem_of_getElem? (i := 1) rfl)))) (fun _ h9 => h9) rfl dX10_feed_71 ?_
    have hPD : kPD dC dI A [(jM, .inr (10, [.int 0, .ref m1, .ref m2, .ref m3, .ref m4, (((((v5 : Value) : Value) : Value) : Value) : Value), .int (nI (ml + kCnt p0 + kCnt p1 + kCnt p2 + kCnt p3 + kCnt p4)), .int (nI (mkl)), .int (nI (mku)), (((((v9 : Value) : Value) : Value) : Value) : Value), (((((v10 : Value) : Value) : Value) : Value) : Value), (((((v11 : Value) : Value) : Value) : Value) : Value), (((((v12 : Value) : Value) : Value) : Value) : Value), (((((v13 : Value) : Value) : Value) : Value) : Value), (((((v14 : Value) : Value) : Value) : Value) : Value), (((((v15 : Value) : Value) : Value) : Value) : Value), (((((v16 : Value) : Value) : Value) : Value) : Value), (((((v17 : Value) : Value) : Value) : Value) : Value), (((((v18 : Value) : Value) : Value) : Value) : Value), .ref m19, .ref m20, .ref m21, .ref m22, .ref m23, .ref m24, .ref m25, .int (nI (mps)), .int (nI (mkw)), .ref m28, .ref m29, .ref m30, .ref m31, .ref m32, .ref m33, .ref m34, .ref m35, .ref m36, .int thr, .int (nI (ho)), .long xx, .ref m40, .ref m41, .ref m42, .ref m43, .ref m44, .int (nI (mkn)), .ref m46, .ref m47, .ref m48, .ref m49, .ref m50, .int (nI (mka))])), (m1, .inl (mc1, 120, .inl g1_27)), (m2, .inl (mc2, 1680, .inl mf2)), (m3, .inl (mc3, 14, .inl mf3)), (m4, .inl (mc4, 128, .inl mf4)), (m19, .inl (mc19, 10, .inl mf19)), (m20, .inl (mc20, 10, .inl mf20)), (m21, .inl (mc21, 10, .inl mf21)), (m22, .inl (mc22, 10, .inl mf22)), (m23, .inl (mc23, 10, .inl mf23)), (m24, .inl (mc24, 4, .inl mf24)), (m25, .inl (mc25, 10, .inl mf25)), (m28, .inl (mc28, 10, .inl mf28)), (m29, .inl (mc29, 10, .inl mf29)), (m30, .inl (mc30, 10, .inl mf30)), (m31, .inl (mc31, 10, .inl mf31)), (m32, .inl (mc32, 10, .inl mf32)), (m33, .inl (mc33, 10, .inl mf33)), (m34, .inl (mc34, 10, .inl mf34)), (m35, .inl (mc35, 10, .inl mf35)), (m36, .inl (mc36, 10, .inl mf36)), (m40, .inl (mc40, 20, .inl mf40)), (m41, .inl (mc41, 20, .inl mf41)), (m42, .inl (mc42, 20, .inl mf42)), (m43, .inl (mc43, 20, .inl mf43)), (m44, .inl (mc44, 20, .inl mf44)), (m46, .inl (mc46, 14, .inr (.inl mf46))), (m47, .inl (mc47, 6, .inl mf47)), (m48, .inl (mc48, 6, .inl mf48)), (m49, .inl (mc49, 6, .inl mf49)), (m50, .inl (mc50, 6, .inl mf50))] H := ⟨hP.sub [29, 30, 0, 1, 2, 3, 4, 5, 6, 7, 8, 9, 10, 11, 12, 13, 14, 15, 16, 17, 18, 19, 20, 21, 22, 23, 24, 25, 26, 27, 28] rfl, hD.sub [29, 30, 0, 1, 2, 3, 4, 5, 6, 7, 8, 9, 10, 11, 12, 13, 14, 15, 16, 17, 18, 19, 20, 21, 22, 23, 24, 25, 26, 27, 28] kc_nd_969 rfl⟩
    obtain ⟨hP9, hD9⟩ := hPD
    have hK9 := hK
    rw [hQ]
    exact W.iret (v := nI (ml + kCnt p0 + kCnt p1 + kCnt p2 + kCnt p3 + kCnt p4)) hx hb hr (fun t ht hW => ⟨⟨nI (ml + kCnt p0 + kCnt p1 + kCnt p2 + kCnt p3 + kCnt p4), (g1_27, 0, (ml + kCnt p0 + kCnt p1 + kCnt p2 + kCnt p3 + kCnt p4)), rfl, (by omega),  by rw [ht]; exact hP9, va_K.moved hW.alike hK9, hD9⟩, hS.F ht⟩) hS.2.2 dX10_feed_74
  · have bd_30 : ml + kCnt p0 + kCnt p1 + kCnt p2 + kCnt p3 + kCnt p4 < 2147483648 := by omega
    have hn_29 := knle (a := ml + kCnt p0 + kCnt p1 + kCnt p2 + kCnt p3 + kCnt p4) (b := 120) bd_30 kc_31_120 c_11
    refine lv_iconst (v := (-1)) hx hb dX10_feed_41 kc_i_m1 ?_
    have hP9 := hP
    have hD9 := hD
    have hK9 := hK
    rw [hQ]
    exact W.iret (v := (-1)) hx hb hr (fun t ht hW => ⟨⟨(-1), (mf1, 0, ml), rfl, (by omega),  by rw [ht]; exact hP9, va_K.moved hW.alike hK9, hD9⟩, hS.F ht⟩) hS.2.2 dX10_feed_42
