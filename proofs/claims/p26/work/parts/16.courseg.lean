theorem dX1_tell_0 : decode cX1_tell 0 = .ok (.aload_n 0, 1) := kDs0 kf_42 (by decide +kernel)
theorem dX1_tell_1 : decode cX1_tell 1 = .ok (.getfield 33, 3) := kDs2 kf_180 (by decide +kernel)
theorem dX1_tell_4 : decode cX1_tell 4 = .ok (.iconst 0, 1) := kDs0 kf_3 (by decide +kernel)
theorem dX1_tell_5 : decode cX1_tell 5 = .ok (.invokestatic 161, 3) := kDs2 kf_184 (by decide +kernel)
theorem dX1_tell_8 : decode cX1_tell 8 = .ok (.iconst 0, 1) := kDs0 kf_3 (by decide +kernel)
theorem dX1_tell_9 : decode cX1_tell 9 = .ok (.istore_n 1, 1) := kDs0 kf_60 (by decide +kernel)
theorem dX1_tell_10 : decode cX1_tell 10 = .ok (.iload_n 1, 1) := kDs0 kf_27 (by decide +kernel)
theorem dX1_tell_11 : decode cX1_tell 11 = .ok (.aload_n 0, 1) := kDs0 kf_42 (by decide +kernel)
theorem dX1_tell_12 : decode cX1_tell 12 = .ok (.getfield 67, 3) := kDs2 kf_180 (by decide +kernel)
theorem dX1_tell_15 : decode cX1_tell 15 = .ok (.invokevirtual 84, 3) := kDs2 kf_182 (by decide +kernel)
theorem dX1_tell_18 : decode cX1_tell 18 = .ok (.if_icmp .ge 56, 3) := kDs4 kf_162 (by decide +kernel)
theorem dX1_tell_74 : decode cX1_tell 74 = .ok (.iconst 0, 1) := kDs0 kf_3 (by decide +kernel)
theorem dX1_tell_75 : decode cX1_tell 75 = .ok (.istore_n 1, 1) := kDs0 kf_60 (by decide +kernel)
theorem dX1_tell_76 : decode cX1_tell 76 = .ok (.iload_n 1, 1) := kDs0 kf_27 (by decide +kernel)
theorem dX1_tell_77 : decode cX1_tell 77 = .ok (.aload_n 0, 1) := kDs0 kf_42 (by decide +kernel)
theorem dX1_tell_78 : decode cX1_tell 78 = .ok (.getfield 67, 3) := kDs2 kf_180 (by decide +kernel)
theorem dX1_tell_81 : decode cX1_tell 81 = .ok (.invokevirtual 84, 3) := kDs2 kf_182 (by decide +kernel)
theorem dX1_tell_84 : decode cX1_tell 84 = .ok (.if_icmp .ge 45, 3) := kDs4 kf_162 (by decide +kernel)
theorem dX1_tell_129 : decode cX1_tell 129 = .ok (.return_, 1) := kDs0 kf_177 (by decide +kernel)
theorem dX1_tell_87 : decode cX1_tell 87 = .ok (.aload_n 0, 1) := kDs0 kf_42 (by decide +kernel)
theorem dX1_tell_88 : decode cX1_tell 88 = .ok (.getfield 61, 3) := kDs2 kf_180 (by decide +kernel)
theorem dX1_tell_91 : decode cX1_tell 91 = .ok (.iload_n 1, 1) := kDs0 kf_27 (by decide +kernel)
theorem dX1_tell_92 : decode cX1_tell 92 = .ok (.invokestatic 116, 3) := kDs2 kf_184 (by decide +kernel)
theorem dX1_tell_95 : decode cX1_tell 95 = .ok (.ifCond .eq 28, 3) := kDs4 kf_153 (by decide +kernel)
theorem dX1_tell_123 : decode cX1_tell 123 = .ok (.iinc 1 1, 3) := kDs5 kf_132 (by decide +kernel)
theorem dX1_tell_126 : decode cX1_tell 126 = .ok (.goto (-50), 3) := kDs4 kf_167 (by decide +kernel)
theorem dX1_tell_98 : decode cX1_tell 98 = .ok (.aload_n 0, 1) := kDs0 kf_42 (by decide +kernel)
theorem dX1_tell_99 : decode cX1_tell 99 = .ok (.getfield 9, 3) := kDs2 kf_180 (by decide +kernel)
theorem dX1_tell_102 : decode cX1_tell 102 = .ok (.iload_n 1, 1) := kDs0 kf_27 (by decide +kernel)
theorem dX1_tell_103 : decode cX1_tell 103 = .ok (.aload_n 0, 1) := kDs0 kf_42 (by decide +kernel)
theorem dX1_tell_104 : decode cX1_tell 104 = .ok (.getfield 9, 3) := kDs2 kf_180 (by decide +kernel)
theorem dX1_tell_107 : decode cX1_tell 107 = .ok (.iload_n 1, 1) := kDs0 kf_27 (by decide +kernel)
theorem dX1_tell_108 : decode cX1_tell 108 = .ok (.iaload, 1) := kDs0 kf_46 (by decide +kernel)
theorem dX1_tell_109 : decode cX1_tell 109 = .ok (.aload_n 0, 1) := kDs0 kf_42 (by decide +kernel)
theorem dX1_tell_110 : decode cX1_tell 110 = .ok (.getfield 33, 3) := kDs2 kf_180 (by decide +kernel)
theorem dX1_tell_113 : decode cX1_tell 113 = .ok (.iload_n 1, 1) := kDs0 kf_27 (by decide +kernel)
theorem dX1_tell_114 : decode cX1_tell 114 = .ok (.iaload, 1) := kDs0 kf_46 (by decide +kernel)
theorem dX1_tell_115 : decode cX1_tell 115 = .ok (.iadd, 1) := kDs0 kf_96 (by decide +kernel)
theorem dX1_tell_116 : decode cX1_tell 116 = .ok (.iconst 0, 1) := kDs0 kf_3 (by decide +kernel)
theorem dX1_tell_117 : decode cX1_tell 117 = .ok (.bipush 100, 2) := kDs3 kf_16 (by decide +kernel)
theorem dX1_tell_119 : decode cX1_tell 119 = .ok (.invokestatic 147, 3) := kDs2 kf_184 (by decide +kernel)
theorem dX1_tell_122 : decode cX1_tell 122 = .ok (.iastore, 1) := kDs0 kf_79 (by decide +kernel)
theorem dX1_tell_21 : decode cX1_tell 21 = .ok (.aload_n 0, 1) := kDs0 kf_42 (by decide +kernel)
theorem dX1_tell_22 : decode cX1_tell 22 = .ok (.getfield 61, 3) := kDs2 kf_180 (by decide +kernel)
theorem dX1_tell_25 : decode cX1_tell 25 = .ok (.iload_n 1, 1) := kDs0 kf_27 (by decide +kernel)
theorem dX1_tell_26 : decode cX1_tell 26 = .ok (.invokestatic 116, 3) := kDs2 kf_184 (by decide +kernel)
theorem dX1_tell_29 : decode cX1_tell 29 = .ok (.ifCond .eq 39, 3) := kDs4 kf_153 (by decide +kernel)
theorem dX1_tell_68 : decode cX1_tell 68 = .ok (.iinc 1 1, 3) := kDs5 kf_132 (by decide +kernel)
theorem dX1_tell_71 : decode cX1_tell 71 = .ok (.goto (-61), 3) := kDs4 kf_167 (by decide +kernel)
theorem dX1_tell_32 : decode cX1_tell 32 = .ok (.aload_n 0, 1) := kDs0 kf_42 (by decide +kernel)
theorem dX1_tell_33 : decode cX1_tell 33 = .ok (.getfield 9, 3) := kDs2 kf_180 (by decide +kernel)
theorem dX1_tell_36 : decode cX1_tell 36 = .ok (.iload_n 1, 1) := kDs0 kf_27 (by decide +kernel)
theorem dX1_tell_37 : decode cX1_tell 37 = .ok (.iaload, 1) := kDs0 kf_46 (by decide +kernel)
theorem dX1_tell_38 : decode cX1_tell 38 = .ok (.bipush 50, 2) := kDs3 kf_16 (by decide +kernel)
theorem dX1_tell_40 : decode cX1_tell 40 = .ok (.if_icmp .lt 28, 3) := kDs4 kf_161 (by decide +kernel)
theorem dX1_tell_43 : decode cX1_tell 43 = .ok (.aload_n 0, 1) := kDs0 kf_42 (by decide +kernel)
theorem dX1_tell_44 : decode cX1_tell 44 = .ok (.getfield 21, 3) := kDs2 kf_180 (by decide +kernel)
theorem dX1_tell_47 : decode cX1_tell 47 = .ok (.iload_n 1, 1) := kDs0 kf_27 (by decide +kernel)
theorem dX1_tell_48 : decode cX1_tell 48 = .ok (.iaload, 1) := kDs0 kf_46 (by decide +kernel)
theorem dX1_tell_49 : decode cX1_tell 49 = .ok (.iconst (-1), 1) := kDs0 kf_2 (by decide +kernel)
theorem dX1_tell_50 : decode cX1_tell 50 = .ok (.if_icmp .ne 13, 3) := kDs4 kf_160 (by decide +kernel)
theorem dX1_tell_63 : decode cX1_tell 63 = .ok (.aload_n 0, 1) := kDs0 kf_42 (by decide +kernel)
theorem dX1_tell_64 : decode cX1_tell 64 = .ok (.iload_n 1, 1) := kDs0 kf_27 (by decide +kernel)
theorem dX1_tell_65 : decode cX1_tell 65 = .ok (.invokevirtual 180, 3) := kDs2 kf_182 (by decide +kernel)
theorem dX1_tell_53 : decode cX1_tell 53 = .ok (.aload_n 0, 1) := kDs0 kf_42 (by decide +kernel)
theorem dX1_tell_54 : decode cX1_tell 54 = .ok (.getfield 21, 3) := kDs2 kf_180 (by decide +kernel)
theorem dX1_tell_57 : decode cX1_tell 57 = .ok (.iload_n 1, 1) := kDs0 kf_27 (by decide +kernel)
theorem dX1_tell_58 : decode cX1_tell 58 = .ok (.aload_n 0, 1) := kDs0 kf_42 (by decide +kernel)
theorem dX1_tell_59 : decode cX1_tell 59 = .ok (.getfield 64, 3) := kDs2 kf_180 (by decide +kernel)
theorem dX1_tell_62 : decode cX1_tell 62 = .ok (.iastore, 1) := kDs0 kf_79 (by decide +kernel)
def w_s_tell1 : List Cond := .code yX1_tell cX1_tell 2 none :: ([.fieldLink RX1 33 "NotEnded$Course" "hears" "[I", .initialized RJ7, .static yJ7_fill_53178, .methodLink RX1 161 yJ7_fill_53178, .fieldLink RX1 67 "NotEnded$Course" "folk" "LNotEnded$Folk;", .initialized RX2, .selects RX2 yX2_size yX2_size, .instanceMethod yX2_size, .methodLink RX1 84 yX2_size, .fieldLink RX1 61 "NotEnded$Course" "moved" "I", .initialized RX9, .static yX9_isBit, .fieldLink RX1 9 "NotEnded$Course" "held" "[I", .static yX9_within, .fieldLink RX1 21 "NotEnded$Course" "tellsSince" "[I", .initialized RX1, .selects RX1 yX1_tellThoseKnown yX1_tellThoseKnown, .instanceMethod yX1_tellThoseKnown, .methodLink RX1 180 yX1_tellThoseKnown, .fieldLink RX1 64 "NotEnded$Course" "hour" "I"] ++ (wsX10 ++ (w_s_fill ++ (w_s_size2 ++ (w_s_isBit9 ++ (w_s_within9 ++ (w_s_tellKnown1)))))))
theorem gw_s_tell1 : (w_s_tell1).all goodWord = true := kGc rfl (kGa (by decide +kernel) (kGa gw_wsX10 (kGa gw_s_fill (kGa gw_s_size2 (kGa gw_s_isBit9 (kGa gw_s_within9 gw_s_tellKnown1))))))
theorem hd_X1_tell : yX1_tell.cls ≠ "java/lang/invoke/MethodHandle" ∧ yX1_tell.cls ≠ "java/lang/invoke/VarHandle" ∧ (parseMethodDescriptor yX1_tell.desc).map (fun d => d.parameters.length) = some 0 := by decide +kernel
set_option maxHeartbeats 4000000 in
set_option maxRecDepth 100000 in
theorem s_tell1 (l : Launch) (dC : Nat → ClassId) (dI : Nat → Nat → Nat) (jC : Nat) (d2 : Nat) (d3 : Nat) (d4 : Nat) (d5 : Nat) (d6 : Nat) (d7 : Nat) (d8 : Nat) (d9 : Nat) (d10 : Nat) (d11 : Nat) (d12 : Nat) (d13 : Nat) (w2 : ClassId) (w3 : ClassId) (w4 : ClassId) (w5 : ClassId) (w6 : ClassId) (w7 : ClassId) (w8 : ClassId) (w9 : ClassId) (w10 : ClassId) (w11 : ClassId) (w12 : ClassId) (w13 : ClassId) (e2 : Nat → Int32) (e3 : Nat → Int32) (e4 : Nat → Int32) (e5 : Nat → Int32) (e6 : Nat → Int32) (e7 : Nat → Int32) (e8 : Nat → Int32) (e9 : Nat → Int32) (e10 : Nat → Int32) (e11 : Nat → Int32) (e12 : Nat → Int32) (e13 : Nat → Int64) (dr : Int64) (pr : Int32) (mo : Int32) (ho : Int32) (hF : Nat) (f0 : Nat) (f1 : Nat) (f2 : Nat) (f3 : Nat) (f4 : Nat) (z0 : ClassId) (z1 : ClassId) (z2 : ClassId) (z3 : ClassId) (z4 : ClassId) (g0 : Nat → Int32) (g1 : Nat → Int32) (g2 : Nat → Int32) (g3 : Nat → Int32) (g4 : Nat → Int32) (sn : Int32) (ks : Nat) (kw : Nat) (hks : ks ≤ 10) (hkw : kw ≤ 4) (jK : Nat) (k0 : Nat) (k1 : Nat) (cK : ClassId) (cO : ClassId) (l0 : Nat → Int32) (l1 : Nat → Int32) (ru : Nat) (sA : Nat) (cl : Nat) (cS : ClassId) (cc : ClassId) (nS : Nat) (nC : Nat) (gS : Nat → Int32) (gC : Nat → Int32) (hnS : nS ≤ 200) (hnC : nC ≤ 200) (sz : Nat) : Met l yX1_tell w_s_tell1 ({ frames := 5, cells := 0, slots := 0, locals := 300 }) (kW dC dI [.ref jC] [(jC, .inr (1, [.ref hF, .ref jK, .ref d2, .ref d3, .ref d4, .ref d5, .ref d6, .ref d7, .ref d8, .ref d9, .ref d10, .ref d11, .ref d12, .ref d13, .ref ru, .long dr, .int pr, .int mo, .int ho])), (d2, .inl (w2, 10, .inl e2)), (d3, .inl (w3, 10, .inl e3)), (d4, .inl (w4, 10, .inl e4)), (d5, .inl (w5, 10, .inl e5)), (d6, .inl (w6, 10, .inl e6)), (d7, .inl (w7, 10, .inl e7)), (d8, .inl (w8, 10, .inl e8)), (d9, .inl (w9, 10, .inl e9)), (d10, .inl (w10, 4, .inl e10)), (d11, .inl (w11, 4, .inl e11)), (d12, .inl (w12, 4, .inl e12)), (d13, .inl (w13, 9, .inr (.inl e13))), (hF, .inr (2, [.ref f0, .ref f1, .ref f2, .ref f3, .ref f4, .int sn, .int (nI (ks)), .int (nI (kw))])), (f0, .inl (z0, 10, .inl g0)), (f1, .inl (z1, 10, .inl g1)), (f2, .inl (z2, 10, .inl g2)), (f3, .inl (z3, 10, .inl g3)), (f4, .inl (z4, 4, .inl g4)), (jK, .inr (5, [.ref k0, .ref k1])), (k0, .inl (cK, 8, .inl l0)), (k1, .inl (cO, 32, .inl l1))] [(w2, .int), (w3, .int), (w4, .int), (w5, .int), (w6, .int), (w7, .int), (w8, .int), (w9, .int), (w10, .int), (w11, .int), (w12, .int), (w13, .long), (z0, .int), (z1, .int), (z2, .int), (z3, .int), (z4, .int), (cK, .int), (cO, .int), (cS, .int), (cc, .int)] (kNF dC dI [(ru, .inr (6, [.ref sA, .ref cl])), (sA, .inl (cS, nS, .inl gS)), (cl, .inl (cc, nC, .inl gC))] (va_A [(jC, .inr (1, [.ref hF, .ref jK, .ref d2, .ref d3, .ref d4, .ref d5, .ref d6, .ref d7, .ref d8, .ref d9, .ref d10, .ref d11, .ref d12, .ref d13, .ref ru, .long dr, .int pr, .int mo, .int ho])), (d2, .inl (w2, 10, .inl e2)), (d3, .inl (w3, 10, .inl e3)), (d4, .inl (w4, 10, .inl e4)), (d5, .inl (w5, 10, .inl e5)), (d6, .inl (w6, 10, .inl e6)), (d7, .inl (w7, 10, .inl e7)), (d8, .inl (w8, 10, .inl e8)), (d9, .inl (w9, 10, .inl e9)), (d10, .inl (w10, 4, .inl e10)), (d11, .inl (w11, 4, .inl e11)), (d12, .inl (w12, 4, .inl e12)), (d13, .inl (w13, 9, .inr (.inl e13))), (hF, .inr (2, [.ref f0, .ref f1, .ref f2, .ref f3, .ref f4, .int sn, .int (nI (ks)), .int (nI (kw))])), (f0, .inl (z0, 10, .inl g0)), (f1, .inl (z1, 10, .inl g1)), (f2, .inl (z2, 10, .inl g2)), (f3, .inl (z3, 10, .inl g3)), (f4, .inl (z4, 4, .inl g4)), (jK, .inr (5, [.ref k0, .ref k1])), (k0, .inl (cK, 8, .inl l0)), (k1, .inl (cO, 32, .inl l1))] sz)) sz) (va_Qv (fun (u : (Nat → Int32) × (Nat → Int32) × (Nat → Int32) × (Nat → Int32) × (Nat → Int32) × (Nat → Int32) × (Nat → Int32) × (Nat → Int32) × (Nat → Int32) × (Nat → Int32) × (Nat → Int32) × (Nat → Int64) × (Nat → Int32) × (Nat → Int32) × Int32 × Int32 × Int32 × Int64) => match u with | (E2, E3, E4, E5, E6, E7, E8, E9, E10, E11, E12, E13, L0, L1, Pr, Mo, Ho, Dr) => True) (fun (u : (Nat → Int32) × (Nat → Int32) × (Nat → Int32) × (Nat → Int32) × (Nat → Int32) × (Nat → Int32) × (Nat → Int32) × (Nat → Int32) × (Nat → Int32) × (Nat → Int32) × (Nat → Int32) × (Nat → Int64) × (Nat → Int32) × (Nat → Int32) × Int32 × Int32 × Int32 × Int64) => match u with | (E2, E3, E4, E5, E6, E7, E8, E9, E10, E11, E12, E13, L0, L1, Pr, Mo, Ho, Dr) => fun t : State => kB dC dI [(jC, .inr (1, [.ref hF, .ref jK, .ref d2, .ref d3, .ref d4, .ref d5, .ref d6, .ref d7, .ref d8, .ref d9, .ref d10, .ref d11, .ref d12, .ref d13, .ref ru, .long Dr, .int Pr, .int Mo, .int Ho])), (d2, .inl (w2, 10, .inl E2)), (d3, .inl (w3, 10, .inl E3)), (d4, .inl (w4, 10, .inl E4)), (d5, .inl (w5, 10, .inl E5)), (d6, .inl (w6, 10, .inl E6)), (d7, .inl (w7, 10, .inl E7)), (d8, .inl (w8, 10, .inl E8)), (d9, .inl (w9, 10, .inl E9)), (d10, .inl (w10, 4, .inl E10)), (d11, .inl (w11, 4, .inl E11)), (d12, .inl (w12, 4, .inl E12)), (d13, .inl (w13, 9, .inr (.inl E13))), (hF, .inr (2, [.ref f0, .ref f1, .ref f2, .ref f3, .ref f4, .int sn, .int (nI (ks)), .int (nI (kw))])), (f0, .inl (z0, 10, .inl g0)), (f1, .inl (z1, 10, .inl g1)), (f2, .inl (z2, 10, .inl g2)), (f3, .inl (z3, 10, .inl g3)), (f4, .inl (z4, 4, .inl g4)), (jK, .inr (5, [.ref k0, .ref k1])), (k0, .inl (cK, 8, .inl L0)), (k1, .inl (cO, 32, .inl L1))] [(w2, .int), (w3, .int), (w4, .int), (w5, .int), (w6, .int), (w7, .int), (w8, .int), (w9, .int), (w10, .int), (w11, .int), (w12, .int), (w13, .long), (z0, .int), (z1, .int), (z2, .int), (z3, .int), (z4, .int), (cK, .int), (cO, .int), (cS, .int), (cc, .int)] (va_A [(jC, .inr (1, [.ref hF, .ref jK, .ref d2, .ref d3, .ref d4, .ref d5, .ref d6, .ref d7, .ref d8, .ref d9, .ref d10, .ref d11, .ref d12, .ref d13, .ref ru, .long dr, .int pr, .int mo, .int ho])), (d2, .inl (w2, 10, .inl e2)), (d3, .inl (w3, 10, .inl e3)), (d4, .inl (w4, 10, .inl e4)), (d5, .inl (w5, 10, .inl e5)), (d6, .inl (w6, 10, .inl e6)), (d7, .inl (w7, 10, .inl e7)), (d8, .inl (w8, 10, .inl e8)), (d9, .inl (w9, 10, .inl e9)), (d10, .inl (w10, 4, .inl e10)), (d11, .inl (w11, 4, .inl e11)), (d12, .inl (w12, 4, .inl e12)), (d13, .inl (w13, 9, .inr (.inl e13))), (hF, .inr (2, [.ref f0, .ref f1, .ref f2, .ref f3, .ref f4, .int sn, .int (nI (ks)), .int (nI (kw))])), (f0, .inl (z0, 10, .inl g0)), (f1, .inl (z1, 10, .inl g1)), (f2, .inl (z2, 10, .inl g2)), (f3, .inl (z3, 10, .inl g3)), (f4, .inl (z4, 4, .inl g4)), (jK, .inr (5, [.ref k0, .ref k1])), (k0, .inl (cK, 8, .inl l0)), (k1, .inl (cO, 32, .inl l1))] sz) t) (va_A [(jC, .inr (1, [.ref hF, .ref jK, .ref d2, .ref d3, .ref d4, .ref d5, .ref d6, .ref d7, .ref d8, .ref d9, .ref d10, .ref d11, .ref d12, .ref d13, .ref ru, .long dr, .int pr, .int mo, .int ho])), (d2, .inl (w2, 10, .inl e2)), (d3, .inl (w3, 10, .inl e3)), (d4, .inl (w4, 10, .inl e4)), (d5, .inl (w5, 10, .inl e5)), (d6, .inl (w6, 10, .inl e6)), (d7, .inl (w7, 10, .inl e7)), (d8, .inl (w8, 10, .inl e8)), (d9, .inl (w9, 10, .inl e9)), (d10, .inl (w10, 4, .inl e10)), (d11, .inl (w11, 4, .inl e11)), (d12, .inl (w12, 4, .inl e12)), (d13, .inl (w13, 9, .inr (.inl e13))), (hF, .inr (2, [.ref f0, .ref f1, .ref f2, .ref f3, .ref f4, .int sn, .int (nI (ks)), .int (nI (kw))])), (f0, .inl (z0, 10, .inl g0)), (f1, .inl (z1, 10, .inl g1)), (f2, .inl (z2, 10, .inl g2)), (f3, .inl (z3, 10, .inl g3)), (f4, .inl (z4, 4, .inl g4)), (jK, .inr (5, [.ref k0, .ref k1])), (k0, .inl (cK, 8, .inl l0)), (k1, .inl (cO, 32, .inl l1))] sz)) 0 0 (va_A [(jC, .inr (1, [.ref hF, .ref jK, .ref d2, .ref d3, .ref d4, .ref d5, .ref d6, .ref d7, .ref d8, .ref d9, .ref d10, .ref d11, .ref d12, .ref d13, .ref ru, .long dr, .int pr, .int mo, .int ho])), (d2, .inl (w2, 10, .inl e2)), (d3, .inl (w3, 10, .inl e3)), (d4, .inl (w4, 10, .inl e4)), (d5, .inl (w5, 10, .inl e5)), (d6, .inl (w6, 10, .inl e6)), (d7, .inl (w7, 10, .inl e7)), (d8, .inl (w8, 10, .inl e8)), (d9, .inl (w9, 10, .inl e9)), (d10, .inl (w10, 4, .inl e10)), (d11, .inl (w11, 4, .inl e11)), (d12, .inl (w12, 4, .inl e12)), (d13, .inl (w13, 9, .inr (.inl e13))), (hF, .inr (2, [.ref f0, .ref f1, .ref f2, .ref f3, .ref f4, .int sn, .int (nI (ks)), .int (nI (kw))])), (f0, .inl (z0, 10, .inl g0)), (f1, .inl (z1, 10, .inl g1)), (f2, .inl (z2, 10, .inl g2)), (f3, .inl (z3, 10, .inl g3)), (f4, .inl (z4, 4, .inl g4)), (jK, .inr (5, [.ref k0, .ref k1])), (k0, .inl (cK, 8, .inl l0)), (k1, .inl (cO, 32, .inl l1))] sz) := by
  refine Met.ofW (cc := cX1_tell) (maxL := 2) (ret := none) (by decide) rfl ?_
  intro p e s m args below meth c s₁ B hml hv
  obtain ⟨rfl, hsz, hP, hK, hD0, hX⟩ := hv
  have hx := B.exec
  have hb := B.bytes
  have hr := B.returns
  have hts := atoms_spec (ws := w_s_tell1) B.pre
  have hown : s.vm.findClass RX1 = some m.cls := findClass_of_methodNamed B.named
  have hlocks := B.notSynchronized
  subst hsz
  have hD := hD0.self (sz := s.heap.size)
  generalize hAe : va_A [(jC, .inr (1, [.ref hF, .ref jK, .ref d2, .ref d3, .ref d4, .ref d5, .ref d6, .ref d7, .ref d8, .ref d9, .ref d10, .ref d11, .ref d12, .ref d13, .ref ru, .long dr, .int pr, .int mo, .int ho])), (d2, .inl (w2, 10, .inl e2)), (d3, .inl (w3, 10, .inl e3)), (d4, .inl (w4, 10, .inl e4)), (d5, .inl (w5, 10, .inl e5)), (d6, .inl (w6, 10, .inl e6)), (d7, .inl (w7, 10, .inl e7)), (d8, .inl (w8, 10, .inl e8)), (d9, .inl (w9, 10, .inl e9)), (d10, .inl (w10, 4, .inl e10)), (d11, .inl (w11, 4, .inl e11)), (d12, .inl (w12, 4, .inl e12)), (d13, .inl (w13, 9, .inr (.inl e13))), (hF, .inr (2, [.ref f0, .ref f1, .ref f2, .ref f3, .ref f4, .int sn, .int (nI (ks)), .int (nI (kw))])), (f0, .inl (z0, 10, .inl g0)), (f1, .inl (z1, 10, .inl g1)), (f2, .inl (z2, 10, .inl g2)), (f3, .inl (z3, 10, .inl g3)), (f4, .inl (z4, 4, .inl g4)), (jK, .inr (5, [.ref k0, .ref k1])), (k0, .inl (cK, 8, .inl l0)), (k1, .inl (cO, 32, .inl l1))] s.heap.size = A at hD hX ⊢
  have hA : ∀ q : Nat, s.heap.size ≤ q → A q := fun q h => by rw [← hAe]; exact Or.inr h
  have hS : va_S A s.heap s.heap [] := va_S.rf
  have hP : va_P (dC, dI) vwCl [(jC, .inr (1, [.ref hF, .ref jK, .ref d2, .ref d3, .ref d4, .ref d5, .ref d6, .ref d7, .ref d8, .ref d9, .ref d10, .ref d11, .ref d12, .ref d13, .ref ru, .long dr, .int pr, .int mo, .int ho])), (d2, .inl (w2, 10, .inl e2)), (d3, .inl (w3, 10, .inl e3)), (d4, .inl (w4, 10, .inl e4)), (d5, .inl (w5, 10, .inl e5)), (d6, .inl (w6, 10, .inl e6)), (d7, .inl (w7, 10, .inl e7)), (d8, .inl (w8, 10, .inl e8)), (d9, .inl (w9, 10, .inl e9)), (d10, .inl (w10, 4, .inl e10)), (d11, .inl (w11, 4, .inl e11)), (d12, .inl (w12, 4, .inl e12)), (d13, .inl (w13, 9, .inr (.inl e13))), (hF, .inr (2, [.ref f0, .ref f1, .ref f2, .ref f3, .ref f4, .int sn, .int (nI (ks)), .int (nI (kw))])), (f0, .inl (z0, 10, .inl g0)), (f1, .inl (z1, 10, .inl g1)), (f2, .inl (z2, 10, .inl g2)), (f3, .inl (z3, 10, .inl g3)), (f4, .inl (z4, 4, .inl g4)), (jK, .inr (5, [.ref k0, .ref k1])), (k0, .inl (cK, 8, .inl l0)), (k1, .inl (cO, 32, .inl l1))] s.heap := hP
  have hl := lv_entry ([.ref jC]) (n := 2) (Nat.le_of_ble_eq_true rfl)
  rw [lg_entry_eq]
  generalize (lg_sl ([.ref jC]) ++ List.replicate (2 - (lg_sl ([.ref jC])).length) Slot.unset).toArray = ls at hl ⊢
  have hl : lv_has ls 2 [(0, .ref jC)] := hl
  refine kQ (fun Q hQ => ?_)
  refine lv_aload_n hx hb dX1_tell_0 rfl (lv_at hl 0 rfl) ?_
  refine va_get (D := (dC, dI)) (ci := 1) (v := .ref d9) (C := RX1) (T := TX1) (N := 19) hx hb hts (fun _ h => List.mem_cons_of_mem _ (List.mem_append_right _ (List.mem_append_left _ h))) hown hK hP 0 rfl rfl 9 kc_l_9_19 (hts (.fieldLink RX1 33 "NotEnded$Course" "hears" "[I") (List.mem_cons_of_mem _ (List.mem_append_left _ (List.mem_of_getElem? (i := 0) rfl)))) (fun _ h9 => h9) rfl dX1_tell_1 ?_
  refine lv_iconst (v := 0) hx hb dX1_tell_4 kc_i_0 ?_
  have hCu := kCut (wc := [(d9, .inl (w9, 10, .inl e9))]) hP hD hS hA [8] rfl kc_nd_226 rfl
  have hPc := hCu.1
  have hDc := hCu.2.1
  have hFc := hCu.2.2
  have hKc := hK.sb (tys2 := [(w9, .int)]) [7] rfl
  refine va_callv (va_runS (As := [.ref d9, .int 0]) (rest := []) ⟨hx, hb, hml, hown, hts⟩ (s_fill l dC dI d9 w9 10 e9 (Nat.le_of_ble_eq_true rfl) 0 s.heap.size) (va_cwS 2 hts (kG (List.forall_mem_cons.mpr ⟨(List.mem_cons_of_mem _ (List.mem_append_left _ (List.mem_of_getElem? (i := 3) rfl))), (List.forall_mem_cons.mpr ⟨(List.mem_cons_of_mem _ (List.mem_append_left _ (List.mem_of_getElem? (i := 2) rfl))), (List.forall_mem_cons.mpr ⟨(List.mem_cons_of_mem _ (List.mem_append_left _ (List.mem_of_getElem? (i := 1) rfl))), (fun _ h => absurd h List.not_mem_nil)⟩)⟩)⟩) (kGS _ _ _) (fun _ h => List.mem_cons_of_mem _ (List.mem_append_right _ (List.mem_append_right _ (List.mem_append_left _ h)))) gw_s_fill) rfl rfl rfl hd_J7_fill_53178 ⟨(Nat.le_of_ble_eq_true rfl), (Nat.le_of_ble_eq_true rfl)⟩) (kW_S kT_blind kT_give hPc hKc hDc) rfl rfl hl.1 rfl (lv_room (Nat.le_of_ble_eq_true rfl)) dX1_tell_5 ⟨(Nat.le_of_ble_eq_true rfl), (Nat.le_of_ble_eq_true rfl)⟩) hS (fun q _ h => hFc q h) hFc (fun g1_1 t H_2 locs ht hvm hw hB hz1 hk1 hS => ?_)
  have hPD : kPD dC dI A [(jC, .inr (1, [.ref hF, .ref jK, .ref d2, .ref d3, .ref d4, .ref d5, .ref d6, .ref d7, .ref d8, .ref d9, .ref d10, .ref d11, .ref d12, .ref d13, .ref ru, .long dr, .int pr, .int mo, .int ho])), (d2, .inl (w2, 10, .inl e2)), (d3, .inl (w3, 10, .inl e3)), (d4, .inl (w4, 10, .inl e4)), (d5, .inl (w5, 10, .inl e5)), (d6, .inl (w6, 10, .inl e6)), (d7, .inl (w7, 10, .inl e7)), (d8, .inl (w8, 10, .inl e8)), (d9, .inl (w9, 10, .inl g1_1)), (d10, .inl (w10, 4, .inl e10)), (d11, .inl (w11, 4, .inl e11)), (d12, .inl (w12, 4, .inl e12)), (d13, .inl (w13, 9, .inr (.inl e13))), (hF, .inr (2, [.ref f0, .ref f1, .ref f2, .ref f3, .ref f4, .int sn, .int (nI (ks)), .int (nI (kw))])), (f0, .inl (z0, 10, .inl g0)), (f1, .inl (z1, 10, .inl g1)), (f2, .inl (z2, 10, .inl g2)), (f3, .inl (z3, 10, .inl g3)), (f4, .inl (z4, 4, .inl g4)), (jK, .inr (5, [.ref k0, .ref k1])), (k0, .inl (cK, 8, .inl l0)), (k1, .inl (cO, 32, .inl l1))] H_2 := kJoinX hP hD [8] rfl hk1 hFc hB.1 ht hB.2.2 rfl [none, none, none, none, none, none, none, none, some 0, none, none, none, none, none, none, none, none, none, none, none, none, none] rfl rfl
  have hP := hPD.1
  have hD := hPD.2
  refine lv_iconst (v := 0) hx hb dX1_tell_8 kc_i_0 ?_
  refine lv_istore_n hx hb dX1_tell_9 rfl hl kc_l_1_2 (kTo [(1, .int 0), (0, .ref jC)]) (fun ls hl => ?_)
  have lp_k_4 : ∀ (n9 : Nat) (i : Nat) (le2 : Nat → Int32) (le3 : Nat → Int32) (le4 : Nat → Int32) (le5 : Nat → Int32) (le6 : Nat → Int32) (le7 : Nat → Int32) (le8 : Nat → Int32) (le9 : Nat → Int32) (le10 : Nat → Int32) (le11 : Nat → Int32) (le12 : Nat → Int32) (le13 : Nat → Int64) (ll0 : Nat → Int32) (ll1 : Nat → Int32) (ldr : Int64) (lpr : Int32) (lmo : Int32) (lho : Int32) (ivk_4_0 : i ≤ ks) (H : Heap) (locs : List Loc) (_ : va_P (dC, dI) vwCl [(jC, .inr (1, [.ref hF, .ref jK, .ref d2, .ref d3, .ref d4, .ref d5, .ref d6, .ref d7, .ref d8, .ref d9, .ref d10, .ref d11, .ref d12, .ref d13, .ref ru, .long ldr, .int lpr, .int lmo, .int lho])), (d2, .inl (w2, 10, .inl le2)), (d3, .inl (w3, 10, .inl le3)), (d4, .inl (w4, 10, .inl le4)), (d5, .inl (w5, 10, .inl le5)), (d6, .inl (w6, 10, .inl le6)), (d7, .inl (w7, 10, .inl le7)), (d8, .inl (w8, 10, .inl le8)), (d9, .inl (w9, 10, .inl le9)), (d10, .inl (w10, 4, .inl le10)), (d11, .inl (w11, 4, .inl le11)), (d12, .inl (w12, 4, .inl le12)), (d13, .inl (w13, 9, .inr (.inl le13))), (hF, .inr (2, [.ref f0, .ref f1, .ref f2, .ref f3, .ref f4, .int sn, .int (nI (ks)), .int (nI (kw))])), (f0, .inl (z0, 10, .inl g0)), (f1, .inl (z1, 10, .inl g1)), (f2, .inl (z2, 10, .inl g2)), (f3, .inl (z3, 10, .inl g3)), (f4, .inl (z4, 4, .inl g4)), (jK, .inr (5, [.ref k0, .ref k1])), (k0, .inl (cK, 8, .inl ll0)), (k1, .inl (cO, 32, .inl ll1))] H) (_ : va_D A [(jC, .inr (1, [.ref hF, .ref jK, .ref d2, .ref d3, .ref d4, .ref d5, .ref d6, .ref d7, .ref d8, .ref d9, .ref d10, .ref d11, .ref d12, .ref d13, .ref ru, .long ldr, .int lpr, .int lmo, .int lho])), (d2, .inl (w2, 10, .inl le2)), (d3, .inl (w3, 10, .inl le3)), (d4, .inl (w4, 10, .inl le4)), (d5, .inl (w5, 10, .inl le5)), (d6, .inl (w6, 10, .inl le6)), (d7, .inl (w7, 10, .inl le7)), (d8, .inl (w8, 10, .inl le8)), (d9, .inl (w9, 10, .inl le9)), (d10, .inl (w10, 4, .inl le10)), (d11, .inl (w11, 4, .inl le11)), (d12, .inl (w12, 4, .inl le12)), (d13, .inl (w13, 9, .inr (.inl le13))), (hF, .inr (2, [.ref f0, .ref f1, .ref f2, .ref f3, .ref f4, .int sn, .int (nI (ks)), .int (nI (kw))])), (f0, .inl (z0, 10, .inl g0)), (f1, .inl (z1, 10, .inl g1)), (f2, .inl (z2, 10, .inl g2)), (f3, .inl (z3, 10, .inl g3)), (f4, .inl (z4, 4, .inl g4)), (jK, .inr (5, [.ref k0, .ref k1])), (k0, .inl (cK, 8, .inl ll0)), (k1, .inl (cO, 32, .inl ll1))]) (_ : va_S A s.heap H locs) (ls : Array Slot) (_ : lv_has ls 2 [(1, .int (nI (i))), (0, .ref jC)]) (_ : ks - i < n9), W p l e (headSpec w_s_tell1 ({ frames := 5, cells := 0, slots := 0, locals := 300 })).room s m (#[.ref jC] : Array Value) below meth c H locs 0 0 Q (F0 m 10 ls []) := by
    intro n9
    induction n9 with
    | zero => intro i le2 le3 le4 le5 le6 le7 le8 le9 le10 le11 le12 le13 ll0 ll1 ldr lpr lmo lho ivk_4_0 H locs hP hD hS ls hl hm9; exact absurd hm9 (Nat.not_lt_zero _)
    | succ n9 ih_k_4 =>
      intro i le2 le3 le4 le5 le6 le7 le8 le9 le10 le11 le12 le13 ll0 ll1 ldr lpr lmo lho ivk_4_0 H locs hP hD hS ls hl hm9
      refine lv_iload_n hx hb dX1_tell_10 rfl (lv_at hl 0 rfl) ?_
      refine lv_aload_n hx hb dX1_tell_11 rfl (lv_at hl 1 rfl) ?_
      refine va_get (D := (dC, dI)) (ci := 1) (v := .ref hF) (C := RX1) (T := TX1) (N := 19) hx hb hts (fun _ h => List.mem_cons_of_mem _ (List.mem_append_right _ (List.mem_append_left _ h))) hown hK hP 0 rfl rfl 0 kc_l_0_19 (hts (.fieldLink RX1 67 "NotEnded$Course" "folk" "LNotEnded$Folk;") (List.mem_cons_of_mem _ (List.mem_append_left _ (List.mem_of_getElem? (i := 4) rfl)))) (fun _ h9 => h9) rfl dX1_tell_12 ?_
      have hPc := hP.sb (ws2 := [(hF, .inr (2, [.ref f0, .ref f1, .ref f2, .ref f3, .ref f4, .int sn, .int (nI (ks)), .int (nI (kw))])), (f0, .inl (z0, 10, .inl g0)), (f1, .inl (z1, 10, .inl g1)), (f2, .inl (z2, 10, .inl g2)), (f3, .inl (z3, 10, .inl g3)), (f4, .inl (z4, 4, .inl g4))]) [13, 14, 15, 16, 17, 18] rfl
      have hKc := hK.sb (tys2 := [(z0, .int), (z1, .int), (z2, .int), (z3, .int), (z4, .int)]) [12, 13, 14, 15, 16] rfl
      refine vp_callSi (va_runV (As := []) (rest := [.int (nI (i))]) ⟨hx, hb, hml, hown, hts⟩ (s_size2 l dC dI hF f0 f1 f2 f3 f4 z0 z1 z2 z3 z4 g0 g1 g2 g3 g4 sn ks kw hks hkw) (cwV 0 hts (kG (List.forall_mem_cons.mpr ⟨(List.mem_cons_of_mem _ (List.mem_append_left _ (List.mem_of_getElem? (i := 8) rfl))), (List.forall_mem_cons.mpr ⟨(List.mem_cons_of_mem _ (List.mem_append_left _ (List.mem_of_getElem? (i := 7) rfl))), (List.forall_mem_cons.mpr ⟨(List.mem_cons_of_mem _ (List.mem_append_left _ (List.mem_of_getElem? (i := 6) rfl))), (List.forall_mem_cons.mpr ⟨(List.mem_cons_of_mem _ (List.mem_append_left _ (List.mem_of_getElem? (i := 5) rfl))), (fun _ h => absurd h List.not_mem_nil)⟩)⟩)⟩)⟩) (kGV _ _ _ _) (fun _ h => List.mem_cons_of_mem _ (List.mem_append_right _ (List.mem_append_right _ (List.mem_append_right _ (List.mem_append_left _ h))))) gw_s_size2) rfl rfl rfl ⟨rfl, hd_X2_size⟩ ⟨(Nat.le_of_ble_eq_true rfl), (Nat.le_of_ble_eq_true rfl)⟩) (kR_V kT_blind kT_give (va_recv hKc hPc (ci := 2) (q0 := 0) rfl rfl) hPc hKc) rfl rfl hl.1 rfl (lv_room (Nat.le_of_ble_eq_true rfl)) dX1_tell_15 ⟨(Nat.le_of_ble_eq_true rfl), (Nat.le_of_ble_eq_true rfl)⟩).run (fun r_5 hw => ?_)
      obtain rfl : r_5 = nI (ks) := hw
      refine lv_icmp_ge (tgt := 74) hx hb dX1_tell_18 kc_t_18_56 (fun c_6 => ?_) (fun c_6 => ?_)
      · have bd_8 : ks < 2147483648 := by omega
        have bd_9 : i < 2147483648 := by omega
        have hn_7 := kle (a := ks) (b := i) bd_8 bd_9 c_6
        refine lv_iconst (v := 0) hx hb dX1_tell_74 kc_i_0 ?_
        refine lv_istore_n hx hb dX1_tell_75 rfl hl kc_l_1_2 (kTo [(1, .int 0), (0, .ref jC)]) (fun ls hl => ?_)
        have lp_k_10 : ∀ (n9 : Nat) (i : Nat) (le2 : Nat → Int32) (le3 : Nat → Int32) (le4 : Nat → Int32) (le5 : Nat → Int32) (le6 : Nat → Int32) (le7 : Nat → Int32) (le8 : Nat → Int32) (le9 : Nat → Int32) (le10 : Nat → Int32) (le11 : Nat → Int32) (le12 : Nat → Int32) (le13 : Nat → Int64) (ll0 : Nat → Int32) (ll1 : Nat → Int32) (ldr : Int64) (lpr : Int32) (lmo : Int32) (lho : Int32) (ivk_10_0 : i ≤ ks) (H : Heap) (locs : List Loc) (_ : va_P (dC, dI) vwCl [(jC, .inr (1, [.ref hF, .ref jK, .ref d2, .ref d3, .ref d4, .ref d5, .ref d6, .ref d7, .ref d8, .ref d9, .ref d10, .ref d11, .ref d12, .ref d13, .ref ru, .long ldr, .int lpr, .int lmo, .int lho])), (d2, .inl (w2, 10, .inl le2)), (d3, .inl (w3, 10, .inl le3)), (d4, .inl (w4, 10, .inl le4)), (d5, .inl (w5, 10, .inl le5)), (d6, .inl (w6, 10, .inl le6)), (d7, .inl (w7, 10, .inl le7)), (d8, .inl (w8, 10, .inl le8)), (d9, .inl (w9, 10, .inl le9)), (d10, .inl (w10, 4, .inl le10)), (d11, .inl (w11, 4, .inl le11)), (d12, .inl (w12, 4, .inl le12)), (d13, .inl (w13, 9, .inr (.inl le13))), (hF, .inr (2, [.ref f0, .ref f1, .ref f2, .ref f3, .ref f4, .int sn, .int (nI (ks)), .int (nI (kw))])), (f0, .inl (z0, 10, .inl g0)), (f1, .inl (z1, 10, .inl g1)), (f2, .inl (z2, 10, .inl g2)), (f3, .inl (z3, 10, .inl g3)), (f4, .inl (z4, 4, .inl g4)), (jK, .inr (5, [.ref k0, .ref k1])), (k0, .inl (cK, 8, .inl ll0)), (k1, .inl (cO, 32, .inl ll1))] H) (_ : va_D A [(jC, .inr (1, [.ref hF, .ref jK, .ref d2, .ref d3, .ref d4, .ref d5, .ref d6, .ref d7, .ref d8, .ref d9, .ref d10, .ref d11, .ref d12, .ref d13, .ref ru, .long ldr, .int lpr, .int lmo, .int lho])), (d2, .inl (w2, 10, .inl le2)), (d3, .inl (w3, 10, .inl le3)), (d4, .inl (w4, 10, .inl le4)), (d5, .inl (w5, 10, .inl le5)), (d6, .inl (w6, 10, .inl le6)), (d7, .inl (w7, 10, .inl le7)), (d8, .inl (w8, 10, .inl le8)), (d9, .inl (w9, 10, .inl le9)), (d10, .inl (w10, 4, .inl le10)), (d11, .inl (w11, 4, .inl le11)), (d12, .inl (w12, 4, .inl le12)), (d13, .inl (w13, 9, .inr (.inl le13))), (hF, .inr (2, [.ref f0, .ref f1, .ref f2, .ref f3, .ref f4, .int sn, .int (nI (ks)), .int (nI (kw))])), (f0, .inl (z0, 10, .inl g0)), (f1, .inl (z1, 10, .inl g1)), (f2, .inl (z2, 10, .inl g2)), (f3, .inl (z3, 10, .inl g3)), (f4, .inl (z4, 4, .inl g4)), (jK, .inr (5, [.ref k0, .ref k1])), (k0, .inl (cK, 8, .inl ll0)), (k1, .inl (cO, 32, .inl ll1))]) (_ : va_S A s.heap H locs) (ls : Array Slot) (_ : lv_has ls 2 [(1, .int (nI (i))), (0, .ref jC)]) (_ : ks - i < n9), W p l e (headSpec w_s_tell1 ({ frames := 5, cells := 0, slots := 0, locals := 300 })).room s m (#[.ref jC] : Array Value) below meth c H locs 0 0 Q (F0 m 76 ls []) := by
          intro n9
          induction n9 with
          | zero => intro i le2 le3 le4 le5 le6 le7 le8 le9 le10 le11 le12 le13 ll0 ll1 ldr lpr lmo lho ivk_10_0 H locs hP hD hS ls hl hm9; exact absurd hm9 (Nat.not_lt_zero _)
          | succ n9 ih_k_10 =>
            intro i le2 le3 le4 le5 le6 le7 le8 le9 le10 le11 le12 le13 ll0 ll1 ldr lpr lmo lho ivk_10_0 H locs hP hD hS ls hl hm9
            refine lv_iload_n hx hb dX1_tell_76 rfl (lv_at hl 0 rfl) ?_
            refine lv_aload_n hx hb dX1_tell_77 rfl (lv_at hl 1 rfl) ?_
            refine va_get (D := (dC, dI)) (ci := 1) (v := .ref hF) (C := RX1) (T := TX1) (N := 19) hx hb hts (fun _ h => List.mem_cons_of_mem _ (List.mem_append_right _ (List.mem_append_left _ h))) hown hK hP 0 rfl rfl 0 kc_l_0_19 (hts (.fieldLink RX1 67 "NotEnded$Course" "folk" "LNotEnded$Folk;") (List.mem_cons_of_mem _ (List.mem_append_left _ (List.mem_of_getElem? (i := 4) rfl)))) (fun _ h9 => h9) rfl dX1_tell_78 ?_
            have hPc := hP.sb (ws2 := [(hF, .inr (2, [.ref f0, .ref f1, .ref f2, .ref f3, .ref f4, .int sn, .int (nI (ks)), .int (nI (kw))])), (f0, .inl (z0, 10, .inl g0)), (f1, .inl (z1, 10, .inl g1)), (f2, .inl (z2, 10, .inl g2)), (f3, .inl (z3, 10, .inl g3)), (f4, .inl (z4, 4, .inl g4))]) [13, 14, 15, 16, 17, 18] rfl
            have hKc := hK.sb (tys2 := [(z0, .int), (z1, .int), (z2, .int), (z3, .int), (z4, .int)]) [12, 13, 14, 15, 16] rfl
            refine vp_callSi (va_runV (As := []) (rest := [.int (nI (i))]) ⟨hx, hb, hml, hown, hts⟩ (s_size2 l dC dI hF f0 f1 f2 f3 f4 z0 z1 z2 z3 z4 g0 g1 g2 g3 g4 sn ks kw hks hkw) (cwV 0 hts (kG (List.forall_mem_cons.mpr ⟨(List.mem_cons_of_mem _ (List.mem_append_left _ (List.mem_of_getElem? (i := 8) rfl))), (List.forall_mem_cons.mpr ⟨(List.mem_cons_of_mem _ (List.mem_append_left _ (List.mem_of_getElem? (i := 7) rfl))), (List.forall_mem_cons.mpr ⟨(List.mem_cons_of_mem _ (List.mem_append_left _ (List.mem_of_getElem? (i := 6) rfl))), (List.forall_mem_cons.mpr ⟨(List.mem_cons_of_mem _ (List.mem_append_left _ (List.mem_of_getElem? (i := 5) rfl))), (fun _ h => absurd h List.not_mem_nil)⟩)⟩)⟩)⟩) (kGV _ _ _ _) (fun _ h => List.mem_cons_of_mem _ (List.mem_append_right _ (List.mem_append_right _ (List.mem_append_right _ (List.mem_append_left _ h))))) gw_s_size2) rfl rfl rfl ⟨rfl, hd_X2_size⟩ ⟨(Nat.le_of_ble_eq_true rfl), (Nat.le_of_ble_eq_true rfl)⟩) (kR_V kT_blind kT_give (va_recv hKc hPc (ci := 2) (q0 := 0) rfl rfl) hPc hKc) rfl rfl hl.1 rfl (lv_room (Nat.le_of_ble_eq_true rfl)) dX1_tell_81 ⟨(Nat.le_of_ble_eq_true rfl), (Nat.le_of_ble_eq_true rfl)⟩).run (fun r_11 hw => ?_)
            obtain rfl : r_11 = nI (ks) := hw
            refine lv_icmp_ge (tgt := 129) hx hb dX1_tell_84 kc_t_84_45 (fun c_12 => ?_) (fun c_12 => ?_)
            · have bd_14 : i < 2147483648 := by omega
              have hn_13 := kle (a := ks) (b := i) bd_8 bd_14 c_12
              have hP9 := hP
              have hD9 := hD
              have hK9 := hK
              rw [hQ]
              exact W.vret hx hb hr (fun t ht hW => ⟨⟨(le2, le3, le4, le5, le6, le7, le8, le9, le10, le11, le12, le13, ll0, ll1, lpr, lmo, lho, ldr), rfl, trivial,  by rw [ht]; exact hP9, va_K.moved hW.alike hK9, hD9⟩, hS.F ht⟩) hS.2.2 dX1_tell_129
            · have bd_16 : i < 2147483648 := by omega
              have hn_15 := knle (a := ks) (b := i) bd_8 bd_16 c_12
              refine lv_aload_n hx hb dX1_tell_87 rfl (lv_at hl 1 rfl) ?_
              refine va_get (D := (dC, dI)) (ci := 1) (v := .int lmo) (C := RX1) (T := TX1) (N := 19) hx hb hts (fun _ h => List.mem_cons_of_mem _ (List.mem_append_right _ (List.mem_append_left _ h))) hown hK hP 0 rfl rfl 17 kc_l_17_19 (hts (.fieldLink RX1 61 "NotEnded$Course" "moved" "I") (List.mem_cons_of_mem _ (List.mem_append_left _ (List.mem_of_getElem? (i := 9) rfl)))) (fun _ h9 => h9) rfl dX1_tell_88 ?_
              refine lv_iload_n hx hb dX1_tell_91 rfl (lv_at hl 0 rfl) ?_
              have hPc := hP.sb (ws2 := []) [] rfl
              have hKc := hK.sb (tys2 := []) [] rfl
              refine vp_callSi (va_runSN (As := [.int lmo, .int (nI (i))]) (rest := []) ⟨hx, hb, hml, hown, hts⟩ (s_isBit9 l dC dI lmo (nI (i))) (⟨va_cnB 2 hts (goodIn_sub (fun _ h => List.mem_cons_of_mem _ (List.mem_append_right _ (List.mem_append_right _ (List.mem_append_right _ (List.mem_append_right _ (List.mem_append_left _ h)))))) gw_s_isBit9) rfl rfl rfl (hX.2 _ (List.mem_of_getElem? (i := 12) rfl)) (hts (.initialized RX9) (List.mem_cons_of_mem _ (List.mem_append_left _ (List.mem_of_getElem? (i := 10) rfl)))) hd_X9_isBit ⟨(Nat.le_of_ble_eq_true rfl), (Nat.le_of_ble_eq_true rfl)⟩, (hts (.static yX9_isBit) (List.mem_cons_of_mem _ (List.mem_append_left _ (List.mem_of_getElem? (i := 11) rfl)))), trivial⟩) (kR_S kT_blind kT_give hPc hKc) rfl rfl hl.1 rfl (lv_room (Nat.le_of_ble_eq_true rfl)) dX1_tell_92 ⟨(Nat.le_of_ble_eq_true rfl), (Nat.le_of_ble_eq_true rfl)⟩).run (fun r_17 hw => ?_)
              have hw_18 := hw
              refine lv_if_eq (tgt := 123) hx hb dX1_tell_95 kc_t_95_28 (fun c_19 => ?_) (fun c_19 => ?_)
              · refine lv_iinc (v := nI (i + 1)) hx hb dX1_tell_123 hl (k := 0) rfl (kInc _ 1) kc_l_1_2 (kTo [(1, .int (nI (i + 1))), (0, .ref jC)]) (fun ls hl => ?_)
                refine lv_goto (tgt := 76) hx hb dX1_tell_126 kc_t_126_m50 ?_
                exact ih_k_10 (i + 1) le2 le3 le4 le5 le6 le7 le8 le9 le10 le11 le12 le13 ll0 ll1 ldr lpr lmo lho (by omega) _ _ hP hD hS ls (lv_sub hl [0, 1] rfl) (by omega)
              · refine lv_aload_n hx hb dX1_tell_98 rfl (lv_at hl 1 rfl) ?_
                refine va_get (D := (dC, dI)) (ci := 1) (v := .ref d2) (C := RX1) (T := TX1) (N := 19) hx hb hts (fun _ h => List.mem_cons_of_mem _ (List.mem_append_right _ (List.mem_append_left _ h))) hown hK hP 0 rfl rfl 2 kc_l_2_19 (hts (.fieldLink RX1 9 "NotEnded$Course" "held" "[I") (List.mem_cons_of_mem _ (List.mem_append_left _ (List.mem_of_getElem? (i := 12) rfl)))) (fun _ h9 => h9) rfl dX1_tell_99 ?_
                refine lv_iload_n hx hb dX1_tell_102 rfl (lv_at hl 0 rfl) ?_
                refine lv_aload_n hx hb dX1_tell_103 rfl (lv_at hl 1 rfl) ?_
                refine va_get (D := (dC, dI)) (ci := 1) (v := .ref d2) (C := RX1) (T := TX1) (N := 19) hx hb hts (fun _ h => List.mem_cons_of_mem _ (List.mem_append_right _ (List.mem_append_left _ h))) hown hK hP 0 rfl rfl 2 kc_l_2_19 (hts (.fieldLink RX1 9 "NotEnded$Course" "held" "[I") (List.mem_cons_of_mem _ (List.mem_append_left _ (List.mem_of_getElem? (i := 12) rfl)))) (fun _ h9 => h9) rfl dX1_tell_104 ?_
                refine lv_iload_n hx hb dX1_tell_107 rfl (lv_at hl 0 rfl) ?_
                have bd_20 : i < 10 := by omega
                refine va_iald hx hb hK hP 1 0 rfl rfl (vp_in_nI (n := i) (N := 10) bd_20 kc_31_10) dX1_tell_108 ?_
                refine lv_topi (fun x_21 ex_21 => ?_)
                refine lv_aload_n hx hb dX1_tell_109 rfl (lv_at hl 1 rfl) ?_
                refine va_get (D := (dC, dI)) (ci := 1) (v := .ref d9) (C := RX1) (T := TX1) (N := 19) hx hb hts (fun _ h => List.mem_cons_of_mem _ (List.mem_append_right _ (List.mem_append_left _ h))) hown hK hP 0 rfl rfl 9 kc_l_9_19 (hts (.fieldLink RX1 33 "NotEnded$Course" "hears" "[I") (List.mem_cons_of_mem _ (List.mem_append_left _ (List.mem_of_getElem? (i := 0) rfl)))) (fun _ h9 => h9) rfl dX1_tell_110 ?_
                refine lv_iload_n hx hb dX1_tell_113 rfl (lv_at hl 0 rfl) ?_
                refine va_iald hx hb hK hP 8 7 rfl rfl (vp_in_nI (n := i) (N := 10) bd_20 kc_31_10) dX1_tell_114 ?_
                refine lv_topi (fun x_22 ex_22 => ?_)
                refine lv_iadd hx hb dX1_tell_115 ?_
                refine lv_topi (fun x_23 ex_23 => ?_)
                refine lv_iconst (v := 0) hx hb dX1_tell_116 kc_i_0 ?_
                refine lv_bipush (v := 100) hx hb dX1_tell_117 kc_b_100 ?_
                have hPc := hP.sb (ws2 := []) [] rfl
                have hKc := hK.sb (tys2 := []) [] rfl
                refine vp_callSi (va_runSN (As := [.int x_23, .int 0, .int 100]) (rest := [.int (nI (i)), .ref d2]) ⟨hx, hb, hml, hown, hts⟩ (s_within9 l dC dI x_23 0 100) (⟨va_cnB 3 hts (goodIn_sub (fun _ h => List.mem_cons_of_mem _ (List.mem_append_right _ (List.mem_append_right _ (List.mem_append_right _ (List.mem_append_right _ (List.mem_append_right _ (List.mem_append_left _ h))))))) gw_s_within9) rfl rfl rfl (hX.2 _ (List.mem_of_getElem? (i := 15) rfl)) (hts (.initialized RX9) (List.mem_cons_of_mem _ (List.mem_append_left _ (List.mem_of_getElem? (i := 10) rfl)))) hd_X9_within ⟨(Nat.le_of_ble_eq_true rfl), (Nat.le_of_ble_eq_true rfl)⟩, (hts (.static yX9_within) (List.mem_cons_of_mem _ (List.mem_append_left _ (List.mem_of_getElem? (i := 13) rfl)))), trivial⟩) (kR_S kT_blind kT_give hPc hKc) rfl rfl hl.1 rfl (lv_room (Nat.le_of_ble_eq_true rfl)) dX1_tell_119 ⟨(Nat.le_of_ble_eq_true rfl), (Nat.le_of_ble_eq_true rfl)⟩).run (fun r_24 hw => ?_)
                refine va_iast hx hb hK hP hD hS 1 0 rfl rfl (vp_in_nI (n := i) (N := 10) bd_20 kc_31_10) dX1_tell_122 (fun H locs hP hD hS => ?_)
                obtain ⟨f_25, ef_25⟩ : ∃ gg9 : Nat → Int32, gg9 = upd le2 (Int32.toNatClampNeg (nI (i))) r_24 := ⟨_, rfl⟩
                have hPD : kPD dC dI A [(jC, .inr (1, [.ref hF, .ref jK, .ref d2, .ref d3, .ref d4, .ref d5, .ref d6, .ref d7, .ref d8, .ref d9, .ref d10, .ref d11, .ref d12, .ref d13, .ref ru, .long ldr, .int lpr, .int lmo, .int lho])), (d2, .inl (w2, 10, .inl f_25)), (d3, .inl (w3, 10, .inl le3)), (d4, .inl (w4, 10, .inl le4)), (d5, .inl (w5, 10, .inl le5)), (d6, .inl (w6, 10, .inl le6)), (d7, .inl (w7, 10, .inl le7)), (d8, .inl (w8, 10, .inl le8)), (d9, .inl (w9, 10, .inl le9)), (d10, .inl (w10, 4, .inl le10)), (d11, .inl (w11, 4, .inl le11)), (d12, .inl (w12, 4, .inl le12)), (d13, .inl (w13, 9, .inr (.inl le13))), (hF, .inr (2, [.ref f0, .ref f1, .ref f2, .ref f3, .ref f4, .int sn, .int (nI (ks)), .int (nI (kw))])), (f0, .inl (z0, 10, .inl g0)), (f1, .inl (z1, 10, .inl g1)), (f2, .inl (z2, 10, .inl g2)), (f3, .inl (z3, 10, .inl g3)), (f4, .inl (z4, 4, .inl g4)), (jK, .inr (5, [.ref k0, .ref k1])), (k0, .inl (cK, 8, .inl ll0)), (k1, .inl (cO, 32, .inl ll1))] H := by rw [ef_25]; exact ⟨hP, hD⟩
                have hP := hPD.1
                have hD := hPD.2
                refine lv_iinc (v := nI (i + 1)) hx hb dX1_tell_123 hl (k := 0) rfl (kInc _ 1) kc_l_1_2 (kTo [(1, .int (nI (i + 1))), (0, .ref jC)]) (fun ls hl => ?_)
                refine lv_goto (tgt := 76) hx hb dX1_tell_126 kc_t_126_m50 ?_
                exact ih_k_10 (i + 1) f_25 le3 le4 le5 le6 le7 le8 le9 le10 le11 le12 le13 ll0 ll1 ldr lpr lmo lho (by omega) _ _ hP hD hS ls (lv_sub hl [0, 1] rfl) (by omega)
        exact lp_k_10 (ks - 0 + 1) 0 le2 le3 le4 le5 le6 le7 le8 le9 le10 le11 le12 le13 ll0 ll1 ldr lpr lmo lho (by omega) _ _ hP hD hS ls (lv_sub hl [0, 1] rfl) (by omega)
      · have bd_27 : ks < 2147483648 := by omega
        have bd_28 : i < 2147483648 := by omega
        have hn_26 := knle (a := ks) (b := i) bd_27 bd_28 c_6
        refine lv_aload_n hx hb dX1_tell_21 rfl (lv_at hl 1 rfl) ?_
        refine va_get (D := (dC, dI)) (ci := 1) (v := .int lmo) (C := RX1) (T := TX1) (N := 19) hx hb hts (fun _ h => List.mem_cons_of_mem _ (List.mem_append_right _ (List.mem_append_left _ h))) hown hK hP 0 rfl rfl 17 kc_l_17_19 (hts (.fieldLink RX1 61 "NotEnded$Course" "moved" "I") (List.mem_cons_of_mem _ (List.mem_append_left _ (List.mem_of_getElem? (i := 9) rfl)))) (fun _ h9 => h9) rfl dX1_tell_22 ?_
        refine lv_iload_n hx hb dX1_tell_25 rfl (lv_at hl 0 rfl) ?_
        have hPc := hP.sb (ws2 := []) [] rfl
        have hKc := hK.sb (tys2 := []) [] rfl
        refine vp_callSi (va_runSN (As := [.int lmo, .int (nI (i))]) (rest := []) ⟨hx, hb, hml, hown, hts⟩ (s_isBit9 l dC dI lmo (nI (i))) (⟨va_cnB 2 hts (goodIn_sub (fun _ h => List.mem_cons_of_mem _ (List.mem_append_right _ (List.mem_append_right _ (List.mem_append_right _ (List.mem_append_right _ (List.mem_append_left _ h)))))) gw_s_isBit9) rfl rfl rfl (hX.2 _ (List.mem_of_getElem? (i := 12) rfl)) (hts (.initialized RX9) (List.mem_cons_of_mem _ (List.mem_append_left _ (List.mem_of_getElem? (i := 10) rfl)))) hd_X9_isBit ⟨(Nat.le_of_ble_eq_true rfl), (Nat.le_of_ble_eq_true rfl)⟩, (hts (.static yX9_isBit) (List.mem_cons_of_mem _ (List.mem_append_left _ (List.mem_of_getElem? (i := 11) rfl)))), trivial⟩) (kR_S kT_blind kT_give hPc hKc) rfl rfl hl.1 rfl (lv_room (Nat.le_of_ble_eq_true rfl)) dX1_tell_26 ⟨(Nat.le_of_ble_eq_true rfl), (Nat.le_of_ble_eq_true rfl)⟩).run (fun r_29 hw => ?_)
        have hw_30 := hw
        refine lv_if_eq (tgt := 68) hx hb dX1_tell_29 kc_t_29_39 (fun c_31 => ?_) (fun c_31 => ?_)
        · refine lv_iinc (v := nI (i + 1)) hx hb dX1_tell_68 hl (k := 0) rfl (kInc _ 1) kc_l_1_2 (kTo [(1, .int (nI (i + 1))), (0, .ref jC)]) (fun ls hl => ?_)
          refine lv_goto (tgt := 10) hx hb dX1_tell_71 kc_t_71_m61 ?_
          exact ih_k_4 (i + 1) le2 le3 le4 le5 le6 le7 le8 le9 le10 le11 le12 le13 ll0 ll1 ldr lpr lmo lho (by omega) _ _ hP hD hS ls (lv_sub hl [0, 1] rfl) (by omega)
        · refine lv_aload_n hx hb dX1_tell_32 rfl (lv_at hl 1 rfl) ?_
          refine va_get (D := (dC, dI)) (ci := 1) (v := .ref d2) (C := RX1) (T := TX1) (N := 19) hx hb hts (fun _ h => List.mem_cons_of_mem _ (List.mem_append_right _ (List.mem_append_left _ h))) hown hK hP 0 rfl rfl 2 kc_l_2_19 (hts (.fieldLink RX1 9 "NotEnded$Course" "held" "[I") (List.mem_cons_of_mem _ (List.mem_append_left _ (List.mem_of_getElem? (i := 12) rfl)))) (fun _ h9 => h9) rfl dX1_tell_33 ?_
          refine lv_iload_n hx hb dX1_tell_36 rfl (lv_at hl 0 rfl) ?_
          have bd_32 : i < 10 := by omega
          refine va_iald hx hb hK hP 1 0 rfl rfl (vp_in_nI (n := i) (N := 10) bd_32 kc_31_10) dX1_tell_37 ?_
          refine lv_topi (fun x_33 ex_33 => ?_)
          refine lv_bipush (v := 50) hx hb dX1_tell_38 kc_b_50 ?_
          refine lv_icmp_lt (tgt := 68) hx hb dX1_tell_40 kc_t_40_28 (fun c_34 => ?_) (fun c_34 => ?_)
          · refine lv_iinc (v := nI (i + 1)) hx hb dX1_tell_68 hl (k := 0) rfl (kInc _ 1) kc_l_1_2 (kTo [(1, .int (nI (i + 1))), (0, .ref jC)]) (fun ls hl => ?_)
            refine lv_goto (tgt := 10) hx hb dX1_tell_71 kc_t_71_m61 ?_
            exact ih_k_4 (i + 1) le2 le3 le4 le5 le6 le7 le8 le9 le10 le11 le12 le13 ll0 ll1 ldr lpr lmo lho (by omega) _ _ hP hD hS ls (lv_sub hl [0, 1] rfl) (by omega)
          · refine lv_aload_n hx hb dX1_tell_43 rfl (lv_at hl 1 rfl) ?_
            refine va_get (D := (dC, dI)) (ci := 1) (v := .ref d5) (C := RX1) (T := TX1) (N := 19) hx hb hts (fun _ h => List.mem_cons_of_mem _ (List.mem_append_right _ (List.mem_append_left _ h))) hown hK hP 0 rfl rfl 5 kc_l_5_19 (hts (.fieldLink RX1 21 "NotEnded$Course" "tellsSince" "[I") (List.mem_cons_of_mem _ (List.mem_append_left _ (List.mem_of_getElem? (i := 14) rfl)))) (fun _ h9 => h9) rfl dX1_tell_44 ?_
            refine lv_iload_n hx hb dX1_tell_47 rfl (lv_at hl 0 rfl) ?_
            refine va_iald hx hb hK hP 4 3 rfl rfl (vp_in_nI (n := i) (N := 10) bd_32 kc_31_10) dX1_tell_48 ?_
            refine lv_topi (fun x_35 ex_35 => ?_)
            refine lv_iconst (v := (-1)) hx hb dX1_tell_49 kc_i_m1 ?_
            refine lv_icmp_ne (tgt := 63) hx hb dX1_tell_50 kc_t_50_13 (fun c_36 => ?_) (fun c_36 => ?_)
            · refine lv_aload_n hx hb dX1_tell_63 rfl (lv_at hl 1 rfl) ?_
              refine lv_iload_n hx hb dX1_tell_64 rfl (lv_at hl 0 rfl) ?_
              have bd_37 : i < ks := by omega
              have hCu := kCut (wc := [(jC, .inr (1, [.ref hF, .ref jK, .ref d2, .ref d3, .ref d4, .ref d5, .ref d6, .ref d7, .ref d8, .ref d9, .ref d10, .ref d11, .ref d12, .ref d13, .ref ru, .long ldr, .int lpr, .int lmo, .int lho])), (d2, .inl (w2, 10, .inl le2)), (d3, .inl (w3, 10, .inl le3)), (d4, .inl (w4, 10, .inl le4)), (d5, .inl (w5, 10, .inl le5)), (d6, .inl (w6, 10, .inl le6)), (d7, .inl (w7, 10, .inl le7)), (d8, .inl (w8, 10, .inl le8)), (d9, .inl (w9, 10, .inl le9)), (d10, .inl (w10, 4, .inl le10)), (d11, .inl (w11, 4, .inl le11)), (d12, .inl (w12, 4, .inl le12)), (d13, .inl (w13, 9, .inr (.inl le13))), (hF, .inr (2, [.ref f0, .ref f1, .ref f2, .ref f3, .ref f4, .int sn, .int (nI (ks)), .int (nI (kw))])), (f0, .inl (z0, 10, .inl g0)), (f1, .inl (z1, 10, .inl g1)), (f2, .inl (z2, 10, .inl g2)), (f3, .inl (z3, 10, .inl g3)), (f4, .inl (z4, 4, .inl g4)), (jK, .inr (5, [.ref k0, .ref k1])), (k0, .inl (cK, 8, .inl ll0)), (k1, .inl (cO, 32, .inl ll1))]) hP hD hS hA [0, 1, 2, 3, 4, 5, 6, 7, 8, 9, 10, 11, 12, 13, 14, 15, 16, 17, 18, 19, 20, 21] rfl kc_nd_203 rfl
              have hPc := hCu.1
              have hDc := hCu.2.1
              have hFc := hCu.2.2
              have hKc := hK.sb (tys2 := [(w2, .int), (w3, .int), (w4, .int), (w5, .int), (w6, .int), (w7, .int), (w8, .int), (w9, .int), (w10, .int), (w11, .int), (w12, .int), (w13, .long), (z0, .int), (z1, .int), (z2, .int), (z3, .int), (z4, .int), (cK, .int), (cO, .int), (cS, .int), (cc, .int)]) [0, 1, 2, 3, 4, 5, 6, 7, 8, 9, 10, 11, 12, 13, 14, 15, 16, 17, 18, 19, 20] rfl
              refine va_callv (va_runV (As := [.int (nI (i))]) (rest := []) ⟨hx, hb, hml, hown, hts⟩ (s_tellKnown1 l dC dI jC d2 d3 d4 d5 d6 d7 d8 d9 d10 d11 d12 d13 w2 w3 w4 w5 w6 w7 w8 w9 w10 w11 w12 w13 le2 le3 le4 le5 le6 le7 le8 le9 le10 le11 le12 le13 ldr lpr lmo lho hF f0 f1 f2 f3 f4 z0 z1 z2 z3 z4 g0 g1 g2 g3 g4 sn ks kw hks hkw jK k0 k1 cK cO ll0 ll1 ru sA cl cS cc nS nC gS gC hnS hnC i bd_37 H.size) (cwV 1 hts (kG (List.forall_mem_cons.mpr ⟨(List.mem_cons_of_mem _ (List.mem_append_left _ (List.mem_of_getElem? (i := 18) rfl))), (List.forall_mem_cons.mpr ⟨(List.mem_cons_of_mem _ (List.mem_append_left _ (List.mem_of_getElem? (i := 17) rfl))), (List.forall_mem_cons.mpr ⟨(List.mem_cons_of_mem _ (List.mem_append_left _ (List.mem_of_getElem? (i := 16) rfl))), (List.forall_mem_cons.mpr ⟨(List.mem_cons_of_mem _ (List.mem_append_left _ (List.mem_of_getElem? (i := 15) rfl))), (fun _ h => absurd h List.not_mem_nil)⟩)⟩)⟩)⟩) (kGV _ _ _ _) (fun _ h => List.mem_cons_of_mem _ (List.mem_append_right _ (List.mem_append_right _ (List.mem_append_right _ (List.mem_append_right _ (List.mem_append_right _ (List.mem_append_right _ h))))))) gw_s_tellKnown1) rfl rfl rfl ⟨rfl, hd_X1_tellThoseKnown⟩ ⟨(Nat.le_of_ble_eq_true rfl), (Nat.le_of_ble_eq_true rfl)⟩) (kW_V kNF_blind (kNF_give hX hS hFc) (va_recv hKc hPc (ci := 1) (q0 := 0) rfl rfl) hPc hKc hDc) rfl rfl hl.1 rfl (lv_room (Nat.le_of_ble_eq_true rfl)) dX1_tell_65 ⟨(Nat.le_of_ble_eq_true rfl), (Nat.le_of_ble_eq_true rfl)⟩) hS (fun q _ h => hFc q h) hFc (kU18 (fun E2_38 E3_39 E4_40 E5_41 E6_42 E7_43 E8_44 E9_45 E10_46 E11_47 E12_48 E13_49 L0_50 L1_51 Pr_52 Mo_53 Ho_54 Dr_55 t H_56 locs ht hvm hw hB hz1 hk1 hS => ?_))
              have hPD : kPD dC dI A [(jC, .inr (1, [.ref hF, .ref jK, .ref d2, .ref d3, .ref d4, .ref d5, .ref d6, .ref d7, .ref d8, .ref d9, .ref d10, .ref d11, .ref d12, .ref d13, .ref ru, .long Dr_55, .int Pr_52, .int Mo_53, .int Ho_54])), (d2, .inl (w2, 10, .inl E2_38)), (d3, .inl (w3, 10, .inl E3_39)), (d4, .inl (w4, 10, .inl E4_40)), (d5, .inl (w5, 10, .inl E5_41)), (d6, .inl (w6, 10, .inl E6_42)), (d7, .inl (w7, 10, .inl E7_43)), (d8, .inl (w8, 10, .inl E8_44)), (d9, .inl (w9, 10, .inl E9_45)), (d10, .inl (w10, 4, .inl E10_46)), (d11, .inl (w11, 4, .inl E11_47)), (d12, .inl (w12, 4, .inl E12_48)), (d13, .inl (w13, 9, .inr (.inl E13_49))), (hF, .inr (2, [.ref f0, .ref f1, .ref f2, .ref f3, .ref f4, .int sn, .int (nI (ks)), .int (nI (kw))])), (f0, .inl (z0, 10, .inl g0)), (f1, .inl (z1, 10, .inl g1)), (f2, .inl (z2, 10, .inl g2)), (f3, .inl (z3, 10, .inl g3)), (f4, .inl (z4, 4, .inl g4)), (jK, .inr (5, [.ref k0, .ref k1])), (k0, .inl (cK, 8, .inl L0_50)), (k1, .inl (cO, 32, .inl L1_51))] H_56 := kJoinX hP hD [0, 1, 2, 3, 4, 5, 6, 7, 8, 9, 10, 11, 12, 13, 14, 15, 16, 17, 18, 19, 20, 21] rfl hk1 hFc hB.1 ht hB.2.2 rfl [some 0, some 1, some 2, some 3, some 4, some 5, some 6, some 7, some 8, some 9, some 10, some 11, some 12, some 13, some 14, some 15, some 16, some 17, some 18, some 19, some 20, some 21] rfl rfl
              have hP := hPD.1
              have hD := hPD.2
              refine lv_iinc (v := nI (i + 1)) hx hb dX1_tell_68 hl (k := 0) rfl (kInc _ 1) kc_l_1_2 (kTo [(1, .int (nI (i + 1))), (0, .ref jC)]) (fun ls hl => ?_)
              refine lv_goto (tgt := 10) hx hb dX1_tell_71 kc_t_71_m61 ?_
              exact ih_k_4 (i + 1) E2_38 E3_39 E4_40 E5_41 E6_42 E7_43 E8_44 E9_45 E10_46 E11_47 E12_48 E13_49 L0_50 L1_51 Dr_55 Pr_52 Mo_53 Ho_54 (by omega) _ _ hP hD hS ls (lv_sub hl [0, 1] rfl) (by omega)
            · refine lv_aload_n hx hb dX1_tell_53 rfl (lv_at hl 1 rfl) ?_
              refine va_get (D := (dC, dI)) (ci := 1) (v := .ref d5) (C := RX1) (T := TX1) (N := 19) hx hb hts (fun _ h => List.mem_cons_of_mem _ (List.mem_append_right _ (List.mem_append_left _ h))) hown hK hP 0 rfl rfl 5 kc_l_5_19 (hts (.fieldLink RX1 21 "NotEnded$Course" "tellsSince" "[I") (List.mem_cons_of_mem _ (List.mem_append_left _ (List.mem_of_getElem? (i := 14) rfl)))) (fun _ h9 => h9) rfl dX1_tell_54 ?_
              refine lv_iload_n hx hb dX1_tell_57 rfl (lv_at hl 0 rfl) ?_
              refine lv_aload_n hx hb dX1_tell_58 rfl (lv_at hl 1 rfl) ?_
              refine va_get (D := (dC, dI)) (ci := 1) (v := .int lho) (C := RX1) (T := TX1) (N := 19) hx hb hts (fun _ h => List.mem_cons_of_mem _ (List.mem_append_right _ (List.mem_append_left _ h))) hown hK hP 0 rfl rfl 18 kc_l_18_19 (hts (.fieldLink RX1 64 "NotEnded$Course" "hour" "I") (List.mem_cons_of_mem _ (List.mem_append_left _ (List.mem_of_getElem? (i := 19) rfl)))) (fun _ h9 => h9) rfl dX1_tell_59 ?_
              refine va_iast hx hb hK hP hD hS 4 3 rfl rfl (vp_in_nI (n := i) (N := 10) bd_32 kc_31_10) dX1_tell_62 (fun H locs hP hD hS => ?_)
              obtain ⟨f_58, ef_58⟩ : ∃ gg9 : Nat → Int32, gg9 = upd le5 (Int32.toNatClampNeg (nI (i))) lho := ⟨_, rfl⟩
              have hPD : kPD dC dI A [(jC, .inr (1, [.ref hF, .ref jK, .ref d2, .ref d3, .ref d4, .ref d5, .ref d6, .ref d7, .ref d8, .ref d9, .ref d10, .ref d11, .ref d12, .ref d13, .ref ru, .long ldr, .int lpr, .int lmo, .int lho])), (d2, .inl (w2, 10, .inl le2)), (d3, .inl (w3, 10, .inl le3)), (d4, .inl (w4, 10, .inl le4)), (d5, .inl (w5, 10, .inl f_58)), (d6, .inl (w6, 10, .inl le6)), (d7, .inl (w7, 10, .inl le7)), (d8, .inl (w8, 10, .inl le8)), (d9, .inl (w9, 10, .inl le9)), (d10, .inl (w10, 4, .inl le10)), (d11, .inl (w11, 4, .inl le11)), (d12, .inl (w12, 4, .inl le12)), (d13, .inl (w13, 9, .inr (.inl le13))), (hF, .inr (2, [.ref f0, .ref f1, .ref f2, .ref f3, .ref f4, .int sn, .int (nI (ks)), .int (nI (kw))])), (f0, .inl (z0, 10, .inl g0)), (f1, .inl (z1, 10, .inl g1)), (f2, .inl (z2, 10, .inl g2)), (f3, .inl (z3, 10, .inl g3)), (f4, .inl (z4, 4, .inl g4)), (jK, .inr (5, [.ref k0, .ref k1])), (k0, .inl (cK, 8, .inl ll0)), (k1, .inl (cO, 32, .inl ll1))] H := by rw [ef_58]; exact ⟨hP, hD⟩
              have hP := hPD.1
              have hD := hPD.2
              refine lv_aload_n hx hb dX1_tell_63 rfl (lv_at hl 1 rfl) ?_
              refine lv_iload_n hx hb dX1_tell_64 rfl (lv_at hl 0 rfl) ?_
              have bd_59 : i < ks := by omega
              have hCu := kCut (wc := [(jC, .inr (1, [.ref hF, .ref jK, .ref d2, .ref d3, .ref d4, .ref d5, .ref d6, .ref d7, .ref d8, .ref d9, .ref d10, .ref d11, .ref d12, .ref d13, .ref ru, .long ldr, .int lpr, .int lmo, .int lho])), (d2, .inl (w2, 10, .inl le2)), (d3, .inl (w3, 10, .inl le3)), (d4, .inl (w4, 10, .inl le4)), (d5, .inl (w5, 10, .inl f_58)), (d6, .inl (w6, 10, .inl le6)), (d7, .inl (w7, 10, .inl le7)), (d8, .inl (w8, 10, .inl le8)), (d9, .inl (w9, 10, .inl le9)), (d10, .inl (w10, 4, .inl le10)), (d11, .inl (w11, 4, .inl le11)), (d12, .inl (w12, 4, .inl le12)), (d13, .inl (w13, 9, .inr (.inl le13))), (hF, .inr (2, [.ref f0, .ref f1, .ref f2, .ref f3, .ref f4, .int sn, .int (nI (ks)), .int (nI (kw))])), (f0, .inl (z0, 10, .inl g0)), (f1, .inl (z1, 10, .inl g1)), (f2, .inl (z2, 10, .inl g2)), (f3, .inl (z3, 10, .inl g3)), (f4, .inl (z4, 4, .inl g4)), (jK, .inr (5, [.ref k0, .ref k1])), (k0, .inl (cK, 8, .inl ll0)), (k1, .inl (cO, 32, .inl ll1))]) hP hD hS hA [0, 1, 2, 3, 4, 5, 6, 7, 8, 9, 10, 11, 12, 13, 14, 15, 16, 17, 18, 19, 20, 21] rfl kc_nd_203 rfl
              have hPc := hCu.1
              have hDc := hCu.2.1
              have hFc := hCu.2.2
              have hKc := hK.sb (tys2 := [(w2, .int), (w3, .int), (w4, .int), (w5, .int), (w6, .int), (w7, .int), (w8, .int), (w9, .int), (w10, .int), (w11, .int), (w12, .int), (w13, .long), (z0, .int), (z1, .int), (z2, .int), (z3, .int), (z4, .int), (cK, .int), (cO, .int), (cS, .int), (cc, .int)]) [0, 1, 2, 3, 4, 5, 6, 7, 8, 9, 10, 11, 12, 13, 14, 15, 16, 17, 18, 19, 20] rfl
              refine va_callv (va_runV (As := [.int (nI (i))]) (rest := []) ⟨hx, hb, hml, hown, hts⟩ (s_tellKnown1 l dC dI jC d2 d3 d4 d5 d6 d7 d8 d9 d10 d11 d12 d13 w2 w3 w4 w5 w6 w7 w8 w9 w10 w11 w12 w13 le2 le3 le4 f_58 le6 le7 le8 le9 le10 le11 le12 le13 ldr lpr lmo lho hF f0 f1 f2 f3 f4 z0 z1 z2 z3 z4 g0 g1 g2 g3 g4 sn ks kw hks hkw jK k0 k1 cK cO ll0 ll1 ru sA cl cS cc nS nC gS gC hnS hnC i bd_59 H.size) (cwV 1 hts (kG (List.forall_mem_cons.mpr ⟨(List.mem_cons_of_mem _ (List.mem_append_left _ (List.mem_of_getElem? (i := 18) rfl))), (List.forall_mem_cons.mpr ⟨(List.mem_cons_of_mem _ (List.mem_append_left _ (List.mem_of_getElem? (i := 17) rfl))), (List.forall_mem_cons.mpr ⟨(List.mem_cons_of_mem _ (List.mem_append_left _ (List.mem_of_getElem? (i := 16) rfl))), (List.forall_mem_cons.mpr ⟨(List.mem_cons_of_mem _ (List.mem_append_left _ (List.mem_of_getElem? (i := 15) rfl))), (fun _ h => absurd h List.not_mem_nil)⟩)⟩)⟩)⟩) (kGV _ _ _ _) (fun _ h => List.mem_cons_of_mem _ (List.mem_append_right _ (List.mem_append_right _ (List.mem_append_right _ (List.mem_append_right _ (List.mem_append_right _ (List.mem_append_right _ h))))))) gw_s_tellKnown1) rfl rfl rfl ⟨rfl, hd_X1_tellThoseKnown⟩ ⟨(Nat.le_of_ble_eq_true rfl), (Nat.le_of_ble_eq_true rfl)⟩) (kW_V kNF_blind (kNF_give hX hS hFc) (va_recv hKc hPc (ci := 1) (q0 := 0) rfl rfl) hPc hKc hDc) rfl rfl hl.1 rfl (lv_room (Nat.le_of_ble_eq_true rfl)) dX1_tell_65 ⟨(Nat.le_of_ble_eq_true rfl), (Nat.le_of_ble_eq_true rfl)⟩) hS (fun q _ h => hFc q h) hFc (kU18 (fun E2_60 E3_61 E4_62 E5_63 E6_64 E7_65 E8_66 E9_67 E10_68 E11_69 E12_70 E13_71 L0_72 L1_73 Pr_74 Mo_75 Ho_76 Dr_77 t H_78 locs ht hvm hw hB hz1 hk1 hS => ?_))
              have hPD : kPD dC dI A [(jC, .inr (1, [.ref hF, .ref jK, .ref d2, .ref d3, .ref d4, .ref d5, .ref d6, .ref d7, .ref d8, .ref d9, .ref d10, .ref d11, .ref d12, .ref d13, .ref ru, .long Dr_77, .int Pr_74, .int Mo_75, .int Ho_76])), (d2, .inl (w2, 10, .inl E2_60)), (d3, .inl (w3, 10, .inl E3_61)), (d4, .inl (w4, 10, .inl E4_62)), (d5, .inl (w5, 10, .inl E5_63)), (d6, .inl (w6, 10, .inl E6_64)), (d7, .inl (w7, 10, .inl E7_65)), (d8, .inl (w8, 10, .inl E8_66)), (d9, .inl (w9, 10, .inl E9_67)), (d10, .inl (w10, 4, .inl E10_68)), (d11, .inl (w11, 4, .inl E11_69)), (d12, .inl (w12, 4, .inl E12_70)), (d13, .inl (w13, 9, .inr (.inl E13_71))), (hF, .inr (2, [.ref f0, .ref f1, .ref f2, .ref f3, .ref f4, .int sn, .int (nI (ks)), .int (nI (kw))])), (f0, .inl (z0, 10, .inl g0)), (f1, .inl (z1, 10, .inl g1)), (f2, .inl (z2, 10, .inl g2)), (f3, .inl (z3, 10, .inl g3)), (f4, .inl (z4, 4, .inl g4)), (jK, .inr (5, [.ref k0, .ref k1])), (k0, .inl (cK, 8, .inl L0_72)), (k1, .inl (cO, 32, .inl L1_73))] H_78 := kJoinX hP hD [0, 1, 2, 3, 4, 5, 6, 7, 8, 9, 10, 11, 12, 13, 14, 15, 16, 17, 18, 19, 20, 21] rfl hk1 hFc hB.1 ht hB.2.2 rfl [some 0, some 1, some 2, some 3, some 4, some 5, some 6, some 7, some 8, some 9, some 10, some 11, some 12, some 13, some 14, some 15, some 16, some 17, some 18, some 19, some 20, some 21] rfl rfl
              have hP := hPD.1
              have hD := hPD.2
              refine lv_iinc (v := nI (i + 1)) hx hb dX1_tell_68 hl (k := 0) rfl (kInc _ 1) kc_l_1_2 (kTo [(1, .int (nI (i + 1))), (0, .ref jC)]) (fun ls hl => ?_)
              refine lv_goto (tgt := 10) hx hb dX1_tell_71 kc_t_71_m61 ?_
              exact ih_k_4 (i + 1) E2_60 E3_61 E4_62 E5_63 E6_64 E7_65 E8_66 E9_67 E10_68 E11_69 E12_70 E13_71 L0_72 L1_73 Dr_77 Pr_74 Mo_75 Ho_76 (by omega) _ _ hP hD hS ls (lv_sub hl [0, 1] rfl) (by omega)
  exact lp_k_4 (ks - 0 + 1) 0 e2 e3 e4 e5 e6 e7 e8 g1_1 e10 e11 e12 e13 l0 l1 dr pr mo ho (by omega) _ _ hP hD hS ls (lv_sub hl [0, 1] rfl) (by omega)

theorem dX1_goHome_0 : decode cX1_goHome 0 = .ok (.iconst 0, 1) := kDs0 kf_3 (by decide +kernel)
theorem dX1_goHome_1 : decode cX1_goHome 1 = .ok (.istore_n 1, 1) := kDs0 kf_60 (by decide +kernel)
theorem dX1_goHome_2 : decode cX1_goHome 2 = .ok (.iload_n 1, 1) := kDs0 kf_27 (by decide +kernel)
theorem dX1_goHome_3 : decode cX1_goHome 3 = .ok (.aload_n 0, 1) := kDs0 kf_42 (by decide +kernel)
theorem dX1_goHome_4 : decode cX1_goHome 4 = .ok (.getfield 67, 3) := kDs2 kf_180 (by decide +kernel)
theorem dX1_goHome_7 : decode cX1_goHome 7 = .ok (.invokevirtual 84, 3) := kDs2 kf_182 (by decide +kernel)
theorem dX1_goHome_10 : decode cX1_goHome 10 = .ok (.if_icmp .ge 62, 3) := kDs4 kf_162 (by decide +kernel)
theorem dX1_goHome_72 : decode cX1_goHome 72 = .ok (.return_, 1) := kDs0 kf_177 (by decide +kernel)
theorem dX1_goHome_13 : decode cX1_goHome 13 = .ok (.aload_n 0, 1) := kDs0 kf_42 (by decide +kernel)
theorem dX1_goHome_14 : decode cX1_goHome 14 = .ok (.iload_n 1, 1) := kDs0 kf_27 (by decide +kernel)
theorem dX1_goHome_15 : decode cX1_goHome 15 = .ok (.invokevirtual 142, 3) := kDs2 kf_182 (by decide +kernel)
theorem dX1_goHome_18 : decode cX1_goHome 18 = .ok (.ifCond .eq 48, 3) := kDs4 kf_153 (by decide +kernel)
theorem dX1_goHome_66 : decode cX1_goHome 66 = .ok (.iinc 1 1, 3) := kDs5 kf_132 (by decide +kernel)
theorem dX1_goHome_69 : decode cX1_goHome 69 = .ok (.goto (-67), 3) := kDs4 kf_167 (by decide +kernel)
theorem dX1_goHome_21 : decode cX1_goHome 21 = .ok (.aload_n 0, 1) := kDs0 kf_42 (by decide +kernel)
theorem dX1_goHome_22 : decode cX1_goHome 22 = .ok (.aload_n 0, 1) := kDs0 kf_42 (by decide +kernel)
theorem dX1_goHome_23 : decode cX1_goHome 23 = .ok (.getfield 53, 3) := kDs2 kf_180 (by decide +kernel)
theorem dX1_goHome_26 : decode cX1_goHome 26 = .ok (.ldc2_w 183, 3) := kDs2 kf_20 (by decide +kernel)
theorem dX1_goHome_29 : decode cX1_goHome 29 = .ok (.lmul, 1) := kDs0 kf_105 (by decide +kernel)
theorem dX1_goHome_30 : decode cX1_goHome 30 = .ok (.ldc2_w 185, 3) := kDs2 kf_20 (by decide +kernel)
theorem dX1_goHome_33 : decode cX1_goHome 33 = .ok (.ladd, 1) := kDs0 kf_97 (by decide +kernel)
theorem dX1_goHome_34 : decode cX1_goHome 34 = .ok (.putfield 53, 3) := kDs2 kf_181 (by decide +kernel)
theorem dX1_goHome_37 : decode cX1_goHome 37 = .ok (.aload_n 0, 1) := kDs0 kf_42 (by decide +kernel)
theorem dX1_goHome_38 : decode cX1_goHome 38 = .ok (.getfield 53, 3) := kDs2 kf_180 (by decide +kernel)
theorem dX1_goHome_41 : decode cX1_goHome 41 = .ok (.bipush 33, 2) := kDs3 kf_16 (by decide +kernel)
theorem dX1_goHome_43 : decode cX1_goHome 43 = .ok (.lushr, 1) := kDs0 kf_125 (by decide +kernel)
theorem dX1_goHome_44 : decode cX1_goHome 44 = .ok (.ldc2_w 187, 3) := kDs2 kf_20 (by decide +kernel)
theorem dX1_goHome_47 : decode cX1_goHome 47 = .ok (.lrem, 1) := kDs0 kf_113 (by decide +kernel)
theorem dX1_goHome_48 : decode cX1_goHome 48 = .ok (.aload_n 0, 1) := kDs0 kf_42 (by decide +kernel)
theorem dX1_goHome_49 : decode cX1_goHome 49 = .ok (.getfield 30, 3) := kDs2 kf_180 (by decide +kernel)
theorem dX1_goHome_52 : decode cX1_goHome 52 = .ok (.iload_n 1, 1) := kDs0 kf_27 (by decide +kernel)
theorem dX1_goHome_53 : decode cX1_goHome 53 = .ok (.iaload, 1) := kDs0 kf_46 (by decide +kernel)
theorem dX1_goHome_54 : decode cX1_goHome 54 = .ok (.i2l, 1) := kDs0 kf_133 (by decide +kernel)
theorem dX1_goHome_55 : decode cX1_goHome 55 = .ok (.lcmp, 1) := kDs0 kf_148 (by decide +kernel)
theorem dX1_goHome_56 : decode cX1_goHome 56 = .ok (.ifCond .ge 10, 3) := kDs4 kf_156 (by decide +kernel)
theorem dX1_goHome_59 : decode cX1_goHome 59 = .ok (.aload_n 0, 1) := kDs0 kf_42 (by decide +kernel)
theorem dX1_goHome_60 : decode cX1_goHome 60 = .ok (.getfield 18, 3) := kDs2 kf_180 (by decide +kernel)
theorem dX1_goHome_63 : decode cX1_goHome 63 = .ok (.iload_n 1, 1) := kDs0 kf_27 (by decide +kernel)
theorem dX1_goHome_64 : decode cX1_goHome 64 = .ok (.iconst (-1), 1) := kDs0 kf_2 (by decide +kernel)
theorem dX1_goHome_65 : decode cX1_goHome 65 = .ok (.iastore, 1) := kDs0 kf_79 (by decide +kernel)
def w_s_goHome1 : List Cond := .code yX1_goHome cX1_goHome 2 none :: ([.fieldLink RX1 67 "NotEnded$Course" "folk" "LNotEnded$Folk;", .initialized RX2, .selects RX2 yX2_size yX2_size, .instanceMethod yX2_size, .methodLink RX1 84 yX2_size, .initialized RX1, .selects RX1 yX1_mayGo yX1_mayGo, .instanceMethod yX1_mayGo, .methodLink RX1 142 yX1_mayGo, .fieldLink RX1 53 "NotEnded$Course" "drawn" "J", .constantLong RX1 183 (6364136223846793005), .constantLong RX1 185 (1442695040888963407), .constantLong RX1 187 (100), .fieldLink RX1 30 "NotEnded$Course" "goes" "[I", .fieldLink RX1 18 "NotEnded$Course" "places" "[I"] ++ (wsX10 ++ (w_s_size2 ++ (w_s_mayGo1))))
theorem gw_s_goHome1 : (w_s_goHome1).all goodWord = true := kGc rfl (kGa (by decide +kernel) (kGa gw_wsX10 (kGa gw_s_size2 gw_s_mayGo1)))
theorem hd_X1_goHome : yX1_goHome.cls ≠ "java/lang/invoke/MethodHandle" ∧ yX1_goHome.cls ≠ "java/lang/invoke/VarHandle" ∧ (parseMethodDescriptor yX1_goHome.desc).map (fun d => d.parameters.length) = some 0 := by decide +kernel
set_option maxHeartbeats 4000000 in
set_option maxRecDepth 100000 in
theorem s_goHome1 (l : Launch) (dC : Nat → ClassId) (dI : Nat → Nat → Nat) (jC : Nat) (d2 : Nat) (d3 : Nat) (d4 : Nat) (d5 : Nat) (d6 : Nat) (d7 : Nat) (d8 : Nat) (d9 : Nat) (d10 : Nat) (d11 : Nat) (d12 : Nat) (d13 : Nat) (w2 : ClassId) (w3 : ClassId) (w4 : ClassId) (w5 : ClassId) (w6 : ClassId) (w7 : ClassId) (w8 : ClassId) (w9 : ClassId) (w10 : ClassId) (w11 : ClassId) (w12 : ClassId) (w13 : ClassId) (e2 : Nat → Int32) (e3 : Nat → Int32) (e4 : Nat → Int32) (e5 : Nat → Int32) (e6 : Nat → Int32) (e7 : Nat → Int32) (e8 : Nat → Int32) (e9 : Nat → Int32) (e10 : Nat → Int32) (e11 : Nat → Int32) (e12 : Nat → Int32) (e13 : Nat → Int64) (dr : Int64) (pr : Int32) (mo : Int32) (ho : Int32) (hF : Nat) (f0 : Nat) (f1 : Nat) (f2 : Nat) (f3 : Nat) (f4 : Nat) (z0 : ClassId) (z1 : ClassId) (z2 : ClassId) (z3 : ClassId) (z4 : ClassId) (g0 : Nat → Int32) (g1 : Nat → Int32) (g2 : Nat → Int32) (g3 : Nat → Int32) (g4 : Nat → Int32) (sn : Int32) (ks : Nat) (kw : Nat) (hks : ks ≤ 10) (hkw : kw ≤ 4) (jK : Nat) (k0 : Nat) (k1 : Nat) (cK : ClassId) (cO : ClassId) (l0 : Nat → Int32) (l1 : Nat → Int32) (ru : Nat) (sA : Nat) (cl : Nat) (cS : ClassId) (cc : ClassId) (nS : Nat) (nC : Nat) (gS : Nat → Int32) (gC : Nat → Int32) (hnS : nS ≤ 200) (hnC : nC ≤ 200) (sz : Nat) : Met l yX1_goHome w_s_goHome1 ({ frames := 4, cells := 0, slots := 0, locals := 240 }) (kW dC dI [.ref jC] [(jC, .inr (1, [.ref hF, .ref jK, .ref d2, .ref d3, .ref d4, .ref d5, .ref d6, .ref d7, .ref d8, .ref d9, .ref d10, .ref d11, .ref d12, .ref d13, .ref ru, .long dr, .int pr, .int mo, .int ho])), (d2, .inl (w2, 10, .inl e2)), (d3, .inl (w3, 10, .inl e3)), (d4, .inl (w4, 10, .inl e4)), (d5, .inl (w5, 10, .inl e5)), (d6, .inl (w6, 10, .inl e6)), (d7, .inl (w7, 10, .inl e7)), (d8, .inl (w8, 10, .inl e8)), (d9, .inl (w9, 10, .inl e9)), (d10, .inl (w10, 4, .inl e10)), (d11, .inl (w11, 4, .inl e11)), (d12, .inl (w12, 4, .inl e12)), (d13, .inl (w13, 9, .inr (.inl e13))), (hF, .inr (2, [.ref f0, .ref f1, .ref f2, .ref f3, .ref f4, .int sn, .int (nI (ks)), .int (nI (kw))])), (f0, .inl (z0, 10, .inl g0)), (f1, .inl (z1, 10, .inl g1)), (f2, .inl (z2, 10, .inl g2)), (f3, .inl (z3, 10, .inl g3)), (f4, .inl (z4, 4, .inl g4)), (jK, .inr (5, [.ref k0, .ref k1])), (k0, .inl (cK, 8, .inl l0)), (k1, .inl (cO, 32, .inl l1))] [(w2, .int), (w3, .int), (w4, .int), (w5, .int), (w6, .int), (w7, .int), (w8, .int), (w9, .int), (w10, .int), (w11, .int), (w12, .int), (w13, .long), (z0, .int), (z1, .int), (z2, .int), (z3, .int), (z4, .int), (cK, .int), (cO, .int), (cS, .int), (cc, .int)] (kNF dC dI [(ru, .inr (6, [.ref sA, .ref cl])), (sA, .inl (cS, nS, .inl gS)), (cl, .inl (cc, nC, .inl gC))] (va_A [(jC, .inr (1, [.ref hF, .ref jK, .ref d2, .ref d3, .ref d4, .ref d5, .ref d6, .ref d7, .ref d8, .ref d9, .ref d10, .ref d11, .ref d12, .ref d13, .ref ru, .long dr, .int pr, .int mo, .int ho])), (d2, .inl (w2, 10, .inl e2)), (d3, .inl (w3, 10, .inl e3)), (d4, .inl (w4, 10, .inl e4)), (d5, .inl (w5, 10, .inl e5)), (d6, .inl (w6, 10, .inl e6)), (d7, .inl (w7, 10, .inl e7)), (d8, .inl (w8, 10, .inl e8)), (d9, .inl (w9, 10, .inl e9)), (d10, .inl (w10, 4, .inl e10)), (d11, .inl (w11, 4, .inl e11)), (d12, .inl (w12, 4, .inl e12)), (d13, .inl (w13, 9, .inr (.inl e13))), (hF, .inr (2, [.ref f0, .ref f1, .ref f2, .ref f3, .ref f4, .int sn, .int (nI (ks)), .int (nI (kw))])), (f0, .inl (z0, 10, .inl g0)), (f1, .inl (z1, 10, .inl g1)), (f2, .inl (z2, 10, .inl g2)), (f3, .inl (z3, 10, .inl g3)), (f4, .inl (z4, 4, .inl g4)), (jK, .inr (5, [.ref k0, .ref k1])), (k0, .inl (cK, 8, .inl l0)), (k1, .inl (cO, 32, .inl l1))] sz)) sz) (va_Qv (fun (u : (Nat → Int32) × (Nat → Int32) × (Nat → Int32) × (Nat → Int32) × (Nat → Int32) × (Nat → Int32) × (Nat → Int32) × (Nat → Int32) × (Nat → Int32) × (Nat → Int32) × (Nat → Int32) × (Nat → Int64) × (Nat → Int32) × (Nat → Int32) × Int32 × Int32 × Int32 × Int64) => match u with | (E2, E3, E4, E5, E6, E7, E8, E9, E10, E11, E12, E13, L0, L1, Pr, Mo, Ho, Dr) => True) (fun (u : (Nat → Int32) × (Nat → Int32) × (Nat → Int32) × (Nat → Int32) × (Nat → Int32) × (Nat → Int32) × (Nat → Int32) × (Nat → Int32) × (Nat → Int32) × (Nat → Int32) × (Nat → Int32) × (Nat → Int64) × (Nat → Int32) × (Nat → Int32) × Int32 × Int32 × Int32 × Int64) => match u with | (E2, E3, E4, E5, E6, E7, E8, E9, E10, E11, E12, E13, L0, L1, Pr, Mo, Ho, Dr) => fun t : State => kB dC dI [(jC, .inr (1, [.ref hF, .ref jK, .ref d2, .ref d3, .ref d4, .ref d5, .ref d6, .ref d7, .ref d8, .ref d9, .ref d10, .ref d11, .ref d12, .ref d13, .ref ru, .long Dr, .int Pr, .int Mo, .int Ho])), (d2, .inl (w2, 10, .inl E2)), (d3, .inl (w3, 10, .inl E3)), (d4, .inl (w4, 10, .inl E4)), (d5, .inl (w5, 10, .inl E5)), (d6, .inl (w6, 10, .inl E6)), (d7, .inl (w7, 10, .inl E7)), (d8, .inl (w8, 10, .inl E8)), (d9, .inl (w9, 10, .inl E9)), (d10, .inl (w10, 4, .inl E10)), (d11, .inl (w11, 4, .inl E11)), (d12, .inl (w12, 4, .inl E12)), (d13, .inl (w13, 9, .inr (.inl E13))), (hF, .inr (2, [.ref f0, .ref f1, .ref f2, .ref f3, .ref f4, .int sn, .int (nI (ks)), .int (nI (kw))])), (f0, .inl (z0, 10, .inl g0)), (f1, .inl (z1, 10, .inl g1)), (f2, .inl (z2, 10, .inl g2)), (f3, .inl (z3, 10, .inl g3)), (f4, .inl (z4, 4, .inl g4)), (jK, .inr (5, [.ref k0, .ref k1])), (k0, .inl (cK, 8, .inl L0)), (k1, .inl (cO, 32, .inl L1))] [(w2, .int), (w3, .int), (w4, .int), (w5, .int), (w6, .int), (w7, .int), (w8, .int), (w9, .int), (w10, .int), (w11, .int), (w12, .int), (w13, .long), (z0, .int), (z1, .int), (z2, .int), (z3, .int), (z4, .int), (cK, .int), (cO, .int), (cS, .int), (cc, .int)] (va_A [(jC, .inr (1, [.ref hF, .ref jK, .ref d2, .ref d3, .ref d4, .ref d5, .ref d6, .ref d7, .ref d8, .ref d9, .ref d10, .ref d11, .ref d12, .ref d13, .ref ru, .long dr, .int pr, .int mo, .int ho])), (d2, .inl (w2, 10, .inl e2)), (d3, .inl (w3, 10, .inl e3)), (d4, .inl (w4, 10, .inl e4)), (d5, .inl (w5, 10, .inl e5)), (d6, .inl (w6, 10, .inl e6)), (d7, .inl (w7, 10, .inl e7)), (d8, .inl (w8, 10, .inl e8)), (d9, .inl (w9, 10, .inl e9)), (d10, .inl (w10, 4, .inl e10)), (d11, .inl (w11, 4, .inl e11)), (d12, .inl (w12, 4, .inl e12)), (d13, .inl (w13, 9, .inr (.inl e13))), (hF, .inr (2, [.ref f0, .ref f1, .ref f2, .ref f3, .ref f4, .int sn, .int (nI (ks)), .int (nI (kw))])), (f0, .inl (z0, 10, .inl g0)), (f1, .inl (z1, 10, .inl g1)), (f2, .inl (z2, 10, .inl g2)), (f3, .inl (z3, 10, .inl g3)), (f4, .inl (z4, 4, .inl g4)), (jK, .inr (5, [.ref k0, .ref k1])), (k0, .inl (cK, 8, .inl l0)), (k1, .inl (cO, 32, .inl l1))] sz) t) (va_A [(jC, .inr (1, [.ref hF, .ref jK, .ref d2, .ref d3, .ref d4, .ref d5, .ref d6, .ref d7, .ref d8, .ref d9, .ref d10, .ref d11, .ref d12, .ref d13, .ref ru, .long dr, .int pr, .int mo, .int ho])), (d2, .inl (w2, 10, .inl e2)), (d3, .inl (w3, 10, .inl e3)), (d4, .inl (w4, 10, .inl e4)), (d5, .inl (w5, 10, .inl e5)), (d6, .inl (w6, 10, .inl e6)), (d7, .inl (w7, 10, .inl e7)), (d8, .inl (w8, 10, .inl e8)), (d9, .inl (w9, 10, .inl e9)), (d10, .inl (w10, 4, .inl e10)), (d11, .inl (w11, 4, .inl e11)), (d12, .inl (w12, 4, .inl e12)), (d13, .inl (w13, 9, .inr (.inl e13))), (hF, .inr (2, [.ref f0, .ref f1, .ref f2, .ref f3, .ref f4, .int sn, .int (nI (ks)), .int (nI (kw))])), (f0, .inl (z0, 10, .inl g0)), (f1, .inl (z1, 10, .inl g1)), (f2, .inl (z2, 10, .inl g2)), (f3, .inl (z3, 10, .inl g3)), (f4, .inl (z4, 4, .inl g4)), (jK, .inr (5, [.ref k0, .ref k1])), (k0, .inl (cK, 8, .inl l0)), (k1, .inl (cO, 32, .inl l1))] sz)) 0 0 (va_A [(jC, .inr (1, [.ref hF, .ref jK, .ref d2, .ref d3, .ref d4, .ref d5, .ref d6, .ref d7, .ref d8, .ref d9, .ref d10, .ref d11, .ref d12, .ref d13, .ref ru, .long dr, .int pr, .int mo, .int ho])), (d2, .inl (w2, 10, .inl e2)), (d3, .inl (w3, 10, .inl e3)), (d4, .inl (w4, 10, .inl e4)), (d5, .inl (w5, 10, .inl e5)), (d6, .inl (w6, 10, .inl e6)), (d7, .inl (w7, 10, .inl e7)), (d8, .inl (w8, 10, .inl e8)), (d9, .inl (w9, 10, .inl e9)), (d10, .inl (w10, 4, .inl e10)), (d11, .inl (w11, 4, .inl e11)), (d12, .inl (w12, 4, .inl e12)), (d13, .inl (w13, 9, .inr (.inl e13))), (hF, .inr (2, [.ref f0, .ref f1, .ref f2, .ref f3, .ref f4, .int sn, .int (nI (ks)), .int (nI (kw))])), (f0, .inl (z0, 10, .inl g0)), (f1, .inl (z1, 10, .inl g1)), (f2, .inl (z2, 10, .inl g2)), (f3, .inl (z3, 10, .inl g3)), (f4, .inl (z4, 4, .inl g4)), (jK, .inr (5, [.ref k0, .ref k1])), (k0, .inl (cK, 8, .inl l0)), (k1, .inl (cO, 32, .inl l1))] sz) := by
  refine Met.ofW (cc := cX1_goHome) (maxL := 2) (ret := none) (by decide) rfl ?_
  intro p e s m args below meth c s₁ B hml hv
  obtain ⟨rfl, hsz, hP, hK, hD0, hX⟩ := hv
  have hx := B.exec
  have hb := B.bytes
  have hr := B.returns
  have hts := atoms_spec (ws := w_s_goHome1) B.pre
  have hown : s.vm.findClass RX1 = some m.cls := findClass_of_methodNamed B.named
  have hlocks := B.notSynchronized
  subst hsz
  have hD := hD0.self (sz := s.heap.size)
  generalize hAe : va_A [(jC, .inr (1, [.ref hF, .ref jK, .ref d2, .ref d3, .ref d4, .ref d5, .ref d6, .ref d7, .ref d8, .ref d9, .ref d10, .ref d11, .ref d12, .ref d13, .ref ru, .long dr, .int pr, .int mo, .int ho])), (d2, .inl (w2, 10, .inl e2)), (d3, .inl (w3, 10, .inl e3)), (d4, .inl (w4, 10, .inl e4)), (d5, .inl (w5, 10, .inl e5)), (d6, .inl (w6, 10, .inl e6)), (d7, .inl (w7, 10, .inl e7)), (d8, .inl (w8, 10, .inl e8)), (d9, .inl (w9, 10, .inl e9)), (d10, .inl (w10, 4, .inl e10)), (d11, .inl (w11, 4, .inl e11)), (d12, .inl (w12, 4, .inl e12)), (d13, .inl (w13, 9, .inr (.inl e13))), (hF, .inr (2, [.ref f0, .ref f1, .ref f2, .ref f3, .ref f4, .int sn, .int (nI (ks)), .int (nI (kw))])), (f0, .inl (z0, 10, .inl g0)), (f1, .inl (z1, 10, .inl g1)), (f2, .inl (z2, 10, .inl g2)), (f3, .inl (z3, 10, .inl g3)), (f4, .inl (z4, 4, .inl g4)), (jK, .inr (5, [.ref k0, .ref k1])), (k0, .inl (cK, 8, .inl l0)), (k1, .inl (cO, 32, .inl l1))] s.heap.size = A at hD hX ⊢
  have hA : ∀ q : Nat, s.heap.size ≤ q → A q := fun q h => by rw [← hAe]; exact Or.inr h
  have hS : va_S A s.heap s.heap [] := va_S.rf
  have hP : va_P (dC, dI) vwCl [(jC, .inr (1, [.ref hF, .ref jK, .ref d2, .ref d3, .ref d4, .ref d5, .ref d6, .ref d7, .ref d8, .ref d9, .ref d10, .ref d11, .ref d12, .ref d13, .ref ru, .long dr, .int pr, .int mo, .int ho])), (d2, .inl (w2, 10, .inl e2)), (d3, .inl (w3, 10, .inl e3)), (d4, .inl (w4, 10, .inl e4)), (d5, .inl (w5, 10, .inl e5)), (d6, .inl (w6, 10, .inl e6)), (d7, .inl (w7, 10, .inl e7)), (d8, .inl (w8, 10, .inl e8)), (d9, .inl (w9, 10, .inl e9)), (d10, .inl (w10, 4, .inl e10)), (d11, .inl (w11, 4, .inl e11)), (d12, .inl (w12, 4, .inl e12)), (d13, .inl (w13, 9, .inr (.inl e13))), (hF, .inr (2, [.ref f0, .ref f1, .ref f2, .ref f3, .ref f4, .int sn, .int (nI (ks)), .int (nI (kw))])), (f0, .inl (z0, 10, .inl g0)), (f1, .inl (z1, 10, .inl g1)), (f2, .inl (z2, 10, .inl g2)), (f3, .inl (z3, 10, .inl g3)), (f4, .inl (z4, 4, .inl g4)), (jK, .inr (5, [.ref k0, .ref k1])), (k0, .inl (cK, 8, .inl l0)), (k1, .inl (cO, 32, .inl l1))] s.heap := hP
  have hl := lv_entry ([.ref jC]) (n := 2) (Nat.le_of_ble_eq_true rfl)
  rw [lg_entry_eq]
  generalize (lg_sl ([.ref jC]) ++ List.replicate (2 - (lg_sl ([.ref jC])).length) Slot.unset).toArray = ls at hl ⊢
  have hl : lv_has ls 2 [(0, .ref jC)] := hl
  refine kQ (fun Q hQ => ?_)
  refine lv_iconst (v := 0) hx hb dX1_goHome_0 kc_i_0 ?_
  refine lv_istore_n hx hb dX1_goHome_1 rfl hl kc_l_1_2 (kTo [(1, .int 0), (0, .ref jC)]) (fun ls hl => ?_)
  have lp_k_1 : ∀ (n9 : Nat) (i : Nat) (le2 : Nat → Int32) (le3 : Nat → Int32) (le4 : Nat → Int32) (le5 : Nat → Int32) (le6 : Nat → Int32) (le7 : Nat → Int32) (le8 : Nat → Int32) (le9 : Nat → Int32) (le10 : Nat → Int32) (le11 : Nat → Int32) (le12 : Nat → Int32) (le13 : Nat → Int64) (ll0 : Nat → Int32) (ll1 : Nat → Int32) (ldr : Int64) (lpr : Int32) (lmo : Int32) (lho : Int32) (ivk_1_0 : i ≤ ks) (H : Heap) (locs : List Loc) (_ : va_P (dC, dI) vwCl [(jC, .inr (1, [.ref hF, .ref jK, .ref d2, .ref d3, .ref d4, .ref d5, .ref d6, .ref d7, .ref d8, .ref d9, .ref d10, .ref d11, .ref d12, .ref d13, .ref ru, .long ldr, .int lpr, .int lmo, .int lho])), (d2, .inl (w2, 10, .inl le2)), (d3, .inl (w3, 10, .inl le3)), (d4, .inl (w4, 10, .inl le4)), (d5, .inl (w5, 10, .inl le5)), (d6, .inl (w6, 10, .inl le6)), (d7, .inl (w7, 10, .inl le7)), (d8, .inl (w8, 10, .inl le8)), (d9, .inl (w9, 10, .inl le9)), (d10, .inl (w10, 4, .inl le10)), (d11, .inl (w11, 4, .inl le11)), (d12, .inl (w12, 4, .inl le12)), (d13, .inl (w13, 9, .inr (.inl le13))), (hF, .inr (2, [.ref f0, .ref f1, .ref f2, .ref f3, .ref f4, .int sn, .int (nI (ks)), .int (nI (kw))])), (f0, .inl (z0, 10, .inl g0)), (f1, .inl (z1, 10, .inl g1)), (f2, .inl (z2, 10, .inl g2)), (f3, .inl (z3, 10, .inl g3)), (f4, .inl (z4, 4, .inl g4)), (jK, .inr (5, [.ref k0, .ref k1])), (k0, .inl (cK, 8, .inl ll0)), (k1, .inl (cO, 32, .inl ll1))] H) (_ : va_D A [(jC, .inr (1, [.ref hF, .ref jK, .ref d2, .ref d3, .ref d4, .ref d5, .ref d6, .ref d7, .ref d8, .ref d9, .ref d10, .ref d11, .ref d12, .ref d13, .ref ru, .long ldr, .int lpr, .int lmo, .int lho])), (d2, .inl (w2, 10, .inl le2)), (d3, .inl (w3, 10, .inl le3)), (d4, .inl (w4, 10, .inl le4)), (d5, .inl (w5, 10, .inl le5)), (d6, .inl (w6, 10, .inl le6)), (d7, .inl (w7, 10, .inl le7)), (d8, .inl (w8, 10, .inl le8)), (d9, .inl (w9, 10, .inl le9)), (d10, .inl (w10, 4, .inl le10)), (d11, .inl (w11, 4, .inl le11)), (d12, .inl (w12, 4, .inl le12)), (d13, .inl (w13, 9, .inr (.inl le13))), (hF, .inr (2, [.ref f0, .ref f1, .ref f2, .ref f3, .ref f4, .int sn, .int (nI (ks)), .int (nI (kw))])), (f0, .inl (z0, 10, .inl g0)), (f1, .inl (z1, 10, .inl g1)), (f2, .inl (z2, 10, .inl g2)), (f3, .inl (z3, 10, .inl g3)), (f4, .inl (z4, 4, .inl g4)), (jK, .inr (5, [.ref k0, .ref k1])), (k0, .inl (cK, 8, .inl ll0)), (k1, .inl (cO, 32, .inl ll1))]) (_ : va_S A s.heap H locs) (ls : Array Slot) (_ : lv_has ls 2 [(1, .int (nI (i))), (0, .ref jC)]) (_ : ks - i < n9), W p l e (headSpec w_s_goHome1 ({ frames := 4, cells := 0, slots := 0, locals := 240 })).room s m (#[.ref jC] : Array Value) below meth c H locs 0 0 Q (F0 m 2 ls []) := by
    intro n9
    induction n9 with
    | zero => intro i le2 le3 le4 le5 le6 le7 le8 le9 le10 le11 le12 le13 ll0 ll1 ldr lpr lmo lho ivk_1_0 H locs hP hD hS ls hl hm9; exact absurd hm9 (Nat.not_lt_zero _)
    | succ n9 ih_k_1 =>
      intro i le2 le3 le4 le5 le6 le7 le8 le9 le10 le11 le12 le13 ll0 ll1 ldr lpr lmo lho ivk_1_0 H locs hP hD hS ls hl hm9
      refine lv_iload_n hx hb dX1_goHome_2 rfl (lv_at hl 0 rfl) ?_
      refine lv_aload_n hx hb dX1_goHome_3 rfl (lv_at hl 1 rfl) ?_
      refine va_get (D := (dC, dI)) (ci := 1) (v := .ref hF) (C := RX1) (T := TX1) (N := 19) hx hb hts (fun _ h => List.mem_cons_of_mem _ (List.mem_append_right _ (List.mem_append_left _ h))) hown hK hP 0 rfl rfl 0 kc_l_0_19 (hts (.fieldLink RX1 67 "NotEnded$Course" "folk" "LNotEnded$Folk;") (List.mem_cons_of_mem _ (List.mem_append_left _ (List.mem_of_getElem? (i := 0) rfl)))) (fun _ h9 => h9) rfl dX1_goHome_4 ?_
      have hPc := hP.sb (ws2 := [(hF, .inr (2, [.ref f0, .ref f1, .ref f2, .ref f3, .ref f4, .int sn, .int (nI (ks)), .int (nI (kw))])), (f0, .inl (z0, 10, .inl g0)), (f1, .inl (z1, 10, .inl g1)), (f2, .inl (z2, 10, .inl g2)), (f3, .inl (z3, 10, .inl g3)), (f4, .inl (z4, 4, .inl g4))]) [13, 14, 15, 16, 17, 18] rfl
      have hKc := hK.sb (tys2 := [(z0, .int), (z1, .int), (z2, .int), (z3, .int), (z4, .int)]) [12, 13, 14, 15, 16] rfl
      refine vp_callSi (va_runV (As := []) (rest := [.int (nI (i))]) ⟨hx, hb, hml, hown, hts⟩ (s_size2 l dC dI hF f0 f1 f2 f3 f4 z0 z1 z2 z3 z4 g0 g1 g2 g3 g4 sn ks kw hks hkw) (cwV 0 hts (kG (List.forall_mem_cons.mpr ⟨(List.mem_cons_of_mem _ (List.mem_append_left _ (List.mem_of_getElem? (i := 4) rfl))), (List.forall_mem_cons.mpr ⟨(List.mem_cons_of_mem _ (List.mem_append_left _ (List.mem_of_getElem? (i := 3) rfl))), (List.forall_mem_cons.mpr ⟨(List.mem_cons_of_mem _ (List.mem_append_left _ (List.mem_of_getElem? (i := 2) rfl))), (List.forall_mem_cons.mpr ⟨(List.mem_cons_of_mem _ (List.mem_append_left _ (List.mem_of_getElem? (i := 1) rfl))), (fun _ h => absurd h List.not_mem_nil)⟩)⟩)⟩)⟩) (kGV _ _ _ _) (fun _ h => List.mem_cons_of_mem _ (List.mem_append_right _ (List.mem_append_right _ (List.mem_append_left _ h)))) gw_s_size2) rfl rfl rfl ⟨rfl, hd_X2_size⟩ ⟨(Nat.le_of_ble_eq_true rfl), (Nat.le_of_ble_eq_true rfl)⟩) (kR_V kT_blind kT_give (va_recv hKc hPc (ci := 2) (q0 := 0) rfl rfl) hPc hKc) rfl rfl hl.1 rfl (lv_room (Nat.le_of_ble_eq_true rfl)) dX1_goHome_7 ⟨(Nat.le_of_ble_eq_true rfl), (Nat.le_of_ble_eq_true rfl)⟩).run (fun r_2 hw => ?_)
      obtain rfl : r_2 = nI (ks) := hw
      refine lv_icmp_ge (tgt := 72) hx hb dX1_goHome_10 kc_t_10_62 (fun c_3 => ?_) (fun c_3 => ?_)
      · have bd_5 : ks < 2147483648 := by omega
        have bd_6 : i < 2147483648 := by omega
        have hn_4 := kle (a := ks) (b := i) bd_5 bd_6 c_3
        have hP9 := hP
        have hD9 := hD
        have hK9 := hK
        rw [hQ]
        exact W.vret hx hb hr (fun t ht hW => ⟨⟨(le2, le3, le4, le5, le6, le7, le8, le9, le10, le11, le12, le13, ll0, ll1, lpr, lmo, lho, ldr), rfl, trivial,  by rw [ht]; exact hP9, va_K.moved hW.alike hK9, hD9⟩, hS.F ht⟩) hS.2.2 dX1_goHome_72
      · have bd_8 : ks < 2147483648 := by omega
        have bd_9 : i < 2147483648 := by omega
        have hn_7 := knle (a := ks) (b := i) bd_8 bd_9 c_3
        refine lv_aload_n hx hb dX1_goHome_13 rfl (lv_at hl 1 rfl) ?_
        refine lv_iload_n hx hb dX1_goHome_14 rfl (lv_at hl 0 rfl) ?_
        have bd_10 : i < ks := by omega
        have hPc := hP.sb (ws2 := [(jC, .inr (1, [.ref hF, .ref jK, .ref d2, .ref d3, .ref d4, .ref d5, .ref d6, .ref d7, .ref d8, .ref d9, .ref d10, .ref d11, .ref d12, .ref d13, .ref ru, .long ldr, .int lpr, .int lmo, .int lho])), (d2, .inl (w2, 10, .inl le2)), (d3, .inl (w3, 10, .inl le3)), (d4, .inl (w4, 10, .inl le4)), (d5, .inl (w5, 10, .inl le5)), (d6, .inl (w6, 10, .inl le6)), (d7, .inl (w7, 10, .inl le7)), (d8, .inl (w8, 10, .inl le8)), (d9, .inl (w9, 10, .inl le9)), (d10, .inl (w10, 4, .inl le10)), (d11, .inl (w11, 4, .inl le11)), (d12, .inl (w12, 4, .inl le12)), (d13, .inl (w13, 9, .inr (.inl le13))), (hF, .inr (2, [.ref f0, .ref f1, .ref f2, .ref f3, .ref f4, .int sn, .int (nI (ks)), .int (nI (kw))])), (f0, .inl (z0, 10, .inl g0)), (f1, .inl (z1, 10, .inl g1)), (f2, .inl (z2, 10, .inl g2)), (f3, .inl (z3, 10, .inl g3)), (f4, .inl (z4, 4, .inl g4)), (jK, .inr (5, [.ref k0, .ref k1])), (k0, .inl (cK, 8, .inl ll0)), (k1, .inl (cO, 32, .inl ll1))]) [0, 1, 2, 3, 4, 5, 6, 7, 8, 9, 10, 11, 12, 13, 14, 15, 16, 17, 18, 19, 20, 21] rfl
        have hKc := hK.sb (tys2 := [(w2, .int), (w3, .int), (w4, .int), (w5, .int), (w6, .int), (w7, .int), (w8, .int), (w9, .int), (w10, .int), (w11, .int), (w12, .int), (w13, .long), (z0, .int), (z1, .int), (z2, .int), (z3, .int), (z4, .int), (cK, .int), (cO, .int), (cS, .int), (cc, .int)]) [0, 1, 2, 3, 4, 5, 6, 7, 8, 9, 10, 11, 12, 13, 14, 15, 16, 17, 18, 19, 20] rfl
        refine vp_callSi (va_runV (As := [.int (nI (i))]) (rest := []) ⟨hx, hb, hml, hown, hts⟩ (s_mayGo1 l dC dI jC d2 d3 d4 d5 d6 d7 d8 d9 d10 d11 d12 d13 w2 w3 w4 w5 w6 w7 w8 w9 w10 w11 w12 w13 le2 le3 le4 le5 le6 le7 le8 le9 le10 le11 le12 le13 ldr lpr lmo lho hF f0 f1 f2 f3 f4 z0 z1 z2 z3 z4 g0 g1 g2 g3 g4 sn ks kw hks hkw jK k0 k1 cK cO ll0 ll1 ru sA cl cS cc nS nC gS gC hnS hnC A i bd_10) (cwV 1 hts (kG (List.forall_mem_cons.mpr ⟨(List.mem_cons_of_mem _ (List.mem_append_left _ (List.mem_of_getElem? (i := 8) rfl))), (List.forall_mem_cons.mpr ⟨(List.mem_cons_of_mem _ (List.mem_append_left _ (List.mem_of_getElem? (i := 7) rfl))), (List.forall_mem_cons.mpr ⟨(List.mem_cons_of_mem _ (List.mem_append_left _ (List.mem_of_getElem? (i := 6) rfl))), (List.forall_mem_cons.mpr ⟨(List.mem_cons_of_mem _ (List.mem_append_left _ (List.mem_of_getElem? (i := 5) rfl))), (fun _ h => absurd h List.not_mem_nil)⟩)⟩)⟩)⟩) (kGV _ _ _ _) (fun _ h => List.mem_cons_of_mem _ (List.mem_append_right _ (List.mem_append_right _ (List.mem_append_right _ h)))) gw_s_mayGo1) rfl rfl rfl ⟨rfl, hd_X1_mayGo⟩ ⟨(Nat.le_of_ble_eq_true rfl), (Nat.le_of_ble_eq_true rfl)⟩) (kR_V kNF_blind (kNF_give hX hS (fun _ h => h)) (va_recv hKc hPc (ci := 1) (q0 := 0) rfl rfl) hPc hKc) rfl rfl hl.1 rfl (lv_room (Nat.le_of_ble_eq_true rfl)) dX1_goHome_15 ⟨(Nat.le_of_ble_eq_true rfl), (Nat.le_of_ble_eq_true rfl)⟩).run (fun r_11 hw => ?_)
        have hw_12 := hw
        refine lv_if_eq (tgt := 66) hx hb dX1_goHome_18 kc_t_18_48 (fun c_13 => ?_) (fun c_13 => ?_)
        · refine lv_iinc (v := nI (i + 1)) hx hb dX1_goHome_66 hl (k := 0) rfl (kInc _ 1) kc_l_1_2 (kTo [(1, .int (nI (i + 1))), (0, .ref jC)]) (fun ls hl => ?_)
          refine lv_goto (tgt := 2) hx hb dX1_goHome_69 kc_t_69_m67 ?_
          exact ih_k_1 (i + 1) le2 le3 le4 le5 le6 le7 le8 le9 le10 le11 le12 le13 ll0 ll1 ldr lpr lmo lho (by omega) _ _ hP hD hS ls (lv_sub hl [0, 1] rfl) (by omega)
        · refine lv_aload_n hx hb dX1_goHome_21 rfl (lv_at hl 1 rfl) ?_
          refine lv_aload_n hx hb dX1_goHome_22 rfl (lv_at hl 1 rfl) ?_
          refine va_get (D := (dC, dI)) (ci := 1) (v := .long ldr) (C := RX1) (T := TX1) (N := 19) hx hb hts (fun _ h => List.mem_cons_of_mem _ (List.mem_append_right _ (List.mem_append_left _ h))) hown hK hP 0 rfl rfl 15 kc_l_15_19 (hts (.fieldLink RX1 53 "NotEnded$Course" "drawn" "J") (List.mem_cons_of_mem _ (List.mem_append_left _ (List.mem_of_getElem? (i := 9) rfl)))) (fun _ h9 => h9) rfl dX1_goHome_23 ?_
          refine lv_ldc2 (v := 6364136223846793005) hx hb hown (hts (.constantLong RX1 183 (6364136223846793005)) (List.mem_cons_of_mem _ (List.mem_append_left _ (List.mem_of_getElem? (i := 10) rfl)))) dX1_goHome_26 ?_
          refine lv_lmul hx hb dX1_goHome_29 ?_
          refine lv_topl (fun z_14 ez_14 => ?_)
          refine lv_ldc2 (v := 1442695040888963407) hx hb hown (hts (.constantLong RX1 185 (1442695040888963407)) (List.mem_cons_of_mem _ (List.mem_append_left _ (List.mem_of_getElem? (i := 11) rfl)))) dX1_goHome_30 ?_
          refine lv_ladd hx hb dX1_goHome_33 ?_
          refine lv_topl (fun z_15 ez_15 => ?_)
          refine va_put (D := (dC, dI)) (ci := 1) (v := .long z_15) (ty := tyX1 15) (C := RX1) (T := TX1) (N := 19) hx hb hts (fun _ h => List.mem_cons_of_mem _ (List.mem_append_right _ (List.mem_append_left _ h))) tyX1 tyX1_ok nmX1 hown hK hP hD hS 0 rfl rfl 15 kc_l_15_19 (hts (.fieldLink RX1 53 "NotEnded$Course" "drawn" "J") (List.mem_cons_of_mem _ (List.mem_append_left _ (List.mem_of_getElem? (i := 9) rfl)))) (fun _ h9 => h9) rfl (tyX1_ok 15 kc_l_15_19) rfl rfl (Nat.le_of_ble_eq_true rfl) dX1_goHome_34 (fun H locs hP hD hS => ?_)
          have hPD : kPD dC dI A [(jC, .inr (1, [.ref hF, .ref jK, .ref d2, .ref d3, .ref d4, .ref d5, .ref d6, .ref d7, .ref d8, .ref d9, .ref d10, .ref d11, .ref d12, .ref d13, .ref ru, .long z_15, .int lpr, .int lmo, .int lho])), (d2, .inl (w2, 10, .inl le2)), (d3, .inl (w3, 10, .inl le3)), (d4, .inl (w4, 10, .inl le4)), (d5, .inl (w5, 10, .inl le5)), (d6, .inl (w6, 10, .inl le6)), (d7, .inl (w7, 10, .inl le7)), (d8, .inl (w8, 10, .inl le8)), (d9, .inl (w9, 10, .inl le9)), (d10, .inl (w10, 4, .inl le10)), (d11, .inl (w11, 4, .inl le11)), (d12, .inl (w12, 4, .inl le12)), (d13, .inl (w13, 9, .inr (.inl le13))), (hF, .inr (2, [.ref f0, .ref f1, .ref f2, .ref f3, .ref f4, .int sn, .int (nI (ks)), .int (nI (kw))])), (f0, .inl (z0, 10, .inl g0)), (f1, .inl (z1, 10, .inl g1)), (f2, .inl (z2, 10, .inl g2)), (f3, .inl (z3, 10, .inl g3)), (f4, .inl (z4, 4, .inl g4)), (jK, .inr (5, [.ref k0, .ref k1])), (k0, .inl (cK, 8, .inl ll0)), (k1, .inl (cO, 32, .inl ll1))] H := ⟨hP, hD⟩
          have hP := hPD.1
          have hD := hPD.2
          refine lv_aload_n hx hb dX1_goHome_37 rfl (lv_at hl 1 rfl) ?_
          refine va_get (D := (dC, dI)) (ci := 1) (v := .long z_15) (C := RX1) (T := TX1) (N := 19) hx hb hts (fun _ h => List.mem_cons_of_mem _ (List.mem_append_right _ (List.mem_append_left _ h))) hown hK hP 0 rfl rfl 15 kc_l_15_19 (hts (.fieldLink RX1 53 "NotEnded$Course" "drawn" "J") (List.mem_cons_of_mem _ (List.mem_append_left _ (List.mem_of_getElem? (i := 9) rfl)))) (fun _ h9 => h9) rfl dX1_goHome_38 ?_
          refine lv_bipush (v := 33) hx hb dX1_goHome_41 kc_b_33 ?_
          refine lv_lushr hx hb dX1_goHome_43 rfl ?_
          refine lv_topl (fun z_16 ez_16 => ?_)
          refine lv_ldc2 (v := 100) hx hb hown (hts (.constantLong RX1 187 (100)) (List.mem_cons_of_mem _ (List.mem_append_left _ (List.mem_of_getElem? (i := 12) rfl)))) dX1_goHome_44 ?_
          refine lv_lrem hx hb dX1_goHome_47 (by decide) ?_
          refine lv_topl (fun z_17 ez_17 => ?_)
          refine lv_aload_n hx hb dX1_goHome_48 rfl (lv_at hl 1 rfl) ?_
          refine va_get (D := (dC, dI)) (ci := 1) (v := .ref d8) (C := RX1) (T := TX1) (N := 19) hx hb hts (fun _ h => List.mem_cons_of_mem _ (List.mem_append_right _ (List.mem_append_left _ h))) hown hK hP 0 rfl rfl 8 kc_l_8_19 (hts (.fieldLink RX1 30 "NotEnded$Course" "goes" "[I") (List.mem_cons_of_mem _ (List.mem_append_left _ (List.mem_of_getElem? (i := 13) rfl)))) (fun _ h9 => h9) rfl dX1_goHome_49 ?_
          refine lv_iload_n hx hb dX1_goHome_52 rfl (lv_at hl 0 rfl) ?_
          have bd_18 : i < 10 := by omega
          refine va_iald hx hb hK hP 7 6 rfl rfl (vp_in_nI (n := i) (N := 10) bd_18 kc_31_10) dX1_goHome_53 ?_
          refine lv_topi (fun x_19 ex_19 => ?_)
          obtain ⟨z_20, ez_20⟩ : ∃ z : Int64, z = Int32.toInt64 x_19 := ⟨_, rfl⟩
          refine lv_i2l (v := z_20) hx hb dX1_goHome_54 ez_20.symm ?_
          refine W.lcmp hx hb dX1_goHome_55 ?_
          refine lv_topi (fun x_21 ex_21 => ?_)
          refine lv_if_ge (tgt := 66) hx hb dX1_goHome_56 kc_t_56_10 (fun c_22 => ?_) (fun c_22 => ?_)
          · refine lv_iinc (v := nI (i + 1)) hx hb dX1_goHome_66 hl (k := 0) rfl (kInc _ 1) kc_l_1_2 (kTo [(1, .int (nI (i + 1))), (0, .ref jC)]) (fun ls hl => ?_)
            refine lv_goto (tgt := 2) hx hb dX1_goHome_69 kc_t_69_m67 ?_
            exact ih_k_1 (i + 1) le2 le3 le4 le5 le6 le7 le8 le9 le10 le11 le12 le13 ll0 ll1 z_15 lpr lmo lho (by omega) _ _ hP hD hS ls (lv_sub hl [0, 1] rfl) (by omega)
          · refine lv_aload_n hx hb dX1_goHome_59 rfl (lv_at hl 1 rfl) ?_
            refine va_get (D := (dC, dI)) (ci := 1) (v := .ref d4) (C := RX1) (T := TX1) (N := 19) hx hb hts (fun _ h => List.mem_cons_of_mem _ (List.mem_append_right _ (List.mem_append_left _ h))) hown hK hP 0 rfl rfl 4 kc_l_4_19 (hts (.fieldLink RX1 18 "NotEnded$Course" "places" "[I") (List.mem_cons_of_mem _ (List.mem_append_left _ (List.mem_of_getElem? (i := 14) rfl)))) (fun _ h9 => h9) rfl dX1_goHome_60 ?_
            refine lv_iload_n hx hb dX1_goHome_63 rfl (lv_at hl 0 rfl) ?_
            refine lv_iconst (v := (-1)) hx hb dX1_goHome_64 kc_i_m1 ?_
            refine va_iast hx hb hK hP hD hS 3 2 rfl rfl (vp_in_nI (n := i) (N := 10) bd_18 kc_31_10) dX1_goHome_65 (fun H locs hP hD hS => ?_)
            obtain ⟨f_23, ef_23⟩ : ∃ gg9 : Nat → Int32, gg9 = upd le4 (Int32.toNatClampNeg (nI (i))) (-1) := ⟨_, rfl⟩
            have hPD : kPD dC dI A [(jC, .inr (1, [.ref hF, .ref jK, .ref d2, .ref d3, .ref d4, .ref d5, .ref d6, .ref d7, .ref d8, .ref d9, .ref d10, .ref d11, .ref d12, .ref d13, .ref ru, .long z_15, .int lpr, .int lmo, .int lho])), (d2, .inl (w2, 10, .inl le2)), (d3, .inl (w3, 10, .inl le3)), (d4, .inl (w4, 10, .inl f_23)), (d5, .inl (w5, 10, .inl le5)), (d6, .inl (w6, 10, .inl le6)), (d7, .inl (w7, 10, .inl le7)), (d8, .inl (w8, 10, .inl le8)), (d9, .inl (w9, 10, .inl le9)), (d10, .inl (w10, 4, .inl le10)), (d11, .inl (w11, 4, .inl le11)), (d12, .inl (w12, 4, .inl le12)), (d13, .inl (w13, 9, .inr (.inl le13))), (hF, .inr (2, [.ref f0, .ref f1, .ref f2, .ref f3, .ref f4, .int sn, .int (nI (ks)), .int (nI (kw))])), (f0, .inl (z0, 10, .inl g0)), (f1, .inl (z1, 10, .inl g1)), (f2, .inl (z2, 10, .inl g2)), (f3, .inl (z3, 10, .inl g3)), (f4, .inl (z4, 4, .inl g4)), (jK, .inr (5, [.ref k0, .ref k1])), (k0, .inl (cK, 8, .inl ll0)), (k1, .inl (cO, 32, .inl ll1))] H := by rw [ef_23]; exact ⟨hP, hD⟩
            have hP := hPD.1
            have hD := hPD.2
            refine lv_iinc (v := nI (i + 1)) hx hb dX1_goHome_66 hl (k := 0) rfl (kInc _ 1) kc_l_1_2 (kTo [(1, .int (nI (i + 1))), (0, .ref jC)]) (fun ls hl => ?_)
            refine lv_goto (tgt := 2) hx hb dX1_goHome_69 kc_t_69_m67 ?_
            exact ih_k_1 (i + 1) le2 le3 f_23 le5 le6 le7 le8 le9 le10 le11 le12 le13 ll0 ll1 z_15 lpr lmo lho (by omega) _ _ hP hD hS ls (lv_sub hl [0, 1] rfl) (by omega)
  exact lp_k_1 (ks - 0 + 1) 0 e2 e3 e4 e5 e6 e7 e8 e9 e10 e11 e12 e13 l0 l1 dr pr mo ho (by omega) _ _ hP hD hS ls (lv_sub hl [0, 1] rfl) (by omega)

theorem dX1_go_0 : decode cX1_go 0 = .ok (.iconst 0, 1) := kDs0 kf_3 (by decide +kernel)
theorem dX1_go_1 : decode cX1_go 1 = .ok (.istore_n 2, 1) := kDs0 kf_61 (by decide +kernel)
theorem dX1_go_2 : decode cX1_go 2 = .ok (.iload_n 2, 1) := kDs0 kf_28 (by decide +kernel)
theorem dX1_go_3 : decode cX1_go 3 = .ok (.iload_n 1, 1) := kDs0 kf_27 (by decide +kernel)
theorem dX1_go_4 : decode cX1_go 4 = .ok (.if_icmp .ge 41, 3) := kDs4 kf_162 (by decide +kernel)
theorem dX1_go_45 : decode cX1_go 45 = .ok (.return_, 1) := kDs0 kf_177 (by decide +kernel)
theorem dX1_go_7 : decode cX1_go 7 = .ok (.iload_n 2, 1) := kDs0 kf_28 (by decide +kernel)
theorem dX1_go_8 : decode cX1_go 8 = .ok (.bipush 48, 2) := kDs3 kf_16 (by decide +kernel)
theorem dX1_go_10 : decode cX1_go 10 = .ok (.if_icmp .ge 35, 3) := kDs4 kf_162 (by decide +kernel)
theorem dX1_go_13 : decode cX1_go 13 = .ok (.aload_n 0, 1) := kDs0 kf_42 (by decide +kernel)
theorem dX1_go_14 : decode cX1_go 14 = .ok (.invokevirtual 104, 3) := kDs2 kf_182 (by decide +kernel)
theorem dX1_go_17 : decode cX1_go 17 = .ok (.aload_n 0, 1) := kDs0 kf_42 (by decide +kernel)
theorem dX1_go_18 : decode cX1_go 18 = .ok (.invokevirtual 107, 3) := kDs2 kf_182 (by decide +kernel)
theorem dX1_go_21 : decode cX1_go 21 = .ok (.aload_n 0, 1) := kDs0 kf_42 (by decide +kernel)
theorem dX1_go_22 : decode cX1_go 22 = .ok (.invokevirtual 110, 3) := kDs2 kf_182 (by decide +kernel)
theorem dX1_go_25 : decode cX1_go 25 = .ok (.aload_n 0, 1) := kDs0 kf_42 (by decide +kernel)
theorem dX1_go_26 : decode cX1_go 26 = .ok (.invokevirtual 113, 3) := kDs2 kf_182 (by decide +kernel)
theorem dX1_go_29 : decode cX1_go 29 = .ok (.aload_n 0, 1) := kDs0 kf_42 (by decide +kernel)
theorem dX1_go_30 : decode cX1_go 30 = .ok (.dup, 1) := kDs0 kf_89 (by decide +kernel)
theorem dX1_go_31 : decode cX1_go 31 = .ok (.getfield 64, 3) := kDs2 kf_180 (by decide +kernel)
theorem dX1_go_34 : decode cX1_go 34 = .ok (.iconst 1, 1) := kDs0 kf_4 (by decide +kernel)
theorem dX1_go_35 : decode cX1_go 35 = .ok (.iadd, 1) := kDs0 kf_96 (by decide +kernel)
theorem dX1_go_36 : decode cX1_go 36 = .ok (.putfield 64, 3) := kDs2 kf_181 (by decide +kernel)
theorem dX1_go_39 : decode cX1_go 39 = .ok (.iinc 2 1, 3) := kDs5 kf_132 (by decide +kernel)
theorem dX1_go_42 : decode cX1_go 42 = .ok (.goto (-40), 3) := kDs4 kf_167 (by decide +kernel)
def w_s_go1 : List Cond := .code yX1_go cX1_go 3 none :: ([.initialized RX1, .selects RX1 yX1_weigh yX1_weigh, .instanceMethod yX1_weigh, .methodLink RX1 104 yX1_weigh, .selects RX1 yX1_holdMore yX1_holdMore, .instanceMethod yX1_holdMore, .methodLink RX1 107 yX1_holdMore, .selects RX1 yX1_tell yX1_tell, .instanceMethod yX1_tell, .methodLink RX1 110 yX1_tell, .selects RX1 yX1_goHome yX1_goHome, .instanceMethod yX1_goHome, .methodLink RX1 113 yX1_goHome, .fieldLink RX1 64 "NotEnded$Course" "hour" "I"] ++ (w_s_weigh1 ++ (w_s_holdMore1 ++ (w_s_tell1 ++ (w_s_goHome1 ++ (wsX10))))))
theorem gw_s_go1 : (w_s_go1).all goodWord = true := kGc rfl (kGa (by decide +kernel) (kGa gw_s_weigh1 (kGa gw_s_holdMore1 (kGa gw_s_tell1 (kGa gw_s_goHome1 gw_wsX10)))))
theorem hd_X1_go : yX1_go.cls ≠ "java/lang/invoke/MethodHandle" ∧ yX1_go.cls ≠ "java/lang/invoke/VarHandle" ∧ (parseMethodDescriptor yX1_go.desc).map (fun d => d.parameters.length) = some 1 := by decide +kernel
set_option maxHeartbeats 4000000 in
set_option maxRecDepth 100000 in
theorem s_go1 (l : Launch) (dC : Nat → ClassId) (dI : Nat → Nat → Nat) (jC : Nat) (d2 : Nat) (d3 : Nat) (d4 : Nat) (d5 : Nat) (d6 : Nat) (d7 : Nat) (d8 : Nat) (d9 : Nat) (d10 : Nat) (d11 : Nat) (d12 : Nat) (d13 : Nat) (w2 : ClassId) (w3 : ClassId) (w4 : ClassId) (w5 : ClassId) (w6 : ClassId) (w7 : ClassId) (w8 : ClassId) (w9 : ClassId) (w10 : ClassId) (w11 : ClassId) (w12 : ClassId) (w13 : ClassId) (e2 : Nat → Int32) (e3 : Nat → Int32) (e4 : Nat → Int32) (e5 : Nat → Int32) (e6 : Nat → Int32) (e7 : Nat → Int32) (e8 : Nat → Int32) (e9 : Nat → Int32) (e10 : Nat → Int32) (e11 : Nat → Int32) (e12 : Nat → Int32) (e13 : Nat → Int64) (dr : Int64) (pr : Int32) (mo : Int32) (ho : Int32) (hF : Nat) (f0 : Nat) (f1 : Nat) (f2 : Nat) (f3 : Nat) (f4 : Nat) (z0 : ClassId) (z1 : ClassId) (z2 : ClassId) (z3 : ClassId) (z4 : ClassId) (g0 : Nat → Int32) (g1 : Nat → Int32) (g2 : Nat → Int32) (g3 : Nat → Int32) (g4 : Nat → Int32) (sn : Int32) (ks : Nat) (kw : Nat) (hks : ks ≤ 10) (hkw : kw ≤ 4) (jK : Nat) (k0 : Nat) (k1 : Nat) (cK : ClassId) (cO : ClassId) (l0 : Nat → Int32) (l1 : Nat → Int32) (ru : Nat) (sA : Nat) (cl : Nat) (cS : ClassId) (cc : ClassId) (nS : Nat) (nC : Nat) (gS : Nat → Int32) (gC : Nat → Int32) (hnS : nS ≤ 200) (hnC : nC ≤ 200) (p0 : Int32) (sz : Nat) : Met l yX1_go w_s_go1 ({ frames := 6, cells := 0, slots := 0, locals := 360 }) (kW dC dI [.ref jC, .int p0] [(jC, .inr (1, [.ref hF, .ref jK, .ref d2, .ref d3, .ref d4, .ref d5, .ref d6, .ref d7, .ref d8, .ref d9, .ref d10, .ref d11, .ref d12, .ref d13, .ref ru, .long dr, .int pr, .int mo, .int ho])), (d2, .inl (w2, 10, .inl e2)), (d3, .inl (w3, 10, .inl e3)), (d4, .inl (w4, 10, .inl e4)), (d5, .inl (w5, 10, .inl e5)), (d6, .inl (w6, 10, .inl e6)), (d7, .inl (w7, 10, .inl e7)), (d8, .inl (w8, 10, .inl e8)), (d9, .inl (w9, 10, .inl e9)), (d10, .inl (w10, 4, .inl e10)), (d11, .inl (w11, 4, .inl e11)), (d12, .inl (w12, 4, .inl e12)), (d13, .inl (w13, 9, .inr (.inl e13))), (hF, .inr (2, [.ref f0, .ref f1, .ref f2, .ref f3, .ref f4, .int sn, .int (nI (ks)), .int (nI (kw))])), (f0, .inl (z0, 10, .inl g0)), (f1, .inl (z1, 10, .inl g1)), (f2, .inl (z2, 10, .inl g2)), (f3, .inl (z3, 10, .inl g3)), (f4, .inl (z4, 4, .inl g4)), (jK, .inr (5, [.ref k0, .ref k1])), (k0, .inl (cK, 8, .inl l0)), (k1, .inl (cO, 32, .inl l1))] [(w2, .int), (w3, .int), (w4, .int), (w5, .int), (w6, .int), (w7, .int), (w8, .int), (w9, .int), (w10, .int), (w11, .int), (w12, .int), (w13, .long), (z0, .int), (z1, .int), (z2, .int), (z3, .int), (z4, .int), (cK, .int), (cO, .int), (cS, .int), (cc, .int)] (kNF dC dI [(ru, .inr (6, [.ref sA, .ref cl])), (sA, .inl (cS, nS, .inl gS)), (cl, .inl (cc, nC, .inl gC))] (va_A [(jC, .inr (1, [.ref hF, .ref jK, .ref d2, .ref d3, .ref d4, .ref d5, .ref d6, .ref d7, .ref d8, .ref d9, .ref d10, .ref d11, .ref d12, .ref d13, .ref ru, .long dr, .int pr, .int mo, .int ho])), (d2, .inl (w2, 10, .inl e2)), (d3, .inl (w3, 10, .inl e3)), (d4, .inl (w4, 10, .inl e4)), (d5, .inl (w5, 10, .inl e5)), (d6, .inl (w6, 10, .inl e6)), (d7, .inl (w7, 10, .inl e7)), (d8, .inl (w8, 10, .inl e8)), (d9, .inl (w9, 10, .inl e9)), (d10, .inl (w10, 4, .inl e10)), (d11, .inl (w11, 4, .inl e11)), (d12, .inl (w12, 4, .inl e12)), (d13, .inl (w13, 9, .inr (.inl e13))), (hF, .inr (2, [.ref f0, .ref f1, .ref f2, .ref f3, .ref f4, .int sn, .int (nI (ks)), .int (nI (kw))])), (f0, .inl (z0, 10, .inl g0)), (f1, .inl (z1, 10, .inl g1)), (f2, .inl (z2, 10, .inl g2)), (f3, .inl (z3, 10, .inl g3)), (f4, .inl (z4, 4, .inl g4)), (jK, .inr (5, [.ref k0, .ref k1])), (k0, .inl (cK, 8, .inl l0)), (k1, .inl (cO, 32, .inl l1))] sz)) sz) (va_Qv (fun (u : (Nat → Int32) × (Nat → Int32) × (Nat → Int32) × (Nat → Int32) × (Nat → Int32) × (Nat → Int32) × (Nat → Int32) × (Nat → Int32) × (Nat → Int32) × (Nat → Int32) × (Nat → Int32) × (Nat → Int64) × (Nat → Int32) × (Nat → Int32) × Int32 × Int32 × Int32 × Int64) => match u with | (E2, E3, E4, E5, E6, E7, E8, E9, E10, E11, E12, E13, L0, L1, Pr, Mo, Ho, Dr) => True) (fun (u : (Nat → Int32) × (Nat → Int32) × (Nat → Int32) × (Nat → Int32) × (Nat → Int32) × (Nat → Int32) × (Nat → Int32) × (Nat → Int32) × (Nat → Int32) × (Nat → Int32) × (Nat → Int32) × (Nat → Int64) × (Nat → Int32) × (Nat → Int32) × Int32 × Int32 × Int32 × Int64) => match u with | (E2, E3, E4, E5, E6, E7, E8, E9, E10, E11, E12, E13, L0, L1, Pr, Mo, Ho, Dr) => fun t : State => kB dC dI [(jC, .inr (1, [.ref hF, .ref jK, .ref d2, .ref d3, .ref d4, .ref d5, .ref d6, .ref d7, .ref d8, .ref d9, .ref d10, .ref d11, .ref d12, .ref d13, .ref ru, .long Dr, .int Pr, .int Mo, .int Ho])), (d2, .inl (w2, 10, .inl E2)), (d3, .inl (w3, 10, .inl E3)), (d4, .inl (w4, 10, .inl E4)), (d5, .inl (w5, 10, .inl E5)), (d6, .inl (w6, 10, .inl E6)), (d7, .inl (w7, 10, .inl E7)), (d8, .inl (w8, 10, .inl E8)), (d9, .inl (w9, 10, .inl E9)), (d10, .inl (w10, 4, .inl E10)), (d11, .inl (w11, 4, .inl E11)), (d12, .inl (w12, 4, .inl E12)), (d13, .inl (w13, 9, .inr (.inl E13))), (hF, .inr (2, [.ref f0, .ref f1, .ref f2, .ref f3, .ref f4, .int sn, .int (nI (ks)), .int (nI (kw))])), (f0, .inl (z0, 10, .inl g0)), (f1, .inl (z1, 10, .inl g1)), (f2, .inl (z2, 10, .inl g2)), (f3, .inl (z3, 10, .inl g3)), (f4, .inl (z4, 4, .inl g4)), (jK, .inr (5, [.ref k0, .ref k1])), (k0, .inl (cK, 8, .inl L0)), (k1, .inl (cO, 32, .inl L1))] [(w2, .int), (w3, .int), (w4, .int), (w5, .int), (w6, .int), (w7, .int), (w8, .int), (w9, .int), (w10, .int), (w11, .int), (w12, .int), (w13, .long), (z0, .int), (z1, .int), (z2, .int), (z3, .int), (z4, .int), (cK, .int), (cO, .int), (cS, .int), (cc, .int)] (va_A [(jC, .inr (1, [.ref hF, .ref jK, .ref d2, .ref d3, .ref d4, .ref d5, .ref d6, .ref d7, .ref d8, .ref d9, .ref d10, .ref d11, .ref d12, .ref d13, .ref ru, .long dr, .int pr, .int mo, .int ho])), (d2, .inl (w2, 10, .inl e2)), (d3, .inl (w3, 10, .inl e3)), (d4, .inl (w4, 10, .inl e4)), (d5, .inl (w5, 10, .inl e5)), (d6, .inl (w6, 10, .inl e6)), (d7, .inl (w7, 10, .inl e7)), (d8, .inl (w8, 10, .inl e8)), (d9, .inl (w9, 10, .inl e9)), (d10, .inl (w10, 4, .inl e10)), (d11, .inl (w11, 4, .inl e11)), (d12, .inl (w12, 4, .inl e12)), (d13, .inl (w13, 9, .inr (.inl e13))), (hF, .inr (2, [.ref f0, .ref f1, .ref f2, .ref f3, .ref f4, .int sn, .int (nI (ks)), .int (nI (kw))])), (f0, .inl (z0, 10, .inl g0)), (f1, .inl (z1, 10, .inl g1)), (f2, .inl (z2, 10, .inl g2)), (f3, .inl (z3, 10, .inl g3)), (f4, .inl (z4, 4, .inl g4)), (jK, .inr (5, [.ref k0, .ref k1])), (k0, .inl (cK, 8, .inl l0)), (k1, .inl (cO, 32, .inl l1))] sz) t) (va_A [(jC, .inr (1, [.ref hF, .ref jK, .ref d2, .ref d3, .ref d4, .ref d5, .ref d6, .ref d7, .ref d8, .ref d9, .ref d10, .ref d11, .ref d12, .ref d13, .ref ru, .long dr, .int pr, .int mo, .int ho])), (d2, .inl (w2, 10, .inl e2)), (d3, .inl (w3, 10, .inl e3)), (d4, .inl (w4, 10, .inl e4)), (d5, .inl (w5, 10, .inl e5)), (d6, .inl (w6, 10, .inl e6)), (d7, .inl (w7, 10, .inl e7)), (d8, .inl (w8, 10, .inl e8)), (d9, .inl (w9, 10, .inl e9)), (d10, .inl (w10, 4, .inl e10)), (d11, .inl (w11, 4, .inl e11)), (d12, .inl (w12, 4, .inl e12)), (d13, .inl (w13, 9, .inr (.inl e13))), (hF, .inr (2, [.ref f0, .ref f1, .ref f2, .ref f3, .ref f4, .int sn, .int (nI (ks)), .int (nI (kw))])), (f0, .inl (z0, 10, .inl g0)), (f1, .inl (z1, 10, .inl g1)), (f2, .inl (z2, 10, .inl g2)), (f3, .inl (z3, 10, .inl g3)), (f4, .inl (z4, 4, .inl g4)), (jK, .inr (5, [.ref k0, .ref k1])), (k0, .inl (cK, 8, .inl l0)), (k1, .inl (cO, 32, .inl l1))] sz)) 0 0 (va_A [(jC, .inr (1, [.ref hF, .ref jK, .ref d2, .ref d3, .ref d4, .ref d5, .ref d6, .ref d7, .ref d8, .ref d9, .ref d10, .ref d11, .ref d12, .ref d13, .ref ru, .long dr, .int pr, .int mo, .int ho])), (d2, .inl (w2, 10, .inl e2)), (d3, .inl (w3, 10, .inl e3)), (d4, .inl (w4, 10, .inl e4)), (d5, .inl (w5, 10, .inl e5)), (d6, .inl (w6, 10, .inl e6)), (d7, .inl (w7, 10, .inl e7)), (d8, .inl (w8, 10, .inl e8)), (d9, .inl (w9, 10, .inl e9)), (d10, .inl (w10, 4, .inl e10)), (d11, .inl (w11, 4, .inl e11)), (d12, .inl (w12, 4, .inl e12)), (d13, .inl (w13, 9, .inr (.inl e13))), (hF, .inr (2, [.ref f0, .ref f1, .ref f2, .ref f3, .ref f4, .int sn, .int (nI (ks)), .int (nI (kw))])), (f0, .inl (z0, 10, .inl g0)), (f1, .inl (z1, 10, .inl g1)), (f2, .inl (z2, 10, .inl g2)), (f3, .inl (z3, 10, .inl g3)), (f4, .inl (z4, 4, .inl g4)), (jK, .inr (5, [.ref k0, .ref k1])), (k0, .inl (cK, 8, .inl l0)), (k1, .inl (cO, 32, .inl l1))] sz) := by
  refine Met.ofW (cc := cX1_go) (maxL := 3) (ret := none) (by decide) rfl ?_
  intro p e s m args below meth c s₁ B hml hv
  obtain ⟨rfl, hsz, hP, hK, hD0, hX⟩ := hv
  have hx := B.exec
  have hb := B.bytes
  have hr := B.returns
  have hts := atoms_spec (ws := w_s_go1) B.pre
  have hown : s.vm.findClass RX1 = some m.cls := findClass_of_methodNamed B.named
  have hlocks := B.notSynchronized
  subst hsz
  have hD := hD0.self (sz := s.heap.size)
  generalize hAe : va_A [(jC, .inr (1, [.ref hF, .ref jK, .ref d2, .ref d3, .ref d4, .ref d5, .ref d6, .ref d7, .ref d8, .ref d9, .ref d10, .ref d11, .ref d12, .ref d13, .ref ru, .long dr, .int pr, .int mo, .int ho])), (d2, .inl (w2, 10, .inl e2)), (d3, .inl (w3, 10, .inl e3)), (d4, .inl (w4, 10, .inl e4)), (d5, .inl (w5, 10, .inl e5)), (d6, .inl (w6, 10, .inl e6)), (d7, .inl (w7, 10, .inl e7)), (d8, .inl (w8, 10, .inl e8)), (d9, .inl (w9, 10, .inl e9)), (d10, .inl (w10, 4, .inl e10)), (d11, .inl (w11, 4, .inl e11)), (d12, .inl (w12, 4, .inl e12)), (d13, .inl (w13, 9, .inr (.inl e13))), (hF, .inr (2, [.ref f0, .ref f1, .ref f2, .ref f3, .ref f4, .int sn, .int (nI (ks)), .int (nI (kw))])), (f0, .inl (z0, 10, .inl g0)), (f1, .inl (z1, 10, .inl g1)), (f2, .inl (z2, 10, .inl g2)), (f3, .inl (z3, 10, .inl g3)), (f4, .inl (z4, 4, .inl g4)), (jK, .inr (5, [.ref k0, .ref k1])), (k0, .inl (cK, 8, .inl l0)), (k1, .inl (cO, 32, .inl l1))] s.heap.size = A at hD hX ⊢
  have hA : ∀ q : Nat, s.heap.size ≤ q → A q := fun q h => by rw [← hAe]; exact Or.inr h
  have hS : va_S A s.heap s.heap [] := va_S.rf
  have hP : va_P (dC, dI) vwCl [(jC, .inr (1, [.ref hF, .ref jK, .ref d2, .ref d3, .ref d4, .ref d5, .ref d6, .ref d7, .ref d8, .ref d9, .ref d10, .ref d11, .ref d12, .ref d13, .ref ru, .long dr, .int pr, .int mo, .int ho])), (d2, .inl (w2, 10, .inl e2)), (d3, .inl (w3, 10, .inl e3)), (d4, .inl (w4, 10, .inl e4)), (d5, .inl (w5, 10, .inl e5)), (d6, .inl (w6, 10, .inl e6)), (d7, .inl (w7, 10, .inl e7)), (d8, .inl (w8, 10, .inl e8)), (d9, .inl (w9, 10, .inl e9)), (d10, .inl (w10, 4, .inl e10)), (d11, .inl (w11, 4, .inl e11)), (d12, .inl (w12, 4, .inl e12)), (d13, .inl (w13, 9, .inr (.inl e13))), (hF, .inr (2, [.ref f0, .ref f1, .ref f2, .ref f3, .ref f4, .int sn, .int (nI (ks)), .int (nI (kw))])), (f0, .inl (z0, 10, .inl g0)), (f1, .inl (z1, 10, .inl g1)), (f2, .inl (z2, 10, .inl g2)), (f3, .inl (z3, 10, .inl g3)), (f4, .inl (z4, 4, .inl g4)), (jK, .inr (5, [.ref k0, .ref k1])), (k0, .inl (cK, 8, .inl l0)), (k1, .inl (cO, 32, .inl l1))] s.heap := hP
  have hl := lv_entry ([.ref jC, .int p0]) (n := 3) (Nat.le_of_ble_eq_true rfl)
  rw [lg_entry_eq]
  generalize (lg_sl ([.ref jC, .int p0]) ++ List.replicate (3 - (lg_sl ([.ref jC, .int p0])).length) Slot.unset).toArray = ls at hl ⊢
  have hl : lv_has ls 3 [(0, .ref jC), (1, .int p0)] := hl
  refine kQ (fun Q hQ => ?_)
  refine lv_iconst (v := 0) hx hb dX1_go_0 kc_i_0 ?_
  refine lv_istore_n hx hb dX1_go_1 rfl hl kc_l_2_3 (kTo [(2, .int 0), (0, .ref jC), (1, .int p0)]) (fun ls hl => ?_)
  have lp_k_1 : ∀ (n9 : Nat) (i : Nat) (le2 : Nat → Int32) (le3 : Nat → Int32) (le4 : Nat → Int32) (le5 : Nat → Int32) (le6 : Nat → Int32) (le7 : Nat → Int32) (le8 : Nat → Int32) (le9 : Nat → Int32) (le10 : Nat → Int32) (le11 : Nat → Int32) (le12 : Nat → Int32) (le13 : Nat → Int64) (ll0 : Nat → Int32) (ll1 : Nat → Int32) (ldr : Int64) (lpr : Int32) (lmo : Int32) (lho : Int32) (ivk_1_0 : i ≤ 48) (H : Heap) (locs : List Loc) (_ : va_P (dC, dI) vwCl [(jC, .inr (1, [.ref hF, .ref jK, .ref d2, .ref d3, .ref d4, .ref d5, .ref d6, .ref d7, .ref d8, .ref d9, .ref d10, .ref d11, .ref d12, .ref d13, .ref ru, .long ldr, .int lpr, .int lmo, .int lho])), (d2, .inl (w2, 10, .inl le2)), (d3, .inl (w3, 10, .inl le3)), (d4, .inl (w4, 10, .inl le4)), (d5, .inl (w5, 10, .inl le5)), (d6, .inl (w6, 10, .inl le6)), (d7, .inl (w7, 10, .inl le7)), (d8, .inl (w8, 10, .inl le8)), (d9, .inl (w9, 10, .inl le9)), (d10, .inl (w10, 4, .inl le10)), (d11, .inl (w11, 4, .inl le11)), (d12, .inl (w12, 4, .inl le12)), (d13, .inl (w13, 9, .inr (.inl le13))), (hF, .inr (2, [.ref f0, .ref f1, .ref f2, .ref f3, .ref f4, .int sn, .int (nI (ks)), .int (nI (kw))])), (f0, .inl (z0, 10, .inl g0)), (f1, .inl (z1, 10, .inl g1)), (f2, .inl (z2, 10, .inl g2)), (f3, .inl (z3, 10, .inl g3)), (f4, .inl (z4, 4, .inl g4)), (jK, .inr (5, [.ref k0, .ref k1])), (k0, .inl (cK, 8, .inl ll0)), (k1, .inl (cO, 32, .inl ll1))] H) (_ : va_D A [(jC, .inr (1, [.ref hF, .ref jK, .ref d2, .ref d3, .ref d4, .ref d5, .ref d6, .ref d7, .ref d8, .ref d9, .ref d10, .ref d11, .ref d12, .ref d13, .ref ru, .long ldr, .int lpr, .int lmo, .int lho])), (d2, .inl (w2, 10, .inl le2)), (d3, .inl (w3, 10, .inl le3)), (d4, .inl (w4, 10, .inl le4)), (d5, .inl (w5, 10, .inl le5)), (d6, .inl (w6, 10, .inl le6)), (d7, .inl (w7, 10, .inl le7)), (d8, .inl (w8, 10, .inl le8)), (d9, .inl (w9, 10, .inl le9)), (d10, .inl (w10, 4, .inl le10)), (d11, .inl (w11, 4, .inl le11)), (d12, .inl (w12, 4, .inl le12)), (d13, .inl (w13, 9, .inr (.inl le13))), (hF, .inr (2, [.ref f0, .ref f1, .ref f2, .ref f3, .ref f4, .int sn, .int (nI (ks)), .int (nI (kw))])), (f0, .inl (z0, 10, .inl g0)), (f1, .inl (z1, 10, .inl g1)), (f2, .inl (z2, 10, .inl g2)), (f3, .inl (z3, 10, .inl g3)), (f4, .inl (z4, 4, .inl g4)), (jK, .inr (5, [.ref k0, .ref k1])), (k0, .inl (cK, 8, .inl ll0)), (k1, .inl (cO, 32, .inl ll1))]) (_ : va_S A s.heap H locs) (ls : Array Slot) (_ : lv_has ls 3 [(2, .int (nI (i))), (0, .ref jC), (1, .int p0)]) (_ : 48 - i < n9), W p l e (headSpec w_s_go1 ({ frames := 6, cells := 0, slots := 0, locals := 360 })).room s m (#[.ref jC, .int p0] : Array Value) below meth c H locs 0 0 Q (F0 m 2 ls []) := by
    intro n9
    induction n9 with
    | zero => intro i le2 le3 le4 le5 le6 le7 le8 le9 le10 le11 le12 le13 ll0 ll1 ldr lpr lmo lho ivk_1_0 H locs hP hD hS ls hl hm9; exact absurd hm9 (Nat.not_lt_zero _)
    | succ n9 ih_k_1 =>
      intro i le2 le3 le4 le5 le6 le7 le8 le9 le10 le11 le12 le13 ll0 ll1 ldr lpr lmo lho ivk_1_0 H locs hP hD hS ls hl hm9
      refine lv_iload_n hx hb dX1_go_2 rfl (lv_at hl 0 rfl) ?_
      refine lv_iload_n hx hb dX1_go_3 rfl (lv_at hl 2 rfl) ?_
      refine lv_icmp_ge (tgt := 45) hx hb dX1_go_4 kc_t_4_41 (fun c_2 => ?_) (fun c_2 => ?_)
      · have hP9 := hP
        have hD9 := hD
        have hK9 := hK
        rw [hQ]
        exact W.vret hx hb hr (fun t ht hW => ⟨⟨(le2, le3, le4, le5, le6, le7, le8, le9, le10, le11, le12, le13, ll0, ll1, lpr, lmo, lho, ldr), rfl, trivial,  by rw [ht]; exact hP9, va_K.moved hW.alike hK9, hD9⟩, hS.F ht⟩) hS.2.2 dX1_go_45
      · refine lv_iload_n hx hb dX1_go_7 rfl (lv_at hl 0 rfl) ?_
        refine lv_bipush (v := 48) hx hb dX1_go_8 kc_b_48 ?_
        refine lv_icmp_ge (tgt := 45) hx hb dX1_go_10 kc_t_10_35 (fun c_3 => ?_) (fun c_3 => ?_)
        · have bd_5 : i < 2147483648 := by omega
          have hn_4 := kle (a := 48) (b := i) kc_31_48 bd_5 c_3
          have hP9 := hP
          have hD9 := hD
          have hK9 := hK
          rw [hQ]
          exact W.vret hx hb hr (fun t ht hW => ⟨⟨(le2, le3, le4, le5, le6, le7, le8, le9, le10, le11, le12, le13, ll0, ll1, lpr, lmo, lho, ldr), rfl, trivial,  by rw [ht]; exact hP9, va_K.moved hW.alike hK9, hD9⟩, hS.F ht⟩) hS.2.2 dX1_go_45
        · have bd_7 : i < 2147483648 := by omega
          have hn_6 := knle (a := 48) (b := i) kc_31_48 bd_7 c_3
          refine lv_aload_n hx hb dX1_go_13 rfl (lv_at hl 1 rfl) ?_
          have hCu := kCut (wc := [(jC, .inr (1, [.ref hF, .ref jK, .ref d2, .ref d3, .ref d4, .ref d5, .ref d6, .ref d7, .ref d8, .ref d9, .ref d10, .ref d11, .ref d12, .ref d13, .ref ru, .long ldr, .int lpr, .int lmo, .int lho])), (d2, .inl (w2, 10, .inl le2)), (d3, .inl (w3, 10, .inl le3)), (d4, .inl (w4, 10, .inl le4)), (d5, .inl (w5, 10, .inl le5)), (d6, .inl (w6, 10, .inl le6)), (d7, .inl (w7, 10, .inl le7)), (d8, .inl (w8, 10, .inl le8)), (d9, .inl (w9, 10, .inl le9)), (d10, .inl (w10, 4, .inl le10)), (d11, .inl (w11, 4, .inl le11)), (d12, .inl (w12, 4, .inl le12)), (d13, .inl (w13, 9, .inr (.inl le13))), (hF, .inr (2, [.ref f0, .ref f1, .ref f2, .ref f3, .ref f4, .int sn, .int (nI (ks)), .int (nI (kw))])), (f0, .inl (z0, 10, .inl g0)), (f1, .inl (z1, 10, .inl g1)), (f2, .inl (z2, 10, .inl g2)), (f3, .inl (z3, 10, .inl g3)), (f4, .inl (z4, 4, .inl g4)), (jK, .inr (5, [.ref k0, .ref k1])), (k0, .inl (cK, 8, .inl ll0)), (k1, .inl (cO, 32, .inl ll1))]) hP hD hS hA [0, 1, 2, 3, 4, 5, 6, 7, 8, 9, 10, 11, 12, 13, 14, 15, 16, 17, 18, 19, 20, 21] rfl kc_nd_203 rfl
          have hPc := hCu.1
          have hDc := hCu.2.1
          have hFc := hCu.2.2
          have hKc := hK.sb (tys2 := [(w2, .int), (w3, .int), (w4, .int), (w5, .int), (w6, .int), (w7, .int), (w8, .int), (w9, .int), (w10, .int), (w11, .int), (w12, .int), (w13, .long), (z0, .int), (z1, .int), (z2, .int), (z3, .int), (z4, .int), (cK, .int), (cO, .int), (cS, .int), (cc, .int)]) [0, 1, 2, 3, 4, 5, 6, 7, 8, 9, 10, 11, 12, 13, 14, 15, 16, 17, 18, 19, 20] rfl
          refine va_callv (va_runV (As := []) (rest := []) ⟨hx, hb, hml, hown, hts⟩ (s_weigh1 l dC dI jC d2 d3 d4 d5 d6 d7 d8 d9 d10 d11 d12 d13 w2 w3 w4 w5 w6 w7 w8 w9 w10 w11 w12 w13 le2 le3 le4 le5 le6 le7 le8 le9 le10 le11 le12 le13 ldr lpr lmo lho hF f0 f1 f2 f3 f4 z0 z1 z2 z3 z4 g0 g1 g2 g3 g4 sn ks kw hks hkw jK k0 k1 cK cO ll0 ll1 ru sA cl cS cc nS nC gS gC hnS hnC H.size) (cwV 0 hts (kG (List.forall_mem_cons.mpr ⟨(List.mem_cons_of_mem _ (List.mem_append_left _ (List.mem_of_getElem? (i := 3) rfl))), (List.forall_mem_cons.mpr ⟨(List.mem_cons_of_mem _ (List.mem_append_left _ (List.mem_of_getElem? (i := 2) rfl))), (List.forall_mem_cons.mpr ⟨(List.mem_cons_of_mem _ (List.mem_append_left _ (List.mem_of_getElem? (i := 1) rfl))), (List.forall_mem_cons.mpr ⟨(List.mem_cons_of_mem _ (List.mem_append_left _ (List.mem_of_getElem? (i := 0) rfl))), (fun _ h => absurd h List.not_mem_nil)⟩)⟩)⟩)⟩) (kGV _ _ _ _) (fun _ h => List.mem_cons_of_mem _ (List.mem_append_right _ (List.mem_append_left _ h))) gw_s_weigh1) rfl rfl rfl ⟨rfl, hd_X1_weigh⟩ ⟨(Nat.le_of_ble_eq_true rfl), (Nat.le_of_ble_eq_true rfl)⟩) (kW_V kNF_blind (kNF_give hX hS hFc) (va_recv hKc hPc (ci := 1) (q0 := 0) rfl rfl) hPc hKc hDc) rfl rfl hl.1 rfl (lv_room (Nat.le_of_ble_eq_true rfl)) dX1_go_14 ⟨(Nat.le_of_ble_eq_true rfl), (Nat.le_of_ble_eq_true rfl)⟩) hS (fun q _ h => hFc q h) hFc (kU18 (fun E2_8 E3_9 E4_10 E5_11 E6_12 E7_13 E8_14 E9_15 E10_16 E11_17 E12_18 E13_19 L0_20 L1_21 Pr_22 Mo_23 Ho_24 Dr_25 t H_26 locs ht hvm hw hB hz1 hk1 hS => ?_))
          have hPD : kPD dC dI A [(jC, .inr (1, [.ref hF, .ref jK, .ref d2, .ref d3, .ref d4, .ref d5, .ref d6, .ref d7, .ref d8, .ref d9, .ref d10, .ref d11, .ref d12, .ref d13, .ref ru, .long Dr_25, .int Pr_22, .int Mo_23, .int Ho_24])), (d2, .inl (w2, 10, .inl E2_8)), (d3, .inl (w3, 10, .inl E3_9)), (d4, .inl (w4, 10, .inl E4_10)), (d5, .inl (w5, 10, .inl E5_11)), (d6, .inl (w6, 10, .inl E6_12)), (d7, .inl (w7, 10, .inl E7_13)), (d8, .inl (w8, 10, .inl E8_14)), (d9, .inl (w9, 10, .inl E9_15)), (d10, .inl (w10, 4, .inl E10_16)), (d11, .inl (w11, 4, .inl E11_17)), (d12, .inl (w12, 4, .inl E12_18)), (d13, .inl (w13, 9, .inr (.inl E13_19))), (hF, .inr (2, [.ref f0, .ref f1, .ref f2, .ref f3, .ref f4, .int sn, .int (nI (ks)), .int (nI (kw))])), (f0, .inl (z0, 10, .inl g0)), (f1, .inl (z1, 10, .inl g1)), (f2, .inl (z2, 10, .inl g2)), (f3, .inl (z3, 10, .inl g3)), (f4, .inl (z4, 4, .inl g4)), (jK, .inr (5, [.ref k0, .ref k1])), (k0, .inl (cK, 8, .inl L0_20)), (k1, .inl (cO, 32, .inl L1_21))] H_26 := kJoinX hP hD [0, 1, 2, 3, 4, 5, 6, 7, 8, 9, 10, 11, 12, 13, 14, 15, 16, 17, 18, 19, 20, 21] rfl hk1 hFc hB.1 ht hB.2.2 rfl [some 0, some 1, some 2, some 3, some 4, some 5, some 6, some 7, some 8, some 9, some 10, some 11, some 12, some 13, some 14, some 15, some 16, some 17, some 18, some 19, some 20, some 21] rfl rfl
          have hP := hPD.1
          have hD := hPD.2
          refine lv_aload_n hx hb dX1_go_17 rfl (lv_at hl 1 rfl) ?_
          have hCu := kCut (wc := [(jC, .inr (1, [.ref hF, .ref jK, .ref d2, .ref d3, .ref d4, .ref d5, .ref d6, .ref d7, .ref d8, .ref d9, .ref d10, .ref d11, .ref d12, .ref d13, .ref ru, .long Dr_25, .int Pr_22, .int Mo_23, .int Ho_24])), (d2, .inl (w2, 10, .inl E2_8)), (d3, .inl (w3, 10, .inl E3_9)), (d4, .inl (w4, 10, .inl E4_10)), (d5, .inl (w5, 10, .inl E5_11)), (d6, .inl (w6, 10, .inl E6_12)), (d7, .inl (w7, 10, .inl E7_13)), (d8, .inl (w8, 10, .inl E8_14)), (d9, .inl (w9, 10, .inl E9_15)), (d10, .inl (w10, 4, .inl E10_16)), (d11, .inl (w11, 4, .inl E11_17)), (d12, .inl (w12, 4, .inl E12_18)), (d13, .inl (w13, 9, .inr (.inl E13_19))), (hF, .inr (2, [.ref f0, .ref f1, .ref f2, .ref f3, .ref f4, .int sn, .int (nI (ks)), .int (nI (kw))])), (f0, .inl (z0, 10, .inl g0)), (f1, .inl (z1, 10, .inl g1)), (f2, .inl (z2, 10, .inl g2)), (f3, .inl (z3, 10, .inl g3)), (f4, .inl (z4, 4, .inl g4)), (jK, .inr (5, [.ref k0, .ref k1])), (k0, .inl (cK, 8, .inl L0_20)), (k1, .inl (cO, 32, .inl L1_21))]) hP hD hS hA [0, 1, 2, 3, 4, 5, 6, 7, 8, 9, 10, 11, 12, 13, 14, 15, 16, 17, 18, 19, 20, 21] rfl kc_nd_203 rfl
          have hPc := hCu.1
          have hDc := hCu.2.1
          have hFc := hCu.2.2
          have hKc := hK.sb (tys2 := [(w2, .int), (w3, .int), (w4, .int), (w5, .int), (w6, .int), (w7, .int), (w8, .int), (w9, .int), (w10, .int), (w11, .int), (w12, .int), (w13, .long), (z0, .int), (z1, .int), (z2, .int), (z3, .int), (z4, .int), (cK, .int), (cO, .int), (cS, .int), (cc, .int)]) [0, 1, 2, 3, 4, 5, 6, 7, 8, 9, 10, 11, 12, 13, 14, 15, 16, 17, 18, 19, 20] rfl
          refine va_callv (va_runV (As := []) (rest := []) ⟨hx, hb, hml, hown, hts⟩ (s_holdMore1 l dC dI jC d2 d3 d4 d5 d6 d7 d8 d9 d10 d11 d12 d13 w2 w3 w4 w5 w6 w7 w8 w9 w10 w11 w12 w13 E2_8 E3_9 E4_10 E5_11 E6_12 E7_13 E8_14 E9_15 E10_16 E11_17 E12_18 E13_19 Dr_25 Pr_22 Mo_23 Ho_24 hF f0 f1 f2 f3 f4 z0 z1 z2 z3 z4 g0 g1 g2 g3 g4 sn ks kw hks hkw jK k0 k1 cK cO L0_20 L1_21 ru sA cl cS cc nS nC gS gC hnS hnC H_26.size) (cwV 0 hts (kG (List.forall_mem_cons.mpr ⟨(List.mem_cons_of_mem _ (List.mem_append_left _ (List.mem_of_getElem? (i := 6) rfl))), (List.forall_mem_cons.mpr ⟨(List.mem_cons_of_mem _ (List.mem_append_left _ (List.mem_of_getElem? (i := 5) rfl))), (List.forall_mem_cons.mpr ⟨(List.mem_cons_of_mem _ (List.mem_append_left _ (List.mem_of_getElem? (i := 4) rfl))), (List.forall_mem_cons.mpr ⟨(List.mem_cons_of_mem _ (List.mem_append_left _ (List.mem_of_getElem? (i := 0) rfl))), (fun _ h => absurd h List.not_mem_nil)⟩)⟩)⟩)⟩) (kGV _ _ _ _) (fun _ h => List.mem_cons_of_mem _ (List.mem_append_right _ (List.mem_append_right _ (List.mem_append_left _ h)))) gw_s_holdMore1) rfl rfl rfl ⟨rfl, hd_X1_holdMore⟩ ⟨(Nat.le_of_ble_eq_true rfl), (Nat.le_of_ble_eq_true rfl)⟩) (kW_V kNF_blind (kNF_give hX hS hFc) (va_recv hKc hPc (ci := 1) (q0 := 0) rfl rfl) hPc hKc hDc) rfl rfl hl.1 rfl (lv_room (Nat.le_of_ble_eq_true rfl)) dX1_go_18 ⟨(Nat.le_of_ble_eq_true rfl), (Nat.le_of_ble_eq_true rfl)⟩) hS (fun q _ h => hFc q h) hFc (kU18 (fun E2_28 E3_29 E4_30 E5_31 E6_32 E7_33 E8_34 E9_35 E10_36 E11_37 E12_38 E13_39 L0_40 L1_41 Pr_42 Mo_43 Ho_44 Dr_45 t H_46 locs ht hvm hw hB hz1 hk1 hS => ?_))
          have hPD : kPD dC dI A [(jC, .inr (1, [.ref hF, .ref jK, .ref d2, .ref d3, .ref d4, .ref d5, .ref d6, .ref d7, .ref d8, .ref d9, .ref d10, .ref d11, .ref d12, .ref d13, .ref ru, .long Dr_45, .int Pr_42, .int Mo_43, .int Ho_44])), (d2, .inl (w2, 10, .inl E2_28)), (d3, .inl (w3, 10, .inl E3_29)), (d4, .inl (w4, 10, .inl E4_30)), (d5, .inl (w5, 10, .inl E5_31)), (d6, .inl (w6, 10, .inl E6_32)), (d7, .inl (w7, 10, .inl E7_33)), (d8, .inl (w8, 10, .inl E8_34)), (d9, .inl (w9, 10, .inl E9_35)), (d10, .inl (w10, 4, .inl E10_36)), (d11, .inl (w11, 4, .inl E11_37)), (d12, .inl (w12, 4, .inl E12_38)), (d13, .inl (w13, 9, .inr (.inl E13_39))), (hF, .inr (2, [.ref f0, .ref f1, .ref f2, .ref f3, .ref f4, .int sn, .int (nI (ks)), .int (nI (kw))])), (f0, .inl (z0, 10, .inl g0)), (f1, .inl (z1, 10, .inl g1)), (f2, .inl (z2, 10, .inl g2)), (f3, .inl (z3, 10, .inl g3)), (f4, .inl (z4, 4, .inl g4)), (jK, .inr (5, [.ref k0, .ref k1])), (k0, .inl (cK, 8, .inl L0_40)), (k1, .inl (cO, 32, .inl L1_41))] H_46 := kJoinX hP hD [0, 1, 2, 3, 4, 5, 6, 7, 8, 9, 10, 11, 12, 13, 14, 15, 16, 17, 18, 19, 20, 21] rfl hk1 hFc hB.1 ht hB.2.2 rfl [some 0, some 1, some 2, some 3, some 4, some 5, some 6, some 7, some 8, some 9, some 10, some 11, some 12, some 13, some 14, some 15, some 16, some 17, some 18, some 19, some 20, some 21] rfl rfl
          have hP := hPD.1
          have hD := hPD.2
          refine lv_aload_n hx hb dX1_go_21 rfl (lv_at hl 1 rfl) ?_
          have hCu := kCut (wc := [(jC, .inr (1, [.ref hF, .ref jK, .ref d2, .ref d3, .ref d4, .ref d5, .ref d6, .ref d7, .ref d8, .ref d9, .ref d10, .ref d11, .ref d12, .ref d13, .ref ru, .long Dr_45, .int Pr_42, .int Mo_43, .int Ho_44])), (d2, .inl (w2, 10, .inl E2_28)), (d3, .inl (w3, 10, .inl E3_29)), (d4, .inl (w4, 10, .inl E4_30)), (d5, .inl (w5, 10, .inl E5_31)), (d6, .inl (w6, 10, .inl E6_32)), (d7, .inl (w7, 10, .inl E7_33)), (d8, .inl (w8, 10, .inl E8_34)), (d9, .inl (w9, 10, .inl E9_35)), (d10, .inl (w10, 4, .inl E10_36)), (d11, .inl (w11, 4, .inl E11_37)), (d12, .inl (w12, 4, .inl E12_38)), (d13, .inl (w13, 9, .inr (.inl E13_39))), (hF, .inr (2, [.ref f0, .ref f1, .ref f2, .ref f3, .ref f4, .int sn, .int (nI (ks)), .int (nI (kw))])), (f0, .inl (z0, 10, .inl g0)), (f1, .inl (z1, 10, .inl g1)), (f2, .inl (z2, 10, .inl g2)), (f3, .inl (z3, 10, .inl g3)), (f4, .inl (z4, 4, .inl g4)), (jK, .inr (5, [.ref k0, .ref k1])), (k0, .inl (cK, 8, .inl L0_40)), (k1, .inl (cO, 32, .inl L1_41))]) hP hD hS hA [0, 1, 2, 3, 4, 5, 6, 7, 8, 9, 10, 11, 12, 13, 14, 15, 16, 17, 18, 19, 20, 21] rfl kc_nd_203 rfl
          have hPc := hCu.1
          have hDc := hCu.2.1
          have hFc := hCu.2.2
          have hKc := hK.sb (tys2 := [(w2, .int), (w3, .int), (w4, .int), (w5, .int), (w6, .int), (w7, .int), (w8, .int), (w9, .int), (w10, .int), (w11, .int), (w12, .int), (w13, .long), (z0, .int), (z1, .int), (z2, .int), (z3, .int), (z4, .int), (cK, .int), (cO, .int), (cS, .int), (cc, .int)]) [0, 1, 2, 3, 4, 5, 6, 7, 8, 9, 10, 11, 12, 13, 14, 15, 16, 17, 18, 19, 20] rfl
          refine va_callv (va_runV (As := []) (rest := []) ⟨hx, hb, hml, hown, hts⟩ (s_tell1 l dC dI jC d2 d3 d4 d5 d6 d7 d8 d9 d10 d11 d12 d13 w2 w3 w4 w5 w6 w7 w8 w9 w10 w11 w12 w13 E2_28 E3_29 E4_30 E5_31 E6_32 E7_33 E8_34 E9_35 E10_36 E11_37 E12_38 E13_39 Dr_45 Pr_42 Mo_43 Ho_44 hF f0 f1 f2 f3 f4 z0 z1 z2 z3 z4 g0 g1 g2 g3 g4 sn ks kw hks hkw jK k0 k1 cK cO L0_40 L1_41 ru sA cl cS cc nS nC gS gC hnS hnC H_46.size) (cwV 0 hts (kG (List.forall_mem_cons.mpr ⟨(List.mem_cons_of_mem _ (List.mem_append_left _ (List.mem_of_getElem? (i := 9) rfl))), (List.forall_mem_cons.mpr ⟨(List.mem_cons_of_mem _ (List.mem_append_left _ (List.mem_of_getElem? (i := 8) rfl))), (List.forall_mem_cons.mpr ⟨(List.mem_cons_of_mem _ (List.mem_append_left _ (List.mem_of_getElem? (i := 7) rfl))), (List.forall_mem_cons.mpr ⟨(List.mem_cons_of_mem _ (List.mem_append_left _ (List.mem_of_getElem? (i := 0) rfl))), (fun _ h => absurd h List.not_mem_nil)⟩)⟩)⟩)⟩) (kGV _ _ _ _) (fun _ h => List.mem_cons_of_mem _ (List.mem_append_right _ (List.mem_append_right _ (List.mem_append_right _ (List.mem_append_left _ h))))) gw_s_tell1) rfl rfl rfl ⟨rfl, hd_X1_tell⟩ ⟨(Nat.le_of_ble_eq_true rfl), (Nat.le_of_ble_eq_true rfl)⟩) (kW_V kNF_blind (kNF_give hX hS hFc) (va_recv hKc hPc (ci := 1) (q0 := 0) rfl rfl) hPc hKc hDc) rfl rfl hl.1 rfl (lv_room (Nat.le_of_ble_eq_true rfl)) dX1_go_22 ⟨(Nat.le_of_ble_eq_true rfl), (Nat.le_of_ble_eq_true rfl)⟩) hS (fun q _ h => hFc q h) hFc (kU18 (fun E2_48 E3_49 E4_50 E5_51 E6_52 E7_53 E8_54 E9_55 E10_56 E11_57 E12_58 E13_59 L0_60 L1_61 Pr_62 Mo_63 Ho_64 Dr_65 t H_66 locs ht hvm hw hB hz1 hk1 hS => ?_))
          have hPD : kPD dC dI A [(jC, .inr (1, [.ref hF, .ref jK, .ref d2, .ref d3, .ref d4, .ref d5, .ref d6, .ref d7, .ref d8, .ref d9, .ref d10, .ref d11, .ref d12, .ref d13, .ref ru, .long Dr_65, .int Pr_62, .int Mo_63, .int Ho_64])), (d2, .inl (w2, 10, .inl E2_48)), (d3, .inl (w3, 10, .inl E3_49)), (d4, .inl (w4, 10, .inl E4_50)), (d5, .inl (w5, 10, .inl E5_51)), (d6, .inl (w6, 10, .inl E6_52)), (d7, .inl (w7, 10, .inl E7_53)), (d8, .inl (w8, 10, .inl E8_54)), (d9, .inl (w9, 10, .inl E9_55)), (d10, .inl (w10, 4, .inl E10_56)), (d11, .inl (w11, 4, .inl E11_57)), (d12, .inl (w12, 4, .inl E12_58)), (d13, .inl (w13, 9, .inr (.inl E13_59))), (hF, .inr (2, [.ref f0, .ref f1, .ref f2, .ref f3, .ref f4, .int sn, .int (nI (ks)), .int (nI (kw))])), (f0, .inl (z0, 10, .inl g0)), (f1, .inl (z1, 10, .inl g1)), (f2, .inl (z2, 10, .inl g2)), (f3, .inl (z3, 10, .inl g3)), (f4, .inl (z4, 4, .inl g4)), (jK, .inr (5, [.ref k0, .ref k1])), (k0, .inl (cK, 8, .inl L0_60)), (k1, .inl (cO, 32, .inl L1_61))] H_66 := kJoinX hP hD [0, 1, 2, 3, 4, 5, 6, 7, 8, 9, 10, 11, 12, 13, 14, 15, 16, 17, 18, 19, 20, 21] rfl hk1 hFc hB.1 ht hB.2.2 rfl [some 0, some 1, some 2, some 3, some 4, some 5, some 6, some 7, some 8, some 9, some 10, some 11, some 12, some 13, some 14, some 15, some 16, some 17, some 18, some 19, some 20, some 21] rfl rfl
          have hP := hPD.1
          have hD := hPD.2
          refine lv_aload_n hx hb dX1_go_25 rfl (lv_at hl 1 rfl) ?_
          have hCu := kCut (wc := [(jC, .inr (1, [.ref hF, .ref jK, .ref d2, .ref d3, .ref d4, .ref d5, .ref d6, .ref d7, .ref d8, .ref d9, .ref d10, .ref d11, .ref d12, .ref d13, .ref ru, .long Dr_65, .int Pr_62, .int Mo_63, .int Ho_64])), (d2, .inl (w2, 10, .inl E2_48)), (d3, .inl (w3, 10, .inl E3_49)), (d4, .inl (w4, 10, .inl E4_50)), (d5, .inl (w5, 10, .inl E5_51)), (d6, .inl (w6, 10, .inl E6_52)), (d7, .inl (w7, 10, .inl E7_53)), (d8, .inl (w8, 10, .inl E8_54)), (d9, .inl (w9, 10, .inl E9_55)), (d10, .inl (w10, 4, .inl E10_56)), (d11, .inl (w11, 4, .inl E11_57)), (d12, .inl (w12, 4, .inl E12_58)), (d13, .inl (w13, 9, .inr (.inl E13_59))), (hF, .inr (2, [.ref f0, .ref f1, .ref f2, .ref f3, .ref f4, .int sn, .int (nI (ks)), .int (nI (kw))])), (f0, .inl (z0, 10, .inl g0)), (f1, .inl (z1, 10, .inl g1)), (f2, .inl (z2, 10, .inl g2)), (f3, .inl (z3, 10, .inl g3)), (f4, .inl (z4, 4, .inl g4)), (jK, .inr (5, [.ref k0, .ref k1])), (k0, .inl (cK, 8, .inl L0_60)), (k1, .inl (cO, 32, .inl L1_61))]) hP hD hS hA [0, 1, 2, 3, 4, 5, 6, 7, 8, 9, 10, 11, 12, 13, 14, 15, 16, 17, 18, 19, 20, 21] rfl kc_nd_203 rfl
          have hPc := hCu.1
          have hDc := hCu.2.1
          have hFc := hCu.2.2
          have hKc := hK.sb (tys2 := [(w2, .int), (w3, .int), (w4, .int), (w5, .int), (w6, .int), (w7, .int), (w8, .int), (w9, .int), (w10, .int), (w11, .int), (w12, .int), (w13, .long), (z0, .int), (z1, .int), (z2, .int), (z3, .int), (z4, .int), (cK, .int), (cO, .int), (cS, .int), (cc, .int)]) [0, 1, 2, 3, 4, 5, 6, 7, 8, 9, 10, 11, 12, 13, 14, 15, 16, 17, 18, 19, 20] rfl
          refine va_callv (va_runV (As := []) (rest := []) ⟨hx, hb, hml, hown, hts⟩ (s_goHome1 l dC dI jC d2 d3 d4 d5 d6 d7 d8 d9 d10 d11 d12 d13 w2 w3 w4 w5 w6 w7 w8 w9 w10 w11 w12 w13 E2_48 E3_49 E4_50 E5_51 E6_52 E7_53 E8_54 E9_55 E10_56 E11_57 E12_58 E13_59 Dr_65 Pr_62 Mo_63 Ho_64 hF f0 f1 f2 f3 f4 z0 z1 z2 z3 z4 g0 g1 g2 g3 g4 sn ks kw hks hkw jK k0 k1 cK cO L0_60 L1_61 ru sA cl cS cc nS nC gS gC hnS hnC H_66.size) (cwV 0 hts (kG (List.forall_mem_cons.mpr ⟨(List.mem_cons_of_mem _ (List.mem_append_left _ (List.mem_of_getElem? (i := 12) rfl))), (List.forall_mem_cons.mpr ⟨(List.mem_cons_of_mem _ (List.mem_append_left _ (List.mem_of_getElem? (i := 11) rfl))), (List.forall_mem_cons.mpr ⟨(List.mem_cons_of_mem _ (List.mem_append_left _ (List.mem_of_getElem? (i := 10) rfl))), (List.forall_mem_cons.mpr ⟨(List.mem_cons_of_mem _ (List.mem_append_left _ (List.mem_of_getElem? (i := 0) rfl))), (fun _ h => absurd h List.not_mem_nil)⟩)⟩)⟩)⟩) (kGV _ _ _ _) (fun _ h => List.mem_cons_of_mem _ (List.mem_append_right _ (List.mem_append_right _ (List.mem_append_right _ (List.mem_append_right _ (List.mem_append_left _ h)))))) gw_s_goHome1) rfl rfl rfl ⟨rfl, hd_X1_goHome⟩ ⟨(Nat.le_of_ble_eq_true rfl), (Nat.le_of_ble_eq_true rfl)⟩) (kW_V kNF_blind (kNF_give hX hS hFc) (va_recv hKc hPc (ci := 1) (q0 := 0) rfl rfl) hPc hKc hDc) rfl rfl hl.1 rfl (lv_room (Nat.le_of_ble_eq_true rfl)) dX1_go_26 ⟨(Nat.le_of_ble_eq_true rfl), (Nat.le_of_ble_eq_true rfl)⟩) hS (fun q _ h => hFc q h) hFc (kU18 (fun E2_68 E3_69 E4_70 E5_71 E6_72 E7_73 E8_74 E9_75 E10_76 E11_77 E12_78 E13_79 L0_80 L1_81 Pr_82 Mo_83 Ho_84 Dr_85 t H_86 locs ht hvm hw hB hz1 hk1 hS => ?_))
          have hPD : kPD dC dI A [(jC, .inr (1, [.ref hF, .ref jK, .ref d2, .ref d3, .ref d4, .ref d5, .ref d6, .ref d7, .ref d8, .ref d9, .ref d10, .ref d11, .ref d12, .ref d13, .ref ru, .long Dr_85, .int Pr_82, .int Mo_83, .int Ho_84])), (d2, .inl (w2, 10, .inl E2_68)), (d3, .inl (w3, 10, .inl E3_69)), (d4, .inl (w4, 10, .inl E4_70)), (d5, .inl (w5, 10, .inl E5_71)), (d6, .inl (w6, 10, .inl E6_72)), (d7, .inl (w7, 10, .inl E7_73)), (d8, .inl (w8, 10, .inl E8_74)), (d9, .inl (w9, 10, .inl E9_75)), (d10, .inl (w10, 4, .inl E10_76)), (d11, .inl (w11, 4, .inl E11_77)), (d12, .inl (w12, 4, .inl E12_78)), (d13, .inl (w13, 9, .inr (.inl E13_79))), (hF, .inr (2, [.ref f0, .ref f1, .ref f2, .ref f3, .ref f4, .int sn, .int (nI (ks)), .int (nI (kw))])), (f0, .inl (z0, 10, .inl g0)), (f1, .inl (z1, 10, .inl g1)), (f2, .inl (z2, 10, .inl g2)), (f3, .inl (z3, 10, .inl g3)), (f4, .inl (z4, 4, .inl g4)), (jK, .inr (5, [.ref k0, .ref k1])), (k0, .inl (cK, 8, .inl L0_80)), (k1, .inl (cO, 32, .inl L1_81))] H_86 := kJoinX hP hD [0, 1, 2, 3, 4, 5, 6, 7, 8, 9, 10, 11, 12, 13, 14, 15, 16, 17, 18, 19, 20, 21] rfl hk1 hFc hB.1 ht hB.2.2 rfl [some 0, some 1, some 2, some 3, some 4, some 5, some 6, some 7, some 8, some 9, some 10, some 11, some 12, some 13, some 14, some 15, some 16, some 17, some 18, some 19, some 20, some 21] rfl rfl
          have hP := hPD.1
          have hD := hPD.2
          refine lv_aload_n hx hb dX1_go_29 rfl (lv_at hl 1 rfl) ?_
          refine lv_dup hx hb dX1_go_30 rfl ?_
          refine va_get (D := (dC, dI)) (ci := 1) (v := .int Ho_84) (C := RX1) (T := TX1) (N := 19) hx hb hts (fun _ h => List.mem_cons_of_mem _ (List.mem_append_right _ (List.mem_append_right _ (List.mem_append_right _ (List.mem_append_right _ (List.mem_append_right _ h)))))) hown hK hP 0 rfl rfl 18 kc_l_18_19 (hts (.fieldLink RX1 64 "NotEnded$Course" "hour" "I") (List.mem_cons_of_mem _ (List.mem_append_left _ (List.mem_of_getElem? (i := 13) rfl)))) (fun _ h9 => h9) rfl dX1_go_31 ?_
          refine lv_iconst (v := 1) hx hb dX1_go_34 kc_i_1 ?_
          refine lv_iadd hx hb dX1_go_35 ?_
          refine lv_topi (fun x_88 ex_88 => ?_)
          refine va_put (D := (dC, dI)) (ci := 1) (v := .int x_88) (ty := tyX1 18) (C := RX1) (T := TX1) (N := 19) hx hb hts (fun _ h => List.mem_cons_of_mem _ (List.mem_append_right _ (List.mem_append_right _ (List.mem_append_right _ (List.mem_append_right _ (List.mem_append_right _ h)))))) tyX1 tyX1_ok nmX1 hown hK hP hD hS 0 rfl rfl 18 kc_l_18_19 (hts (.fieldLink RX1 64 "NotEnded$Course" "hour" "I") (List.mem_cons_of_mem _ (List.mem_append_left _ (List.mem_of_getElem? (i := 13) rfl)))) (fun _ h9 => h9) rfl (tyX1_ok 18 kc_l_18_19) rfl rfl (Nat.le_of_ble_eq_true rfl) dX1_go_36 (fun H locs hP hD hS => ?_)
          have hPD : kPD dC dI A [(jC, .inr (1, [.ref hF, .ref jK, .ref d2, .ref d3, .ref d4, .ref d5, .ref d6, .ref d7, .ref d8, .ref d9, .ref d10, .ref d11, .ref d12, .ref d13, .ref ru, .long Dr_85, .int Pr_82, .int Mo_83, .int x_88])), (d2, .inl (w2, 10, .inl E2_68)), (d3, .inl (w3, 10, .inl E3_69)), (d4, .inl (w4, 10, .inl E4_70)), (d5, .inl (w5, 10, .inl E5_71)), (d6, .inl (w6, 10, .inl E6_72)), (d7, .inl (w7, 10, .inl E7_73)), (d8, .inl (w8, 10, .inl E8_74)), (d9, .inl (w9, 10, .inl E9_75)), (d10, .inl (w10, 4, .inl E10_76)), (d11, .inl (w11, 4, .inl E11_77)), (d12, .inl (w12, 4, .inl E12_78)), (d13, .inl (w13, 9, .inr (.inl E13_79))), (hF, .inr (2, [.ref f0, .ref f1, .ref f2, .ref f3, .ref f4, .int sn, .int (nI (ks)), .int (nI (kw))])), (f0, .inl (z0, 10, .inl g0)), (f1, .inl (z1, 10, .inl g1)), (f2, .inl (z2, 10, .inl g2)), (f3, .inl (z3, 10, .inl g3)), (f4, .inl (z4, 4, .inl g4)), (jK, .inr (5, [.ref k0, .ref k1])), (k0, .inl (cK, 8, .inl L0_80)), (k1, .inl (cO, 32, .inl L1_81))] H := ⟨hP, hD⟩
          have hP := hPD.1
          have hD := hPD.2
          refine lv_iinc (v := nI (i + 1)) hx hb dX1_go_39 hl (k := 0) rfl (kInc _ 1) kc_l_2_3 (kTo [(2, .int (nI (i + 1))), (0, .ref jC), (1, .int p0)]) (fun ls hl => ?_)
          refine lv_goto (tgt := 2) hx hb dX1_go_42 kc_t_42_m40 ?_
          exact ih_k_1 (i + 1) E2_68 E3_69 E4_70 E5_71 E6_72 E7_73 E8_74 E9_75 E10_76 E11_77 E12_78 E13_79 L0_80 L1_81 Dr_85 Pr_82 Mo_83 x_88 (by omega) _ _ hP hD hS ls (lv_sub hl [0, 1, 2] rfl) (by omega)
  exact lp_k_1 (48 - 0 + 1) 0 e2 e3 e4 e5 e6 e7 e8 e9 e10 e11 e12 e13 l0 l1 dr pr mo ho (by omega) _ _ hP hD hS ls (lv_sub hl [0, 1, 2] rfl) (by omega)

theorem dX1_worthNow_0 : decode cX1_worthNow 0 = .ok (.aload_n 0, 1) := kDs0 kf_42 (by decide +kernel)
theorem dX1_worthNow_1 : decode cX1_worthNow 1 = .ok (.invokevirtual 120, 3) := kDs2 kf_182 (by decide +kernel)
theorem dX1_worthNow_4 : decode cX1_worthNow 4 = .ok (.aload_n 0, 1) := kDs0 kf_42 (by decide +kernel)
theorem dX1_worthNow_5 : decode cX1_worthNow 5 = .ok (.invokevirtual 123, 3) := kDs2 kf_182 (by decide +kernel)
theorem dX1_worthNow_8 : decode cX1_worthNow 8 = .ok (.aload_n 0, 1) := kDs0 kf_42 (by decide +kernel)
theorem dX1_worthNow_9 : decode cX1_worthNow 9 = .ok (.iload_n 2, 1) := kDs0 kf_28 (by decide +kernel)
theorem dX1_worthNow_10 : decode cX1_worthNow 10 = .ok (.invokevirtual 126, 3) := kDs2 kf_182 (by decide +kernel)
theorem dX1_worthNow_13 : decode cX1_worthNow 13 = .ok (.aload_n 0, 1) := kDs0 kf_42 (by decide +kernel)
theorem dX1_worthNow_14 : decode cX1_worthNow 14 = .ok (.getfield 71, 3) := kDs2 kf_180 (by decide +kernel)
theorem dX1_worthNow_17 : decode cX1_worthNow 17 = .ok (.aload_n 0, 1) := kDs0 kf_42 (by decide +kernel)
theorem dX1_worthNow_18 : decode cX1_worthNow 18 = .ok (.getfield 49, 3) := kDs2 kf_180 (by decide +kernel)
theorem dX1_worthNow_21 : decode cX1_worthNow 21 = .ok (.iload_n 1, 1) := kDs0 kf_27 (by decide +kernel)
theorem dX1_worthNow_22 : decode cX1_worthNow 22 = .ok (.invokevirtual 130, 3) := kDs2 kf_182 (by decide +kernel)
theorem dX1_worthNow_25 : decode cX1_worthNow 25 = .ok (.ireturn, 1) := kDs0 kf_172 (by decide +kernel)
def w_s_worthNow1 : List Cond := .code yX1_worthNow cX1_worthNow 3 (some .int) :: ([.initialized RX1, .selects RX1 yX1_tallyHouses yX1_tallyHouses, .instanceMethod yX1_tallyHouses, .methodLink RX1 120 yX1_tallyHouses, .selects RX1 yX1_setLettersOfHour yX1_setLettersOfHour, .instanceMethod yX1_setLettersOfHour, .methodLink RX1 123 yX1_setLettersOfHour, .selects RX1 yX1_setLettersOf yX1_setLettersOf, .instanceMethod yX1_setLettersOf, .methodLink RX1 126 yX1_setLettersOf, .fieldLink RX1 71 "NotEnded$Course" "reckoner" "LNotEnded$Reckoner;", .fieldLink RX1 49 "NotEnded$Course" "law" "LNotEnded$Rule;", .initialized RX5, .selects RX5 yX5_worthOf yX5_worthOf, .instanceMethod yX5_worthOf, .methodLink RX1 130 yX5_worthOf] ++ (w_s_tally1 ++ (w_s_lettersHour1 ++ (w_s_letters1 ++ (wsX10 ++ (w_s_worthOf5))))))
theorem gw_s_worthNow1 : (w_s_worthNow1).all goodWord = true := kGc rfl (kGa (by decide +kernel) (kGa gw_s_tally1 (kGa gw_s_lettersHour1 (kGa gw_s_letters1 (kGa gw_wsX10 gw_s_worthOf5)))))
theorem hd_X1_worthNow : yX1_worthNow.cls ≠ "java/lang/invoke/MethodHandle" ∧ yX1_worthNow.cls ≠ "java/lang/invoke/VarHandle" ∧ (parseMethodDescriptor yX1_worthNow.desc).map (fun d => d.parameters.length) = some 2 := by decide +kernel
set_option maxHeartbeats 4000000 in
set_option maxRecDepth 100000 in
theorem s_worthNow1 (l : Launch) (dC : Nat → ClassId) (dI : Nat → Nat → Nat) (jC : Nat) (d2 : Nat) (d3 : Nat) (d4 : Nat) (d5 : Nat) (d6 : Nat) (d7 : Nat) (d8 : Nat) (d9 : Nat) (d10 : Nat) (d11 : Nat) (d12 : Nat) (d13 : Nat) (w2 : ClassId) (w3 : ClassId) (w4 : ClassId) (w5 : ClassId) (w6 : ClassId) (w7 : ClassId) (w8 : ClassId) (w9 : ClassId) (w10 : ClassId) (w11 : ClassId) (w12 : ClassId) (w13 : ClassId) (e2 : Nat → Int32) (e3 : Nat → Int32) (e4 : Nat → Int32) (e5 : Nat → Int32) (e6 : Nat → Int32) (e7 : Nat → Int32) (e8 : Nat → Int32) (e9 : Nat → Int32) (e10 : Nat → Int32) (e11 : Nat → Int32) (e12 : Nat → Int32) (e13 : Nat → Int64) (dr : Int64) (pr : Int32) (mo : Int32) (ho : Int32) (hF : Nat) (f0 : Nat) (f1 : Nat) (f2 : Nat) (f3 : Nat) (f4 : Nat) (z0 : ClassId) (z1 : ClassId) (z2 : ClassId) (z3 : ClassId) (z4 : ClassId) (g0 : Nat → Int32) (g1 : Nat → Int32) (g2 : Nat → Int32) (g3 : Nat → Int32) (g4 : Nat → Int32) (sn : Int32) (ks : Nat) (kw : Nat) (hks : ks ≤ 10) (hkw : kw ≤ 4) (jK : Nat) (k0 : Nat) (k1 : Nat) (cK : ClassId) (cO : ClassId) (l0 : Nat → Int32) (l1 : Nat → Int32) (ru : Nat) (sA : Nat) (cl : Nat) (cS : ClassId) (cc : ClassId) (nS : Nat) (nC : Nat) (gS : Nat → Int32) (gC : Nat → Int32) (hnS : nS ≤ 200) (hnC : nC ≤ 200) (p0 : Int32) (p1 : Int32) (sz : Nat) : Met l yX1_worthNow w_s_worthNow1 ({ frames := 6, cells := 0, slots := 0, locals := 360 }) (kW dC dI [.ref jC, .int p0, .int p1] [(jC, .inr (1, [.ref hF, .ref jK, .ref d2, .ref d3, .ref d4, .ref d5, .ref d6, .ref d7, .ref d8, .ref d9, .ref d10, .ref d11, .ref d12, .ref d13, .ref ru, .long dr, .int pr, .int mo, .int ho])), (d2, .inl (w2, 10, .inl e2)), (d3, .inl (w3, 10, .inl e3)), (d4, .inl (w4, 10, .inl e4)), (d5, .inl (w5, 10, .inl e5)), (d6, .inl (w6, 10, .inl e6)), (d7, .inl (w7, 10, .inl e7)), (d8, .inl (w8, 10, .inl e8)), (d9, .inl (w9, 10, .inl e9)), (d10, .inl (w10, 4, .inl e10)), (d11, .inl (w11, 4, .inl e11)), (d12, .inl (w12, 4, .inl e12)), (d13, .inl (w13, 9, .inr (.inl e13))), (hF, .inr (2, [.ref f0, .ref f1, .ref f2, .ref f3, .ref f4, .int sn, .int (nI (ks)), .int (nI (kw))])), (f0, .inl (z0, 10, .inl g0)), (f1, .inl (z1, 10, .inl g1)), (f2, .inl (z2, 10, .inl g2)), (f3, .inl (z3, 10, .inl g3)), (f4, .inl (z4, 4, .inl g4)), (jK, .inr (5, [.ref k0, .ref k1])), (k0, .inl (cK, 8, .inl l0)), (k1, .inl (cO, 32, .inl l1))] [(w2, .int), (w3, .int), (w4, .int), (w5, .int), (w6, .int), (w7, .int), (w8, .int), (w9, .int), (w10, .int), (w11, .int), (w12, .int), (w13, .long), (z0, .int), (z1, .int), (z2, .int), (z3, .int), (z4, .int), (cK, .int), (cO, .int), (cS, .int), (cc, .int)] (kNF dC dI [(ru, .inr (6, [.ref sA, .ref cl])), (sA, .inl (cS, nS, .inl gS)), (cl, .inl (cc, nC, .inl gC))] (va_A [(jC, .inr (1, [.ref hF, .ref jK, .ref d2, .ref d3, .ref d4, .ref d5, .ref d6, .ref d7, .ref d8, .ref d9, .ref d10, .ref d11, .ref d12, .ref d13, .ref ru, .long dr, .int pr, .int mo, .int ho])), (d2, .inl (w2, 10, .inl e2)), (d3, .inl (w3, 10, .inl e3)), (d4, .inl (w4, 10, .inl e4)), (d5, .inl (w5, 10, .inl e5)), (d6, .inl (w6, 10, .inl e6)), (d7, .inl (w7, 10, .inl e7)), (d8, .inl (w8, 10, .inl e8)), (d9, .inl (w9, 10, .inl e9)), (d10, .inl (w10, 4, .inl e10)), (d11, .inl (w11, 4, .inl e11)), (d12, .inl (w12, 4, .inl e12)), (d13, .inl (w13, 9, .inr (.inl e13))), (hF, .inr (2, [.ref f0, .ref f1, .ref f2, .ref f3, .ref f4, .int sn, .int (nI (ks)), .int (nI (kw))])), (f0, .inl (z0, 10, .inl g0)), (f1, .inl (z1, 10, .inl g1)), (f2, .inl (z2, 10, .inl g2)), (f3, .inl (z3, 10, .inl g3)), (f4, .inl (z4, 4, .inl g4)), (jK, .inr (5, [.ref k0, .ref k1])), (k0, .inl (cK, 8, .inl l0)), (k1, .inl (cO, 32, .inl l1))] sz)) sz) (va_Qi (fun (r : Int32) (u : (Nat → Int32) × (Nat → Int32) × (Nat → Int32) × (Nat → Int32) × (Nat → Int32) × (Nat → Int32) × (Nat → Int32) × (Nat → Int32) × (Nat → Int32) × (Nat → Int32) × (Nat → Int32) × (Nat → Int64) × (Nat → Int32) × (Nat → Int32) × Int32 × Int32 × Int32 × Int64) => match u with | (E2, E3, E4, E5, E6, E7, E8, E9, E10, E11, E12, E13, L0, L1, Pr, Mo, Ho, Dr) => True) (fun (u : (Nat → Int32) × (Nat → Int32) × (Nat → Int32) × (Nat → Int32) × (Nat → Int32) × (Nat → Int32) × (Nat → Int32) × (Nat → Int32) × (Nat → Int32) × (Nat → Int32) × (Nat → Int32) × (Nat → Int64) × (Nat → Int32) × (Nat → Int32) × Int32 × Int32 × Int32 × Int64) => match u with | (E2, E3, E4, E5, E6, E7, E8, E9, E10, E11, E12, E13, L0, L1, Pr, Mo, Ho, Dr) => fun t : State => kB dC dI [(jC, .inr (1, [.ref hF, .ref jK, .ref d2, .ref d3, .ref d4, .ref d5, .ref d6, .ref d7, .ref d8, .ref d9, .ref d10, .ref d11, .ref d12, .ref d13, .ref ru, .long Dr, .int Pr, .int Mo, .int Ho])), (d2, .inl (w2, 10, .inl E2)), (d3, .inl (w3, 10, .inl E3)), (d4, .inl (w4, 10, .inl E4)), (d5, .inl (w5, 10, .inl E5)), (d6, .inl (w6, 10, .inl E6)), (d7, .inl (w7, 10, .inl E7)), (d8, .inl (w8, 10, .inl E8)), (d9, .inl (w9, 10, .inl E9)), (d10, .inl (w10, 4, .inl E10)), (d11, .inl (w11, 4, .inl E11)), (d12, .inl (w12, 4, .inl E12)), (d13, .inl (w13, 9, .inr (.inl E13))), (hF, .inr (2, [.ref f0, .ref f1, .ref f2, .ref f3, .ref f4, .int sn, .int (nI (ks)), .int (nI (kw))])), (f0, .inl (z0, 10, .inl g0)), (f1, .inl (z1, 10, .inl g1)), (f2, .inl (z2, 10, .inl g2)), (f3, .inl (z3, 10, .inl g3)), (f4, .inl (z4, 4, .inl g4)), (jK, .inr (5, [.ref k0, .ref k1])), (k0, .inl (cK, 8, .inl L0)), (k1, .inl (cO, 32, .inl L1))] [(w2, .int), (w3, .int), (w4, .int), (w5, .int), (w6, .int), (w7, .int), (w8, .int), (w9, .int), (w10, .int), (w11, .int), (w12, .int), (w13, .long), (z0, .int), (z1, .int), (z2, .int), (z3, .int), (z4, .int), (cK, .int), (cO, .int), (cS, .int), (cc, .int)] (va_A [(jC, .inr (1, [.ref hF, .ref jK, .ref d2, .ref d3, .ref d4, .ref d5, .ref d6, .ref d7, .ref d8, .ref d9, .ref d10, .ref d11, .ref d12, .ref d13, .ref ru, .long dr, .int pr, .int mo, .int ho])), (d2, .inl (w2, 10, .inl e2)), (d3, .inl (w3, 10, .inl e3)), (d4, .inl (w4, 10, .inl e4)), (d5, .inl (w5, 10, .inl e5)), (d6, .inl (w6, 10, .inl e6)), (d7, .inl (w7, 10, .inl e7)), (d8, .inl (w8, 10, .inl e8)), (d9, .inl (w9, 10, .inl e9)), (d10, .inl (w10, 4, .inl e10)), (d11, .inl (w11, 4, .inl e11)), (d12, .inl (w12, 4, .inl e12)), (d13, .inl (w13, 9, .inr (.inl e13))), (hF, .inr (2, [.ref f0, .ref f1, .ref f2, .ref f3, .ref f4, .int sn, .int (nI (ks)), .int (nI (kw))])), (f0, .inl (z0, 10, .inl g0)), (f1, .inl (z1, 10, .inl g1)), (f2, .inl (z2, 10, .inl g2)), (f3, .inl (z3, 10, .inl g3)), (f4, .inl (z4, 4, .inl g4)), (jK, .inr (5, [.ref k0, .ref k1])), (k0, .inl (cK, 8, .inl l0)), (k1, .inl (cO, 32, .inl l1))] sz) t) (va_A [(jC, .inr (1, [.ref hF, .ref jK, .ref d2, .ref d3, .ref d4, .ref d5, .ref d6, .ref d7, .ref d8, .ref d9, .ref d10, .ref d11, .ref d12, .ref d13, .ref ru, .long dr, .int pr, .int mo, .int ho])), (d2, .inl (w2, 10, .inl e2)), (d3, .inl (w3, 10, .inl e3)), (d4, .inl (w4, 10, .inl e4)), (d5, .inl (w5, 10, .inl e5)), (d6, .inl (w6, 10, .inl e6)), (d7, .inl (w7, 10, .inl e7)), (d8, .inl (w8, 10, .inl e8)), (d9, .inl (w9, 10, .inl e9)), (d10, .inl (w10, 4, .inl e10)), (d11, .inl (w11, 4, .inl e11)), (d12, .inl (w12, 4, .inl e12)), (d13, .inl (w13, 9, .inr (.inl e13))), (hF, .inr (2, [.ref f0, .ref f1, .ref f2, .ref f3, .ref f4, .int sn, .int (nI (ks)), .int (nI (kw))])), (f0, .inl (z0, 10, .inl g0)), (f1, .inl (z1, 10, .inl g1)), (f2, .inl (z2, 10, .inl g2)), (f3, .inl (z3, 10, .inl g3)), (f4, .inl (z4, 4, .inl g4)), (jK, .inr (5, [.ref k0, .ref k1])), (k0, .inl (cK, 8, .inl l0)), (k1, .inl (cO, 32, .inl l1))] sz)) 0 0 (va_A [(jC, .inr (1, [.ref hF, .ref jK, .ref d2, .ref d3, .ref d4, .ref d5, .ref d6, .ref d7, .ref d8, .ref d9, .ref d10, .ref d11, .ref d12, .ref d13, .ref ru, .long dr, .int pr, .int mo, .int ho])), (d2, .inl (w2, 10, .inl e2)), (d3, .inl (w3, 10, .inl e3)), (d4, .inl (w4, 10, .inl e4)), (d5, .inl (w5, 10, .inl e5)), (d6, .inl (w6, 10, .inl e6)), (d7, .inl (w7, 10, .inl e7)), (d8, .inl (w8, 10, .inl e8)), (d9, .inl (w9, 10, .inl e9)), (d10, .inl (w10, 4, .inl e10)), (d11, .inl (w11, 4, .inl e11)), (d12, .inl (w12, 4, .inl e12)), (d13, .inl (w13, 9, .inr (.inl e13))), (hF, .inr (2, [.ref f0, .ref f1, .ref f2, .ref f3, .ref f4, .int sn, .int (nI (ks)), .int (nI (kw))])), (f0, .inl (z0, 10, .inl g0)), (f1, .inl (z1, 10, .inl g1)), (f2, .inl (z2, 10, .inl g2)), (f3, .inl (z3, 10, .inl g3)), (f4, .inl (z4, 4, .inl g4)), (jK, .inr (5, [.ref k0, .ref k1])), (k0, .inl (cK, 8, .inl l0)), (k1, .inl (cO, 32, .inl l1))] sz) := by
  refine Met.ofW (cc := cX1_worthNow) (maxL := 3) (ret := (some .int)) (by decide) rfl ?_
  intro p e s m args below meth c s₁ B hml hv
  obtain ⟨rfl, hsz, hP, hK, hD0, hX⟩ := hv
  have hx := B.exec
  have hb := B.bytes
  have hr := B.returns
  have hts := atoms_spec (ws := w_s_worthNow1) B.pre
  have hown : s.vm.findClass RX1 = some m.cls := findClass_of_methodNamed B.named
  have hlocks := B.notSynchronized
  subst hsz
  have hD := hD0.self (sz := s.heap.size)
  generalize hAe : va_A [(jC, .inr (1, [.ref hF, .ref jK, .ref d2, .ref d3, .ref d4, .ref d5, .ref d6, .ref d7, .ref d8, .ref d9, .ref d10, .ref d11, .ref d12, .ref d13, .ref ru, .long dr, .int pr, .int mo, .int ho])), (d2, .inl (w2, 10, .inl e2)), (d3, .inl (w3, 10, .inl e3)), (d4, .inl (w4, 10, .inl e4)), (d5, .inl (w5, 10, .inl e5)), (d6, .inl (w6, 10, .inl e6)), (d7, .inl (w7, 10, .inl e7)), (d8, .inl (w8, 10, .inl e8)), (d9, .inl (w9, 10, .inl e9)), (d10, .inl (w10, 4, .inl e10)), (d11, .inl (w11, 4, .inl e11)), (d12, .inl (w12, 4, .inl e12)), (d13, .inl (w13, 9, .inr (.inl e13))), (hF, .inr (2, [.ref f0, .ref f1, .ref f2, .ref f3, .ref f4, .int sn, .int (nI (ks)), .int (nI (kw))])), (f0, .inl (z0, 10, .inl g0)), (f1, .inl (z1, 10, .inl g1)), (f2, .inl (z2, 10, .inl g2)), (f3, .inl (z3, 10, .inl g3)), (f4, .inl (z4, 4, .inl g4)), (jK, .inr (5, [.ref k0, .ref k1])), (k0, .inl (cK, 8, .inl l0)), (k1, .inl (cO, 32, .inl l1))] s.heap.size = A at hD hX ⊢
  have hA : ∀ q : Nat, s.heap.size ≤ q → A q := fun q h => by rw [← hAe]; exact Or.inr h
  have hS : va_S A s.heap s.heap [] := va_S.rf
  have hP : va_P (dC, dI) vwCl [(jC, .inr (1, [.ref hF, .ref jK, .ref d2, .ref d3, .ref d4, .ref d5, .ref d6, .ref d7, .ref d8, .ref d9, .ref d10, .ref d11, .ref d12, .ref d13, .ref ru, .long dr, .int pr, .int mo, .int ho])), (d2, .inl (w2, 10, .inl e2)), (d3, .inl (w3, 10, .inl e3)), (d4, .inl (w4, 10, .inl e4)), (d5, .inl (w5, 10, .inl e5)), (d6, .inl (w6, 10, .inl e6)), (d7, .inl (w7, 10, .inl e7)), (d8, .inl (w8, 10, .inl e8)), (d9, .inl (w9, 10, .inl e9)), (d10, .inl (w10, 4, .inl e10)), (d11, .inl (w11, 4, .inl e11)), (d12, .inl (w12, 4, .inl e12)), (d13, .inl (w13, 9, .inr (.inl e13))), (hF, .inr (2, [.ref f0, .ref f1, .ref f2, .ref f3, .ref f4, .int sn, .int (nI (ks)), .int (nI (kw))])), (f0, .inl (z0, 10, .inl g0)), (f1, .inl (z1, 10, .inl g1)), (f2, .inl (z2, 10, .inl g2)), (f3, .inl (z3, 10, .inl g3)), (f4, .inl (z4, 4, .inl g4)), (jK, .inr (5, [.ref k0, .ref k1])), (k0, .inl (cK, 8, .inl l0)), (k1, .inl (cO, 32, .inl l1))] s.heap := hP
  have hl := lv_entry ([.ref jC, .int p0, .int p1]) (n := 3) (Nat.le_of_ble_eq_true rfl)
  rw [lg_entry_eq]
  generalize (lg_sl ([.ref jC, .int p0, .int p1]) ++ List.replicate (3 - (lg_sl ([.ref jC, .int p0, .int p1])).length) Slot.unset).toArray = ls at hl ⊢
  have hl : lv_has ls 3 [(0, .ref jC), (1, .int p0), (2, .int p1)] := hl
  refine kQ (fun Q hQ => ?_)
  refine lv_aload_n hx hb dX1_worthNow_0 rfl (lv_at hl 0 rfl) ?_
  have hCu := kCut (wc := [(jC, .inr (1, [.ref hF, .ref jK, .ref d2, .ref d3, .ref d4, .ref d5, .ref d6, .ref d7, .ref d8, .ref d9, .ref d10, .ref d11, .ref d12, .ref d13, .ref ru, .long dr, .int pr, .int mo, .int ho])), (d2, .inl (w2, 10, .inl e2)), (d3, .inl (w3, 10, .inl e3)), (d4, .inl (w4, 10, .inl e4)), (d5, .inl (w5, 10, .inl e5)), (d6, .inl (w6, 10, .inl e6)), (d7, .inl (w7, 10, .inl e7)), (d8, .inl (w8, 10, .inl e8)), (d9, .inl (w9, 10, .inl e9)), (d10, .inl (w10, 4, .inl e10)), (d11, .inl (w11, 4, .inl e11)), (d12, .inl (w12, 4, .inl e12)), (d13, .inl (w13, 9, .inr (.inl e13))), (hF, .inr (2, [.ref f0, .ref f1, .ref f2, .ref f3, .ref f4, .int sn, .int (nI (ks)), .int (nI (kw))])), (f0, .inl (z0, 10, .inl g0)), (f1, .inl (z1, 10, .inl g1)), (f2, .inl (z2, 10, .inl g2)), (f3, .inl (z3, 10, .inl g3)), (f4, .inl (z4, 4, .inl g4)), (jK, .inr (5, [.ref k0, .ref k1])), (k0, .inl (cK, 8, .inl l0)), (k1, .inl (cO, 32, .inl l1))]) hP hD hS hA [0, 1, 2, 3, 4, 5, 6, 7, 8, 9, 10, 11, 12, 13, 14, 15, 16, 17, 18, 19, 20, 21] rfl kc_nd_203 rfl
  have hPc := hCu.1
  have hDc := hCu.2.1
  have hFc := hCu.2.2
  have hKc := hK.sb (tys2 := [(w2, .int), (w3, .int), (w4, .int), (w5, .int), (w6, .int), (w7, .int), (w8, .int), (w9, .int), (w10, .int), (w11, .int), (w12, .int), (w13, .long), (z0, .int), (z1, .int), (z2, .int), (z3, .int), (z4, .int), (cK, .int), (cO, .int), (cS, .int), (cc, .int)]) [0, 1, 2, 3, 4, 5, 6, 7, 8, 9, 10, 11, 12, 13, 14, 15, 16, 17, 18, 19, 20] rfl
  refine va_callv (va_runV (As := []) (rest := []) ⟨hx, hb, hml, hown, hts⟩ (s_tally1 l dC dI jC d2 d3 d4 d5 d6 d7 d8 d9 d10 d11 d12 d13 w2 w3 w4 w5 w6 w7 w8 w9 w10 w11 w12 w13 e2 e3 e4 e5 e6 e7 e8 e9 e10 e11 e12 e13 dr pr mo ho hF f0 f1 f2 f3 f4 z0 z1 z2 z3 z4 g0 g1 g2 g3 g4 sn ks kw hks hkw jK k0 k1 cK cO l0 l1 ru sA cl cS cc nS nC gS gC hnS hnC s.heap.size) (cwV 0 hts (kG (List.forall_mem_cons.mpr ⟨(List.mem_cons_of_mem _ (List.mem_append_left _ (List.mem_of_getElem? (i := 3) rfl))), (List.forall_mem_cons.mpr ⟨(List.mem_cons_of_mem _ (List.mem_append_left _ (List.mem_of_getElem? (i := 2) rfl))), (List.forall_mem_cons.mpr ⟨(List.mem_cons_of_mem _ (List.mem_append_left _ (List.mem_of_getElem? (i := 1) rfl))), (List.forall_mem_cons.mpr ⟨(List.mem_cons_of_mem _ (List.mem_append_left _ (List.mem_of_getElem? (i := 0) rfl))), (fun _ h => absurd h List.not_mem_nil)⟩)⟩)⟩)⟩) (kGV _ _ _ _) (fun _ h => List.mem_cons_of_mem _ (List.mem_append_right _ (List.mem_append_left _ h))) gw_s_tally1) rfl rfl rfl ⟨rfl, hd_X1_tallyHouses⟩ ⟨(Nat.le_of_ble_eq_true rfl), (Nat.le_of_ble_eq_true rfl)⟩) (kW_V kNF_blind (kNF_give hX hS hFc) (va_recv hKc hPc (ci := 1) (q0 := 0) rfl rfl) hPc hKc hDc) rfl rfl hl.1 rfl (lv_room (Nat.le_of_ble_eq_true rfl)) dX1_worthNow_1 ⟨(Nat.le_of_ble_eq_true rfl), (Nat.le_of_ble_eq_true rfl)⟩) hS (fun q _ h => hFc q h) hFc (kU18 (fun E2_1 E3_2 E4_3 E5_4 E6_5 E7_6 E8_7 E9_8 E10_9 E11_10 E12_11 E13_12 L0_13 L1_14 Pr_15 Mo_16 Ho_17 Dr_18 t H_19 locs ht hvm hw hB hz1 hk1 hS => ?_))
  have hPD : kPD dC dI A [(jC, .inr (1, [.ref hF, .ref jK, .ref d2, .ref d3, .ref d4, .ref d5, .ref d6, .ref d7, .ref d8, .ref d9, .ref d10, .ref d11, .ref d12, .ref d13, .ref ru, .long Dr_18, .int Pr_15, .int Mo_16, .int Ho_17])), (d2, .inl (w2, 10, .inl E2_1)), (d3, .inl (w3, 10, .inl E3_2)), (d4, .inl (w4, 10, .inl E4_3)), (d5, .inl (w5, 10, .inl E5_4)), (d6, .inl (w6, 10, .inl E6_5)), (d7, .inl (w7, 10, .inl E7_6)), (d8, .inl (w8, 10, .inl E8_7)), (d9, .inl (w9, 10, .inl E9_8)), (d10, .inl (w10, 4, .inl E10_9)), (d11, .inl (w11, 4, .inl E11_10)), (d12, .inl (w12, 4, .inl E12_11)), (d13, .inl (w13, 9, .inr (.inl E13_12))), (hF, .inr (2, [.ref f0, .ref f1, .ref f2, .ref f3, .ref f4, .int sn, .int (nI (ks)), .int (nI (kw))])), (f0, .inl (z0, 10, .inl g0)), (f1, .inl (z1, 10, .inl g1)), (f2, .inl (z2, 10, .inl g2)), (f3, .inl (z3, 10, .inl g3)), (f4, .inl (z4, 4, .inl g4)), (jK, .inr (5, [.ref k0, .ref k1])), (k0, .inl (cK, 8, .inl L0_13)), (k1, .inl (cO, 32, .inl L1_14))] H_19 := kJoinX hP hD [0, 1, 2, 3, 4, 5, 6, 7, 8, 9, 10, 11, 12, 13, 14, 15, 16, 17, 18, 19, 20, 21] rfl hk1 hFc hB.1 ht hB.2.2 rfl [some 0, some 1, some 2, some 3, some 4, some 5, some 6, some 7, some 8, some 9, some 10, some 11, some 12, some 13, some 14, some 15, some 16, some 17, some 18, some 19, some 20, some 21] rfl rfl
  have hP := hPD.1
  have hD := hPD.2
  refine lv_aload_n hx hb dX1_worthNow_4 rfl (lv_at hl 0 rfl) ?_
  have hCu := kCut (wc := [(jC, .inr (1, [.ref hF, .ref jK, .ref d2, .ref d3, .ref d4, .ref d5, .ref d6, .ref d7, .ref d8, .ref d9, .ref d10, .ref d11, .ref d12, .ref d13, .ref ru, .long Dr_18, .int Pr_15, .int Mo_16, .int Ho_17])), (d2, .inl (w2, 10, .inl E2_1)), (d3, .inl (w3, 10, .inl E3_2)), (d4, .inl (w4, 10, .inl E4_3)), (d5, .inl (w5, 10, .inl E5_4)), (d6, .inl (w6, 10, .inl E6_5)), (d7, .inl (w7, 10, .inl E7_6)), (d8, .inl (w8, 10, .inl E8_7)), (d9, .inl (w9, 10, .inl E9_8)), (d10, .inl (w10, 4, .inl E10_9)), (d11, .inl (w11, 4, .inl E11_10)), (d12, .inl (w12, 4, .inl E12_11)), (d13, .inl (w13, 9, .inr (.inl E13_12))), (hF, .inr (2, [.ref f0, .ref f1, .ref f2, .ref f3, .ref f4, .int sn, .int (nI (ks)), .int (nI (kw))])), (f0, .inl (z0, 10, .inl g0)), (f1, .inl (z1, 10, .inl g1)), (f2, .inl (z2, 10, .inl g2)), (f3, .inl (z3, 10, .inl g3)), (f4, .inl (z4, 4, .inl g4)), (jK, .inr (5, [.ref k0, .ref k1])), (k0, .inl (cK, 8, .inl L0_13)), (k1, .inl (cO, 32, .inl L1_14))]) hP hD hS hA [0, 1, 2, 3, 4, 5, 6, 7, 8, 9, 10, 11, 12, 13, 14, 15, 16, 17, 18, 19, 20, 21] rfl kc_nd_203 rfl
  have hPc := hCu.1
  have hDc := hCu.2.1
  have hFc := hCu.2.2
  have hKc := hK.sb (tys2 := [(w2, .int), (w3, .int), (w4, .int), (w5, .int), (w6, .int), (w7, .int), (w8, .int), (w9, .int), (w10, .int), (w11, .int), (w12, .int), (w13, .long), (z0, .int), (z1, .int), (z2, .int), (z3, .int), (z4, .int), (cK, .int), (cO, .int), (cS, .int), (cc, .int)]) [0, 1, 2, 3, 4, 5, 6, 7, 8, 9, 10, 11, 12, 13, 14, 15, 16, 17, 18, 19, 20] rfl
  refine va_callv (va_runV (As := []) (rest := []) ⟨hx, hb, hml, hown, hts⟩ (s_lettersHour1 l dC dI jC d2 d3 d4 d5 d6 d7 d8 d9 d10 d11 d12 d13 w2 w3 w4 w5 w6 w7 w8 w9 w10 w11 w12 w13 E2_1 E3_2 E4_3 E5_4 E6_5 E7_6 E8_7 E9_8 E10_9 E11_10 E12_11 E13_12 Dr_18 Pr_15 Mo_16 Ho_17 hF f0 f1 f2 f3 f4 z0 z1 z2 z3 z4 g0 g1 g2 g3 g4 sn ks kw hks hkw jK k0 k1 cK cO L0_13 L1_14 ru sA cl cS cc nS nC gS gC hnS hnC H_19.size) (cwV 0 hts (kG (List.forall_mem_cons.mpr ⟨(List.mem_cons_of_mem _ (List.mem_append_left _ (List.mem_of_getElem? (i := 6) rfl))), (List.forall_mem_cons.mpr ⟨(List.mem_cons_of_mem _ (List.mem_append_left _ (List.mem_of_getElem? (i := 5) rfl))), (List.forall_mem_cons.mpr ⟨(List.mem_cons_of_mem _ (List.mem_append_left _ (List.mem_of_getElem? (i := 4) rfl))), (List.forall_mem_cons.mpr ⟨(List.mem_cons_of_mem _ (List.mem_append_left _ (List.mem_of_getElem? (i := 0) rfl))), (fun _ h => absurd h List.not_mem_nil)⟩)⟩)⟩)⟩) (kGV _ _ _ _) (fun _ h => List.mem_cons_of_mem _ (List.mem_append_right _ (List.mem_append_right _ (List.mem_append_left _ h)))) gw_s_lettersHour1) rfl rfl rfl ⟨rfl, hd_X1_setLettersOfHour⟩ ⟨(Nat.le_of_ble_eq_true rfl), (Nat.le_of_ble_eq_true rfl)⟩) (kW_V kNF_blind (kNF_give hX hS hFc) (va_recv hKc hPc (ci := 1) (q0 := 0) rfl rfl) hPc hKc hDc) rfl rfl hl.1 rfl (lv_room (Nat.le_of_ble_eq_true rfl)) dX1_worthNow_5 ⟨(Nat.le_of_ble_eq_true rfl), (Nat.le_of_ble_eq_true rfl)⟩) hS (fun q _ h => hFc q h) hFc (kU18 (fun E2_21 E3_22 E4_23 E5_24 E6_25 E7_26 E8_27 E9_28 E10_29 E11_30 E12_31 E13_32 L0_33 L1_34 Pr_35 Mo_36 Ho_37 Dr_38 t H_39 locs ht hvm hw hB hz1 hk1 hS => ?_))
  have hPD : kPD dC dI A [(jC, .inr (1, [.ref hF, .ref jK, .ref d2, .ref d3, .ref d4, .ref d5, .ref d6, .ref d7, .ref d8, .ref d9, .ref d10, .ref d11, .ref d12, .ref d13, .ref ru, .long Dr_38, .int Pr_35, .int Mo_36, .int Ho_37])), (d2, .inl (w2, 10, .inl E2_21)), (d3, .inl (w3, 10, .inl E3_22)), (d4, .inl (w4, 10, .inl E4_23)), (d5, .inl (w5, 10, .inl E5_24)), (d6, .inl (w6, 10, .inl E6_25)), (d7, .inl (w7, 10, .inl E7_26)), (d8, .inl (w8, 10, .inl E8_27)), (d9, .inl (w9, 10, .inl E9_28)), (d10, .inl (w10, 4, .inl E10_29)), (d11, .inl (w11, 4, .inl E11_30)), (d12, .inl (w12, 4, .inl E12_31)), (d13, .inl (w13, 9, .inr (.inl E13_32))), (hF, .inr (2, [.ref f0, .ref f1, .ref f2, .ref f3, .ref f4, .int sn, .int (nI (ks)), .int (nI (kw))])), (f0, .inl (z0, 10, .inl g0)), (f1, .inl (z1, 10, .inl g1)), (f2, .inl (z2, 10, .inl g2)), (f3, .inl (z3, 10, .inl g3)), (f4, .inl (z4, 4, .inl g4)), (jK, .inr (5, [.ref k0, .ref k1])), (k0, .inl (cK, 8, .inl L0_33)), (k1, .inl (cO, 32, .inl L1_34))] H_39 := kJoinX hP hD [0, 1, 2, 3, 4, 5, 6, 7, 8, 9, 10, 11, 12, 13, 14, 15, 16, 17, 18, 19, 20, 21] rfl hk1 hFc hB.1 ht hB.2.2 rfl [some 0, some 1, some 2, some 3, some 4, some 5, some 6, some 7, some 8, some 9, some 10, some 11, some 12, some 13, some 14, some 15, some 16, some 17, some 18, some 19, some 20, some 21] rfl rfl
  have hP := hPD.1
  have hD := hPD.2
  refine lv_aload_n hx hb dX1_worthNow_8 rfl (lv_at hl 0 rfl) ?_
  refine lv_iload_n hx hb dX1_worthNow_9 rfl (lv_at hl 2 rfl) ?_
  have hCu := kCut (wc := [(jC, .inr (1, [.ref hF, .ref jK, .ref d2, .ref d3, .ref d4, .ref d5, .ref d6, .ref d7, .ref d8, .ref d9, .ref d10, .ref d11, .ref d12, .ref d13, .ref ru, .long Dr_38, .int Pr_35, .int Mo_36, .int Ho_37])), (d2, .inl (w2, 10, .inl E2_21)), (d3, .inl (w3, 10, .inl E3_22)), (d4, .inl (w4, 10, .inl E4_23)), (d5, .inl (w5, 10, .inl E5_24)), (d6, .inl (w6, 10, .inl E6_25)), (d7, .inl (w7, 10, .inl E7_26)), (d8, .inl (w8, 10, .inl E8_27)), (d9, .inl (w9, 10, .inl E9_28)), (d10, .inl (w10, 4, .inl E10_29)), (d11, .inl (w11, 4, .inl E11_30)), (d12, .inl (w12, 4, .inl E12_31)), (d13, .inl (w13, 9, .inr (.inl E13_32))), (hF, .inr (2, [.ref f0, .ref f1, .ref f2, .ref f3, .ref f4, .int sn, .int (nI (ks)), .int (nI (kw))])), (f0, .inl (z0, 10, .inl g0)), (f1, .inl (z1, 10, .inl g1)), (f2, .inl (z2, 10, .inl g2)), (f3, .inl (z3, 10, .inl g3)), (f4, .inl (z4, 4, .inl g4)), (jK, .inr (5, [.ref k0, .ref k1])), (k0, .inl (cK, 8, .inl L0_33)), (k1, .inl (cO, 32, .inl L1_34))]) hP hD hS hA [0, 1, 2, 3, 4, 5, 6, 7, 8, 9, 10, 11, 12, 13, 14, 15, 16, 17, 18, 19, 20, 21] rfl kc_nd_203 rfl
  have hPc := hCu.1
  have hDc := hCu.2.1
  have hFc := hCu.2.2
  have hKc := hK.sb (tys2 := [(w2, .int), (w3, .int), (w4, .int), (w5, .int), (w6, .int), (w7, .int), (w8, .int), (w9, .int), (w10, .int), (w11, .int), (w12, .int), (w13, .long), (z0, .int), (z1, .int), (z2, .int), (z3, .int), (z4, .int), (cK, .int), (cO, .int), (cS, .int), (cc, .int)]) [0, 1, 2, 3, 4, 5, 6, 7, 8, 9, 10, 11, 12, 13, 14, 15, 16, 17, 18, 19, 20] rfl
  refine va_callv (va_runV (As := [.int p1]) (rest := []) ⟨hx, hb, hml, hown, hts⟩ (s_letters1 l dC dI jC d2 d3 d4 d5 d6 d7 d8 d9 d10 d11 d12 d13 w2 w3 w4 w5 w6 w7 w8 w9 w10 w11 w12 w13 E2_21 E3_22 E4_23 E5_24 E6_25 E7_26 E8_27 E9_28 E10_29 E11_30 E12_31 E13_32 Dr_38 Pr_35 Mo_36 Ho_37 hF f0 f1 f2 f3 f4 z0 z1 z2 z3 z4 g0 g1 g2 g3 g4 sn ks kw hks hkw jK k0 k1 cK cO L0_33 L1_34 ru sA cl cS cc nS nC gS gC hnS hnC p1 H_39.size) (cwV 1 hts (kG (List.forall_mem_cons.mpr ⟨(List.mem_cons_of_mem _ (List.mem_append_left _ (List.mem_of_getElem? (i := 9) rfl))), (List.forall_mem_cons.mpr ⟨(List.mem_cons_of_mem _ (List.mem_append_left _ (List.mem_of_getElem? (i := 8) rfl))), (List.forall_mem_cons.mpr ⟨(List.mem_cons_of_mem _ (List.mem_append_left _ (List.mem_of_getElem? (i := 7) rfl))), (List.forall_mem_cons.mpr ⟨(List.mem_cons_of_mem _ (List.mem_append_left _ (List.mem_of_getElem? (i := 0) rfl))), (fun _ h => absurd h List.not_mem_nil)⟩)⟩)⟩)⟩) (kGV _ _ _ _) (fun _ h => List.mem_cons_of_mem _ (List.mem_append_right _ (List.mem_append_right _ (List.mem_append_right _ (List.mem_append_left _ h))))) gw_s_letters1) rfl rfl rfl ⟨rfl, hd_X1_setLettersOf⟩ ⟨(Nat.le_of_ble_eq_true rfl), (Nat.le_of_ble_eq_true rfl)⟩) (kW_V kNF_blind (kNF_give hX hS hFc) (va_recv hKc hPc (ci := 1) (q0 := 0) rfl rfl) hPc hKc hDc) rfl rfl hl.1 rfl (lv_room (Nat.le_of_ble_eq_true rfl)) dX1_worthNow_10 ⟨(Nat.le_of_ble_eq_true rfl), (Nat.le_of_ble_eq_true rfl)⟩) hS (fun q _ h => hFc q h) hFc (kU18 (fun E2_41 E3_42 E4_43 E5_44 E6_45 E7_46 E8_47 E9_48 E10_49 E11_50 E12_51 E13_52 L0_53 L1_54 Pr_55 Mo_56 Ho_57 Dr_58 t H_59 locs ht hvm hw hB hz1 hk1 hS => ?_))
  have hPD : kPD dC dI A [(jC, .inr (1, [.ref hF, .ref jK, .ref d2, .ref d3, .ref d4, .ref d5, .ref d6, .ref d7, .ref d8, .ref d9, .ref d10, .ref d11, .ref d12, .ref d13, .ref ru, .long Dr_58, .int Pr_55, .int Mo_56, .int Ho_57])), (d2, .inl (w2, 10, .inl E2_41)), (d3, .inl (w3, 10, .inl E3_42)), (d4, .inl (w4, 10, .inl E4_43)), (d5, .inl (w5, 10, .inl E5_44)), (d6, .inl (w6, 10, .inl E6_45)), (d7, .inl (w7, 10, .inl E7_46)), (d8, .inl (w8, 10, .inl E8_47)), (d9, .inl (w9, 10, .inl E9_48)), (d10, .inl (w10, 4, .inl E10_49)), (d11, .inl (w11, 4, .inl E11_50)), (d12, .inl (w12, 4, .inl E12_51)), (d13, .inl (w13, 9, .inr (.inl E13_52))), (hF, .inr (2, [.ref f0, .ref f1, .ref f2, .ref f3, .ref f4, .int sn, .int (nI (ks)), .int (nI (kw))])), (f0, .inl (z0, 10, .inl g0)), (f1, .inl (z1, 10, .inl g1)), (f2, .inl (z2, 10, .inl g2)), (f3, .inl (z3, 10, .inl g3)), (f4, .inl (z4, 4, .inl g4)), (jK, .inr (5, [.ref k0, .ref k1])), (k0, .inl (cK, 8, .inl L0_53)), (k1, .inl (cO, 32, .inl L1_54))] H_59 := kJoinX hP hD [0, 1, 2, 3, 4, 5, 6, 7, 8, 9, 10, 11, 12, 13, 14, 15, 16, 17, 18, 19, 20, 21] rfl hk1 hFc hB.1 ht hB.2.2 rfl [some 0, some 1, some 2, some 3, some 4, some 5, some 6, some 7, some 8, some 9, some 10, some 11, some 12, some 13, some 14, some 15, some 16, some 17, some 18, some 19, some 20, some 21] rfl rfl
  have hP := hPD.1
  have hD := hPD.2
  refine lv_aload_n hx hb dX1_worthNow_13 rfl (lv_at hl 0 rfl) ?_
  refine va_get (D := (dC, dI)) (ci := 1) (v := .ref jK) (C := RX1) (T := TX1) (N := 19) hx hb hts (fun _ h => List.mem_cons_of_mem _ (List.mem_append_right _ (List.mem_append_right _ (List.mem_append_right _ (List.mem_append_right _ (List.mem_append_left _ h)))))) hown hK hP 0 rfl rfl 1 kc_l_1_19 (hts (.fieldLink RX1 71 "NotEnded$Course" "reckoner" "LNotEnded$Reckoner;") (List.mem_cons_of_mem _ (List.mem_append_left _ (List.mem_of_getElem? (i := 10) rfl)))) (fun _ h9 => h9) rfl dX1_worthNow_14 ?_
  refine lv_aload_n hx hb dX1_worthNow_17 rfl (lv_at hl 0 rfl) ?_
  refine va_get (D := (dC, dI)) (ci := 1) (v := .ref ru) (C := RX1) (T := TX1) (N := 19) hx hb hts (fun _ h => List.mem_cons_of_mem _ (List.mem_append_right _ (List.mem_append_right _ (List.mem_append_right _ (List.mem_append_right _ (List.mem_append_left _ h)))))) hown hK hP 0 rfl rfl 14 kc_l_14_19 (hts (.fieldLink RX1 49 "NotEnded$Course" "law" "LNotEnded$Rule;") (List.mem_cons_of_mem _ (List.mem_append_left _ (List.mem_of_getElem? (i := 11) rfl)))) (fun _ h9 => h9) rfl dX1_worthNow_18 ?_
  refine lv_iload_n hx hb dX1_worthNow_21 rfl (lv_at hl 1 rfl) ?_
  have hCu := kCut (wc := [(jK, .inr (5, [.ref k0, .ref k1])), (k0, .inl (cK, 8, .inl L0_53)), (k1, .inl (cO, 32, .inl L1_54))]) hP hD hS hA [19, 20, 21] rfl kc_nd_190 rfl
  have hPc := hCu.1
  have hDc := hCu.2.1
  have hFc := hCu.2.2
  have hKc := hK.sb (tys2 := [(cK, .int), (cO, .int), (cS, .int), (cc, .int)]) [17, 18, 19, 20] rfl
  refine va_calli (va_runV (As := [.ref ru, .int p0]) (rest := []) ⟨hx, hb, hml, hown, hts⟩ (s_worthOf5 l dC dI jK k0 k1 cK cO L0_53 L1_54 ru sA cl cS cc nS nC gS gC hnS hnC p0 H_59.size) (cwV 2 hts (kG (List.forall_mem_cons.mpr ⟨(List.mem_cons_of_mem _ (List.mem_append_left _ (List.mem_of_getElem? (i := 15) rfl))), (List.forall_mem_cons.mpr ⟨(List.mem_cons_of_mem _ (List.mem_append_left _ (List.mem_of_getElem? (i := 14) rfl))), (List.forall_mem_cons.mpr ⟨(List.mem_cons_of_mem _ (List.mem_append_left _ (List.mem_of_getElem? (i := 13) rfl))), (List.forall_mem_cons.mpr ⟨(List.mem_cons_of_mem _ (List.mem_append_left _ (List.mem_of_getElem? (i := 12) rfl))), (fun _ h => absurd h List.not_mem_nil)⟩)⟩)⟩)⟩) (kGV _ _ _ _) (fun _ h => List.mem_cons_of_mem _ (List.mem_append_right _ (List.mem_append_right _ (List.mem_append_right _ (List.mem_append_right _ (List.mem_append_right _ h)))))) gw_s_worthOf5) rfl rfl rfl ⟨rfl, hd_X5_worthOf⟩ ⟨(Nat.le_of_ble_eq_true rfl), (Nat.le_of_ble_eq_true rfl)⟩) (kW_V kNF_blind (kNF_give hX hS hFc) (va_recv hKc hPc (ci := 5) (q0 := 0) rfl rfl) hPc hKc hDc) rfl rfl hl.1 rfl (lv_room (Nat.le_of_ble_eq_true rfl)) dX1_worthNow_22 ⟨(Nat.le_of_ble_eq_true rfl), (Nat.le_of_ble_eq_true rfl)⟩) hS (fun q _ h => hFc q h) hFc (fun r_61 m1_62 t H_63 locs ht hvm hw hB hz1 hk1 hS => ?_)
  have hPD : kPD dC dI A [(jC, .inr (1, [.ref hF, .ref jK, .ref d2, .ref d3, .ref d4, .ref d5, .ref d6, .ref d7, .ref d8, .ref d9, .ref d10, .ref d11, .ref d12, .ref d13, .ref ru, .long Dr_58, .int Pr_55, .int Mo_56, .int Ho_57])), (d2, .inl (w2, 10, .inl E2_41)), (d3, .inl (w3, 10, .inl E3_42)), (d4, .inl (w4, 10, .inl E4_43)), (d5, .inl (w5, 10, .inl E5_44)), (d6, .inl (w6, 10, .inl E6_45)), (d7, .inl (w7, 10, .inl E7_46)), (d8, .inl (w8, 10, .inl E8_47)), (d9, .inl (w9, 10, .inl E9_48)), (d10, .inl (w10, 4, .inl E10_49)), (d11, .inl (w11, 4, .inl E11_50)), (d12, .inl (w12, 4, .inl E12_51)), (d13, .inl (w13, 9, .inr (.inl E13_52))), (hF, .inr (2, [.ref f0, .ref f1, .ref f2, .ref f3, .ref f4, .int sn, .int (nI (ks)), .int (nI (kw))])), (f0, .inl (z0, 10, .inl g0)), (f1, .inl (z1, 10, .inl g1)), (f2, .inl (z2, 10, .inl g2)), (f3, .inl (z3, 10, .inl g3)), (f4, .inl (z4, 4, .inl g4)), (jK, .inr (5, [.ref k0, .ref k1])), (k0, .inl (cK, 8, .inl L0_53)), (k1, .inl (cO, 32, .inl m1_62))] H_63 := kJoinX hP hD [19, 20, 21] rfl hk1 hFc hB.1 ht hB.2.2 rfl [none, none, none, none, none, none, none, none, none, none, none, none, none, none, none, none, none, none, none, some 0, some 1, some 2] rfl rfl
  have hP := hPD.1
  have hD := hPD.2
  have hP9 := hP
  have hD9 := hD
  have hK9 := hK
  rw [hQ]
  exact W.iret (v := r_61) hx hb hr (fun t ht hW => ⟨⟨r_61, (E2_41, E3_42, E4_43, E5_44, E6_45, E7_46, E8_47, E9_48, E10_49, E11_50, E12_51, E13_52, L0_53, m1_62, Pr_55, Mo_56, Ho_57, Dr_58), rfl, trivial,  by rw [ht]; exact hP9, va_K.moved hW.alike hK9, hD9⟩, hS.F ht⟩) hS.2.2 dX1_worthNow_25

theorem dX1_addOneWhoMay_0 : decode cX1_addOneWhoMay 0 = .ok (.iload_n 1, 1) := kDs0 kf_27 (by decide +kernel)
theorem dX1_addOneWhoMay_1 : decode cX1_addOneWhoMay 1 = .ok (.bipush 8, 2) := kDs3 kf_16 (by decide +kernel)
theorem dX1_addOneWhoMay_3 : decode cX1_addOneWhoMay 3 = .ok (.invokestatic 155, 3) := kDs2 kf_184 (by decide +kernel)
theorem dX1_addOneWhoMay_6 : decode cX1_addOneWhoMay 6 = .ok (.istore_n 3, 1) := kDs0 kf_62 (by decide +kernel)
theorem dX1_addOneWhoMay_7 : decode cX1_addOneWhoMay 7 = .ok (.iload_n 3, 1) := kDs0 kf_29 (by decide +kernel)
theorem dX1_addOneWhoMay_8 : decode cX1_addOneWhoMay 8 = .ok (.ifCond .le 39, 3) := kDs4 kf_158 (by decide +kernel)
theorem dX1_addOneWhoMay_47 : decode cX1_addOneWhoMay 47 = .ok (.aload_n 0, 1) := kDs0 kf_42 (by decide +kernel)
theorem dX1_addOneWhoMay_48 : decode cX1_addOneWhoMay 48 = .ok (.getfield 45, 3) := kDs2 kf_180 (by decide +kernel)
theorem dX1_addOneWhoMay_51 : decode cX1_addOneWhoMay 51 = .ok (.iconst 0, 1) := kDs0 kf_3 (by decide +kernel)
theorem dX1_addOneWhoMay_52 : decode cX1_addOneWhoMay 52 = .ok (.dup2, 1) := kDs0 kf_92 (by decide +kernel)
theorem dX1_addOneWhoMay_53 : decode cX1_addOneWhoMay 53 = .ok (.laload, 1) := kDs0 kf_47 (by decide +kernel)
theorem dX1_addOneWhoMay_54 : decode cX1_addOneWhoMay 54 = .ok (.bipush 100, 2) := kDs3 kf_16 (by decide +kernel)
theorem dX1_addOneWhoMay_56 : decode cX1_addOneWhoMay 56 = .ok (.iload_n 2, 1) := kDs0 kf_28 (by decide +kernel)
theorem dX1_addOneWhoMay_57 : decode cX1_addOneWhoMay 57 = .ok (.isub, 1) := kDs0 kf_100 (by decide +kernel)
theorem dX1_addOneWhoMay_58 : decode cX1_addOneWhoMay 58 = .ok (.i2l, 1) := kDs0 kf_133 (by decide +kernel)
theorem dX1_addOneWhoMay_59 : decode cX1_addOneWhoMay 59 = .ok (.lmul, 1) := kDs0 kf_105 (by decide +kernel)
theorem dX1_addOneWhoMay_60 : decode cX1_addOneWhoMay 60 = .ok (.lastore, 1) := kDs0 kf_80 (by decide +kernel)
theorem dX1_addOneWhoMay_61 : decode cX1_addOneWhoMay 61 = .ok (.return_, 1) := kDs0 kf_177 (by decide +kernel)
theorem dX1_addOneWhoMay_11 : decode cX1_addOneWhoMay 11 = .ok (.aload_n 0, 1) := kDs0 kf_42 (by decide +kernel)
theorem dX1_addOneWhoMay_12 : decode cX1_addOneWhoMay 12 = .ok (.getfield 45, 3) := kDs2 kf_180 (by decide +kernel)
theorem dX1_addOneWhoMay_15 : decode cX1_addOneWhoMay 15 = .ok (.iload_n 3, 1) := kDs0 kf_29 (by decide +kernel)
theorem dX1_addOneWhoMay_16 : decode cX1_addOneWhoMay 16 = .ok (.aload_n 0, 1) := kDs0 kf_42 (by decide +kernel)
theorem dX1_addOneWhoMay_17 : decode cX1_addOneWhoMay 17 = .ok (.getfield 45, 3) := kDs2 kf_180 (by decide +kernel)
theorem dX1_addOneWhoMay_20 : decode cX1_addOneWhoMay 20 = .ok (.iload_n 3, 1) := kDs0 kf_29 (by decide +kernel)
theorem dX1_addOneWhoMay_21 : decode cX1_addOneWhoMay 21 = .ok (.laload, 1) := kDs0 kf_47 (by decide +kernel)
theorem dX1_addOneWhoMay_22 : decode cX1_addOneWhoMay 22 = .ok (.bipush 100, 2) := kDs3 kf_16 (by decide +kernel)
theorem dX1_addOneWhoMay_24 : decode cX1_addOneWhoMay 24 = .ok (.iload_n 2, 1) := kDs0 kf_28 (by decide +kernel)
theorem dX1_addOneWhoMay_25 : decode cX1_addOneWhoMay 25 = .ok (.isub, 1) := kDs0 kf_100 (by decide +kernel)
theorem dX1_addOneWhoMay_26 : decode cX1_addOneWhoMay 26 = .ok (.i2l, 1) := kDs0 kf_133 (by decide +kernel)
theorem dX1_addOneWhoMay_27 : decode cX1_addOneWhoMay 27 = .ok (.lmul, 1) := kDs0 kf_105 (by decide +kernel)
theorem dX1_addOneWhoMay_28 : decode cX1_addOneWhoMay 28 = .ok (.aload_n 0, 1) := kDs0 kf_42 (by decide +kernel)
theorem dX1_addOneWhoMay_29 : decode cX1_addOneWhoMay 29 = .ok (.getfield 45, 3) := kDs2 kf_180 (by decide +kernel)
theorem dX1_addOneWhoMay_32 : decode cX1_addOneWhoMay 32 = .ok (.iload_n 3, 1) := kDs0 kf_29 (by decide +kernel)
theorem dX1_addOneWhoMay_33 : decode cX1_addOneWhoMay 33 = .ok (.iconst 1, 1) := kDs0 kf_4 (by decide +kernel)
theorem dX1_addOneWhoMay_34 : decode cX1_addOneWhoMay 34 = .ok (.isub, 1) := kDs0 kf_100 (by decide +kernel)
theorem dX1_addOneWhoMay_35 : decode cX1_addOneWhoMay 35 = .ok (.laload, 1) := kDs0 kf_47 (by decide +kernel)
theorem dX1_addOneWhoMay_36 : decode cX1_addOneWhoMay 36 = .ok (.iload_n 2, 1) := kDs0 kf_28 (by decide +kernel)
theorem dX1_addOneWhoMay_37 : decode cX1_addOneWhoMay 37 = .ok (.i2l, 1) := kDs0 kf_133 (by decide +kernel)
theorem dX1_addOneWhoMay_38 : decode cX1_addOneWhoMay 38 = .ok (.lmul, 1) := kDs0 kf_105 (by decide +kernel)
theorem dX1_addOneWhoMay_39 : decode cX1_addOneWhoMay 39 = .ok (.ladd, 1) := kDs0 kf_97 (by decide +kernel)
theorem dX1_addOneWhoMay_40 : decode cX1_addOneWhoMay 40 = .ok (.lastore, 1) := kDs0 kf_80 (by decide +kernel)
theorem dX1_addOneWhoMay_41 : decode cX1_addOneWhoMay 41 = .ok (.iinc 3 (-1), 3) := kDs5 kf_132 (by decide +kernel)
theorem dX1_addOneWhoMay_44 : decode cX1_addOneWhoMay 44 = .ok (.goto (-37), 3) := kDs4 kf_167 (by decide +kernel)
def w_s_addOne1 : List Cond := .code yX1_addOneWhoMay cX1_addOneWhoMay 4 none :: ([.methodLink RX1 155 Lib.Math.min.name, .static Lib.Math.min.name, .initialized RJ9, .code Lib.Math.min.name Lib.Math.min.code 2 (some .int), .fieldLink RX1 45 "NotEnded$Course" "ways" "[J"] ++ (wsX10))
theorem gw_s_addOne1 : (w_s_addOne1).all goodWord = true := kGc rfl (kGa (by decide +kernel) gw_wsX10)
theorem hd_X1_addOneWhoMay : yX1_addOneWhoMay.cls ≠ "java/lang/invoke/MethodHandle" ∧ yX1_addOneWhoMay.cls ≠ "java/lang/invoke/VarHandle" ∧ (parseMethodDescriptor yX1_addOneWhoMay.desc).map (fun d => d.parameters.length) = some 2 := by decide +kernel
set_option maxHeartbeats 4000000 in
set_option maxRecDepth 100000 in
theorem s_addOne1 (l : Launch) (dC : Nat → ClassId) (dI : Nat → Nat → Nat) (jC : Nat) (d2 : Nat) (d3 : Nat) (d4 : Nat) (d5 : Nat) (d6 : Nat) (d7 : Nat) (d8 : Nat) (d9 : Nat) (d10 : Nat) (d11 : Nat) (d12 : Nat) (d13 : Nat) (w2 : ClassId) (w3 : ClassId) (w4 : ClassId) (w5 : ClassId) (w6 : ClassId) (w7 : ClassId) (w8 : ClassId) (w9 : ClassId) (w10 : ClassId) (w11 : ClassId) (w12 : ClassId) (w13 : ClassId) (e2 : Nat → Int32) (e3 : Nat → Int32) (e4 : Nat → Int32) (e5 : Nat → Int32) (e6 : Nat → Int32) (e7 : Nat → Int32) (e8 : Nat → Int32) (e9 : Nat → Int32) (e10 : Nat → Int32) (e11 : Nat → Int32) (e12 : Nat → Int32) (e13 : Nat → Int64) (dr : Int64) (pr : Int32) (mo : Int32) (ho : Int32) (hF : Nat) (f0 : Nat) (f1 : Nat) (f2 : Nat) (f3 : Nat) (f4 : Nat) (z0 : ClassId) (z1 : ClassId) (z2 : ClassId) (z3 : ClassId) (z4 : ClassId) (g0 : Nat → Int32) (g1 : Nat → Int32) (g2 : Nat → Int32) (g3 : Nat → Int32) (g4 : Nat → Int32) (sn : Int32) (ks : Nat) (kw : Nat) (hks : ks ≤ 10) (hkw : kw ≤ 4) (jK : Nat) (k0 : Nat) (k1 : Nat) (cK : ClassId) (cO : ClassId) (l0 : Nat → Int32) (l1 : Nat → Int32) (ru : Nat) (sA : Nat) (cl : Nat) (cS : ClassId) (cc : ClassId) (nS : Nat) (nC : Nat) (gS : Nat → Int32) (gC : Nat → Int32) (hnS : nS ≤ 200) (hnC : nC ≤ 200) (pm : Nat) (hpm : pm ≤ 20) (p1 : Int32) (sz : Nat) : Met l yX1_addOneWhoMay w_s_addOne1 ({ frames := 4, cells := 0, slots := 0, locals := 240 }) (kW dC dI [.ref jC, .int (nI (pm)), .int p1] [(jC, .inr (1, [.ref hF, .ref jK, .ref d2, .ref d3, .ref d4, .ref d5, .ref d6, .ref d7, .ref d8, .ref d9, .ref d10, .ref d11, .ref d12, .ref d13, .ref ru, .long dr, .int pr, .int mo, .int ho])), (d2, .inl (w2, 10, .inl e2)), (d3, .inl (w3, 10, .inl e3)), (d4, .inl (w4, 10, .inl e4)), (d5, .inl (w5, 10, .inl e5)), (d6, .inl (w6, 10, .inl e6)), (d7, .inl (w7, 10, .inl e7)), (d8, .inl (w8, 10, .inl e8)), (d9, .inl (w9, 10, .inl e9)), (d10, .inl (w10, 4, .inl e10)), (d11, .inl (w11, 4, .inl e11)), (d12, .inl (w12, 4, .inl e12)), (d13, .inl (w13, 9, .inr (.inl e13))), (hF, .inr (2, [.ref f0, .ref f1, .ref f2, .ref f3, .ref f4, .int sn, .int (nI (ks)), .int (nI (kw))])), (f0, .inl (z0, 10, .inl g0)), (f1, .inl (z1, 10, .inl g1)), (f2, .inl (z2, 10, .inl g2)), (f3, .inl (z3, 10, .inl g3)), (f4, .inl (z4, 4, .inl g4)), (jK, .inr (5, [.ref k0, .ref k1])), (k0, .inl (cK, 8, .inl l0)), (k1, .inl (cO, 32, .inl l1))] [(w2, .int), (w3, .int), (w4, .int), (w5, .int), (w6, .int), (w7, .int), (w8, .int), (w9, .int), (w10, .int), (w11, .int), (w12, .int), (w13, .long), (z0, .int), (z1, .int), (z2, .int), (z3, .int), (z4, .int), (cK, .int), (cO, .int), (cS, .int), (cc, .int)] (kNF dC dI [(ru, .inr (6, [.ref sA, .ref cl])), (sA, .inl (cS, nS, .inl gS)), (cl, .inl (cc, nC, .inl gC))] (va_A [(jC, .inr (1, [.ref hF, .ref jK, .ref d2, .ref d3, .ref d4, .ref d5, .ref d6, .ref d7, .ref d8, .ref d9, .ref d10, .ref d11, .ref d12, .ref d13, .ref ru, .long dr, .int pr, .int mo, .int ho])), (d2, .inl (w2, 10, .inl e2)), (d3, .inl (w3, 10, .inl e3)), (d4, .inl (w4, 10, .inl e4)), (d5, .inl (w5, 10, .inl e5)), (d6, .inl (w6, 10, .inl e6)), (d7, .inl (w7, 10, .inl e7)), (d8, .inl (w8, 10, .inl e8)), (d9, .inl (w9, 10, .inl e9)), (d10, .inl (w10, 4, .inl e10)), (d11, .inl (w11, 4, .inl e11)), (d12, .inl (w12, 4, .inl e12)), (d13, .inl (w13, 9, .inr (.inl e13))), (hF, .inr (2, [.ref f0, .ref f1, .ref f2, .ref f3, .ref f4, .int sn, .int (nI (ks)), .int (nI (kw))])), (f0, .inl (z0, 10, .inl g0)), (f1, .inl (z1, 10, .inl g1)), (f2, .inl (z2, 10, .inl g2)), (f3, .inl (z3, 10, .inl g3)), (f4, .inl (z4, 4, .inl g4)), (jK, .inr (5, [.ref k0, .ref k1])), (k0, .inl (cK, 8, .inl l0)), (k1, .inl (cO, 32, .inl l1))] sz)) sz) (va_Qv (fun (u : (Nat → Int32) × (Nat → Int32) × (Nat → Int32) × (Nat → Int32) × (Nat → Int32) × (Nat → Int32) × (Nat → Int32) × (Nat → Int32) × (Nat → Int32) × (Nat → Int32) × (Nat → Int32) × (Nat → Int64) × (Nat → Int32) × (Nat → Int32) × Int32 × Int32 × Int32 × Int64) => match u with | (E2, E3, E4, E5, E6, E7, E8, E9, E10, E11, E12, E13, L0, L1, Pr, Mo, Ho, Dr) => True) (fun (u : (Nat → Int32) × (Nat → Int32) × (Nat → Int32) × (Nat → Int32) × (Nat → Int32) × (Nat → Int32) × (Nat → Int32) × (Nat → Int32) × (Nat → Int32) × (Nat → Int32) × (Nat → Int32) × (Nat → Int64) × (Nat → Int32) × (Nat → Int32) × Int32 × Int32 × Int32 × Int64) => match u with | (E2, E3, E4, E5, E6, E7, E8, E9, E10, E11, E12, E13, L0, L1, Pr, Mo, Ho, Dr) => fun t : State => kB dC dI [(jC, .inr (1, [.ref hF, .ref jK, .ref d2, .ref d3, .ref d4, .ref d5, .ref d6, .ref d7, .ref d8, .ref d9, .ref d10, .ref d11, .ref d12, .ref d13, .ref ru, .long Dr, .int Pr, .int Mo, .int Ho])), (d2, .inl (w2, 10, .inl E2)), (d3, .inl (w3, 10, .inl E3)), (d4, .inl (w4, 10, .inl E4)), (d5, .inl (w5, 10, .inl E5)), (d6, .inl (w6, 10, .inl E6)), (d7, .inl (w7, 10, .inl E7)), (d8, .inl (w8, 10, .inl E8)), (d9, .inl (w9, 10, .inl E9)), (d10, .inl (w10, 4, .inl E10)), (d11, .inl (w11, 4, .inl E11)), (d12, .inl (w12, 4, .inl E12)), (d13, .inl (w13, 9, .inr (.inl E13))), (hF, .inr (2, [.ref f0, .ref f1, .ref f2, .ref f3, .ref f4, .int sn, .int (nI (ks)), .int (nI (kw))])), (f0, .inl (z0, 10, .inl g0)), (f1, .inl (z1, 10, .inl g1)), (f2, .inl (z2, 10, .inl g2)), (f3, .inl (z3, 10, .inl g3)), (f4, .inl (z4, 4, .inl g4)), (jK, .inr (5, [.ref k0, .ref k1])), (k0, .inl (cK, 8, .inl L0)), (k1, .inl (cO, 32, .inl L1))] [(w2, .int), (w3, .int), (w4, .int), (w5, .int), (w6, .int), (w7, .int), (w8, .int), (w9, .int), (w10, .int), (w11, .int), (w12, .int), (w13, .long), (z0, .int), (z1, .int), (z2, .int), (z3, .int), (z4, .int), (cK, .int), (cO, .int), (cS, .int), (cc, .int)] (va_A [(jC, .inr (1, [.ref hF, .ref jK, .ref d2, .ref d3, .ref d4, .ref d5, .ref d6, .ref d7, .ref d8, .ref d9, .ref d10, .ref d11, .ref d12, .ref d13, .ref ru, .long dr, .int pr, .int mo, .int ho])), (d2, .inl (w2, 10, .inl e2)), (d3, .inl (w3, 10, .inl e3)), (d4, .inl (w4, 10, .inl e4)), (d5, .inl (w5, 10, .inl e5)), (d6, .inl (w6, 10, .inl e6)), (d7, .inl (w7, 10, .inl e7)), (d8, .inl (w8, 10, .inl e8)), (d9, .inl (w9, 10, .inl e9)), (d10, .inl (w10, 4, .inl e10)), (d11, .inl (w11, 4, .inl e11)), (d12, .inl (w12, 4, .inl e12)), (d13, .inl (w13, 9, .inr (.inl e13))), (hF, .inr (2, [.ref f0, .ref f1, .ref f2, .ref f3, .ref f4, .int sn, .int (nI (ks)), .int (nI (kw))])), (f0, .inl (z0, 10, .inl g0)), (f1, .inl (z1, 10, .inl g1)), (f2, .inl (z2, 10, .inl g2)), (f3, .inl (z3, 10, .inl g3)), (f4, .inl (z4, 4, .inl g4)), (jK, .inr (5, [.ref k0, .ref k1])), (k0, .inl (cK, 8, .inl l0)), (k1, .inl (cO, 32, .inl l1))] sz) t) (va_A [(jC, .inr (1, [.ref hF, .ref jK, .ref d2, .ref d3, .ref d4, .ref d5, .ref d6, .ref d7, .ref d8, .ref d9, .ref d10, .ref d11, .ref d12, .ref d13, .ref ru, .long dr, .int pr, .int mo, .int ho])), (d2, .inl (w2, 10, .inl e2)), (d3, .inl (w3, 10, .inl e3)), (d4, .inl (w4, 10, .inl e4)), (d5, .inl (w5, 10, .inl e5)), (d6, .inl (w6, 10, .inl e6)), (d7, .inl (w7, 10, .inl e7)), (d8, .inl (w8, 10, .inl e8)), (d9, .inl (w9, 10, .inl e9)), (d10, .inl (w10, 4, .inl e10)), (d11, .inl (w11, 4, .inl e11)), (d12, .inl (w12, 4, .inl e12)), (d13, .inl (w13, 9, .inr (.inl e13))), (hF, .inr (2, [.ref f0, .ref f1, .ref f2, .ref f3, .ref f4, .int sn, .int (nI (ks)), .int (nI (kw))])), (f0, .inl (z0, 10, .inl g0)), (f1, .inl (z1, 10, .inl g1)), (f2, .inl (z2, 10, .inl g2)), (f3, .inl (z3, 10, .inl g3)), (f4, .inl (z4, 4, .inl g4)), (jK, .inr (5, [.ref k0, .ref k1])), (k0, .inl (cK, 8, .inl l0)), (k1, .inl (cO, 32, .inl l1))] sz)) 0 0 (va_A [(jC, .inr (1, [.ref hF, .ref jK, .ref d2, .ref d3, .ref d4, .ref d5, .ref d6, .ref d7, .ref d8, .ref d9, .ref d10, .ref d11, .ref d12, .ref d13, .ref ru, .long dr, .int pr, .int mo, .int ho])), (d2, .inl (w2, 10, .inl e2)), (d3, .inl (w3, 10, .inl e3)), (d4, .inl (w4, 10, .inl e4)), (d5, .inl (w5, 10, .inl e5)), (d6, .inl (w6, 10, .inl e6)), (d7, .inl (w7, 10, .inl e7)), (d8, .inl (w8, 10, .inl e8)), (d9, .inl (w9, 10, .inl e9)), (d10, .inl (w10, 4, .inl e10)), (d11, .inl (w11, 4, .inl e11)), (d12, .inl (w12, 4, .inl e12)), (d13, .inl (w13, 9, .inr (.inl e13))), (hF, .inr (2, [.ref f0, .ref f1, .ref f2, .ref f3, .ref f4, .int sn, .int (nI (ks)), .int (nI (kw))])), (f0, .inl (z0, 10, .inl g0)), (f1, .inl (z1, 10, .inl g1)), (f2, .inl (z2, 10, .inl g2)), (f3, .inl (z3, 10, .inl g3)), (f4, .inl (z4, 4, .inl g4)), (jK, .inr (5, [.ref k0, .ref k1])), (k0, .inl (cK, 8, .inl l0)), (k1, .inl (cO, 32, .inl l1))] sz) := by
  refine Met.ofW (cc := cX1_addOneWhoMay) (maxL := 4) (ret := none) (by decide) rfl ?_
  intro p e s m args below meth c s₁ B hml hv
  obtain ⟨rfl, hsz, hP, hK, hD0, hX⟩ := hv
  have hx := B.exec
  have hb := B.bytes
  have hr := B.returns
  have hts := atoms_spec (ws := w_s_addOne1) B.pre
  have hown : s.vm.findClass RX1 = some m.cls := findClass_of_methodNamed B.named
  have hlocks := B.notSynchronized
  subst hsz
  have hD := hD0.self (sz := s.heap.size)
  generalize hAe : va_A [(jC, .inr (1, [.ref hF, .ref jK, .ref d2, .ref d3, .ref d4, .ref d5, .ref d6, .ref d7, .ref d8, .ref d9, .ref d10, .ref d11, .ref d12, .ref d13, .ref ru, .long dr, .int pr, .int mo, .int ho])), (d2, .inl (w2, 10, .inl e2)), (d3, .inl (w3, 10, .inl e3)), (d4, .inl (w4, 10, .inl e4)), (d5, .inl (w5, 10, .inl e5)), (d6, .inl (w6, 10, .inl e6)), (d7, .inl (w7, 10, .inl e7)), (d8, .inl (w8, 10, .inl e8)), (d9, .inl (w9, 10, .inl e9)), (d10, .inl (w10, 4, .inl e10)), (d11, .inl (w11, 4, .inl e11)), (d12, .inl (w12, 4, .inl e12)), (d13, .inl (w13, 9, .inr (.inl e13))), (hF, .inr (2, [.ref f0, .ref f1, .ref f2, .ref f3, .ref f4, .int sn, .int (nI (ks)), .int (nI (kw))])), (f0, .inl (z0, 10, .inl g0)), (f1, .inl (z1, 10, .inl g1)), (f2, .inl (z2, 10, .inl g2)), (f3, .inl (z3, 10, .inl g3)), (f4, .inl (z4, 4, .inl g4)), (jK, .inr (5, [.ref k0, .ref k1])), (k0, .inl (cK, 8, .inl l0)), (k1, .inl (cO, 32, .inl l1))] s.heap.size = A at hD hX ⊢
  have hA : ∀ q : Nat, s.heap.size ≤ q → A q := fun q h => by rw [← hAe]; exact Or.inr h
  have hS : va_S A s.heap s.heap [] := va_S.rf
  have hP : va_P (dC, dI) vwCl [(jC, .inr (1, [.ref hF, .ref jK, .ref d2, .ref d3, .ref d4, .ref d5, .ref d6, .ref d7, .ref d8, .ref d9, .ref d10, .ref d11, .ref d12, .ref d13, .ref ru, .long dr, .int pr, .int mo, .int ho])), (d2, .inl (w2, 10, .inl e2)), (d3, .inl (w3, 10, .inl e3)), (d4, .inl (w4, 10, .inl e4)), (d5, .inl (w5, 10, .inl e5)), (d6, .inl (w6, 10, .inl e6)), (d7, .inl (w7, 10, .inl e7)), (d8, .inl (w8, 10, .inl e8)), (d9, .inl (w9, 10, .inl e9)), (d10, .inl (w10, 4, .inl e10)), (d11, .inl (w11, 4, .inl e11)), (d12, .inl (w12, 4, .inl e12)), (d13, .inl (w13, 9, .inr (.inl e13))), (hF, .inr (2, [.ref f0, .ref f1, .ref f2, .ref f3, .ref f4, .int sn, .int (nI (ks)), .int (nI (kw))])), (f0, .inl (z0, 10, .inl g0)), (f1, .inl (z1, 10, .inl g1)), (f2, .inl (z2, 10, .inl g2)), (f3, .inl (z3, 10, .inl g3)), (f4, .inl (z4, 4, .inl g4)), (jK, .inr (5, [.ref k0, .ref k1])), (k0, .inl (cK, 8, .inl l0)), (k1, .inl (cO, 32, .inl l1))] s.heap := hP
  have hl := lv_entry ([.ref jC, .int (nI (pm)), .int p1]) (n := 4) (Nat.le_of_ble_eq_true rfl)
  rw [lg_entry_eq]
  generalize (lg_sl ([.ref jC, .int (nI (pm)), .int p1]) ++ List.replicate (4 - (lg_sl ([.ref jC, .int (nI (pm)), .int p1])).length) Slot.unset).toArray = ls at hl ⊢
  have hl : lv_has ls 4 [(0, .ref jC), (1, .int (nI (pm))), (2, .int p1)] := hl
  refine kQ (fun Q hQ => ?_)
  refine lv_iload_n hx hb dX1_addOneWhoMay_0 rfl (lv_at hl 1 rfl) ?_
  refine lv_bipush (v := 8) hx hb dX1_addOneWhoMay_1 kc_b_8 ?_
  refine va_mmin hx hb (hml.trans hl.1.symm) hown (hts (.methodLink RX1 155 Lib.Math.min.name) (List.mem_cons_of_mem _ (List.mem_append_left _ (List.mem_of_getElem? (i := 0) rfl)))) (hts (.static Lib.Math.min.name) (List.mem_cons_of_mem _ (List.mem_append_left _ (List.mem_of_getElem? (i := 1) rfl)))) (hts (.initialized RJ9) (List.mem_cons_of_mem _ (List.mem_append_left _ (List.mem_of_getElem? (i := 2) rfl)))) (hts (.code Lib.Math.min.name Lib.Math.min.code 2 (some .int)) (List.mem_cons_of_mem _ (List.mem_append_left _ (List.mem_of_getElem? (i := 3) rfl)))) (Nat.le_of_ble_eq_true rfl) (Nat.le_of_ble_eq_true rfl) (Nat.le_of_ble_eq_true rfl) (Nat.le_of_ble_eq_true rfl) dX1_addOneWhoMay_3 ?_
  refine lv_topi (fun x_1 ex_1 => ?_)
  obtain ⟨j_2, hj_2, ej_2⟩ := kMin8 (by omega) ex_1
  rw [ej_2]
  refine lv_istore_n hx hb dX1_addOneWhoMay_6 rfl hl kc_l_3_4 (kTo [(3, .int (nI (j_2))), (0, .ref jC), (1, .int (nI (pm))), (2, .int p1)]) (fun ls hl => ?_)
  have lp_k_3 : ∀ (n9 : Nat) (i : Nat) (le2 : Nat → Int32) (le3 : Nat → Int32) (le4 : Nat → Int32) (le5 : Nat → Int32) (le6 : Nat → Int32) (le7 : Nat → Int32) (le8 : Nat → Int32) (le9 : Nat → Int32) (le10 : Nat → Int32) (le11 : Nat → Int32) (le12 : Nat → Int32) (le13 : Nat → Int64) (ll0 : Nat → Int32) (ll1 : Nat → Int32) (ldr : Int64) (lpr : Int32) (lmo : Int32) (lho : Int32) (ivk_3_0 : i ≤ 8) (H : Heap) (locs : List Loc) (_ : va_P (dC, dI) vwCl [(jC, .inr (1, [.ref hF, .ref jK, .ref d2, .ref d3, .ref d4, .ref d5, .ref d6, .ref d7, .ref d8, .ref d9, .ref d10, .ref d11, .ref d12, .ref d13, .ref ru, .long ldr, .int lpr, .int lmo, .int lho])), (d2, .inl (w2, 10, .inl le2)), (d3, .inl (w3, 10, .inl le3)), (d4, .inl (w4, 10, .inl le4)), (d5, .inl (w5, 10, .inl le5)), (d6, .inl (w6, 10, .inl le6)), (d7, .inl (w7, 10, .inl le7)), (d8, .inl (w8, 10, .inl le8)), (d9, .inl (w9, 10, .inl le9)), (d10, .inl (w10, 4, .inl le10)), (d11, .inl (w11, 4, .inl le11)), (d12, .inl (w12, 4, .inl le12)), (d13, .inl (w13, 9, .inr (.inl le13))), (hF, .inr (2, [.ref f0, .ref f1, .ref f2, .ref f3, .ref f4, .int sn, .int (nI (ks)), .int (nI (kw))])), (f0, .inl (z0, 10, .inl g0)), (f1, .inl (z1, 10, .inl g1)), (f2, .inl (z2, 10, .inl g2)), (f3, .inl (z3, 10, .inl g3)), (f4, .inl (z4, 4, .inl g4)), (jK, .inr (5, [.ref k0, .ref k1])), (k0, .inl (cK, 8, .inl ll0)), (k1, .inl (cO, 32, .inl ll1))] H) (_ : va_D A [(jC, .inr (1, [.ref hF, .ref jK, .ref d2, .ref d3, .ref d4, .ref d5, .ref d6, .ref d7, .ref d8, .ref d9, .ref d10, .ref d11, .ref d12, .ref d13, .ref ru, .long ldr, .int lpr, .int lmo, .int lho])), (d2, .inl (w2, 10, .inl le2)), (d3, .inl (w3, 10, .inl le3)), (d4, .inl (w4, 10, .inl le4)), (d5, .inl (w5, 10, .inl le5)), (d6, .inl (w6, 10, .inl le6)), (d7, .inl (w7, 10, .inl le7)), (d8, .inl (w8, 10, .inl le8)), (d9, .inl (w9, 10, .inl le9)), (d10, .inl (w10, 4, .inl le10)), (d11, .inl (w11, 4, .inl le11)), (d12, .inl (w12, 4, .inl le12)), (d13, .inl (w13, 9, .inr (.inl le13))), (hF, .inr (2, [.ref f0, .ref f1, .ref f2, .ref f3, .ref f4, .int sn, .int (nI (ks)), .int (nI (kw))])), (f0, .inl (z0, 10, .inl g0)), (f1, .inl (z1, 10, .inl g1)), (f2, .inl (z2, 10, .inl g2)), (f3, .inl (z3, 10, .inl g3)), (f4, .inl (z4, 4, .inl g4)), (jK, .inr (5, [.ref k0, .ref k1])), (k0, .inl (cK, 8, .inl ll0)), (k1, .inl (cO, 32, .inl ll1))]) (_ : va_S A s.heap H locs) (ls : Array Slot) (_ : lv_has ls 4 [(3, .int (nI (i))), (0, .ref jC), (1, .int (nI (pm))), (2, .int p1)]) (_ : i < n9), W p l e (headSpec w_s_addOne1 ({ frames := 4, cells := 0, slots := 0, locals := 240 })).room s m (#[.ref jC, .int (nI (pm)), .int p1] : Array Value) below meth c H locs 0 0 Q (F0 m 7 ls []) := by
    intro n9
    induction n9 with
    | zero => intro i le2 le3 le4 le5 le6 le7 le8 le9 le10 le11 le12 le13 ll0 ll1 ldr lpr lmo lho ivk_3_0 H locs hP hD hS ls hl hm9; exact absurd hm9 (Nat.not_lt_zero _)
    | succ n9 ih_k_3 =>
      intro i le2 le3 le4 le5 le6 le7 le8 le9 le10 le11 le12 le13 ll0 ll1 ldr lpr lmo lho ivk_3_0 H locs hP hD hS ls hl hm9
      refine lv_iload_n hx hb dX1_addOneWhoMay_7 rfl (lv_at hl 0 rfl) ?_
      refine lv_if_le (tgt := 47) hx hb dX1_addOneWhoMay_8 kc_t_8_39 (fun c_4 => ?_) (fun c_4 => ?_)
      · have bd_6 : i < 2147483648 := by omega
        have hn_5 := kle (a := i) (b := 0) bd_6 kc_31_0 c_4
        refine lv_aload_n hx hb dX1_addOneWhoMay_47 rfl (lv_at hl 1 rfl) ?_
        refine va_get (D := (dC, dI)) (ci := 1) (v := .ref d13) (C := RX1) (T := TX1) (N := 19) hx hb hts (fun _ h => List.mem_cons_of_mem _ (List.mem_append_right _ h)) hown hK hP 0 rfl rfl 13 kc_l_13_19 (hts (.fieldLink RX1 45 "NotEnded$Course" "ways" "[J") (List.mem_cons_of_mem _ (List.mem_append_left _ (List.mem_of_getElem? (i := 4) rfl)))) (fun _ h9 => h9) rfl dX1_addOneWhoMay_48 ?_
        refine lv_iconst (v := 0) hx hb dX1_addOneWhoMay_51 kc_i_0 ?_
        refine lv_dup2_11 hx hb dX1_addOneWhoMay_52 rfl rfl ?_
        refine va_lald hx hb hK hP 12 11 rfl rfl kc_in_0_9 dX1_addOneWhoMay_53 ?_
        refine lv_topl (fun x_7 ex_7 => ?_)
        refine lv_bipush (v := 100) hx hb dX1_addOneWhoMay_54 kc_b_100 ?_
        refine lv_iload_n hx hb dX1_addOneWhoMay_56 rfl (lv_at hl 3 rfl) ?_
        refine lv_isub hx hb dX1_addOneWhoMay_57 ?_
        refine lv_topi (fun x_8 ex_8 => ?_)
        obtain ⟨z_9, ez_9⟩ : ∃ z : Int64, z = Int32.toInt64 x_8 := ⟨_, rfl⟩
        refine lv_i2l (v := z_9) hx hb dX1_addOneWhoMay_58 ez_9.symm ?_
        refine lv_lmul hx hb dX1_addOneWhoMay_59 ?_
        refine lv_topl (fun z_10 ez_10 => ?_)
        refine va_last hx hb hK hP hD hS 12 11 rfl rfl kc_in_0_9 dX1_addOneWhoMay_60 (fun H locs hP hD hS => ?_)
        obtain ⟨f_11, ef_11⟩ : ∃ gg9 : Nat → Int64, gg9 = vp_updL le13 (Int32.toNatClampNeg 0) z_10 := ⟨_, rfl⟩
        have hPD : kPD dC dI A [(jC, .inr (1, [.ref hF, .ref jK, .ref d2, .ref d3, .ref d4, .ref d5, .ref d6, .ref d7, .ref d8, .ref d9, .ref d10, .ref d11, .ref d12, .ref d13, .ref ru, .long ldr, .int lpr, .int lmo, .int lho])), (d2, .inl (w2, 10, .inl le2)), (d3, .inl (w3, 10, .inl le3)), (d4, .inl (w4, 10, .inl le4)), (d5, .inl (w5, 10, .inl le5)), (d6, .inl (w6, 10, .inl le6)), (d7, .inl (w7, 10, .inl le7)), (d8, .inl (w8, 10, .inl le8)), (d9, .inl (w9, 10, .inl le9)), (d10, .inl (w10, 4, .inl le10)), (d11, .inl (w11, 4, .inl le11)), (d12, .inl (w12, 4, .inl le12)), (d13, .inl (w13, 9, .inr (.inl f_11))), (hF, .inr (2, [.ref f0, .ref f1, .ref f2, .ref f3, .ref f4, .int sn, .int (nI (ks)), .int (nI (kw))])), (f0, .inl (z0, 10, .inl g0)), (f1, .inl (z1, 10, .inl g1)), (f2, .inl (z2, 10, .inl g2)), (f3, .inl (z3, 10, .inl g3)), (f4, .inl (z4, 4, .inl g4)), (jK, .inr (5, [.ref k0, .ref k1])), (k0, .inl (cK, 8, .inl ll0)), (k1, .inl (cO, 32, .inl ll1))] H := by rw [ef_11]; exact ⟨hP, hD⟩
        have hP := hPD.1
        have hD := hPD.2
        have hP9 := hP
        have hD9 := hD
        have hK9 := hK
        rw [hQ]
        exact W.vret hx hb hr (fun t ht hW => ⟨⟨(le2, le3, le4, le5, le6, le7, le8, le9, le10, le11, le12, f_11, ll0, ll1, lpr, lmo, lho, ldr), rfl, trivial,  by rw [ht]; exact hP9, va_K.moved hW.alike hK9, hD9⟩, hS.F ht⟩) hS.2.2 dX1_addOneWhoMay_61
      · have bd_13 : i < 2147483648 := by omega
        have hn_12 := knle (a := i) (b := 0) bd_13 kc_31_0 c_4
        refine lv_aload_n hx hb dX1_addOneWhoMay_11 rfl (lv_at hl 1 rfl) ?_
        refine va_get (D := (dC, dI)) (ci := 1) (v := .ref d13) (C := RX1) (T := TX1) (N := 19) hx hb hts (fun _ h => List.mem_cons_of_mem _ (List.mem_append_right _ h)) hown hK hP 0 rfl rfl 13 kc_l_13_19 (hts (.fieldLink RX1 45 "NotEnded$Course" "ways" "[J") (List.mem_cons_of_mem _ (List.mem_append_left _ (List.mem_of_getElem? (i := 4) rfl)))) (fun _ h9 => h9) rfl dX1_addOneWhoMay_12 ?_
        refine lv_iload_n hx hb dX1_addOneWhoMay_15 rfl (lv_at hl 0 rfl) ?_
        refine lv_aload_n hx hb dX1_addOneWhoMay_16 rfl (lv_at hl 1 rfl) ?_
        refine va_get (D := (dC, dI)) (ci := 1) (v := .ref d13) (C := RX1) (T := TX1) (N := 19) hx hb hts (fun _ h => List.mem_cons_of_mem _ (List.mem_append_right _ h)) hown hK hP 0 rfl rfl 13 kc_l_13_19 (hts (.fieldLink RX1 45 "NotEnded$Course" "ways" "[J") (List.mem_cons_of_mem _ (List.mem_append_left _ (List.mem_of_getElem? (i := 4) rfl)))) (fun _ h9 => h9) rfl dX1_addOneWhoMay_17 ?_
        refine lv_iload_n hx hb dX1_addOneWhoMay_20 rfl (lv_at hl 0 rfl) ?_
        have bd_14 : i < 9 := by omega
        refine va_lald hx hb hK hP 12 11 rfl rfl (vp_in_nI (n := i) (N := 9) bd_14 kc_31_9) dX1_addOneWhoMay_21 ?_
        refine lv_topl (fun x_15 ex_15 => ?_)
        refine lv_bipush (v := 100) hx hb dX1_addOneWhoMay_22 kc_b_100 ?_
        refine lv_iload_n hx hb dX1_addOneWhoMay_24 rfl (lv_at hl 3 rfl) ?_
        refine lv_isub hx hb dX1_addOneWhoMay_25 ?_
        refine lv_topi (fun x_16 ex_16 => ?_)
        obtain ⟨z_17, ez_17⟩ : ∃ z : Int64, z = Int32.toInt64 x_16 := ⟨_, rfl⟩
        refine lv_i2l (v := z_17) hx hb dX1_addOneWhoMay_26 ez_17.symm ?_
        refine lv_lmul hx hb dX1_addOneWhoMay_27 ?_
        refine lv_topl (fun z_18 ez_18 => ?_)
        refine lv_aload_n hx hb dX1_addOneWhoMay_28 rfl (lv_at hl 1 rfl) ?_
        refine va_get (D := (dC, dI)) (ci := 1) (v := .ref d13) (C := RX1) (T := TX1) (N := 19) hx hb hts (fun _ h => List.mem_cons_of_mem _ (List.mem_append_right _ h)) hown hK hP 0 rfl rfl 13 kc_l_13_19 (hts (.fieldLink RX1 45 "NotEnded$Course" "ways" "[J") (List.mem_cons_of_mem _ (List.mem_append_left _ (List.mem_of_getElem? (i := 4) rfl)))) (fun _ h9 => h9) rfl dX1_addOneWhoMay_29 ?_
        refine lv_iload_n hx hb dX1_addOneWhoMay_32 rfl (lv_at hl 0 rfl) ?_
        refine lv_iconst (v := 1) hx hb dX1_addOneWhoMay_33 kc_i_1 ?_
        refine lv_isub hx hb dX1_addOneWhoMay_34 ?_
        refine lv_topi (fun y_19 ey_19 => ?_)
        obtain rfl : y_19 = nI (i - 1) := ey_19.trans (pk_sub (a := i) (b := 1) (by omega))
        have bd_20 : i - 1 < 9 := by omega
        refine va_lald hx hb hK hP 12 11 rfl rfl (vp_in_nI (n := i - 1) (N := 9) bd_20 kc_31_9) dX1_addOneWhoMay_35 ?_
        refine lv_topl (fun x_21 ex_21 => ?_)
        refine lv_iload_n hx hb dX1_addOneWhoMay_36 rfl (lv_at hl 3 rfl) ?_
        obtain ⟨z_22, ez_22⟩ : ∃ z : Int64, z = Int32.toInt64 p1 := ⟨_, rfl⟩
        refine lv_i2l (v := z_22) hx hb dX1_addOneWhoMay_37 ez_22.symm ?_
        refine lv_lmul hx hb dX1_addOneWhoMay_38 ?_
        refine lv_topl (fun z_23 ez_23 => ?_)
        refine lv_ladd hx hb dX1_addOneWhoMay_39 ?_
        refine lv_topl (fun z_24 ez_24 => ?_)
        refine va_last hx hb hK hP hD hS 12 11 rfl rfl (vp_in_nI (n := i) (N := 9) bd_14 kc_31_9) dX1_addOneWhoMay_40 (fun H locs hP hD hS => ?_)
        obtain ⟨f_25, ef_25⟩ : ∃ gg9 : Nat → Int64, gg9 = vp_updL le13 (Int32.toNatClampNeg (nI (i))) z_24 := ⟨_, rfl⟩
        have hPD : kPD dC dI A [(jC, .inr (1, [.ref hF, .ref jK, .ref d2, .ref d3, .ref d4, .ref d5, .ref d6, .ref d7, .ref d8, .ref d9, .ref d10, .ref d11, .ref d12, .ref d13, .ref ru, .long ldr, .int lpr, .int lmo, .int lho])), (d2, .inl (w2, 10, .inl le2)), (d3, .inl (w3, 10, .inl le3)), (d4, .inl (w4, 10, .inl le4)), (d5, .inl (w5, 10, .inl le5)), (d6, .inl (w6, 10, .inl le6)), (d7, .inl (w7, 10, .inl le7)), (d8, .inl (w8, 10, .inl le8)), (d9, .inl (w9, 10, .inl le9)), (d10, .inl (w10, 4, .inl le10)), (d11, .inl (w11, 4, .inl le11)), (d12, .inl (w12, 4, .inl le12)), (d13, .inl (w13, 9, .inr (.inl f_25))), (hF, .inr (2, [.ref f0, .ref f1, .ref f2, .ref f3, .ref f4, .int sn, .int (nI (ks)), .int (nI (kw))])), (f0, .inl (z0, 10, .inl g0)), (f1, .inl (z1, 10, .inl g1)), (f2, .inl (z2, 10, .inl g2)), (f3, .inl (z3, 10, .inl g3)), (f4, .inl (z4, 4, .inl g4)), (jK, .inr (5, [.ref k0, .ref k1])), (k0, .inl (cK, 8, .inl ll0)), (k1, .inl (cO, 32, .inl ll1))] H := by rw [ef_25]; exact ⟨hP, hD⟩
        have hP := hPD.1
        have hD := hPD.2
        refine lv_iinc (v := nI (i - 1)) hx hb dX1_addOneWhoMay_41 hl (k := 0) rfl (kDec (a := i) 1 (by omega)) kc_l_3_4 (kTo [(3, .int (nI (i - 1))), (0, .ref jC), (1, .int (nI (pm))), (2, .int p1)]) (fun ls hl => ?_)
        refine lv_goto (tgt := 7) hx hb dX1_addOneWhoMay_44 kc_t_44_m37 ?_
        exact ih_k_3 (i - 1) le2 le3 le4 le5 le6 le7 le8 le9 le10 le11 le12 f_25 ll0 ll1 ldr lpr lmo lho (by omega) _ _ hP hD hS ls (lv_sub hl [0, 1, 2, 3] rfl) (by omega)
  exact lp_k_3 (j_2 + 1) j_2 e2 e3 e4 e5 e6 e7 e8 e9 e10 e11 e12 e13 l0 l1 dr pr mo ho (by omega) _ _ hP hD hS ls (lv_sub hl [0, 1, 2, 3] rfl) (by omega)

theorem dX1_waysThatGo_0 : decode cX1_waysThatGo 0 = .ok (.aload_n 0, 1) := kDs0 kf_42 (by decide +kernel)
theorem dX1_waysThatGo_1 : decode cX1_waysThatGo 1 = .ok (.invokevirtual 104, 3) := kDs2 kf_182 (by decide +kernel)
theorem dX1_waysThatGo_4 : decode cX1_waysThatGo 4 = .ok (.aload_n 0, 1) := kDs0 kf_42 (by decide +kernel)
theorem dX1_waysThatGo_5 : decode cX1_waysThatGo 5 = .ok (.getfield 45, 3) := kDs2 kf_180 (by decide +kernel)
theorem dX1_waysThatGo_8 : decode cX1_waysThatGo 8 = .ok (.lconst 0, 1) := kDs0 kf_9 (by decide +kernel)
theorem dX1_waysThatGo_9 : decode cX1_waysThatGo 9 = .ok (.invokestatic 136, 3) := kDs2 kf_184 (by decide +kernel)
theorem dX1_waysThatGo_12 : decode cX1_waysThatGo 12 = .ok (.aload_n 0, 1) := kDs0 kf_42 (by decide +kernel)
theorem dX1_waysThatGo_13 : decode cX1_waysThatGo 13 = .ok (.getfield 45, 3) := kDs2 kf_180 (by decide +kernel)
theorem dX1_waysThatGo_16 : decode cX1_waysThatGo 16 = .ok (.iconst 0, 1) := kDs0 kf_3 (by decide +kernel)
theorem dX1_waysThatGo_17 : decode cX1_waysThatGo 17 = .ok (.lconst 1, 1) := kDs0 kf_10 (by decide +kernel)
theorem dX1_waysThatGo_18 : decode cX1_waysThatGo 18 = .ok (.lastore, 1) := kDs0 kf_80 (by decide +kernel)
theorem dX1_waysThatGo_19 : decode cX1_waysThatGo 19 = .ok (.iconst 0, 1) := kDs0 kf_3 (by decide +kernel)
theorem dX1_waysThatGo_20 : decode cX1_waysThatGo 20 = .ok (.istore_n 2, 1) := kDs0 kf_61 (by decide +kernel)
theorem dX1_waysThatGo_21 : decode cX1_waysThatGo 21 = .ok (.iconst 0, 1) := kDs0 kf_3 (by decide +kernel)
theorem dX1_waysThatGo_22 : decode cX1_waysThatGo 22 = .ok (.istore_n 3, 1) := kDs0 kf_62 (by decide +kernel)
theorem dX1_waysThatGo_23 : decode cX1_waysThatGo 23 = .ok (.iload_n 3, 1) := kDs0 kf_29 (by decide +kernel)
theorem dX1_waysThatGo_24 : decode cX1_waysThatGo 24 = .ok (.aload_n 0, 1) := kDs0 kf_42 (by decide +kernel)
theorem dX1_waysThatGo_25 : decode cX1_waysThatGo 25 = .ok (.getfield 67, 3) := kDs2 kf_180 (by decide +kernel)
theorem dX1_waysThatGo_28 : decode cX1_waysThatGo 28 = .ok (.invokevirtual 84, 3) := kDs2 kf_182 (by decide +kernel)
theorem dX1_waysThatGo_31 : decode cX1_waysThatGo 31 = .ok (.if_icmp .ge 47, 3) := kDs4 kf_162 (by decide +kernel)
theorem dX1_waysThatGo_78 : decode cX1_waysThatGo 78 = .ok (.iload_n 1, 1) := kDs0 kf_27 (by decide +kernel)
theorem dX1_waysThatGo_79 : decode cX1_waysThatGo 79 = .ok (.ifCond .lt 21, 3) := kDs4 kf_155 (by decide +kernel)
theorem dX1_waysThatGo_100 : decode cX1_waysThatGo 100 = .ok (.lconst 0, 1) := kDs0 kf_9 (by decide +kernel)
theorem dX1_waysThatGo_101 : decode cX1_waysThatGo 101 = .ok (.lreturn, 1) := kDs0 kf_173 (by decide +kernel)
theorem dX1_waysThatGo_82 : decode cX1_waysThatGo 82 = .ok (.iload_n 1, 1) := kDs0 kf_27 (by decide +kernel)
theorem dX1_waysThatGo_83 : decode cX1_waysThatGo 83 = .ok (.aload_n 0, 1) := kDs0 kf_42 (by decide +kernel)
theorem dX1_waysThatGo_84 : decode cX1_waysThatGo 84 = .ok (.getfield 45, 3) := kDs2 kf_180 (by decide +kernel)
theorem dX1_waysThatGo_87 : decode cX1_waysThatGo 87 = .ok (.arraylength, 1) := kDs0 kf_190 (by decide +kernel)
theorem dX1_waysThatGo_88 : decode cX1_waysThatGo 88 = .ok (.if_icmp .ge 12, 3) := kDs4 kf_162 (by decide +kernel)
theorem dX1_waysThatGo_91 : decode cX1_waysThatGo 91 = .ok (.aload_n 0, 1) := kDs0 kf_42 (by decide +kernel)
theorem dX1_waysThatGo_92 : decode cX1_waysThatGo 92 = .ok (.getfield 45, 3) := kDs2 kf_180 (by decide +kernel)
theorem dX1_waysThatGo_95 : decode cX1_waysThatGo 95 = .ok (.iload_n 1, 1) := kDs0 kf_27 (by decide +kernel)
theorem dX1_waysThatGo_96 : decode cX1_waysThatGo 96 = .ok (.laload, 1) := kDs0 kf_47 (by decide +kernel)
theorem dX1_waysThatGo_97 : decode cX1_waysThatGo 97 = .ok (.goto 4, 3) := kDs4 kf_167 (by decide +kernel)
theorem dX1_waysThatGo_34 : decode cX1_waysThatGo 34 = .ok (.aload_n 0, 1) := kDs0 kf_42 (by decide +kernel)
theorem dX1_waysThatGo_35 : decode cX1_waysThatGo 35 = .ok (.iload_n 3, 1) := kDs0 kf_29 (by decide +kernel)
theorem dX1_waysThatGo_36 : decode cX1_waysThatGo 36 = .ok (.invokevirtual 142, 3) := kDs2 kf_182 (by decide +kernel)
theorem dX1_waysThatGo_39 : decode cX1_waysThatGo 39 = .ok (.ifCond .eq 33, 3) := kDs4 kf_153 (by decide +kernel)
theorem dX1_waysThatGo_72 : decode cX1_waysThatGo 72 = .ok (.iinc 3 1, 3) := kDs5 kf_132 (by decide +kernel)
theorem dX1_waysThatGo_75 : decode cX1_waysThatGo 75 = .ok (.goto (-52), 3) := kDs4 kf_167 (by decide +kernel)
theorem dX1_waysThatGo_42 : decode cX1_waysThatGo 42 = .ok (.iload_n 2, 1) := kDs0 kf_28 (by decide +kernel)
theorem dX1_waysThatGo_43 : decode cX1_waysThatGo 43 = .ok (.bipush 8, 2) := kDs3 kf_16 (by decide +kernel)
theorem dX1_waysThatGo_45 : decode cX1_waysThatGo 45 = .ok (.if_icmp .lt 7, 3) := kDs4 kf_161 (by decide +kernel)
theorem dX1_waysThatGo_52 : decode cX1_waysThatGo 52 = .ok (.iinc 2 1, 3) := kDs5 kf_132 (by decide +kernel)
theorem dX1_waysThatGo_55 : decode cX1_waysThatGo 55 = .ok (.aload_n 0, 1) := kDs0 kf_42 (by decide +kernel)
theorem dX1_waysThatGo_56 : decode cX1_waysThatGo 56 = .ok (.iload_n 2, 1) := kDs0 kf_28 (by decide +kernel)
theorem dX1_waysThatGo_57 : decode cX1_waysThatGo 57 = .ok (.aload_n 0, 1) := kDs0 kf_42 (by decide +kernel)
theorem dX1_waysThatGo_58 : decode cX1_waysThatGo 58 = .ok (.getfield 30, 3) := kDs2 kf_180 (by decide +kernel)
theorem dX1_waysThatGo_61 : decode cX1_waysThatGo 61 = .ok (.iload_n 3, 1) := kDs0 kf_29 (by decide +kernel)
theorem dX1_waysThatGo_62 : decode cX1_waysThatGo 62 = .ok (.iaload, 1) := kDs0 kf_46 (by decide +kernel)
theorem dX1_waysThatGo_63 : decode cX1_waysThatGo 63 = .ok (.iconst 0, 1) := kDs0 kf_3 (by decide +kernel)
theorem dX1_waysThatGo_64 : decode cX1_waysThatGo 64 = .ok (.bipush 100, 2) := kDs3 kf_16 (by decide +kernel)
theorem dX1_waysThatGo_66 : decode cX1_waysThatGo 66 = .ok (.invokestatic 147, 3) := kDs2 kf_184 (by decide +kernel)
theorem dX1_waysThatGo_69 : decode cX1_waysThatGo 69 = .ok (.invokevirtual 151, 3) := kDs2 kf_182 (by decide +kernel)
theorem dX1_waysThatGo_48 : decode cX1_waysThatGo 48 = .ok (.ldc2_w 145, 3) := kDs2 kf_20 (by decide +kernel)
theorem dX1_waysThatGo_51 : decode cX1_waysThatGo 51 = .ok (.lreturn, 1) := kDs0 kf_173 (by decide +kernel)
def w_s_ways1 : List Cond := .code yX1_waysThatGo cX1_waysThatGo 4 (some .long) :: ([.initialized RX1, .selects RX1 yX1_weigh yX1_weigh, .instanceMethod yX1_weigh, .methodLink RX1 104 yX1_weigh, .fieldLink RX1 45 "NotEnded$Course" "ways" "[J", .initialized RJ7, .static yJ7_fill_d0a16, .methodLink RX1 136 yJ7_fill_d0a16, .fieldLink RX1 67 "NotEnded$Course" "folk" "LNotEnded$Folk;", .initialized RX2, .selects RX2 yX2_size yX2_size, .instanceMethod yX2_size, .methodLink RX1 84 yX2_size, .selects RX1 yX1_mayGo yX1_mayGo, .instanceMethod yX1_mayGo, .methodLink RX1 142 yX1_mayGo, .fieldLink RX1 30 "NotEnded$Course" "goes" "[I", .initialized RX9, .static yX9_within, .selects RX1 yX1_addOneWhoMay yX1_addOneWhoMay, .instanceMethod yX1_addOneWhoMay, .methodLink RX1 151 yX1_addOneWhoMay, .constantLong RX1 145 (-1)] ++ (w_s_weigh1 ++ (wsX10 ++ (w_s_fillL ++ (w_s_size2 ++ (w_s_mayGo1 ++ (w_s_within9 ++ (w_s_addOne1))))))))
theorem gw_s_ways1 : (w_s_ways1).all goodWord = true := kGc rfl (kGa (by decide +kernel) (kGa gw_s_weigh1 (kGa gw_wsX10 (kGa gw_s_fillL (kGa gw_s_size2 (kGa gw_s_mayGo1 (kGa gw_s_within9 gw_s_addOne1)))))))
theorem hd_X1_waysThatGo : yX1_waysThatGo.cls ≠ "java/lang/invoke/MethodHandle" ∧ yX1_waysThatGo.cls ≠ "java/lang/invoke/VarHandle" ∧ (parseMethodDescriptor yX1_waysThatGo.desc).map (fun d => d.parameters.length) = some 1 := by decide +kernel
set_option maxHeartbeats 4000000 in
set_option maxRecDepth 100000 in
theorem s_ways1 (l : Launch) (dC : Nat → ClassId) (dI : Nat → Nat → Nat) (jC : Nat) (d2 : Nat) (d3 : Nat) (d4 : Nat) (d5 : Nat) (d6 : Nat) (d7 : Nat) (d8 : Nat) (d9 : Nat) (d10 : Nat) (d11 : Nat) (d12 : Nat) (d13 : Nat) (w2 : ClassId) (w3 : ClassId) (w4 : ClassId) (w5 : ClassId) (w6 : ClassId) (w7 : ClassId) (w8 : ClassId) (w9 : ClassId) (w10 : ClassId) (w11 : ClassId) (w12 : ClassId) (w13 : ClassId) (e2 : Nat → Int32) (e3 : Nat → Int32) (e4 : Nat → Int32) (e5 : Nat → Int32) (e6 : Nat → Int32) (e7 : Nat → Int32) (e8 : Nat → Int32) (e9 : Nat → Int32) (e10 : Nat → Int32) (e11 : Nat → Int32) (e12 : Nat → Int32) (e13 : Nat → Int64) (dr : Int64) (pr : Int32) (mo : Int32) (ho : Int32) (hF : Nat) (f0 : Nat) (f1 : Nat) (f2 : Nat) (f3 : Nat) (f4 : Nat) (z0 : ClassId) (z1 : ClassId) (z2 : ClassId) (z3 : ClassId) (z4 : ClassId) (g0 : Nat → Int32) (g1 : Nat → Int32) (g2 : Nat → Int32) (g3 : Nat → Int32) (g4 : Nat → Int32) (sn : Int32) (ks : Nat) (kw : Nat) (hks : ks ≤ 10) (hkw : kw ≤ 4) (jK : Nat) (k0 : Nat) (k1 : Nat) (cK : ClassId) (cO : ClassId) (l0 : Nat → Int32) (l1 : Nat → Int32) (ru : Nat) (sA : Nat) (cl : Nat) (cS : ClassId) (cc : ClassId) (nS : Nat) (nC : Nat) (gS : Nat → Int32) (gC : Nat → Int32) (hnS : nS ≤ 200) (hnC : nC ≤ 200) (p0 : Int32) (sz : Nat) : Met l yX1_waysThatGo w_s_ways1 ({ frames := 6, cells := 0, slots := 0, locals := 360 }) (kW dC dI [.ref jC, .int p0] [(jC, .inr (1, [.ref hF, .ref jK, .ref d2, .ref d3, .ref d4, .ref d5, .ref d6, .ref d7, .ref d8, .ref d9, .ref d10, .ref d11, .ref d12, .ref d13, .ref ru, .long dr, .int pr, .int mo, .int ho])), (d2, .inl (w2, 10, .inl e2)), (d3, .inl (w3, 10, .inl e3)), (d4, .inl (w4, 10, .inl e4)), (d5, .inl (w5, 10, .inl e5)), (d6, .inl (w6, 10, .inl e6)), (d7, .inl (w7, 10, .inl e7)), (d8, .inl (w8, 10, .inl e8)), (d9, .inl (w9, 10, .inl e9)), (d10, .inl (w10, 4, .inl e10)), (d11, .inl (w11, 4, .inl e11)), (d12, .inl (w12, 4, .inl e12)), (d13, .inl (w13, 9, .inr (.inl e13))), (hF, .inr (2, [.ref f0, .ref f1, .ref f2, .ref f3, .ref f4, .int sn, .int (nI (ks)), .int (nI (kw))])), (f0, .inl (z0, 10, .inl g0)), (f1, .inl (z1, 10, .inl g1)), (f2, .inl (z2, 10, .inl g2)), (f3, .inl (z3, 10, .inl g3)), (f4, .inl (z4, 4, .inl g4)), (jK, .inr (5, [.ref k0, .ref k1])), (k0, .inl (cK, 8, .inl l0)), (k1, .inl (cO, 32, .inl l1))] [(w2, .int), (w3, .int), (w4, .int), (w5, .int), (w6, .int), (w7, .int), (w8, .int), (w9, .int), (w10, .int), (w11, .int), (w12, .int), (w13, .long), (z0, .int), (z1, .int), (z2, .int), (z3, .int), (z4, .int), (cK, .int), (cO, .int), (cS, .int), (cc, .int)] (kNF dC dI [(ru, .inr (6, [.ref sA, .ref cl])), (sA, .inl (cS, nS, .inl gS)), (cl, .inl (cc, nC, .inl gC))] (va_A [(jC, .inr (1, [.ref hF, .ref jK, .ref d2, .ref d3, .ref d4, .ref d5, .ref d6, .ref d7, .ref d8, .ref d9, .ref d10, .ref d11, .ref d12, .ref d13, .ref ru, .long dr, .int pr, .int mo, .int ho])), (d2, .inl (w2, 10, .inl e2)), (d3, .inl (w3, 10, .inl e3)), (d4, .inl (w4, 10, .inl e4)), (d5, .inl (w5, 10, .inl e5)), (d6, .inl (w6, 10, .inl e6)), (d7, .inl (w7, 10, .inl e7)), (d8, .inl (w8, 10, .inl e8)), (d9, .inl (w9, 10, .inl e9)), (d10, .inl (w10, 4, .inl e10)), (d11, .inl (w11, 4, .inl e11)), (d12, .inl (w12, 4, .inl e12)), (d13, .inl (w13, 9, .inr (.inl e13))), (hF, .inr (2, [.ref f0, .ref f1, .ref f2, .ref f3, .ref f4, .int sn, .int (nI (ks)), .int (nI (kw))])), (f0, .inl (z0, 10, .inl g0)), (f1, .inl (z1, 10, .inl g1)), (f2, .inl (z2, 10, .inl g2)), (f3, .inl (z3, 10, .inl g3)), (f4, .inl (z4, 4, .inl g4)), (jK, .inr (5, [.ref k0, .ref k1])), (k0, .inl (cK, 8, .inl l0)), (k1, .inl (cO, 32, .inl l1))] sz)) sz) (va_Ql (fun (r : Int64) (u : (Nat → Int32) × (Nat → Int32) × (Nat → Int32) × (Nat → Int32) × (Nat → Int32) × (Nat → Int32) × (Nat → Int32) × (Nat → Int32) × (Nat → Int32) × (Nat → Int32) × (Nat → Int32) × (Nat → Int64) × (Nat → Int32) × (Nat → Int32) × Int32 × Int32 × Int32 × Int64) => match u with | (E2, E3, E4, E5, E6, E7, E8, E9, E10, E11, E12, E13, L0, L1, Pr, Mo, Ho, Dr) => True) (fun (u : (Nat → Int32) × (Nat → Int32) × (Nat → Int32) × (Nat → Int32) × (Nat → Int32) × (Nat → Int32) × (Nat → Int32) × (Nat → Int32) × (Nat → Int32) × (Nat → Int32) × (Nat → Int32) × (Nat → Int64) × (Nat → Int32) × (Nat → Int32) × Int32 × Int32 × Int32 × Int64) => match u with | (E2, E3, E4, E5, E6, E7, E8, E9, E10, E11, E12, E13, L0, L1, Pr, Mo, Ho, Dr) => fun t : State => kB dC dI [(jC, .inr (1, [.ref hF, .ref jK, .ref d2, .ref d3, .ref d4, .ref d5, .ref d6, .ref d7, .ref d8, .ref d9, .ref d10, .ref d11, .ref d12, .ref d13, .ref ru, .long Dr, .int Pr, .int Mo, .int Ho])), (d2, .inl (w2, 10, .inl E2)), (d3, .inl (w3, 10, .inl E3)), (d4, .inl (w4, 10, .inl E4)), (d5, .inl (w5, 10, .inl E5)), (d6, .inl (w6, 10, .inl E6)), (d7, .inl (w7, 10, .inl E7)), (d8, .inl (w8, 10, .inl E8)), (d9, .inl (w9, 10, .inl E9)), (d10, .inl (w10, 4, .inl E10)), (d11, .inl (w11, 4, .inl E11)), (d12, .inl (w12, 4, .inl E12)), (d13, .inl (w13, 9, .inr (.inl E13))), (hF, .inr (2, [.ref f0, .ref f1, .ref f2, .ref f3, .ref f4, .int sn, .int (nI (ks)), .int (nI (kw))])), (f0, .inl (z0, 10, .inl g0)), (f1, .inl (z1, 10, .inl g1)), (f2, .inl (z2, 10, .inl g2)), (f3, .inl (z3, 10, .inl g3)), (f4, .inl (z4, 4, .inl g4)), (jK, .inr (5, [.ref k0, .ref k1])), (k0, .inl (cK, 8, .inl L0)), (k1, .inl (cO, 32, .inl L1))] [(w2, .int), (w3, .int), (w4, .int), (w5, .int), (w6, .int), (w7, .int), (w8, .int), (w9, .int), (w10, .int), (w11, .int), (w12, .int), (w13, .long), (z0, .int), (z1, .int), (z2, .int), (z3, .int), (z4, .int), (cK, .int), (cO, .int), (cS, .int), (cc, .int)] (va_A [(jC, .inr (1, [.ref hF, .ref jK, .ref d2, .ref d3, .ref d4, .ref d5, .ref d6, .ref d7, .ref d8, .ref d9, .ref d10, .ref d11, .ref d12, .ref d13, .ref ru, .long dr, .int pr, .int mo, .int ho])), (d2, .inl (w2, 10, .inl e2)), (d3, .inl (w3, 10, .inl e3)), (d4, .inl (w4, 10, .inl e4)), (d5, .inl (w5, 10, .inl e5)), (d6, .inl (w6, 10, .inl e6)), (d7, .inl (w7, 10, .inl e7)), (d8, .inl (w8, 10, .inl e8)), (d9, .inl (w9, 10, .inl e9)), (d10, .inl (w10, 4, .inl e10)), (d11, .inl (w11, 4, .inl e11)), (d12, .inl (w12, 4, .inl e12)), (d13, .inl (w13, 9, .inr (.inl e13))), (hF, .inr (2, [.ref f0, .ref f1, .ref f2, .ref f3, .ref f4, .int sn, .int (nI (ks)), .int (nI (kw))])), (f0, .inl (z0, 10, .inl g0)), (f1, .inl (z1, 10, .inl g1)), (f2, .inl (z2, 10, .inl g2)), (f3, .inl (z3, 10, .inl g3)), (f4, .inl (z4, 4, .inl g4)), (jK, .inr (5, [.ref k0, .ref k1])), (k0, .inl (cK, 8, .inl l0)), (k1, .inl (cO, 32, .inl l1))] sz) t) (va_A [(jC, .inr (1, [.ref hF, .ref jK, .ref d2, .ref d3, .ref d4, .ref d5, .ref d6, .ref d7, .ref d8, .ref d9, .ref d10, .ref d11, .ref d12, .ref d13, .ref ru, .long dr, .int pr, .int mo, .int ho])), (d2, .inl (w2, 10, .inl e2)), (d3, .inl (w3, 10, .inl e3)), (d4, .inl (w4, 10, .inl e4)), (d5, .inl (w5, 10, .inl e5)), (d6, .inl (w6, 10, .inl e6)), (d7, .inl (w7, 10, .inl e7)), (d8, .inl (w8, 10, .inl e8)), (d9, .inl (w9, 10, .inl e9)), (d10, .inl (w10, 4, .inl e10)), (d11, .inl (w11, 4, .inl e11)), (d12, .inl (w12, 4, .inl e12)), (d13, .inl (w13, 9, .inr (.inl e13))), (hF, .inr (2, [.ref f0, .ref f1, .ref f2, .ref f3, .ref f4, .int sn, .int (nI (ks)), .int (nI (kw))])), (f0, .inl (z0, 10, .inl g0)), (f1, .inl (z1, 10, .inl g1)), (f2, .inl (z2, 10, .inl g2)), (f3, .inl (z3, 10, .inl g3)), (f4, .inl (z4, 4, .inl g4)), (jK, .inr (5, [.ref k0, .ref k1])), (k0, .inl (cK, 8, .inl l0)), (k1, .inl (cO, 32, .inl l1))] sz)) 0 0 (va_A [(jC, .inr (1, [.ref hF, .ref jK, .ref d2, .ref d3, .ref d4, .ref d5, .ref d6, .ref d7, .ref d8, .ref d9, .ref d10, .ref d11, .ref d12, .ref d13, .ref ru, .long dr, .int pr, .int mo, .int ho])), (d2, .inl (w2, 10, .inl e2)), (d3, .inl (w3, 10, .inl e3)), (d4, .inl (w4, 10, .inl e4)), (d5, .inl (w5, 10, .inl e5)), (d6, .inl (w6, 10, .inl e6)), (d7, .inl (w7, 10, .inl e7)), (d8, .inl (w8, 10, .inl e8)), (d9, .inl (w9, 10, .inl e9)), (d10, .inl (w10, 4, .inl e10)), (d11, .inl (w11, 4, .inl e11)), (d12, .inl (w12, 4, .inl e12)), (d13, .inl (w13, 9, .inr (.inl e13))), (hF, .inr (2, [.ref f0, .ref f1, .ref f2, .ref f3, .ref f4, .int sn, .int (nI (ks)), .int (nI (kw))])), (f0, .inl (z0, 10, .inl g0)), (f1, .inl (z1, 10, .inl g1)), (f2, .inl (z2, 10, .inl g2)), (f3, .inl (z3, 10, .inl g3)), (f4, .inl (z4, 4, .inl g4)), (jK, .inr (5, [.ref k0, .ref k1])), (k0, .inl (cK, 8, .inl l0)), (k1, .inl (cO, 32, .inl l1))] sz) := by
  refine Met.ofW (cc := cX1_waysThatGo) (maxL := 4) (ret := (some .long)) (by decide) rfl ?_
  intro p e s m args below meth c s₁ B hml hv
  obtain ⟨rfl, hsz, hP, hK, hD0, hX⟩ := hv
  have hx := B.exec
  have hb := B.bytes
  have hr := B.returns
  have hts := atoms_spec (ws := w_s_ways1) B.pre
  have hown : s.vm.findClass RX1 = some m.cls := findClass_of_methodNamed B.named
  have hlocks := B.notSynchronized
  subst hsz
  have hD := hD0.self (sz := s.heap.size)
  generalize hAe : va_A [(jC, .inr (1, [.ref hF, .ref jK, .ref d2, .ref d3, .ref d4, .ref d5, .ref d6, .ref d7, .ref d8, .ref d9, .ref d10, .ref d11, .ref d12, .ref d13, .ref ru, .long dr, .int pr, .int mo, .int ho])), (d2, .inl (w2, 10, .inl e2)), (d3, .inl (w3, 10, .inl e3)), (d4, .inl (w4, 10, .inl e4)), (d5, .inl (w5, 10, .inl e5)), (d6, .inl (w6, 10, .inl e6)), (d7, .inl (w7, 10, .inl e7)), (d8, .inl (w8, 10, .inl e8)), (d9, .inl (w9, 10, .inl e9)), (d10, .inl (w10, 4, .inl e10)), (d11, .inl (w11, 4, .inl e11)), (d12, .inl (w12, 4, .inl e12)), (d13, .inl (w13, 9, .inr (.inl e13))), (hF, .inr (2, [.ref f0, .ref f1, .ref f2, .ref f3, .ref f4, .int sn, .int (nI (ks)), .int (nI (kw))])), (f0, .inl (z0, 10, .inl g0)), (f1, .inl (z1, 10, .inl g1)), (f2, .inl (z2, 10, .inl g2)), (f3, .inl (z3, 10, .inl g3)), (f4, .inl (z4, 4, .inl g4)), (jK, .inr (5, [.ref k0, .ref k1])), (k0, .inl (cK, 8, .inl l0)), (k1, .inl (cO, 32, .inl l1))] s.heap.size = A at hD hX ⊢
  have hA : ∀ q : Nat, s.heap.size ≤ q → A q := fun q h => by rw [← hAe]; exact Or.inr h
  have hS : va_S A s.heap s.heap [] := va_S.rf
  have hP : va_P (dC, dI) vwCl [(jC, .inr (1, [.ref hF, .ref jK, .ref d2, .ref d3, .ref d4, .ref d5, .ref d6, .ref d7, .ref d8, .ref d9, .ref d10, .ref d11, .ref d12, .ref d13, .ref ru, .long dr, .int pr, .int mo, .int ho])), (d2, .inl (w2, 10, .inl e2)), (d3, .inl (w3, 10, .inl e3)), (d4, .inl (w4, 10, .inl e4)), (d5, .inl (w5, 10, .inl e5)), (d6, .inl (w6, 10, .inl e6)), (d7, .inl (w7, 10, .inl e7)), (d8, .inl (w8, 10, .inl e8)), (d9, .inl (w9, 10, .inl e9)), (d10, .inl (w10, 4, .inl e10)), (d11, .inl (w11, 4, .inl e11)), (d12, .inl (w12, 4, .inl e12)), (d13, .inl (w13, 9, .inr (.inl e13))), (hF, .inr (2, [.ref f0, .ref f1, .ref f2, .ref f3, .ref f4, .int sn, .int (nI (ks)), .int (nI (kw))])), (f0, .inl (z0, 10, .inl g0)), (f1, .inl (z1, 10, .inl g1)), (f2, .inl (z2, 10, .inl g2)), (f3, .inl (z3, 10, .inl g3)), (f4, .inl (z4, 4, .inl g4)), (jK, .inr (5, [.ref k0, .ref k1])), (k0, .inl (cK, 8, .inl l0)), (k1, .inl (cO, 32, .inl l1))] s.heap := hP
  have hl := lv_entry ([.ref jC, .int p0]) (n := 4) (Nat.le_of_ble_eq_true rfl)
  rw [lg_entry_eq]
  generalize (lg_sl ([.ref jC, .int p0]) ++ List.replicate (4 - (lg_sl ([.ref jC, .int p0])).length) Slot.unset).toArray = ls at hl ⊢
  have hl : lv_has ls 4 [(0, .ref jC), (1, .int p0)] := hl
  refine kQ (fun Q hQ => ?_)
  refine lv_aload_n hx hb dX1_waysThatGo_0 rfl (lv_at hl 0 rfl) ?_
  have hCu := kCut (wc := [(jC, .inr (1, [.ref hF, .ref jK, .ref d2, .ref d3, .ref d4, .ref d5, .ref d6, .ref d7, .ref d8, .ref d9, .ref d10, .ref d11, .ref d12, .ref d13, .ref ru, .long dr, .int pr, .int mo, .int ho])), (d2, .inl (w2, 10, .inl e2)), (d3, .inl (w3, 10, .inl e3)), (d4, .inl (w4, 10, .inl e4)), (d5, .inl (w5, 10, .inl e5)), (d6, .inl (w6, 10, .inl e6)), (d7, .inl (w7, 10, .inl e7)), (d8, .inl (w8, 10, .inl e8)), (d9, .inl (w9, 10, .inl e9)), (d10, .inl (w10, 4, .inl e10)), (d11, .inl (w11, 4, .inl e11)), (d12, .inl (w12, 4, .inl e12)), (d13, .inl (w13, 9, .inr (.inl e13))), (hF, .inr (2, [.ref f0, .ref f1, .ref f2, .ref f3, .ref f4, .int sn, .int (nI (ks)), .int (nI (kw))])), (f0, .inl (z0, 10, .inl g0)), (f1, .inl (z1, 10, .inl g1)), (f2, .inl (z2, 10, .inl g2)), (f3, .inl (z3, 10, .inl g3)), (f4, .inl (z4, 4, .inl g4)), (jK, .inr (5, [.ref k0, .ref k1])), (k0, .inl (cK, 8, .inl l0)), (k1, .inl (cO, 32, .inl l1))]) hP hD hS hA [0, 1, 2, 3, 4, 5, 6, 7, 8, 9, 10, 11, 12, 13, 14, 15, 16, 17, 18, 19, 20, 21] rfl kc_nd_203 rfl
  have hPc := hCu.1
  have hDc := hCu.2.1
  have hFc := hCu.2.2
  have hKc := hK.sb (tys2 := [(w2, .int), (w3, .int), (w4, .int), (w5, .int), (w6, .int), (w7, .int), (w8, .int), (w9, .int), (w10, .int), (w11, .int), (w12, .int), (w13, .long), (z0, .int), (z1, .int), (z2, .int), (z3, .int), (z4, .int), (cK, .int), (cO, .int), (cS, .int), (cc, .int)]) [0, 1, 2, 3, 4, 5, 6, 7, 8, 9, 10, 11, 12, 13, 14, 15, 16, 17, 18, 19, 20] rfl
  refine va_callv (va_runV (As := []) (rest := []) ⟨hx, hb, hml, hown, hts⟩ (s_weigh1 l dC dI jC d2 d3 d4 d5 d6 d7 d8 d9 d10 d11 d12 d13 w2 w3 w4 w5 w6 w7 w8 w9 w10 w11 w12 w13 e2 e3 e4 e5 e6 e7 e8 e9 e10 e11 e12 e13 dr pr mo ho hF f0 f1 f2 f3 f4 z0 z1 z2 z3 z4 g0 g1 g2 g3 g4 sn ks kw hks hkw jK k0 k1 cK cO l0 l1 ru sA cl cS cc nS nC gS gC hnS hnC s.heap.size) (cwV 0 hts (kG (List.forall_mem_cons.mpr ⟨(List.mem_cons_of_mem _ (List.mem_append_left _ (List.mem_of_getElem? (i := 3) rfl))), (List.forall_mem_cons.mpr ⟨(List.mem_cons_of_mem _ (List.mem_append_left _ (List.mem_of_getElem? (i := 2) rfl))), (List.forall_mem_cons.mpr ⟨(List.mem_cons_of_mem _ (List.mem_append_left _ (List.mem_of_getElem? (i := 1) rfl))), (List.forall_mem_cons.mpr ⟨(List.mem_cons_of_mem _ (List.mem_append_left _ (List.mem_of_getElem? (i := 0) rfl))), (fun _ h => absurd h List.not_mem_nil)⟩)⟩)⟩)⟩) (kGV _ _ _ _) (fun _ h => List.mem_cons_of_mem _ (List.mem_append_right _ (List.mem_append_left _ h))) gw_s_weigh1) rfl rfl rfl ⟨rfl, hd_X1_weigh⟩ ⟨(Nat.le_of_ble_eq_true rfl), (Nat.le_of_ble_eq_true rfl)⟩) (kW_V kNF_blind (kNF_give hX hS hFc) (va_recv hKc hPc (ci := 1) (q0 := 0) rfl rfl) hPc hKc hDc) rfl rfl hl.1 rfl (lv_room (Nat.le_of_ble_eq_true rfl)) dX1_waysThatGo_1 ⟨(Nat.le_of_ble_eq_true rfl), (Nat.le_of_ble_eq_true rfl)⟩) hS (fun q _ h => hFc q h) hFc (kU18 (fun E2_1 E3_2 E4_3 E5_4 E6_5 E7_6 E8_7 E9_8 E10_9 E11_10 E12_11 E13_12 L0_13 L1_14 Pr_15 Mo_16 Ho_17 Dr_18 t H_19 locs ht hvm hw hB hz1 hk1 hS => ?_))
  have hPD : kPD dC dI A [(jC, .inr (1, [.ref hF, .ref jK, .ref d2, .ref d3, .ref d4, .ref d5, .ref d6, .ref d7, .ref d8, .ref d9, .ref d10, .ref d11, .ref d12, .ref d13, .ref ru, .long Dr_18, .int Pr_15, .int Mo_16, .int Ho_17])), (d2, .inl (w2, 10, .inl E2_1)), (d3, .inl (w3, 10, .inl E3_2)), (d4, .inl (w4, 10, .inl E4_3)), (d5, .inl (w5, 10, .inl E5_4)), (d6, .inl (w6, 10, .inl E6_5)), (d7, .inl (w7, 10, .inl E7_6)), (d8, .inl (w8, 10, .inl E8_7)), (d9, .inl (w9, 10, .inl E9_8)), (d10, .inl (w10, 4, .inl E10_9)), (d11, .inl (w11, 4, .inl E11_10)), (d12, .inl (w12, 4, .inl E12_11)), (d13, .inl (w13, 9, .inr (.inl E13_12))), (hF, .inr (2, [.ref f0, .ref f1, .ref f2, .ref f3, .ref f4, .int sn, .int (nI (ks)), .int (nI (kw))])), (f0, .inl (z0, 10, .inl g0)), (f1, .inl (z1, 10, .inl g1)), (f2, .inl (z2, 10, .inl g2)), (f3, .inl (z3, 10, .inl g3)), (f4, .inl (z4, 4, .inl g4)), (jK, .inr (5, [.ref k0, .ref k1])), (k0, .inl (cK, 8, .inl L0_13)), (k1, .inl (cO, 32, .inl L1_14))] H_19 := kJoinX hP hD [0, 1, 2, 3, 4, 5, 6, 7, 8, 9, 10, 11, 12, 13, 14, 15, 16, 17, 18, 19, 20, 21] rfl hk1 hFc hB.1 ht hB.2.2 rfl [some 0, some 1, some 2, some 3, some 4, some 5, some 6, some 7, some 8, some 9, some 10, some 11, some 12, some 13, some 14, some 15, some 16, some 17, some 18, some 19, some 20, some 21] rfl rfl
  have hP := hPD.1
  have hD := hPD.2
  refine lv_aload_n hx hb dX1_waysThatGo_4 rfl (lv_at hl 0 rfl) ?_
  refine va_get (D := (dC, dI)) (ci := 1) (v := .ref d13) (C := RX1) (T := TX1) (N := 19) hx hb hts (fun _ h => List.mem_cons_of_mem _ (List.mem_append_right _ (List.mem_append_right _ (List.mem_append_left _ h)))) hown hK hP 0 rfl rfl 13 kc_l_13_19 (hts (.fieldLink RX1 45 "NotEnded$Course" "ways" "[J") (List.mem_cons_of_mem _ (List.mem_append_left _ (List.mem_of_getElem? (i := 4) rfl)))) (fun _ h9 => h9) rfl dX1_waysThatGo_5 ?_
  refine lv_lconst (v := 0) hx hb dX1_waysThatGo_8 (by decide) ?_
  have hCu := kCut (wc := [(d13, .inl (w13, 9, .inr (.inl E13_12)))]) hP hD hS hA [12] rfl kc_nd_252 rfl
  have hPc := hCu.1
  have hDc := hCu.2.1
  have hFc := hCu.2.2
  have hKc := hK.sb (tys2 := [(w13, .long)]) [11] rfl
  refine va_callv (va_runS (As := [.ref d13, .long 0]) (rest := []) ⟨hx, hb, hml, hown, hts⟩ (s_fillL l dC dI d13 w13 9 E13_12 (Nat.le_of_ble_eq_true rfl) 0 H_19.size) (va_cwS 2 hts (kG (List.forall_mem_cons.mpr ⟨(List.mem_cons_of_mem _ (List.mem_append_left _ (List.mem_of_getElem? (i := 7) rfl))), (List.forall_mem_cons.mpr ⟨(List.mem_cons_of_mem _ (List.mem_append_left _ (List.mem_of_getElem? (i := 6) rfl))), (List.forall_mem_cons.mpr ⟨(List.mem_cons_of_mem _ (List.mem_append_left _ (List.mem_of_getElem? (i := 5) rfl))), (fun _ h => absurd h List.not_mem_nil)⟩)⟩)⟩) (kGS _ _ _) (fun _ h => List.mem_cons_of_mem _ (List.mem_append_right _ (List.mem_append_right _ (List.mem_append_right _ (List.mem_append_left _ h))))) gw_s_fillL) rfl rfl rfl hd_J7_fill_d0a16 ⟨(Nat.le_of_ble_eq_true rfl), (Nat.le_of_ble_eq_true rfl)⟩) (kW_S kT_blind kT_give hPc hKc hDc) rfl rfl hl.1 rfl (lv_room (Nat.le_of_ble_eq_true rfl)) dX1_waysThatGo_9 ⟨(Nat.le_of_ble_eq_true rfl), (Nat.le_of_ble_eq_true rfl)⟩) hS (fun q _ h => hFc q h) hFc (fun g1_21 t H_22 locs ht hvm hw hB hz1 hk1 hS => ?_)
  have hPD : kPD dC dI A [(jC, .inr (1, [.ref hF, .ref jK, .ref d2, .ref d3, .ref d4, .ref d5, .ref d6, .ref d7, .ref d8, .ref d9, .ref d10, .ref d11, .ref d12, .ref d13, .ref ru, .long Dr_18, .int Pr_15, .int Mo_16, .int Ho_17])), (d2, .inl (w2, 10, .inl E2_1)), (d3, .inl (w3, 10, .inl E3_2)), (d4, .inl (w4, 10, .inl E4_3)), (d5, .inl (w5, 10, .inl E5_4)), (d6, .inl (w6, 10, .inl E6_5)), (d7, .inl (w7, 10, .inl E7_6)), (d8, .inl (w8, 10, .inl E8_7)), (d9, .inl (w9, 10, .inl E9_8)), (d10, .inl (w10, 4, .inl E10_9)), (d11, .inl (w11, 4, .inl E11_10)), (d12, .inl (w12, 4, .inl E12_11)), (d13, .inl (w13, 9, .inr (.inl g1_21))), (hF, .inr (2, [.ref f0, .ref f1, .ref f2, .ref f3, .ref f4, .int sn, .int (nI (ks)), .int (nI (kw))])), (f0, .inl (z0, 10, .inl g0)), (f1, .inl (z1, 10, .inl g1)), (f2, .inl (z2, 10, .inl g2)), (f3, .inl (z3, 10, .inl g3)), (f4, .inl (z4, 4, .inl g4)), (jK, .inr (5, [.ref k0, .ref k1])), (k0, .inl (cK, 8, .inl L0_13)), (k1, .inl (cO, 32, .inl L1_14))] H_22 := kJoinX hP hD [12] rfl hk1 hFc hB.1 ht hB.2.2 rfl [none, none, none, none, none, none, none, none, none, none, none, none, some 0, none, none, none, none, none, none, none, none, none] rfl rfl
  have hP := hPD.1
  have hD := hPD.2
  refine lv_aload_n hx hb dX1_waysThatGo_12 rfl (lv_at hl 0 rfl) ?_
  refine va_get (D := (dC, dI)) (ci := 1) (v := .ref d13) (C := RX1) (T := TX1) (N := 19) hx hb hts (fun _ h => List.mem_cons_of_mem _ (List.mem_append_right _ (List.mem_append_right _ (List.mem_append_left _ h)))) hown hK hP 0 rfl rfl 13 kc_l_13_19 (hts (.fieldLink RX1 45 "NotEnded$Course" "ways" "[J") (List.mem_cons_of_mem _ (List.mem_append_left _ (List.mem_of_getElem? (i := 4) rfl)))) (fun _ h9 => h9) rfl dX1_waysThatGo_13 ?_
  refine lv_iconst (v := 0) hx hb dX1_waysThatGo_16 kc_i_0 ?_
  refine lv_lconst (v := 1) hx hb dX1_waysThatGo_17 (by decide) ?_
  refine va_last hx hb hK hP hD hS 12 11 rfl rfl kc_in_0_9 dX1_waysThatGo_18 (fun H locs hP hD hS => ?_)
  obtain ⟨f_24, ef_24⟩ : ∃ gg9 : Nat → Int64, gg9 = vp_updL g1_21 (Int32.toNatClampNeg 0) 1 := ⟨_, rfl⟩
  have hPD : kPD dC dI A [(jC, .inr (1, [.ref hF, .ref jK, .ref d2, .ref d3, .ref d4, .ref d5, .ref d6, .ref d7, .ref d8, .ref d9, .ref d10, .ref d11, .ref d12, .ref d13, .ref ru, .long Dr_18, .int Pr_15, .int Mo_16, .int Ho_17])), (d2, .inl (w2, 10, .inl E2_1)), (d3, .inl (w3, 10, .inl E3_2)), (d4, .inl (w4, 10, .inl E4_3)), (d5, .inl (w5, 10, .inl E5_4)), (d6, .inl (w6, 10, .inl E6_5)), (d7, .inl (w7, 10, .inl E7_6)), (d8, .inl (w8, 10, .inl E8_7)), (d9, .inl (w9, 10, .inl E9_8)), (d10, .inl (w10, 4, .inl E10_9)), (d11, .inl (w11, 4, .inl E11_10)), (d12, .inl (w12, 4, .inl E12_11)), (d13, .inl (w13, 9, .inr (.inl f_24))), (hF, .inr (2, [.ref f0, .ref f1, .ref f2, .ref f3, .ref f4, .int sn, .int (nI (ks)), .int (nI (kw))])), (f0, .inl (z0, 10, .inl g0)), (f1, .inl (z1, 10, .inl g1)), (f2, .inl (z2, 10, .inl g2)), (f3, .inl (z3, 10, .inl g3)), (f4, .inl (z4, 4, .inl g4)), (jK, .inr (5, [.ref k0, .ref k1])), (k0, .inl (cK, 8, .inl L0_13)), (k1, .inl (cO, 32, .inl L1_14))] H := by rw [ef_24]; exact ⟨hP, hD⟩
  have hP := hPD.1
  have hD := hPD.2
  refine lv_iconst (v := 0) hx hb dX1_waysThatGo_19 kc_i_0 ?_
  refine lv_istore_n hx hb dX1_waysThatGo_20 rfl hl kc_l_2_4 (kTo [(2, .int 0), (0, .ref jC), (1, .int p0)]) (fun ls hl => ?_)
  refine lv_iconst (v := 0) hx hb dX1_waysThatGo_21 kc_i_0 ?_
  refine lv_istore_n hx hb dX1_waysThatGo_22 rfl hl kc_l_3_4 (kTo [(3, .int 0), (2, .int 0), (0, .ref jC), (1, .int p0)]) (fun ls hl => ?_)
  have lp_k_25 : ∀ (n9 : Nat) (i : Nat) (k : Nat) (le2 : Nat → Int32) (le3 : Nat → Int32) (le4 : Nat → Int32) (le5 : Nat → Int32) (le6 : Nat → Int32) (le7 : Nat → Int32) (le8 : Nat → Int32) (le9 : Nat → Int32) (le10 : Nat → Int32) (le11 : Nat → Int32) (le12 : Nat → Int32) (le13 : Nat → Int64) (ll0 : Nat → Int32) (ll1 : Nat → Int32) (ldr : Int64) (lpr : Int32) (lmo : Int32) (lho : Int32) (ivk_25_0 : i ≤ ks) (ivk_25_1 : k ≤ 8) (H : Heap) (locs : List Loc) (_ : va_P (dC, dI) vwCl [(jC, .inr (1, [.ref hF, .ref jK, .ref d2, .ref d3, .ref d4, .ref d5, .ref d6, .ref d7, .ref d8, .ref d9, .ref d10, .ref d11, .ref d12, .ref d13, .ref ru, .long ldr, .int lpr, .int lmo, .int lho])), (d2, .inl (w2, 10, .inl le2)), (d3, .inl (w3, 10, .inl le3)), (d4, .inl (w4, 10, .inl le4)), (d5, .inl (w5, 10, .inl le5)), (d6, .inl (w6, 10, .inl le6)), (d7, .inl (w7, 10, .inl le7)), (d8, .inl (w8, 10, .inl le8)), (d9, .inl (w9, 10, .inl le9)), (d10, .inl (w10, 4, .inl le10)), (d11, .inl (w11, 4, .inl le11)), (d12, .inl (w12, 4, .inl le12)), (d13, .inl (w13, 9, .inr (.inl le13))), (hF, .inr (2, [.ref f0, .ref f1, .ref f2, .ref f3, .ref f4, .int sn, .int (nI (ks)), .int (nI (kw))])), (f0, .inl (z0, 10, .inl g0)), (f1, .inl (z1, 10, .inl g1)), (f2, .inl (z2, 10, .inl g2)), (f3, .inl (z3, 10, .inl g3)), (f4, .inl (z4, 4, .inl g4)), (jK, .inr (5, [.ref k0, .ref k1])), (k0, .inl (cK, 8, .inl ll0)), (k1, .inl (cO, 32, .inl ll1))] H) (_ : va_D A [(jC, .inr (1, [.ref hF, .ref jK, .ref d2, .ref d3, .ref d4, .ref d5, .ref d6, .ref d7, .ref d8, .ref d9, .ref d10, .ref d11, .ref d12, .ref d13, .ref ru, .long ldr, .int lpr, .int lmo, .int lho])), (d2, .inl (w2, 10, .inl le2)), (d3, .inl (w3, 10, .inl le3)), (d4, .inl (w4, 10, .inl le4)), (d5, .inl (w5, 10, .inl le5)), (d6, .inl (w6, 10, .inl le6)), (d7, .inl (w7, 10, .inl le7)), (d8, .inl (w8, 10, .inl le8)), (d9, .inl (w9, 10, .inl le9)), (d10, .inl (w10, 4, .inl le10)), (d11, .inl (w11, 4, .inl le11)), (d12, .inl (w12, 4, .inl le12)), (d13, .inl (w13, 9, .inr (.inl le13))), (hF, .inr (2, [.ref f0, .ref f1, .ref f2, .ref f3, .ref f4, .int sn, .int (nI (ks)), .int (nI (kw))])), (f0, .inl (z0, 10, .inl g0)), (f1, .inl (z1, 10, .inl g1)), (f2, .inl (z2, 10, .inl g2)), (f3, .inl (z3, 10, .inl g3)), (f4, .inl (z4, 4, .inl g4)), (jK, .inr (5, [.ref k0, .ref k1])), (k0, .inl (cK, 8, .inl ll0)), (k1, .inl (cO, 32, .inl ll1))]) (_ : va_S A s.heap H locs) (ls : Array Slot) (_ : lv_has ls 4 [(3, .int (nI (i))), (2, .int (nI (k))), (0, .ref jC), (1, .int p0)]) (_ : ks - i < n9), W p l e (headSpec w_s_ways1 ({ frames := 6, cells := 0, slots := 0, locals := 360 })).room s m (#[.ref jC, .int p0] : Array Value) below meth c H locs 0 0 Q (F0 m 23 ls []) := by
    intro n9
    induction n9 with
    | zero => intro i k le2 le3 le4 le5 le6 le7 le8 le9 le10 le11 le12 le13 ll0 ll1 ldr lpr lmo lho ivk_25_0 ivk_25_1 H locs hP hD hS ls hl hm9; exact absurd hm9 (Nat.not_lt_zero _)
    | succ n9 ih_k_25 =>
      intro i k le2 le3 le4 le5 le6 le7 le8 le9 le10 le11 le12 le13 ll0 ll1 ldr lpr lmo lho ivk_25_0 ivk_25_1 H locs hP hD hS ls hl hm9
      refine lv_iload_n hx hb dX1_waysThatGo_23 rfl (lv_at hl 0 rfl) ?_
      refine lv_aload_n hx hb dX1_waysThatGo_24 rfl (lv_at hl 2 rfl) ?_
      refine va_get (D := (dC, dI)) (ci := 1) (v := .ref hF) (C := RX1) (T := TX1) (N := 19) hx hb hts (fun _ h => List.mem_cons_of_mem _ (List.mem_append_right _ (List.mem_append_right _ (List.mem_append_left _ h)))) hown hK hP 0 rfl rfl 0 kc_l_0_19 (hts (.fieldLink RX1 67 "NotEnded$Course" "folk" "LNotEnded$Folk;") (List.mem_cons_of_mem _ (List.mem_append_left _ (List.mem_of_getElem? (i := 8) rfl)))) (fun _ h9 => h9) rfl dX1_waysThatGo_25 ?_
      have hPc := hP.sb (ws2 := [(hF, .inr (2, [.ref f0, .ref f1, .ref f2, .ref f3, .ref f4, .int sn, .int (nI (ks)), .int (nI (kw))])), (f0, .inl (z0, 10, .inl g0)), (f1, .inl (z1, 10, .inl g1)), (f2, .inl (z2, 10, .inl g2)), (f3, .inl (z3, 10, .inl g3)), (f4, .inl (z4, 4, .inl g4))]) [13, 14, 15, 16, 17, 18] rfl
      have hKc := hK.sb (tys2 := [(z0, .int), (z1, .int), (z2, .int), (z3, .int), (z4, .int)]) [12, 13, 14, 15, 16] rfl
      refine vp_callSi (va_runV (As := []) (rest := [.int (nI (i))]) ⟨hx, hb, hml, hown, hts⟩ (s_size2 l dC dI hF f0 f1 f2 f3 f4 z0 z1 z2 z3 z4 g0 g1 g2 g3 g4 sn ks kw hks hkw) (cwV 0 hts (kG (List.forall_mem_cons.mpr ⟨(List.mem_cons_of_mem _ (List.mem_append_left _ (List.mem_of_getElem? (i := 12) rfl))), (List.forall_mem_cons.mpr ⟨(List.mem_cons_of_mem _ (List.mem_append_left _ (List.mem_of_getElem? (i := 11) rfl))), (List.forall_mem_cons.mpr ⟨(List.mem_cons_of_mem _ (List.mem_append_left _ (List.mem_of_getElem? (i := 10) rfl))), (List.forall_mem_cons.mpr ⟨(List.mem_cons_of_mem _ (List.mem_append_left _ (List.mem_of_getElem? (i := 9) rfl))), (fun _ h => absurd h List.not_mem_nil)⟩)⟩)⟩)⟩) (kGV _ _ _ _) (fun _ h => List.mem_cons_of_mem _ (List.mem_append_right _ (List.mem_append_right _ (List.mem_append_right _ (List.mem_append_right _ (List.mem_append_left _ h)))))) gw_s_size2) rfl rfl rfl ⟨rfl, hd_X2_size⟩ ⟨(Nat.le_of_ble_eq_true rfl), (Nat.le_of_ble_eq_true rfl)⟩) (kR_V kT_blind kT_give (va_recv hKc hPc (ci := 2) (q0 := 0) rfl rfl) hPc hKc) rfl rfl hl.1 rfl (lv_room (Nat.le_of_ble_eq_true rfl)) dX1_waysThatGo_28 ⟨(Nat.le_of_ble_eq_true rfl), (Nat.le_of_ble_eq_true rfl)⟩).run (fun r_26 hw => ?_)
      obtain rfl : r_26 = nI (ks) := hw
      refine lv_icmp_ge (tgt := 78) hx hb dX1_waysThatGo_31 kc_t_31_47 (fun c_27 => ?_) (fun c_27 => ?_)
      · have bd_29 : ks < 2147483648 := by omega
        have bd_30 : i < 2147483648 := by omega
        have hn_28 := kle (a := ks) (b := i) bd_29 bd_30 c_27
        refine lv_iload_n hx hb dX1_waysThatGo_78 rfl (lv_at hl 3 rfl) ?_
        refine lv_if_lt (tgt := 100) hx hb dX1_waysThatGo_79 kc_t_79_21 (fun c_31 => ?_) (fun c_31 => ?_)
        · refine lv_lconst (v := 0) hx hb dX1_waysThatGo_100 (by decide) ?_
          have hP9 := hP
          have hD9 := hD
          have hK9 := hK
          rw [hQ]
          exact W.lret (v := 0) hx hb hr (fun t ht hW => ⟨⟨0, (le2, le3, le4, le5, le6, le7, le8, le9, le10, le11, le12, le13, ll0, ll1, lpr, lmo, lho, ldr), rfl, trivial,  by rw [ht]; exact hP9, va_K.moved hW.alike hK9, hD9⟩, hS.F ht⟩) hS.2.2 dX1_waysThatGo_101
        · obtain ⟨j_32, hj_32, ej_32⟩ := nI_of c_31
          subst ej_32
          refine lv_iload_n hx hb dX1_waysThatGo_82 rfl (lv_at hl 3 rfl) ?_
          refine lv_aload_n hx hb dX1_waysThatGo_83 rfl (lv_at hl 2 rfl) ?_
          refine va_get (D := (dC, dI)) (ci := 1) (v := .ref d13) (C := RX1) (T := TX1) (N := 19) hx hb hts (fun _ h => List.mem_cons_of_mem _ (List.mem_append_right _ (List.mem_append_right _ (List.mem_append_left _ h)))) hown hK hP 0 rfl rfl 13 kc_l_13_19 (hts (.fieldLink RX1 45 "NotEnded$Course" "ways" "[J") (List.mem_cons_of_mem _ (List.mem_append_left _ (List.mem_of_getElem? (i := 4) rfl)))) (fun _ h9 => h9) rfl dX1_waysThatGo_84 ?_
          refine va_alen hx hb hK hP 12 11 rfl rfl (v := 9) rfl dX1_waysThatGo_87 ?_
          refine lv_icmp_ge (tgt := 100) hx hb dX1_waysThatGo_88 kc_t_88_12 (fun c_33 => ?_) (fun c_33 => ?_)
          · have bd_35 : j_32 < 2147483648 := by omega
            have hn_34 := kle (a := 9) (b := j_32) kc_31_9 bd_35 c_33
            refine lv_lconst (v := 0) hx hb dX1_waysThatGo_100 (by decide) ?_
            have hP9 := hP
            have hD9 := hD
            have hK9 := hK
            rw [hQ]
            exact W.lret (v := 0) hx hb hr (fun t ht hW => ⟨⟨0, (le2, le3, le4, le5, le6, le7, le8, le9, le10, le11, le12, le13, ll0, ll1, lpr, lmo, lho, ldr), rfl, trivial,  by rw [ht]; exact hP9, va_K.moved hW.alike hK9, hD9⟩, hS.F ht⟩) hS.2.2 dX1_waysThatGo_101
          · have bd_37 : j_32 < 2147483648 := by omega
            have hn_36 := knle (a := 9) (b := j_32) kc_31_9 bd_37 c_33
            refine lv_aload_n hx hb dX1_waysThatGo_91 rfl (lv_at hl 2 rfl) ?_
            refine va_get (D := (dC, dI)) (ci := 1) (v := .ref d13) (C := RX1) (T := TX1) (N := 19) hx hb hts (fun _ h => List.mem_cons_of_mem _ (List.mem_append_right _ (List.mem_append_right _ (List.mem_append_left _ h)))) hown hK hP 0 rfl rfl 13 kc_l_13_19 (hts (.fieldLink RX1 45 "NotEnded$Course" "ways" "[J") (List.mem_cons_of_mem _ (List.mem_append_left _ (List.mem_of_getElem? (i := 4) rfl)))) (fun _ h9 => h9) rfl dX1_waysThatGo_92 ?_
            refine lv_iload_n hx hb dX1_waysThatGo_95 rfl (lv_at hl 3 rfl) ?_
            have bd_38 : j_32 < 9 := by omega
            refine va_lald hx hb hK hP 12 11 rfl rfl (vp_in_nI (n := j_32) (N := 9) bd_38 kc_31_9) dX1_waysThatGo_96 ?_
            refine lv_topl (fun x_39 ex_39 => ?_)
            refine lv_goto (tgt := 101) hx hb dX1_waysThatGo_97 kc_t_97_4 ?_
            have hP9 := hP
            have hD9 := hD
            have hK9 := hK
            rw [hQ]
            exact W.lret (v := x_39) hx hb hr (fun t ht hW => ⟨⟨x_39, (le2, le3, le4, le5, le6, le7, le8, le9, le10, le11, le12, le13, ll0, ll1, lpr, lmo, lho, ldr), rfl, trivial,  by rw [ht]; exact hP9, va_K.moved hW.alike hK9, hD9⟩, hS.F ht⟩) hS.2.2 dX1_waysThatGo_101
      · have bd_41 : ks < 2147483648 := by omega
        have bd_42 : i < 2147483648 := by omega
        have hn_40 := knle (a := ks) (b := i) bd_41 bd_42 c_27
        refine lv_aload_n hx hb dX1_waysThatGo_34 rfl (lv_at hl 2 rfl) ?_
        refine lv_iload_n hx hb dX1_waysThatGo_35 rfl (lv_at hl 0 rfl) ?_
        have bd_43 : i < ks := by omega
        have hPc := hP.sb (ws2 := [(jC, .inr (1, [.ref hF, .ref jK, .ref d2, .ref d3, .ref d4, .ref d5, .ref d6, .ref d7, .ref d8, .ref d9, .ref d10, .ref d11, .ref d12, .ref d13, .ref ru, .long ldr, .int lpr, .int lmo, .int lho])), (d2, .inl (w2, 10, .inl le2)), (d3, .inl (w3, 10, .inl le3)), (d4, .inl (w4, 10, .inl le4)), (d5, .inl (w5, 10, .inl le5)), (d6, .inl (w6, 10, .inl le6)), (d7, .inl (w7, 10, .inl le7)), (d8, .inl (w8, 10, .inl le8)), (d9, .inl (w9, 10, .inl le9)), (d10, .inl (w10, 4, .inl le10)), (d11, .inl (w11, 4, .inl le11)), (d12, .inl (w12, 4, .inl le12)), (d13, .inl (w13, 9, .inr (.inl le13))), (hF, .inr (2, [.ref f0, .ref f1, .ref f2, .ref f3, .ref f4, .int sn, .int (nI (ks)), .int (nI (kw))])), (f0, .inl (z0, 10, .inl g0)), (f1, .inl (z1, 10, .inl g1)), (f2, .inl (z2, 10, .inl g2)), (f3, .inl (z3, 10, .inl g3)), (f4, .inl (z4, 4, .inl g4)), (jK, .inr (5, [.ref k0, .ref k1])), (k0, .inl (cK, 8, .inl ll0)), (k1, .inl (cO, 32, .inl ll1))]) [0, 1, 2, 3, 4, 5, 6, 7, 8, 9, 10, 11, 12, 13, 14, 15, 16, 17, 18, 19, 20, 21] rfl
        have hKc := hK.sb (tys2 := [(w2, .int), (w3, .int), (w4, .int), (w5, .int), (w6, .int), (w7, .int), (w8, .int), (w9, .int), (w10, .int), (w11, .int), (w12, .int), (w13, .long), (z0, .int), (z1, .int), (z2, .int), (z3, .int), (z4, .int), (cK, .int), (cO, .int), (cS, .int), (cc, .int)]) [0, 1, 2, 3, 4, 5, 6, 7, 8, 9, 10, 11, 12, 13, 14, 15, 16, 17, 18, 19, 20] rfl
        refine vp_callSi (va_runV (As := [.int (nI (i))]) (rest := []) ⟨hx, hb, hml, hown, hts⟩ (s_mayGo1 l dC dI jC d2 d3 d4 d5 d6 d7 d8 d9 d10 d11 d12 d13 w2 w3 w4 w5 w6 w7 w8 w9 w10 w11 w12 w13 le2 le3 le4 le5 le6 le7 le8 le9 le10 le11 le12 le13 ldr lpr lmo lho hF f0 f1 f2 f3 f4 z0 z1 z2 z3 z4 g0 g1 g2 g3 g4 sn ks kw hks hkw jK k0 k1 cK cO ll0 ll1 ru sA cl cS cc nS nC gS gC hnS hnC A i bd_43) (cwV 1 hts (kG (List.forall_mem_cons.mpr ⟨(List.mem_cons_of_mem _ (List.mem_append_left _ (List.mem_of_getElem? (i := 15) rfl))), (List.forall_mem_cons.mpr ⟨(List.mem_cons_of_mem _ (List.mem_append_left _ (List.mem_of_getElem? (i := 14) rfl))), (List.forall_mem_cons.mpr ⟨(List.mem_cons_of_mem _ (List.mem_append_left _ (List.mem_of_getElem? (i := 13) rfl))), (List.forall_mem_cons.mpr ⟨(List.mem_cons_of_mem _ (List.mem_append_left _ (List.mem_of_getElem? (i := 0) rfl))), (fun _ h => absurd h List.not_mem_nil)⟩)⟩)⟩)⟩) (kGV _ _ _ _) (fun _ h => List.mem_cons_of_mem _ (List.mem_append_right _ (List.mem_append_right _ (List.mem_append_right _ (List.mem_append_right _ (List.mem_append_right _ (List.mem_append_left _ h))))))) gw_s_mayGo1) rfl rfl rfl ⟨rfl, hd_X1_mayGo⟩ ⟨(Nat.le_of_ble_eq_true rfl), (Nat.le_of_ble_eq_true rfl)⟩) (kR_V kNF_blind (kNF_give hX hS (fun _ h => h)) (va_recv hKc hPc (ci := 1) (q0 := 0) rfl rfl) hPc hKc) rfl rfl hl.1 rfl (lv_room (Nat.le_of_ble_eq_true rfl)) dX1_waysThatGo_36 ⟨(Nat.le_of_ble_eq_true rfl), (Nat.le_of_ble_eq_true rfl)⟩).run (fun r_44 hw => ?_)
        have hw_45 := hw
        refine lv_if_eq (tgt := 72) hx hb dX1_waysThatGo_39 kc_t_39_33 (fun c_46 => ?_) (fun c_46 => ?_)
        · refine lv_iinc (v := nI (i + 1)) hx hb dX1_waysThatGo_72 hl (k := 0) rfl (kInc _ 1) kc_l_3_4 (kTo [(3, .int (nI (i + 1))), (2, .int (nI (k))), (0, .ref jC), (1, .int p0)]) (fun ls hl => ?_)
          refine lv_goto (tgt := 23) hx hb dX1_waysThatGo_75 kc_t_75_m52 ?_
          exact ih_k_25 (i + 1) k le2 le3 le4 le5 le6 le7 le8 le9 le10 le11 le12 le13 ll0 ll1 ldr lpr lmo lho (by omega) (by omega) _ _ hP hD hS ls (lv_sub hl [0, 1, 2, 3] rfl) (by omega)
        · refine lv_iload_n hx hb dX1_waysThatGo_42 rfl (lv_at hl 1 rfl) ?_
          refine lv_bipush (v := 8) hx hb dX1_waysThatGo_43 kc_b_8 ?_
          refine lv_icmp_lt (tgt := 52) hx hb dX1_waysThatGo_45 kc_t_45_7 (fun c_47 => ?_) (fun c_47 => ?_)
          · have bd_49 : k < 2147483648 := by omega
            have hn_48 := klt (a := k) (b := 8) bd_49 kc_31_8 c_47
            refine lv_iinc (v := nI (k + 1)) hx hb dX1_waysThatGo_52 hl (k := 1) rfl (kInc _ 1) kc_l_2_4 (kTo [(2, .int (nI (k + 1))), (3, .int (nI (i))), (0, .ref jC), (1, .int p0)]) (fun ls hl => ?_)
            refine lv_aload_n hx hb dX1_waysThatGo_55 rfl (lv_at hl 2 rfl) ?_
            refine lv_iload_n hx hb dX1_waysThatGo_56 rfl (lv_at hl 0 rfl) ?_
            refine lv_aload_n hx hb dX1_waysThatGo_57 rfl (lv_at hl 2 rfl) ?_
            refine va_get (D := (dC, dI)) (ci := 1) (v := .ref d8) (C := RX1) (T := TX1) (N := 19) hx hb hts (fun _ h => List.mem_cons_of_mem _ (List.mem_append_right _ (List.mem_append_right _ (List.mem_append_left _ h)))) hown hK hP 0 rfl rfl 8 kc_l_8_19 (hts (.fieldLink RX1 30 "NotEnded$Course" "goes" "[I") (List.mem_cons_of_mem _ (List.mem_append_left _ (List.mem_of_getElem? (i := 16) rfl)))) (fun _ h9 => h9) rfl dX1_waysThatGo_58 ?_
            refine lv_iload_n hx hb dX1_waysThatGo_61 rfl (lv_at hl 1 rfl) ?_
            have bd_50 : i < 10 := by omega
            refine va_iald hx hb hK hP 7 6 rfl rfl (vp_in_nI (n := i) (N := 10) bd_50 kc_31_10) dX1_waysThatGo_62 ?_
            refine lv_topi (fun x_51 ex_51 => ?_)
            refine lv_iconst (v := 0) hx hb dX1_waysThatGo_63 kc_i_0 ?_
            refine lv_bipush (v := 100) hx hb dX1_waysThatGo_64 kc_b_100 ?_
            have hPc := hP.sb (ws2 := []) [] rfl
            have hKc := hK.sb (tys2 := []) [] rfl
            refine vp_callSi (va_runSN (As := [.int x_51, .int 0, .int 100]) (rest := [.int (nI (k + 1)), .ref jC]) ⟨hx, hb, hml, hown, hts⟩ (s_within9 l dC dI x_51 0 100) (⟨va_cnB 3 hts (goodIn_sub (fun _ h => List.mem_cons_of_mem _ (List.mem_append_right _ (List.mem_append_right _ (List.mem_append_right _ (List.mem_append_right _ (List.mem_append_right _ (List.mem_append_right _ (List.mem_append_left _ h)))))))) gw_s_within9) rfl rfl rfl (hX.2 _ (List.mem_of_getElem? (i := 15) rfl)) (hts (.initialized RX9) (List.mem_cons_of_mem _ (List.mem_append_left _ (List.mem_of_getElem? (i := 17) rfl)))) hd_X9_within ⟨(Nat.le_of_ble_eq_true rfl), (Nat.le_of_ble_eq_true rfl)⟩, (hts (.static yX9_within) (List.mem_cons_of_mem _ (List.mem_append_left _ (List.mem_of_getElem? (i := 18) rfl)))), trivial⟩) (kR_S kT_blind kT_give hPc hKc) rfl rfl hl.1 rfl (lv_room (Nat.le_of_ble_eq_true rfl)) dX1_waysThatGo_66 ⟨(Nat.le_of_ble_eq_true rfl), (Nat.le_of_ble_eq_true rfl)⟩).run (fun r_52 hw => ?_)
            have bd_53 : (k + 1) ≤ 20 := by omega
            have hCu := kCut (wc := [(jC, .inr (1, [.ref hF, .ref jK, .ref d2, .ref d3, .ref d4, .ref d5, .ref d6, .ref d7, .ref d8, .ref d9, .ref d10, .ref d11, .ref d12, .ref d13, .ref ru, .long ldr, .int lpr, .int lmo, .int lho])), (d2, .inl (w2, 10, .inl le2)), (d3, .inl (w3, 10, .inl le3)), (d4, .inl (w4, 10, .inl le4)), (d5, .inl (w5, 10, .inl le5)), (d6, .inl (w6, 10, .inl le6)), (d7, .inl (w7, 10, .inl le7)), (d8, .inl (w8, 10, .inl le8)), (d9, .inl (w9, 10, .inl le9)), (d10, .inl (w10, 4, .inl le10)), (d11, .inl (w11, 4, .inl le11)), (d12, .inl (w12, 4, .inl le12)), (d13, .inl (w13, 9, .inr (.inl le13))), (hF, .inr (2, [.ref f0, .ref f1, .ref f2, .ref f3, .ref f4, .int sn, .int (nI (ks)), .int (nI (kw))])), (f0, .inl (z0, 10, .inl g0)), (f1, .inl (z1, 10, .inl g1)), (f2, .inl (z2, 10, .inl g2)), (f3, .inl (z3, 10, .inl g3)), (f4, .inl (z4, 4, .inl g4)), (jK, .inr (5, [.ref k0, .ref k1])), (k0, .inl (cK, 8, .inl ll0)), (k1, .inl (cO, 32, .inl ll1))]) hP hD hS hA [0, 1, 2, 3, 4, 5, 6, 7, 8, 9, 10, 11, 12, 13, 14, 15, 16, 17, 18, 19, 20, 21] rfl kc_nd_203 rfl
            have hPc := hCu.1
            have hDc := hCu.2.1
            have hFc := hCu.2.2
            have hKc := hK.sb (tys2 := [(w2, .int), (w3, .int), (w4, .int), (w5, .int), (w6, .int), (w7, .int), (w8, .int), (w9, .int), (w10, .int), (w11, .int), (w12, .int), (w13, .long), (z0, .int), (z1, .int), (z2, .int), (z3, .int), (z4, .int), (cK, .int), (cO, .int), (cS, .int), (cc, .int)]) [0, 1, 2, 3, 4, 5, 6, 7, 8, 9, 10, 11, 12, 13, 14, 15, 16, 17, 18, 19, 20] rfl
            refine va_callv (va_runV (As := [.int (nI (k + 1)), .int r_52]) (rest := []) ⟨hx, hb, hml, hown, hts⟩ (s_addOne1 l dC dI jC d2 d3 d4 d5 d6 d7 d8 d9 d10 d11 d12 d13 w2 w3 w4 w5 w6 w7 w8 w9 w10 w11 w12 w13 le2 le3 le4 le5 le6 le7 le8 le9 le10 le11 le12 le13 ldr lpr lmo lho hF f0 f1 f2 f3 f4 z0 z1 z2 z3 z4 g0 g1 g2 g3 g4 sn ks kw hks hkw jK k0 k1 cK cO ll0 ll1 ru sA cl cS cc nS nC gS gC hnS hnC (k + 1) bd_53 r_52 H.size) (cwV 2 hts (kG (List.forall_mem_cons.mpr ⟨(List.mem_cons_of_mem _ (List.mem_append_left _ (List.mem_of_getElem? (i := 21) rfl))), (List.forall_mem_cons.mpr ⟨(List.mem_cons_of_mem _ (List.mem_append_left _ (List.mem_of_getElem? (i := 20) rfl))), (List.forall_mem_cons.mpr ⟨(List.mem_cons_of_mem _ (List.mem_append_left _ (List.mem_of_getElem? (i := 19) rfl))), (List.forall_mem_cons.mpr ⟨(List.mem_cons_of_mem _ (List.mem_append_left _ (List.mem_of_getElem? (i := 0) rfl))), (fun _ h => absurd h List.not_mem_nil)⟩)⟩)⟩)⟩) (kGV _ _ _ _) (fun _ h => List.mem_cons_of_mem _ (List.mem_append_right _ (List.mem_append_right _ (List.mem_append_right _ (List.mem_append_right _ (List.mem_append_right _ (List.mem_append_right _ (List.mem_append_right _ h)))))))) gw_s_addOne1) rfl rfl rfl ⟨rfl, hd_X1_addOneWhoMay⟩ ⟨(Nat.le_of_ble_eq_true rfl), (Nat.le_of_ble_eq_true rfl)⟩) (kW_V kNF_blind (kNF_give hX hS hFc) (va_recv hKc hPc (ci := 1) (q0 := 0) rfl rfl) hPc hKc hDc) rfl rfl hl.1 rfl (lv_room (Nat.le_of_ble_eq_true rfl)) dX1_waysThatGo_69 ⟨(Nat.le_of_ble_eq_true rfl), (Nat.le_of_ble_eq_true rfl)⟩) hS (fun q _ h => hFc q h) hFc (kU18 (fun E2_54 E3_55 E4_56 E5_57 E6_58 E7_59 E8_60 E9_61 E10_62 E11_63 E12_64 E13_65 L0_66 L1_67 Pr_68 Mo_69 Ho_70 Dr_71 t H_72 locs ht hvm hw hB hz1 hk1 hS => ?_))
            have hPD : kPD dC dI A [(jC, .inr (1, [.ref hF, .ref jK, .ref d2, .ref d3, .ref d4, .ref d5, .ref d6, .ref d7, .ref d8, .ref d9, .ref d10, .ref d11, .ref d12, .ref d13, .ref ru, .long Dr_71, .int Pr_68, .int Mo_69, .int Ho_70])), (d2, .inl (w2, 10, .inl E2_54)), (d3, .inl (w3, 10, .inl E3_55)), (d4, .inl (w4, 10, .inl E4_56)), (d5, .inl (w5, 10, .inl E5_57)), (d6, .inl (w6, 10, .inl E6_58)), (d7, .inl (w7, 10, .inl E7_59)), (d8, .inl (w8, 10, .inl E8_60)), (d9, .inl (w9, 10, .inl E9_61)), (d10, .inl (w10, 4, .inl E10_62)), (d11, .inl (w11, 4, .inl E11_63)), (d12, .inl (w12, 4, .inl E12_64)), (d13, .inl (w13, 9, .inr (.inl E13_65))), (hF, .inr (2, [.ref f0, .ref f1, .ref f2, .ref f3, .ref f4, .int sn, .int (nI (ks)), .int (nI (kw))])), (f0, .inl (z0, 10, .inl g0)), (f1, .inl (z1, 10, .inl g1)), (f2, .inl (z2, 10, .inl g2)), (f3, .inl (z3, 10, .inl g3)), (f4, .inl (z4, 4, .inl g4)), (jK, .inr (5, [.ref k0, .ref k1])), (k0, .inl (cK, 8, .inl L0_66)), (k1, .inl (cO, 32, .inl L1_67))] H_72 := kJoinX hP hD [0, 1, 2, 3, 4, 5, 6, 7, 8, 9, 10, 11, 12, 13, 14, 15, 16, 17, 18, 19, 20, 21] rfl hk1 hFc hB.1 ht hB.2.2 rfl [some 0, some 1, some 2, some 3, some 4, some 5, some 6, some 7, some 8, some 9, some 10, some 11, some 12, some 13, some 14, some 15, some 16, some 17, some 18, some 19, some 20, some 21] rfl rfl
            have hP := hPD.1
            have hD := hPD.2
            refine lv_iinc (v := nI (i + 1)) hx hb dX1_waysThatGo_72 hl (k := 1) rfl (kInc _ 1) kc_l_3_4 (kTo [(3, .int (nI (i + 1))), (2, .int (nI (k + 1))), (0, .ref jC), (1, .int p0)]) (fun ls hl => ?_)
            refine lv_goto (tgt := 23) hx hb dX1_waysThatGo_75 kc_t_75_m52 ?_
            exact ih_k_25 (i + 1) (k + 1) E2_54 E3_55 E4_56 E5_57 E6_58 E7_59 E8_60 E9_61 E10_62 E11_63 E12_64 E13_65 L0_66 L1_67 Dr_71 Pr_68 Mo_69 Ho_70 (by omega) (by omega) _ _ hP hD hS ls (lv_sub hl [0, 1, 2, 3] rfl) (by omega)
          · have bd_75 : k < 2147483648 := by omega
            have hn_74 := knlt (a := k) (b := 8) bd_75 kc_31_8 c_47
            refine lv_ldc2 (v := (-1)) hx hb hown (hts (.constantLong RX1 145 (-1)) (List.mem_cons_of_mem _ (List.mem_append_left _ (List.mem_of_getElem? (i := 22) rfl)))) dX1_waysThatGo_48 ?_
            have hP9 := hP
            have hD9 := hD
            have hK9 := hK
            rw [hQ]
            exact W.lret (v := (-1)) hx hb hr (fun t ht hW => ⟨⟨(-1), (le2, le3, le4, le5, le6, le7, le8, le9, le10, le11, le12, le13, ll0, ll1, lpr, lmo, lho, ldr), rfl, trivial,  by rw [ht]; exact hP9, va_K.moved hW.alike hK9, hD9⟩, hS.F ht⟩) hS.2.2 dX1_waysThatGo_51
  exact lp_k_25 (ks - 0 + 1) 0 0 E2_1 E3_2 E4_3 E5_4 E6_5 E7_6 E8_7 E9_8 E10_9 E11_10 E12_11 f_24 L0_13 L1_14 Dr_18 Pr_15 Mo_16 Ho_17 (by omega) (by omega) _ _ hP hD hS ls (lv_sub hl [0, 1, 2, 3] rfl) (by omega)

theorem dX1_begin_0 : decode cX1_begin 0 = .ok (.aload_n 0, 1) := kDs0 kf_42 (by decide +kernel)
theorem dX1_begin_1 : decode cX1_begin 1 = .ok (.aload_n 1, 1) := kDs0 kf_43 (by decide +kernel)
theorem dX1_begin_2 : decode cX1_begin 2 = .ok (.putfield 49, 3) := kDs2 kf_181 (by decide +kernel)
theorem dX1_begin_5 : decode cX1_begin 5 = .ok (.aload_n 0, 1) := kDs0 kf_42 (by decide +kernel)
theorem dX1_begin_6 : decode cX1_begin 6 = .ok (.lload_n 2, 1) := kDs0 kf_32 (by decide +kernel)
theorem dX1_begin_7 : decode cX1_begin 7 = .ok (.putfield 53, 3) := kDs2 kf_181 (by decide +kernel)
theorem dX1_begin_10 : decode cX1_begin 10 = .ok (.aload_n 0, 1) := kDs0 kf_42 (by decide +kernel)
theorem dX1_begin_11 : decode cX1_begin 11 = .ok (.aload_n 0, 1) := kDs0 kf_42 (by decide +kernel)
theorem dX1_begin_12 : decode cX1_begin 12 = .ok (.getfield 67, 3) := kDs2 kf_180 (by decide +kernel)
theorem dX1_begin_15 : decode cX1_begin 15 = .ok (.invokevirtual 75, 3) := kDs2 kf_182 (by decide +kernel)
theorem dX1_begin_18 : decode cX1_begin 18 = .ok (.iload 4, 2) := kDs1 kf_21 (by decide +kernel)
theorem dX1_begin_20 : decode cX1_begin 20 = .ok (.iconst (-1), 1) := kDs0 kf_2 (by decide +kernel)
theorem dX1_begin_21 : decode cX1_begin 21 = .ok (.ixor, 1) := kDs0 kf_130 (by decide +kernel)
theorem dX1_begin_22 : decode cX1_begin 22 = .ok (.iand, 1) := kDs0 kf_126 (by decide +kernel)
theorem dX1_begin_23 : decode cX1_begin 23 = .ok (.putfield 57, 3) := kDs2 kf_181 (by decide +kernel)
theorem dX1_begin_26 : decode cX1_begin 26 = .ok (.aload_n 0, 1) := kDs0 kf_42 (by decide +kernel)
theorem dX1_begin_27 : decode cX1_begin 27 = .ok (.aload_n 0, 1) := kDs0 kf_42 (by decide +kernel)
theorem dX1_begin_28 : decode cX1_begin 28 = .ok (.getfield 57, 3) := kDs2 kf_180 (by decide +kernel)
theorem dX1_begin_31 : decode cX1_begin 31 = .ok (.aload_n 0, 1) := kDs0 kf_42 (by decide +kernel)
theorem dX1_begin_32 : decode cX1_begin 32 = .ok (.getfield 67, 3) := kDs2 kf_180 (by decide +kernel)
theorem dX1_begin_35 : decode cX1_begin 35 = .ok (.invokevirtual 81, 3) := kDs2 kf_182 (by decide +kernel)
theorem dX1_begin_38 : decode cX1_begin 38 = .ok (.iconst (-1), 1) := kDs0 kf_2 (by decide +kernel)
theorem dX1_begin_39 : decode cX1_begin 39 = .ok (.ixor, 1) := kDs0 kf_130 (by decide +kernel)
theorem dX1_begin_40 : decode cX1_begin 40 = .ok (.iand, 1) := kDs0 kf_126 (by decide +kernel)
theorem dX1_begin_41 : decode cX1_begin 41 = .ok (.putfield 61, 3) := kDs2 kf_181 (by decide +kernel)
theorem dX1_begin_44 : decode cX1_begin 44 = .ok (.aload_n 0, 1) := kDs0 kf_42 (by decide +kernel)
theorem dX1_begin_45 : decode cX1_begin 45 = .ok (.iconst 0, 1) := kDs0 kf_3 (by decide +kernel)
theorem dX1_begin_46 : decode cX1_begin 46 = .ok (.putfield 64, 3) := kDs2 kf_181 (by decide +kernel)
theorem dX1_begin_49 : decode cX1_begin 49 = .ok (.iconst 0, 1) := kDs0 kf_3 (by decide +kernel)
theorem dX1_begin_50 : decode cX1_begin 50 = .ok (.istore 5, 2) := kDs1 kf_54 (by decide +kernel)
theorem dX1_begin_52 : decode cX1_begin 52 = .ok (.iload 5, 2) := kDs1 kf_21 (by decide +kernel)
theorem dX1_begin_54 : decode cX1_begin 54 = .ok (.aload_n 0, 1) := kDs0 kf_42 (by decide +kernel)
theorem dX1_begin_55 : decode cX1_begin 55 = .ok (.getfield 67, 3) := kDs2 kf_180 (by decide +kernel)
theorem dX1_begin_58 : decode cX1_begin 58 = .ok (.invokevirtual 84, 3) := kDs2 kf_182 (by decide +kernel)
theorem dX1_begin_61 : decode cX1_begin 61 = .ok (.if_icmp .ge 68, 3) := kDs4 kf_162 (by decide +kernel)
theorem dX1_begin_129 : decode cX1_begin 129 = .ok (.return_, 1) := kDs0 kf_177 (by decide +kernel)
theorem dX1_begin_64 : decode cX1_begin 64 = .ok (.aload_n 0, 1) := kDs0 kf_42 (by decide +kernel)
theorem dX1_begin_65 : decode cX1_begin 65 = .ok (.getfield 9, 3) := kDs2 kf_180 (by decide +kernel)
theorem dX1_begin_68 : decode cX1_begin 68 = .ok (.iload 5, 2) := kDs1 kf_21 (by decide +kernel)
theorem dX1_begin_70 : decode cX1_begin 70 = .ok (.aload_n 0, 1) := kDs0 kf_42 (by decide +kernel)
theorem dX1_begin_71 : decode cX1_begin 71 = .ok (.getfield 67, 3) := kDs2 kf_180 (by decide +kernel)
theorem dX1_begin_74 : decode cX1_begin 74 = .ok (.getfield 87, 3) := kDs2 kf_180 (by decide +kernel)
theorem dX1_begin_77 : decode cX1_begin 77 = .ok (.iload 5, 2) := kDs1 kf_21 (by decide +kernel)
theorem dX1_begin_79 : decode cX1_begin 79 = .ok (.iaload, 1) := kDs0 kf_46 (by decide +kernel)
theorem dX1_begin_80 : decode cX1_begin 80 = .ok (.iastore, 1) := kDs0 kf_79 (by decide +kernel)
theorem dX1_begin_81 : decode cX1_begin 81 = .ok (.aload_n 0, 1) := kDs0 kf_42 (by decide +kernel)
theorem dX1_begin_82 : decode cX1_begin 82 = .ok (.getfield 15, 3) := kDs2 kf_180 (by decide +kernel)
theorem dX1_begin_85 : decode cX1_begin 85 = .ok (.iload 5, 2) := kDs1 kf_21 (by decide +kernel)
theorem dX1_begin_87 : decode cX1_begin 87 = .ok (.aload_n 0, 1) := kDs0 kf_42 (by decide +kernel)
theorem dX1_begin_88 : decode cX1_begin 88 = .ok (.getfield 67, 3) := kDs2 kf_180 (by decide +kernel)
theorem dX1_begin_91 : decode cX1_begin 91 = .ok (.getfield 90, 3) := kDs2 kf_180 (by decide +kernel)
theorem dX1_begin_94 : decode cX1_begin 94 = .ok (.iload 5, 2) := kDs1 kf_21 (by decide +kernel)
theorem dX1_begin_96 : decode cX1_begin 96 = .ok (.iaload, 1) := kDs0 kf_46 (by decide +kernel)
theorem dX1_begin_97 : decode cX1_begin 97 = .ok (.iastore, 1) := kDs0 kf_79 (by decide +kernel)
theorem dX1_begin_98 : decode cX1_begin 98 = .ok (.aload_n 0, 1) := kDs0 kf_42 (by decide +kernel)
theorem dX1_begin_99 : decode cX1_begin 99 = .ok (.getfield 18, 3) := kDs2 kf_180 (by decide +kernel)
theorem dX1_begin_102 : decode cX1_begin 102 = .ok (.iload 5, 2) := kDs1 kf_21 (by decide +kernel)
theorem dX1_begin_104 : decode cX1_begin 104 = .ok (.aload_n 0, 1) := kDs0 kf_42 (by decide +kernel)
theorem dX1_begin_105 : decode cX1_begin 105 = .ok (.getfield 67, 3) := kDs2 kf_180 (by decide +kernel)
theorem dX1_begin_108 : decode cX1_begin 108 = .ok (.getfield 91, 3) := kDs2 kf_180 (by decide +kernel)
theorem dX1_begin_111 : decode cX1_begin 111 = .ok (.iload 5, 2) := kDs1 kf_21 (by decide +kernel)
theorem dX1_begin_113 : decode cX1_begin 113 = .ok (.iaload, 1) := kDs0 kf_46 (by decide +kernel)
theorem dX1_begin_114 : decode cX1_begin 114 = .ok (.iastore, 1) := kDs0 kf_79 (by decide +kernel)
theorem dX1_begin_115 : decode cX1_begin 115 = .ok (.aload_n 0, 1) := kDs0 kf_42 (by decide +kernel)
theorem dX1_begin_116 : decode cX1_begin 116 = .ok (.getfield 21, 3) := kDs2 kf_180 (by decide +kernel)
theorem dX1_begin_119 : decode cX1_begin 119 = .ok (.iload 5, 2) := kDs1 kf_21 (by decide +kernel)
theorem dX1_begin_121 : decode cX1_begin 121 = .ok (.iconst (-1), 1) := kDs0 kf_2 (by decide +kernel)
theorem dX1_begin_122 : decode cX1_begin 122 = .ok (.iastore, 1) := kDs0 kf_79 (by decide +kernel)
theorem dX1_begin_123 : decode cX1_begin 123 = .ok (.iinc 5 1, 3) := kDs5 kf_132 (by decide +kernel)
theorem dX1_begin_126 : decode cX1_begin 126 = .ok (.goto (-74), 3) := kDs4 kf_167 (by decide +kernel)
def w_s_begin1 : List Cond := .code yX1_begin cX1_begin 6 none :: ([.fieldLink RX1 49 "NotEnded$Course" "law" "LNotEnded$Rule;", .fieldLink RX1 53 "NotEnded$Course" "drawn" "J", .fieldLink RX1 67 "NotEnded$Course" "folk" "LNotEnded$Folk;", .initialized RX2, .selects RX2 yX2_everybody yX2_everybody, .instanceMethod yX2_everybody, .methodLink RX1 75 yX2_everybody, .fieldLink RX1 57 "NotEnded$Course" "present" "I", .selects RX2 yX2_sentOnes yX2_sentOnes, .instanceMethod yX2_sentOnes, .methodLink RX1 81 yX2_sentOnes, .fieldLink RX1 61 "NotEnded$Course" "moved" "I", .fieldLink RX1 64 "NotEnded$Course" "hour" "I", .selects RX2 yX2_size yX2_size, .instanceMethod yX2_size, .methodLink RX1 84 yX2_size, .fieldLink RX1 9 "NotEnded$Course" "held" "[I", .fieldLink RX1 15 "NotEnded$Course" "putIn" "[I", .fieldLink RX1 18 "NotEnded$Course" "places" "[I", .fieldLink RX1 21 "NotEnded$Course" "tellsSince" "[I"] ++ (wsX10 ++ (w_s_every2 ++ (w_s_sent2 ++ (w_s_size2 ++ (wsX20))))))
theorem gw_s_begin1 : (w_s_begin1).all goodWord = true := kGc rfl (kGa (by decide +kernel) (kGa gw_wsX10 (kGa gw_s_every2 (kGa gw_s_sent2 (kGa gw_s_size2 gw_wsX20)))))
theorem hd_X1_begin : yX1_begin.cls ≠ "java/lang/invoke/MethodHandle" ∧ yX1_begin.cls ≠ "java/lang/invoke/VarHandle" ∧ (parseMethodDescriptor yX1_begin.desc).map (fun d => d.parameters.length) = some 3 := by decide +kernel
set_option maxHeartbeats 4000000 in
set_option maxRecDepth 100000 in
theorem s_begin1 (l : Launch) (dC : Nat → ClassId) (dI : Nat → Nat → Nat) (jC : Nat) (d2 : Nat) (d3 : Nat) (d4 : Nat) (d5 : Nat) (d6 : Nat) (d7 : Nat) (d8 : Nat) (d9 : Nat) (d10 : Nat) (d11 : Nat) (d12 : Nat) (d13 : Nat) (w2 : ClassId) (w3 : ClassId) (w4 : ClassId) (w5 : ClassId) (w6 : ClassId) (w7 : ClassId) (w8 : ClassId) (w9 : ClassId) (w10 : ClassId) (w11 : ClassId) (w12 : ClassId) (w13 : ClassId) (e2 : Nat → Int32) (e3 : Nat → Int32) (e4 : Nat → Int32) (e5 : Nat → Int32) (e6 : Nat → Int32) (e7 : Nat → Int32) (e8 : Nat → Int32) (e9 : Nat → Int32) (e10 : Nat → Int32) (e11 : Nat → Int32) (e12 : Nat → Int32) (e13 : Nat → Int64) (dr : Int64) (pr : Int32) (mo : Int32) (ho : Int32) (hF : Nat) (f0 : Nat) (f1 : Nat) (f2 : Nat) (f3 : Nat) (f4 : Nat) (z0 : ClassId) (z1 : ClassId) (z2 : ClassId) (z3 : ClassId) (z4 : ClassId) (g0 : Nat → Int32) (g1 : Nat → Int32) (g2 : Nat → Int32) (g3 : Nat → Int32) (g4 : Nat → Int32) (sn : Int32) (ks : Nat) (kw : Nat) (hks : ks ≤ 10) (hkw : kw ≤ 4) (jK : Nat) (k0 : Nat) (k1 : Nat) (cK : ClassId) (cO : ClassId) (l0 : Nat → Int32) (l1 : Nat → Int32) (ru : Nat) (sA : Nat) (cl : Nat) (cS : ClassId) (cc : ClassId) (nS : Nat) (nC : Nat) (gS : Nat → Int32) (gC : Nat → Int32) (hnS : nS ≤ 200) (hnC : nC ≤ 200) (lw : Value) (p1 : Int64) (p2 : Int32) (sz : Nat) : Met l yX1_begin w_s_begin1 ({ frames := 3, cells := 0, slots := 0, locals := 180 }) (kW dC dI [.ref jC, .ref ru, .long p1, .int p2] [(jC, .inr (1, [.ref hF, .ref jK, .ref d2, .ref d3, .ref d4, .ref d5, .ref d6, .ref d7, .ref d8, .ref d9, .ref d10, .ref d11, .ref d12, .ref d13, lw, .long dr, .int pr, .int mo, .int ho])), (d2, .inl (w2, 10, .inl e2)), (d3, .inl (w3, 10, .inl e3)), (d4, .inl (w4, 10, .inl e4)), (d5, .inl (w5, 10, .inl e5)), (d6, .inl (w6, 10, .inl e6)), (d7, .inl (w7, 10, .inl e7)), (d8, .inl (w8, 10, .inl e8)), (d9, .inl (w9, 10, .inl e9)), (d10, .inl (w10, 4, .inl e10)), (d11, .inl (w11, 4, .inl e11)), (d12, .inl (w12, 4, .inl e12)), (d13, .inl (w13, 9, .inr (.inl e13))), (hF, .inr (2, [.ref f0, .ref f1, .ref f2, .ref f3, .ref f4, .int sn, .int (nI (ks)), .int (nI (kw))])), (f0, .inl (z0, 10, .inl g0)), (f1, .inl (z1, 10, .inl g1)), (f2, .inl (z2, 10, .inl g2)), (f3, .inl (z3, 10, .inl g3)), (f4, .inl (z4, 4, .inl g4)), (jK, .inr (5, [.ref k0, .ref k1])), (k0, .inl (cK, 8, .inl l0)), (k1, .inl (cO, 32, .inl l1))] [(w2, .int), (w3, .int), (w4, .int), (w5, .int), (w6, .int), (w7, .int), (w8, .int), (w9, .int), (w10, .int), (w11, .int), (w12, .int), (w13, .long), (z0, .int), (z1, .int), (z2, .int), (z3, .int), (z4, .int), (cK, .int), (cO, .int), (cS, .int), (cc, .int)] (kNF dC dI [(ru, .inr (6, [.ref sA, .ref cl])), (sA, .inl (cS, nS, .inl gS)), (cl, .inl (cc, nC, .inl gC))] (va_A [(jC, .inr (1, [.ref hF, .ref jK, .ref d2, .ref d3, .ref d4, .ref d5, .ref d6, .ref d7, .ref d8, .ref d9, .ref d10, .ref d11, .ref d12, .ref d13, lw, .long dr, .int pr, .int mo, .int ho])), (d2, .inl (w2, 10, .inl e2)), (d3, .inl (w3, 10, .inl e3)), (d4, .inl (w4, 10, .inl e4)), (d5, .inl (w5, 10, .inl e5)), (d6, .inl (w6, 10, .inl e6)), (d7, .inl (w7, 10, .inl e7)), (d8, .inl (w8, 10, .inl e8)), (d9, .inl (w9, 10, .inl e9)), (d10, .inl (w10, 4, .inl e10)), (d11, .inl (w11, 4, .inl e11)), (d12, .inl (w12, 4, .inl e12)), (d13, .inl (w13, 9, .inr (.inl e13))), (hF, .inr (2, [.ref f0, .ref f1, .ref f2, .ref f3, .ref f4, .int sn, .int (nI (ks)), .int (nI (kw))])), (f0, .inl (z0, 10, .inl g0)), (f1, .inl (z1, 10, .inl g1)), (f2, .inl (z2, 10, .inl g2)), (f3, .inl (z3, 10, .inl g3)), (f4, .inl (z4, 4, .inl g4)), (jK, .inr (5, [.ref k0, .ref k1])), (k0, .inl (cK, 8, .inl l0)), (k1, .inl (cO, 32, .inl l1))] sz)) sz) (va_Qv (fun (u : (Nat → Int32) × (Nat → Int32) × (Nat → Int32) × (Nat → Int32) × (Nat → Int32) × (Nat → Int32) × (Nat → Int32) × (Nat → Int32) × (Nat → Int32) × (Nat → Int32) × (Nat → Int32) × (Nat → Int64) × (Nat → Int32) × (Nat → Int32) × Int32 × Int32 × Int32 × Int64) => match u with | (E2, E3, E4, E5, E6, E7, E8, E9, E10, E11, E12, E13, L0, L1, Pr, Mo, Ho, Dr) => True) (fun (u : (Nat → Int32) × (Nat → Int32) × (Nat → Int32) × (Nat → Int32) × (Nat → Int32) × (Nat → Int32) × (Nat → Int32) × (Nat → Int32) × (Nat → Int32) × (Nat → Int32) × (Nat → Int32) × (Nat → Int64) × (Nat → Int32) × (Nat → Int32) × Int32 × Int32 × Int32 × Int64) => match u with | (E2, E3, E4, E5, E6, E7, E8, E9, E10, E11, E12, E13, L0, L1, Pr, Mo, Ho, Dr) => fun t : State => kB dC dI [(jC, .inr (1, [.ref hF, .ref jK, .ref d2, .ref d3, .ref d4, .ref d5, .ref d6, .ref d7, .ref d8, .ref d9, .ref d10, .ref d11, .ref d12, .ref d13, .ref ru, .long Dr, .int Pr, .int Mo, .int Ho])), (d2, .inl (w2, 10, .inl E2)), (d3, .inl (w3, 10, .inl E3)), (d4, .inl (w4, 10, .inl E4)), (d5, .inl (w5, 10, .inl E5)), (d6, .inl (w6, 10, .inl E6)), (d7, .inl (w7, 10, .inl E7)), (d8, .inl (w8, 10, .inl E8)), (d9, .inl (w9, 10, .inl E9)), (d10, .inl (w10, 4, .inl E10)), (d11, .inl (w11, 4, .inl E11)), (d12, .inl (w12, 4, .inl E12)), (d13, .inl (w13, 9, .inr (.inl E13))), (hF, .inr (2, [.ref f0, .ref f1, .ref f2, .ref f3, .ref f4, .int sn, .int (nI (ks)), .int (nI (kw))])), (f0, .inl (z0, 10, .inl g0)), (f1, .inl (z1, 10, .inl g1)), (f2, .inl (z2, 10, .inl g2)), (f3, .inl (z3, 10, .inl g3)), (f4, .inl (z4, 4, .inl g4)), (jK, .inr (5, [.ref k0, .ref k1])), (k0, .inl (cK, 8, .inl L0)), (k1, .inl (cO, 32, .inl L1))] [(w2, .int), (w3, .int), (w4, .int), (w5, .int), (w6, .int), (w7, .int), (w8, .int), (w9, .int), (w10, .int), (w11, .int), (w12, .int), (w13, .long), (z0, .int), (z1, .int), (z2, .int), (z3, .int), (z4, .int), (cK, .int), (cO, .int), (cS, .int), (cc, .int)] (va_A [(jC, .inr (1, [.ref hF, .ref jK, .ref d2, .ref d3, .ref d4, .ref d5, .ref d6, .ref d7, .ref d8, .ref d9, .ref d10, .ref d11, .ref d12, .ref d13, lw, .long dr, .int pr, .int mo, .int ho])), (d2, .inl (w2, 10, .inl e2)), (d3, .inl (w3, 10, .inl e3)), (d4, .inl (w4, 10, .inl e4)), (d5, .inl (w5, 10, .inl e5)), (d6, .inl (w6, 10, .inl e6)), (d7, .inl (w7, 10, .inl e7)), (d8, .inl (w8, 10, .inl e8)), (d9, .inl (w9, 10, .inl e9)), (d10, .inl (w10, 4, .inl e10)), (d11, .inl (w11, 4, .inl e11)), (d12, .inl (w12, 4, .inl e12)), (d13, .inl (w13, 9, .inr (.inl e13))), (hF, .inr (2, [.ref f0, .ref f1, .ref f2, .ref f3, .ref f4, .int sn, .int (nI (ks)), .int (nI (kw))])), (f0, .inl (z0, 10, .inl g0)), (f1, .inl (z1, 10, .inl g1)), (f2, .inl (z2, 10, .inl g2)), (f3, .inl (z3, 10, .inl g3)), (f4, .inl (z4, 4, .inl g4)), (jK, .inr (5, [.ref k0, .ref k1])), (k0, .inl (cK, 8, .inl l0)), (k1, .inl (cO, 32, .inl l1))] sz) t) (va_A [(jC, .inr (1, [.ref hF, .ref jK, .ref d2, .ref d3, .ref d4, .ref d5, .ref d6, .ref d7, .ref d8, .ref d9, .ref d10, .ref d11, .ref d12, .ref d13, lw, .long dr, .int pr, .int mo, .int ho])), (d2, .inl (w2, 10, .inl e2)), (d3, .inl (w3, 10, .inl e3)), (d4, .inl (w4, 10, .inl e4)), (d5, .inl (w5, 10, .inl e5)), (d6, .inl (w6, 10, .inl e6)), (d7, .inl (w7, 10, .inl e7)), (d8, .inl (w8, 10, .inl e8)), (d9, .inl (w9, 10, .inl e9)), (d10, .inl (w10, 4, .inl e10)), (d11, .inl (w11, 4, .inl e11)), (d12, .inl (w12, 4, .inl e12)), (d13, .inl (w13, 9, .inr (.inl e13))), (hF, .inr (2, [.ref f0, .ref f1, .ref f2, .ref f3, .ref f4, .int sn, .int (nI (ks)), .int (nI (kw))])), (f0, .inl (z0, 10, .inl g0)), (f1, .inl (z1, 10, .inl g1)), (f2, .inl (z2, 10, .inl g2)), (f3, .inl (z3, 10, .inl g3)), (f4, .inl (z4, 4, .inl g4)), (jK, .inr (5, [.ref k0, .ref k1])), (k0, .inl (cK, 8, .inl l0)), (k1, .inl (cO, 32, .inl l1))] sz)) 0 0 (va_A [(jC, .inr (1, [.ref hF, .ref jK, .ref d2, .ref d3, .ref d4, .ref d5, .ref d6, .ref d7, .ref d8, .ref d9, .ref d10, .ref d11, .ref d12, .ref d13, lw, .long dr, .int pr, .int mo, .int ho])), (d2, .inl (w2, 10, .inl e2)), (d3, .inl (w3, 10, .inl e3)), (d4, .inl (w4, 10, .inl e4)), (d5, .inl (w5, 10, .inl e5)), (d6, .inl (w6, 10, .inl e6)), (d7, .inl (w7, 10, .inl e7)), (d8, .inl (w8, 10, .inl e8)), (d9, .inl (w9, 10, .inl e9)), (d10, .inl (w10, 4, .inl e10)), (d11, .inl (w11, 4, .inl e11)), (d12, .inl (w12, 4, .inl e12)), (d13, .inl (w13, 9, .inr (.inl e13))), (hF, .inr (2, [.ref f0, .ref f1, .ref f2, .ref f3, .ref f4, .int sn, .int (nI (ks)), .int (nI (kw))])), (f0, .inl (z0, 10, .inl g0)), (f1, .inl (z1, 10, .inl g1)), (f2, .inl (z2, 10, .inl g2)), (f3, .inl (z3, 10, .inl g3)), (f4, .inl (z4, 4, .inl g4)), (jK, .inr (5, [.ref k0, .ref k1])), (k0, .inl (cK, 8, .inl l0)), (k1, .inl (cO, 32, .inl l1))] sz) := by
  refine Met.ofW (cc := cX1_begin) (maxL := 6) (ret := none) (by decide) rfl ?_
  intro p e s m args below meth c s₁ B hml hv
  obtain ⟨rfl, hsz, hP, hK, hD0, hX⟩ := hv
  have hx := B.exec
  have hb := B.bytes
  have hr := B.returns
  have hts := atoms_spec (ws := w_s_begin1) B.pre
  have hown : s.vm.findClass RX1 = some m.cls := findClass_of_methodNamed B.named
  have hlocks := B.notSynchronized
  subst hsz
  have hD := hD0.self (sz := s.heap.size)
  generalize hAe : va_A [(jC, .inr (1, [.ref hF, .ref jK, .ref d2, .ref d3, .ref d4, .ref d5, .ref d6, .ref d7, .ref d8, .ref d9, .ref d10, .ref d11, .ref d12, .ref d13, lw, .long dr, .int pr, .int mo, .int ho])), (d2, .inl (w2, 10, .inl e2)), (d3, .inl (w3, 10, .inl e3)), (d4, .inl (w4, 10, .inl e4)), (d5, .inl (w5, 10, .inl e5)), (d6, .inl (w6, 10, .inl e6)), (d7, .inl (w7, 10, .inl e7)), (d8, .inl (w8, 10, .inl e8)), (d9, .inl (w9, 10, .inl e9)), (d10, .inl (w10, 4, .inl e10)), (d11, .inl (w11, 4, .inl e11)), (d12, .inl (w12, 4, .inl e12)), (d13, .inl (w13, 9, .inr (.inl e13))), (hF, .inr (2, [.ref f0, .ref f1, .ref f2, .ref f3, .ref f4, .int sn, .int (nI (ks)), .int (nI (kw))])), (f0, .inl (z0, 10, .inl g0)), (f1, .inl (z1, 10, .inl g1)), (f2, .inl (z2, 10, .inl g2)), (f3, .inl (z3, 10, .inl g3)), (f4, .inl (z4, 4, .inl g4)), (jK, .inr (5, [.ref k0, .ref k1])), (k0, .inl (cK, 8, .inl l0)), (k1, .inl (cO, 32, .inl l1))] s.heap.size = A at hD hX ⊢
  have hA : ∀ q : Nat, s.heap.size ≤ q → A q := fun q h => by rw [← hAe]; exact Or.inr h
  have hS : va_S A s.heap s.heap [] := va_S.rf
  have hP : va_P (dC, dI) vwCl [(jC, .inr (1, [.ref hF, .ref jK, .ref d2, .ref d3, .ref d4, .ref d5, .ref d6, .ref d7, .ref d8, .ref d9, .ref d10, .ref d11, .ref d12, .ref d13, lw, .long dr, .int pr, .int mo, .int ho])), (d2, .inl (w2, 10, .inl e2)), (d3, .inl (w3, 10, .inl e3)), (d4, .inl (w4, 10, .inl e4)), (d5, .inl (w5, 10, .inl e5)), (d6, .inl (w6, 10, .inl e6)), (d7, .inl (w7, 10, .inl e7)), (d8, .inl (w8, 10, .inl e8)), (d9, .inl (w9, 10, .inl e9)), (d10, .inl (w10, 4, .inl e10)), (d11, .inl (w11, 4, .inl e11)), (d12, .inl (w12, 4, .inl e12)), (d13, .inl (w13, 9, .inr (.inl e13))), (hF, .inr (2, [.ref f0, .ref f1, .ref f2, .ref f3, .ref f4, .int sn, .int (nI (ks)), .int (nI (kw))])), (f0, .inl (z0, 10, .inl g0)), (f1, .inl (z1, 10, .inl g1)), (f2, .inl (z2, 10, .inl g2)), (f3, .inl (z3, 10, .inl g3)), (f4, .inl (z4, 4, .inl g4)), (jK, .inr (5, [.ref k0, .ref k1])), (k0, .inl (cK, 8, .inl l0)), (k1, .inl (cO, 32, .inl l1))] s.heap := hP
  have hl := lv_entry ([.ref jC, .ref ru, .long p1, .int p2]) (n := 6) (Nat.le_of_ble_eq_true rfl)
  rw [lg_entry_eq]
  generalize (lg_sl ([.ref jC, .ref ru, .long p1, .int p2]) ++ List.replicate (6 - (lg_sl ([.ref jC, .ref ru, .long p1, .int p2])).length) Slot.unset).toArray = ls at hl ⊢
  have hl : lv_has ls 6 [(0, .ref jC), (1, .ref ru), (2, .long p1), (4, .int p2)] := hl
  refine kQ (fun Q hQ => ?_)
  refine lv_aload_n hx hb dX1_begin_0 rfl (lv_at hl 0 rfl) ?_
  refine lv_aload_n hx hb dX1_begin_1 rfl (lv_at hl 1 rfl) ?_
  refine va_put (D := (dC, dI)) (ci := 1) (v := .ref ru) (ty := tyX1 14) (C := RX1) (T := TX1) (N := 19) hx hb hts (fun _ h => List.mem_cons_of_mem _ (List.mem_append_right _ (List.mem_append_left _ h))) tyX1 tyX1_ok nmX1 hown hK hP hD hS 0 rfl rfl 14 kc_l_14_19 (hts (.fieldLink RX1 49 "NotEnded$Course" "law" "LNotEnded$Rule;") (List.mem_cons_of_mem _ (List.mem_append_left _ (List.mem_of_getElem? (i := 0) rfl)))) (fun _ h9 => h9) rfl (tyX1_ok 14 kc_l_14_19) rfl rfl (Nat.le_of_ble_eq_true rfl) dX1_begin_2 (fun H locs hP hD hS => ?_)
  have hPD : kPD dC dI A [(jC, .inr (1, [.ref hF, .ref jK, .ref d2, .ref d3, .ref d4, .ref d5, .ref d6, .ref d7, .ref d8, .ref d9, .ref d10, .ref d11, .ref d12, .ref d13, .ref ru, .long dr, .int pr, .int mo, .int ho])), (d2, .inl (w2, 10, .inl e2)), (d3, .inl (w3, 10, .inl e3)), (d4, .inl (w4, 10, .inl e4)), (d5, .inl (w5, 10, .inl e5)), (d6, .inl (w6, 10, .inl e6)), (d7, .inl (w7, 10, .inl e7)), (d8, .inl (w8, 10, .inl e8)), (d9, .inl (w9, 10, .inl e9)), (d10, .inl (w10, 4, .inl e10)), (d11, .inl (w11, 4, .inl e11)), (d12, .inl (w12, 4, .inl e12)), (d13, .inl (w13, 9, .inr (.inl e13))), (hF, .inr (2, [.ref f0, .ref f1, .ref f2, .ref f3, .ref f4, .int sn, .int (nI (ks)), .int (nI (kw))])), (f0, .inl (z0, 10, .inl g0)), (f1, .inl (z1, 10, .inl g1)), (f2, .inl (z2, 10, .inl g2)), (f3, .inl (z3, 10, .inl g3)), (f4, .inl (z4, 4, .inl g4)), (jK, .inr (5, [.ref k0, .ref k1])), (k0, .inl (cK, 8, .inl l0)), (k1, .inl (cO, 32, .inl l1))] H := ⟨hP, hD⟩
  have hP := hPD.1
  have hD := hPD.2
  refine lv_aload_n hx hb dX1_begin_5 rfl (lv_at hl 0 rfl) ?_
  refine lv_lload_n hx hb dX1_begin_6 rfl (lv_at hl 2 rfl) ?_
  refine va_put (D := (dC, dI)) (ci := 1) (v := .long p1) (ty := tyX1 15) (C := RX1) (T := TX1) (N := 19) hx hb hts (fun _ h => List.mem_cons_of_mem _ (List.mem_append_right _ (List.mem_append_left _ h))) tyX1 tyX1_ok nmX1 hown hK hP hD hS 0 rfl rfl 15 kc_l_15_19 (hts (.fieldLink RX1 53 "NotEnded$Course" "drawn" "J") (List.mem_cons_of_mem _ (List.mem_append_left _ (List.mem_of_getElem? (i := 1) rfl)))) (fun _ h9 => h9) rfl (tyX1_ok 15 kc_l_15_19) rfl rfl (Nat.le_of_ble_eq_true rfl) dX1_begin_7 (fun H locs hP hD hS => ?_)
  have hPD : kPD dC dI A [(jC, .inr (1, [.ref hF, .ref jK, .ref d2, .ref d3, .ref d4, .ref d5, .ref d6, .ref d7, .ref d8, .ref d9, .ref d10, .ref d11, .ref d12, .ref d13, .ref ru, .long p1, .int pr, .int mo, .int ho])), (d2, .inl (w2, 10, .inl e2)), (d3, .inl (w3, 10, .inl e3)), (d4, .inl (w4, 10, .inl e4)), (d5, .inl (w5, 10, .inl e5)), (d6, .inl (w6, 10, .inl e6)), (d7, .inl (w7, 10, .inl e7)), (d8, .inl (w8, 10, .inl e8)), (d9, .inl (w9, 10, .inl e9)), (d10, .inl (w10, 4, .inl e10)), (d11, .inl (w11, 4, .inl e11)), (d12, .inl (w12, 4, .inl e12)), (d13, .inl (w13, 9, .inr (.inl e13))), (hF, .inr (2, [.ref f0, .ref f1, .ref f2, .ref f3, .ref f4, .int sn, .int (nI (ks)), .int (nI (kw))])), (f0, .inl (z0, 10, .inl g0)), (f1, .inl (z1, 10, .inl g1)), (f2, .inl (z2, 10, .inl g2)), (f3, .inl (z3, 10, .inl g3)), (f4, .inl (z4, 4, .inl g4)), (jK, .inr (5, [.ref k0, .ref k1])), (k0, .inl (cK, 8, .inl l0)), (k1, .inl (cO, 32, .inl l1))] H := ⟨hP, hD⟩
  have hP := hPD.1
  have hD := hPD.2
  refine lv_aload_n hx hb dX1_begin_10 rfl (lv_at hl 0 rfl) ?_
  refine lv_aload_n hx hb dX1_begin_11 rfl (lv_at hl 0 rfl) ?_
  refine va_get (D := (dC, dI)) (ci := 1) (v := .ref hF) (C := RX1) (T := TX1) (N := 19) hx hb hts (fun _ h => List.mem_cons_of_mem _ (List.mem_append_right _ (List.mem_append_left _ h))) hown hK hP 0 rfl rfl 0 kc_l_0_19 (hts (.fieldLink RX1 67 "NotEnded$Course" "folk" "LNotEnded$Folk;") (List.mem_cons_of_mem _ (List.mem_append_left _ (List.mem_of_getElem? (i := 2) rfl)))) (fun _ h9 => h9) rfl dX1_begin_12 ?_
  have hPc := hP.sb (ws2 := [(hF, .inr (2, [.ref f0, .ref f1, .ref f2, .ref f3, .ref f4, .int sn, .int (nI (ks)), .int (nI (kw))])), (f0, .inl (z0, 10, .inl g0)), (f1, .inl (z1, 10, .inl g1)), (f2, .inl (z2, 10, .inl g2)), (f3, .inl (z3, 10, .inl g3)), (f4, .inl (z4, 4, .inl g4))]) [13, 14, 15, 16, 17, 18] rfl
  have hKc := hK.sb (tys2 := [(z0, .int), (z1, .int), (z2, .int), (z3, .int), (z4, .int)]) [12, 13, 14, 15, 16] rfl
  refine vp_callSi (va_runV (As := []) (rest := [.ref jC]) ⟨hx, hb, hml, hown, hts⟩ (s_every2 l dC dI hF f0 f1 f2 f3 f4 z0 z1 z2 z3 z4 g0 g1 g2 g3 g4 sn ks kw hks hkw) (cwV 0 hts (kG (List.forall_mem_cons.mpr ⟨(List.mem_cons_of_mem _ (List.mem_append_left _ (List.mem_of_getElem? (i := 6) rfl))), (List.forall_mem_cons.mpr ⟨(List.mem_cons_of_mem _ (List.mem_append_left _ (List.mem_of_getElem? (i := 5) rfl))), (List.forall_mem_cons.mpr ⟨(List.mem_cons_of_mem _ (List.mem_append_left _ (List.mem_of_getElem? (i := 4) rfl))), (List.forall_mem_cons.mpr ⟨(List.mem_cons_of_mem _ (List.mem_append_left _ (List.mem_of_getElem? (i := 3) rfl))), (fun _ h => absurd h List.not_mem_nil)⟩)⟩)⟩)⟩) (kGV _ _ _ _) (fun _ h => List.mem_cons_of_mem _ (List.mem_append_right _ (List.mem_append_right _ (List.mem_append_left _ h)))) gw_s_every2) rfl rfl rfl ⟨rfl, hd_X2_everybody⟩ ⟨(Nat.le_of_ble_eq_true rfl), (Nat.le_of_ble_eq_true rfl)⟩) (kR_V kT_blind kT_give (va_recv hKc hPc (ci := 2) (q0 := 0) rfl rfl) hPc hKc) rfl rfl hl.1 rfl (lv_room (Nat.le_of_ble_eq_true rfl)) dX1_begin_15 ⟨(Nat.le_of_ble_eq_true rfl), (Nat.le_of_ble_eq_true rfl)⟩).run (fun r_1 hw => ?_)
  refine lv_iload hx hb dX1_begin_18 (lv_at hl 3 rfl) ?_
  refine lv_iconst (v := (-1)) hx hb dX1_begin_20 kc_i_m1 ?_
  refine lv_ixor hx hb dX1_begin_21 ?_
  refine lv_topi (fun x_2 ex_2 => ?_)
  refine lv_iand hx hb dX1_begin_22 ?_
  refine lv_topi (fun x_3 ex_3 => ?_)
  refine va_put (D := (dC, dI)) (ci := 1) (v := .int x_3) (ty := tyX1 16) (C := RX1) (T := TX1) (N := 19) hx hb hts (fun _ h => List.mem_cons_of_mem _ (List.mem_append_right _ (List.mem_append_left _ h))) tyX1 tyX1_ok nmX1 hown hK hP hD hS 0 rfl rfl 16 kc_l_16_19 (hts (.fieldLink RX1 57 "NotEnded$Course" "present" "I") (List.mem_cons_of_mem _ (List.mem_append_left _ (List.mem_of_getElem? (i := 7) rfl)))) (fun _ h9 => h9) rfl (tyX1_ok 16 kc_l_16_19) rfl rfl (Nat.le_of_ble_eq_true rfl) dX1_begin_23 (fun H locs hP hD hS => ?_)
  have hPD : kPD dC dI A [(jC, .inr (1, [.ref hF, .ref jK, .ref d2, .ref d3, .ref d4, .ref d5, .ref d6, .ref d7, .ref d8, .ref d9, .ref d10, .ref d11, .ref d12, .ref d13, .ref ru, .long p1, .int x_3, .int mo, .int ho])), (d2, .inl (w2, 10, .inl e2)), (d3, .inl (w3, 10, .inl e3)), (d4, .inl (w4, 10, .inl e4)), (d5, .inl (w5, 10, .inl e5)), (d6, .inl (w6, 10, .inl e6)), (d7, .inl (w7, 10, .inl e7)), (d8, .inl (w8, 10, .inl e8)), (d9, .inl (w9, 10, .inl e9)), (d10, .inl (w10, 4, .inl e10)), (d11, .inl (w11, 4, .inl e11)), (d12, .inl (w12, 4, .inl e12)), (d13, .inl (w13, 9, .inr (.inl e13))), (hF, .inr (2, [.ref f0, .ref f1, .ref f2, .ref f3, .ref f4, .int sn, .int (nI (ks)), .int (nI (kw))])), (f0, .inl (z0, 10, .inl g0)), (f1, .inl (z1, 10, .inl g1)), (f2, .inl (z2, 10, .inl g2)), (f3, .inl (z3, 10, .inl g3)), (f4, .inl (z4, 4, .inl g4)), (jK, .inr (5, [.ref k0, .ref k1])), (k0, .inl (cK, 8, .inl l0)), (k1, .inl (cO, 32, .inl l1))] H := ⟨hP, hD⟩
  have hP := hPD.1
  have hD := hPD.2
  refine lv_aload_n hx hb dX1_begin_26 rfl (lv_at hl 0 rfl) ?_
  refine lv_aload_n hx hb dX1_begin_27 rfl (lv_at hl 0 rfl) ?_
  refine va_get (D := (dC, dI)) (ci := 1) (v := .int x_3) (C := RX1) (T := TX1) (N := 19) hx hb hts (fun _ h => List.mem_cons_of_mem _ (List.mem_append_right _ (List.mem_append_left _ h))) hown hK hP 0 rfl rfl 16 kc_l_16_19 (hts (.fieldLink RX1 57 "NotEnded$Course" "present" "I") (List.mem_cons_of_mem _ (List.mem_append_left _ (List.mem_of_getElem? (i := 7) rfl)))) (fun _ h9 => h9) rfl dX1_begin_28 ?_
  refine lv_aload_n hx hb dX1_begin_31 rfl (lv_at hl 0 rfl) ?_
  refine va_get (D := (dC, dI)) (ci := 1) (v := .ref hF) (C := RX1) (T := TX1) (N := 19) hx hb hts (fun _ h => List.mem_cons_of_mem _ (List.mem_append_right _ (List.mem_append_left _ h))) hown hK hP 0 rfl rfl 0 kc_l_0_19 (hts (.fieldLink RX1 67 "NotEnded$Course" "folk" "LNotEnded$Folk;") (List.mem_cons_of_mem _ (List.mem_append_left _ (List.mem_of_getElem? (i := 2) rfl)))) (fun _ h9 => h9) rfl dX1_begin_32 ?_
  have hPc := hP.sb (ws2 := [(hF, .inr (2, [.ref f0, .ref f1, .ref f2, .ref f3, .ref f4, .int sn, .int (nI (ks)), .int (nI (kw))])), (f0, .inl (z0, 10, .inl g0)), (f1, .inl (z1, 10, .inl g1)), (f2, .inl (z2, 10, .inl g2)), (f3, .inl (z3, 10, .inl g3)), (f4, .inl (z4, 4, .inl g4))]) [13, 14, 15, 16, 17, 18] rfl
  have hKc := hK.sb (tys2 := [(z0, .int), (z1, .int), (z2, .int), (z3, .int), (z4, .int)]) [12, 13, 14, 15, 16] rfl
  refine vp_callSi (va_runV (As := []) (rest := [.int x_3, .ref jC]) ⟨hx, hb, hml, hown, hts⟩ (s_sent2 l dC dI hF f0 f1 f2 f3 f4 z0 z1 z2 z3 z4 g0 g1 g2 g3 g4 sn ks kw hks hkw) (cwV 0 hts (kG (List.forall_mem_cons.mpr ⟨(List.mem_cons_of_mem _ (List.mem_append_left _ (List.mem_of_getElem? (i := 10) rfl))), (List.forall_mem_cons.mpr ⟨(List.mem_cons_of_mem _ (List.mem_append_left _ (List.mem_of_getElem? (i := 9) rfl))), (List.forall_mem_cons.mpr ⟨(List.mem_cons_of_mem _ (List.mem_append_left _ (List.mem_of_getElem? (i := 8) rfl))), (List.forall_mem_cons.mpr ⟨(List.mem_cons_of_mem _ (List.mem_append_left _ (List.mem_of_getElem? (i := 3) rfl))), (fun _ h => absurd h List.not_mem_nil)⟩)⟩)⟩)⟩) (kGV _ _ _ _) (fun _ h => List.mem_cons_of_mem _ (List.mem_append_right _ (List.mem_append_right _ (List.mem_append_right _ (List.mem_append_left _ h))))) gw_s_sent2) rfl rfl rfl ⟨rfl, hd_X2_sentOnes⟩ ⟨(Nat.le_of_ble_eq_true rfl), (Nat.le_of_ble_eq_true rfl)⟩) (kR_V kT_blind kT_give (va_recv hKc hPc (ci := 2) (q0 := 0) rfl rfl) hPc hKc) rfl rfl hl.1 rfl (lv_room (Nat.le_of_ble_eq_true rfl)) dX1_begin_35 ⟨(Nat.le_of_ble_eq_true rfl), (Nat.le_of_ble_eq_true rfl)⟩).run (fun r_4 hw => ?_)
  refine lv_iconst (v := (-1)) hx hb dX1_begin_38 kc_i_m1 ?_
  refine lv_ixor hx hb dX1_begin_39 ?_
  refine lv_topi (fun x_5 ex_5 => ?_)
  refine lv_iand hx hb dX1_begin_40 ?_
  refine lv_topi (fun x_6 ex_6 => ?_)
  refine va_put (D := (dC, dI)) (ci := 1) (v := .int x_6) (ty := tyX1 17) (C := RX1) (T := TX1) (N := 19) hx hb hts (fun _ h => List.mem_cons_of_mem _ (List.mem_append_right _ (List.mem_append_left _ h))) tyX1 tyX1_ok nmX1 hown hK hP hD hS 0 rfl rfl 17 kc_l_17_19 (hts (.fieldLink RX1 61 "NotEnded$Course" "moved" "I") (List.mem_cons_of_mem _ (List.mem_append_left _ (List.mem_of_getElem? (i := 11) rfl)))) (fun _ h9 => h9) rfl (tyX1_ok 17 kc_l_17_19) rfl rfl (Nat.le_of_ble_eq_true rfl) dX1_begin_41 (fun H locs hP hD hS => ?_)
  have hPD : kPD dC dI A [(jC, .inr (1, [.ref hF, .ref jK, .ref d2, .ref d3, .ref d4, .ref d5, .ref d6, .ref d7, .ref d8, .ref d9, .ref d10, .ref d11, .ref d12, .ref d13, .ref ru, .long p1, .int x_3, .int x_6, .int ho])), (d2, .inl (w2, 10, .inl e2)), (d3, .inl (w3, 10, .inl e3)), (d4, .inl (w4, 10, .inl e4)), (d5, .inl (w5, 10, .inl e5)), (d6, .inl (w6, 10, .inl e6)), (d7, .inl (w7, 10, .inl e7)), (d8, .inl (w8, 10, .inl e8)), (d9, .inl (w9, 10, .inl e9)), (d10, .inl (w10, 4, .inl e10)), (d11, .inl (w11, 4, .inl e11)), (d12, .inl (w12, 4, .inl e12)), (d13, .inl (w13, 9, .inr (.inl e13))), (hF, .inr (2, [.ref f0, .ref f1, .ref f2, .ref f3, .ref f4, .int sn, .int (nI (ks)), .int (nI (kw))])), (f0, .inl (z0, 10, .inl g0)), (f1, .inl (z1, 10, .inl g1)), (f2, .inl (z2, 10, .inl g2)), (f3, .inl (z3, 10, .inl g3)), (f4, .inl (z4, 4, .inl g4)), (jK, .inr (5, [.ref k0, .ref k1])), (k0, .inl (cK, 8, .inl l0)), (k1, .inl (cO, 32, .inl l1))] H := ⟨hP, hD⟩
  have hP := hPD.1
  have hD := hPD.2
  refine lv_aload_n hx hb dX1_begin_44 rfl (lv_at hl 0 rfl) ?_
  refine lv_iconst (v := 0) hx hb dX1_begin_45 kc_i_0 ?_
  refine va_put (D := (dC, dI)) (ci := 1) (v := .int 0) (ty := tyX1 18) (C := RX1) (T := TX1) (N := 19) hx hb hts (fun _ h => List.mem_cons_of_mem _ (List.mem_append_right _ (List.mem_append_left _ h))) tyX1 tyX1_ok nmX1 hown hK hP hD hS 0 rfl rfl 18 kc_l_18_19 (hts (.fieldLink RX1 64 "NotEnded$Course" "hour" "I") (List.mem_cons_of_mem _ (List.mem_append_left _ (List.mem_of_getElem? (i := 12) rfl)))) (fun _ h9 => h9) rfl (tyX1_ok 18 kc_l_18_19) rfl rfl (Nat.le_of_ble_eq_true rfl) dX1_begin_46 (fun H locs hP hD hS => ?_)
  have hPD : kPD dC dI A [(jC, .inr (1, [.ref hF, .ref jK, .ref d2, .ref d3, .ref d4, .ref d5, .ref d6, .ref d7, .ref d8, .ref d9, .ref d10, .ref d11, .ref d12, .ref d13, .ref ru, .long p1, .int x_3, .int x_6, .int 0])), (d2, .inl (w2, 10, .inl e2)), (d3, .inl (w3, 10, .inl e3)), (d4, .inl (w4, 10, .inl e4)), (d5, .inl (w5, 10, .inl e5)), (d6, .inl (w6, 10, .inl e6)), (d7, .inl (w7, 10, .inl e7)), (d8, .inl (w8, 10, .inl e8)), (d9, .inl (w9, 10, .inl e9)), (d10, .inl (w10, 4, .inl e10)), (d11, .inl (w11, 4, .inl e11)), (d12, .inl (w12, 4, .inl e12)), (d13, .inl (w13, 9, .inr (.inl e13))), (hF, .inr (2, [.ref f0, .ref f1, .ref f2, .ref f3, .ref f4, .int sn, .int (nI (ks)), .int (nI (kw))])), (f0, .inl (z0, 10, .inl g0)), (f1, .inl (z1, 10, .inl g1)), (f2, .inl (z2, 10, .inl g2)), (f3, .inl (z3, 10, .inl g3)), (f4, .inl (z4, 4, .inl g4)), (jK, .inr (5, [.ref k0, .ref k1])), (k0, .inl (cK, 8, .inl l0)), (k1, .inl (cO, 32, .inl l1))] H := ⟨hP, hD⟩
  have hP := hPD.1
  have hD := hPD.2
  refine lv_iconst (v := 0) hx hb dX1_begin_49 kc_i_0 ?_
  refine lv_istore hx hb dX1_begin_50 hl kc_l_5_6 (kTo [(5, .int 0), (0, .ref jC), (1, .ref ru), (2, .long p1), (4, .int p2)]) (fun ls hl => ?_)
  have lp_k_7 : ∀ (n9 : Nat) (i : Nat) (le2 : Nat → Int32) (le3 : Nat → Int32) (le4 : Nat → Int32) (le5 : Nat → Int32) (le6 : Nat → Int32) (le7 : Nat → Int32) (le8 : Nat → Int32) (le9 : Nat → Int32) (le10 : Nat → Int32) (le11 : Nat → Int32) (le12 : Nat → Int32) (le13 : Nat → Int64) (ll0 : Nat → Int32) (ll1 : Nat → Int32) (ldr : Int64) (lpr : Int32) (lmo : Int32) (lho : Int32) (ivk_7_0 : i ≤ ks) (H : Heap) (locs : List Loc) (_ : va_P (dC, dI) vwCl [(jC, .inr (1, [.ref hF, .ref jK, .ref d2, .ref d3, .ref d4, .ref d5, .ref d6, .ref d7, .ref d8, .ref d9, .ref d10, .ref d11, .ref d12, .ref d13, .ref ru, .long ldr, .int lpr, .int lmo, .int lho])), (d2, .inl (w2, 10, .inl le2)), (d3, .inl (w3, 10, .inl le3)), (d4, .inl (w4, 10, .inl le4)), (d5, .inl (w5, 10, .inl le5)), (d6, .inl (w6, 10, .inl le6)), (d7, .inl (w7, 10, .inl le7)), (d8, .inl (w8, 10, .inl le8)), (d9, .inl (w9, 10, .inl le9)), (d10, .inl (w10, 4, .inl le10)), (d11, .inl (w11, 4, .inl le11)), (d12, .inl (w12, 4, .inl le12)), (d13, .inl (w13, 9, .inr (.inl le13))), (hF, .inr (2, [.ref f0, .ref f1, .ref f2, .ref f3, .ref f4, .int sn, .int (nI (ks)), .int (nI (kw))])), (f0, .inl (z0, 10, .inl g0)), (f1, .inl (z1, 10, .inl g1)), (f2, .inl (z2, 10, .inl g2)), (f3, .inl (z3, 10, .inl g3)), (f4, .inl (z4, 4, .inl g4)), (jK, .inr (5, [.ref k0, .ref k1])), (k0, .inl (cK, 8, .inl ll0)), (k1, .inl (cO, 32, .inl ll1))] H) (_ : va_D A [(jC, .inr (1, [.ref hF, .ref jK, .ref d2, .ref d3, .ref d4, .ref d5, .ref d6, .ref d7, .ref d8, .ref d9, .ref d10, .ref d11, .ref d12, .ref d13, .ref ru, .long ldr, .int lpr, .int lmo, .int lho])), (d2, .inl (w2, 10, .inl le2)), (d3, .inl (w3, 10, .inl le3)), (d4, .inl (w4, 10, .inl le4)), (d5, .inl (w5, 10, .inl le5)), (d6, .inl (w6, 10, .inl le6)), (d7, .inl (w7, 10, .inl le7)), (d8, .inl (w8, 10, .inl le8)), (d9, .inl (w9, 10, .inl le9)), (d10, .inl (w10, 4, .inl le10)), (d11, .inl (w11, 4, .inl le11)), (d12, .inl (w12, 4, .inl le12)), (d13, .inl (w13, 9, .inr (.inl le13))), (hF, .inr (2, [.ref f0, .ref f1, .ref f2, .ref f3, .ref f4, .int sn, .int (nI (ks)), .int (nI (kw))])), (f0, .inl (z0, 10, .inl g0)), (f1, .inl (z1, 10, .inl g1)), (f2, .inl (z2, 10, .inl g2)), (f3, .inl (z3, 10, .inl g3)), (f4, .inl (z4, 4, .inl g4)), (jK, .inr (5, [.ref k0, .ref k1])), (k0, .inl (cK, 8, .inl ll0)), (k1, .inl (cO, 32, .inl ll1))]) (_ : va_S A s.heap H locs) (ls : Array Slot) (_ : lv_has ls 6 [(5, .int (nI (i))), (0, .ref jC), (1, .ref ru), (2, .long p1), (4, .int p2)]) (_ : ks - i < n9), W p l e (headSpec w_s_begin1 ({ frames := 3, cells := 0, slots := 0, locals := 180 })).room s m (#[.ref jC, .ref ru, .long p1, .int p2] : Array Value) below meth c H locs 0 0 Q (F0 m 52 ls []) := by
    intro n9
    induction n9 with
    | zero => intro i le2 le3 le4 le5 le6 le7 le8 le9 le10 le11 le12 le13 ll0 ll1 ldr lpr lmo lho ivk_7_0 H locs hP hD hS ls hl hm9; exact absurd hm9 (Nat.not_lt_zero _)
    | succ n9 ih_k_7 =>
      intro i le2 le3 le4 le5 le6 le7 le8 le9 le10 le11 le12 le13 ll0 ll1 ldr lpr lmo lho ivk_7_0 H locs hP hD hS ls hl hm9
      refine lv_iload hx hb dX1_begin_52 (lv_at hl 0 rfl) ?_
      refine lv_aload_n hx hb dX1_begin_54 rfl (lv_at hl 1 rfl) ?_
      refine va_get (D := (dC, dI)) (ci := 1) (v := .ref hF) (C := RX1) (T := TX1) (N := 19) hx hb hts (fun _ h => List.mem_cons_of_mem _ (List.mem_append_right _ (List.mem_append_left _ h))) hown hK hP 0 rfl rfl 0 kc_l_0_19 (hts (.fieldLink RX1 67 "NotEnded$Course" "folk" "LNotEnded$Folk;") (List.mem_cons_of_mem _ (List.mem_append_left _ (List.mem_of_getElem? (i := 2) rfl)))) (fun _ h9 => h9) rfl dX1_begin_55 ?_
      have hPc := hP.sb (ws2 := [(hF, .inr (2, [.ref f0, .ref f1, .ref f2, .ref f3, .ref f4, .int sn, .int (nI (ks)), .int (nI (kw))])), (f0, .inl (z0, 10, .inl g0)), (f1, .inl (z1, 10, .inl g1)), (f2, .inl (z2, 10, .inl g2)), (f3, .inl (z3, 10, .inl g3)), (f4, .inl (z4, 4, .inl g4))]) [13, 14, 15, 16, 17, 18] rfl
      have hKc := hK.sb (tys2 := [(z0, .int), (z1, .int), (z2, .int), (z3, .int), (z4, .int)]) [12, 13, 14, 15, 16] rfl
      refine vp_callSi (va_runV (As := []) (rest := [.int (nI (i))]) ⟨hx, hb, hml, hown, hts⟩ (s_size2 l dC dI hF f0 f1 f2 f3 f4 z0 z1 z2 z3 z4 g0 g1 g2 g3 g4 sn ks kw hks hkw) (cwV 0 hts (kG (List.forall_mem_cons.mpr ⟨(List.mem_cons_of_mem _ (List.mem_append_left _ (List.mem_of_getElem? (i := 15) rfl))), (List.forall_mem_cons.mpr ⟨(List.mem_cons_of_mem _ (List.mem_append_left _ (List.mem_of_getElem? (i := 14) rfl))), (List.forall_mem_cons.mpr ⟨(List.mem_cons_of_mem _ (List.mem_append_left _ (List.mem_of_getElem? (i := 13) rfl))), (List.forall_mem_cons.mpr ⟨(List.mem_cons_of_mem _ (List.mem_append_left _ (List.mem_of_getElem? (i := 3) rfl))), (fun _ h => absurd h List.not_mem_nil)⟩)⟩)⟩)⟩) (kGV _ _ _ _) (fun _ h => List.mem_cons_of_mem _ (List.mem_append_right _ (List.mem_append_right _ (List.mem_append_right _ (List.mem_append_right _ (List.mem_append_left _ h)))))) gw_s_size2) rfl rfl rfl ⟨rfl, hd_X2_size⟩ ⟨(Nat.le_of_ble_eq_true rfl), (Nat.le_of_ble_eq_true rfl)⟩) (kR_V kT_blind kT_give (va_recv hKc hPc (ci := 2) (q0 := 0) rfl rfl) hPc hKc) rfl rfl hl.1 rfl (lv_room (Nat.le_of_ble_eq_true rfl)) dX1_begin_58 ⟨(Nat.le_of_ble_eq_true rfl), (Nat.le_of_ble_eq_true rfl)⟩).run (fun r_8 hw => ?_)
      obtain rfl : r_8 = nI (ks) := hw
      refine lv_icmp_ge (tgt := 129) hx hb dX1_begin_61 kc_t_61_68 (fun c_9 => ?_) (fun c_9 => ?_)
      · have bd_11 : ks < 2147483648 := by omega
        have bd_12 : i < 2147483648 := by omega
        have hn_10 := kle (a := ks) (b := i) bd_11 bd_12 c_9
        have hP9 := hP
        have hD9 := hD
        have hK9 := hK
        rw [hQ]
        exact W.vret hx hb hr (fun t ht hW => ⟨⟨(le2, le3, le4, le5, le6, le7, le8, le9, le10, le11, le12, le13, ll0, ll1, lpr, lmo, lho, ldr), rfl, trivial,  by rw [ht]; exact hP9, va_K.moved hW.alike hK9, hD9⟩, hS.F ht⟩) hS.2.2 dX1_begin_129
      · have bd_14 : ks < 2147483648 := by omega
        have bd_15 : i < 2147483648 := by omega
        have hn_13 := knle (a := ks) (b := i) bd_14 bd_15 c_9
        refine lv_aload_n hx hb dX1_begin_64 rfl (lv_at hl 1 rfl) ?_
        refine va_get (D := (dC, dI)) (ci := 1) (v := .ref d2) (C := RX1) (T := TX1) (N := 19) hx hb hts (fun _ h => List.mem_cons_of_mem _ (List.mem_append_right _ (List.mem_append_left _ h))) hown hK hP 0 rfl rfl 2 kc_l_2_19 (hts (.fieldLink RX1 9 "NotEnded$Course" "held" "[I") (List.mem_cons_of_mem _ (List.mem_append_left _ (List.mem_of_getElem? (i := 16) rfl)))) (fun _ h9 => h9) rfl dX1_begin_65 ?_
        refine lv_iload hx hb dX1_begin_68 (lv_at hl 0 rfl) ?_
        refine lv_aload_n hx hb dX1_begin_70 rfl (lv_at hl 1 rfl) ?_
        refine va_get (D := (dC, dI)) (ci := 1) (v := .ref hF) (C := RX1) (T := TX1) (N := 19) hx hb hts (fun _ h => List.mem_cons_of_mem _ (List.mem_append_right _ (List.mem_append_left _ h))) hown hK hP 0 rfl rfl 0 kc_l_0_19 (hts (.fieldLink RX1 67 "NotEnded$Course" "folk" "LNotEnded$Folk;") (List.mem_cons_of_mem _ (List.mem_append_left _ (List.mem_of_getElem? (i := 2) rfl)))) (fun _ h9 => h9) rfl dX1_begin_71 ?_
        refine va_getN (D := (dC, dI)) (ci := 2) (v := .ref f0) (C := RX2) (T := TX2) (N := 8) hx hb hts (fun _ h => List.mem_cons_of_mem _ (List.mem_append_right _ (List.mem_append_right _ (List.mem_append_right _ (List.mem_append_right _ (List.mem_append_right _ h)))))) hown hK hP 13 rfl rfl 0 kc_l_0_8 (va_Nw.use rfl (hX.2 _ (List.mem_of_getElem? (i := 3) rfl))) (fun _ h9 => h9) rfl dX1_begin_74 ?_
        refine lv_iload hx hb dX1_begin_77 (lv_at hl 0 rfl) ?_
        have bd_16 : i < 10 := by omega
        refine va_iald hx hb hK hP 14 12 rfl rfl (vp_in_nI (n := i) (N := 10) bd_16 kc_31_10) dX1_begin_79 ?_
        refine lv_topi (fun x_17 ex_17 => ?_)
        refine va_iast hx hb hK hP hD hS 1 0 rfl rfl (vp_in_nI (n := i) (N := 10) bd_16 kc_31_10) dX1_begin_80 (fun H locs hP hD hS => ?_)
        obtain ⟨f_18, ef_18⟩ : ∃ gg9 : Nat → Int32, gg9 = upd le2 (Int32.toNatClampNeg (nI (i))) x_17 := ⟨_, rfl⟩
        have hPD : kPD dC dI A [(jC, .inr (1, [.ref hF, .ref jK, .ref d2, .ref d3, .ref d4, .ref d5, .ref d6, .ref d7, .ref d8, .ref d9, .ref d10, .ref d11, .ref d12, .ref d13, .ref ru, .long ldr, .int lpr, .int lmo, .int lho])), (d2, .inl (w2, 10, .inl f_18)), (d3, .inl (w3, 10, .inl le3)), (d4, .inl (w4, 10, .inl le4)), (d5, .inl (w5, 10, .inl le5)), (d6, .inl (w6, 10, .inl le6)), (d7, .inl (w7, 10, .inl le7)), (d8, .inl (w8, 10, .inl le8)), (d9, .inl (w9, 10, .inl le9)), (d10, .inl (w10, 4, .inl le10)), (d11, .inl (w11, 4, .inl le11)), (d12, .inl (w12, 4, .inl le12)), (d13, .inl (w13, 9, .inr (.inl le13))), (hF, .inr (2, [.ref f0, .ref f1, .ref f2, .ref f3, .ref f4, .int sn, .int (nI (ks)), .int (nI (kw))])), (f0, .inl (z0, 10, .inl g0)), (f1, .inl (z1, 10, .inl g1)), (f2, .inl (z2, 10, .inl g2)), (f3, .inl (z3, 10, .inl g3)), (f4, .inl (z4, 4, .inl g4)), (jK, .inr (5, [.ref k0, .ref k1])), (k0, .inl (cK, 8, .inl ll0)), (k1, .inl (cO, 32, .inl ll1))] H := by rw [ef_18]; exact ⟨hP, hD⟩
        have hP := hPD.1
        have hD := hPD.2
        refine lv_aload_n hx hb dX1_begin_81 rfl (lv_at hl 1 rfl) ?_
        refine va_get (D := (dC, dI)) (ci := 1) (v := .ref d3) (C := RX1) (T := TX1) (N := 19) hx hb hts (fun _ h => List.mem_cons_of_mem _ (List.mem_append_right _ (List.mem_append_left _ h))) hown hK hP 0 rfl rfl 3 kc_l_3_19 (hts (.fieldLink RX1 15 "NotEnded$Course" "putIn" "[I") (List.mem_cons_of_mem _ (List.mem_append_left _ (List.mem_of_getElem? (i := 17) rfl)))) (fun _ h9 => h9) rfl dX1_begin_82 ?_
        refine lv_iload hx hb dX1_begin_85 (lv_at hl 0 rfl) ?_
        refine lv_aload_n hx hb dX1_begin_87 rfl (lv_at hl 1 rfl) ?_
        refine va_get (D := (dC, dI)) (ci := 1) (v := .ref hF) (C := RX1) (T := TX1) (N := 19) hx hb hts (fun _ h => List.mem_cons_of_mem _ (List.mem_append_right _ (List.mem_append_left _ h))) hown hK hP 0 rfl rfl 0 kc_l_0_19 (hts (.fieldLink RX1 67 "NotEnded$Course" "folk" "LNotEnded$Folk;") (List.mem_cons_of_mem _ (List.mem_append_left _ (List.mem_of_getElem? (i := 2) rfl)))) (fun _ h9 => h9) rfl dX1_begin_88 ?_
        refine va_getN (D := (dC, dI)) (ci := 2) (v := .ref f1) (C := RX2) (T := TX2) (N := 8) hx hb hts (fun _ h => List.mem_cons_of_mem _ (List.mem_append_right _ (List.mem_append_right _ (List.mem_append_right _ (List.mem_append_right _ (List.mem_append_right _ h)))))) hown hK hP 13 rfl rfl 1 kc_l_1_8 (va_Nw.use rfl (hX.2 _ (List.mem_of_getElem? (i := 4) rfl))) (fun _ h9 => h9) rfl dX1_begin_91 ?_
        refine lv_iload hx hb dX1_begin_94 (lv_at hl 0 rfl) ?_
        refine va_iald hx hb hK hP 15 13 rfl rfl (vp_in_nI (n := i) (N := 10) bd_16 kc_31_10) dX1_begin_96 ?_
        refine lv_topi (fun x_19 ex_19 => ?_)
        refine va_iast hx hb hK hP hD hS 2 1 rfl rfl (vp_in_nI (n := i) (N := 10) bd_16 kc_31_10) dX1_begin_97 (fun H locs hP hD hS => ?_)
        obtain ⟨f_20, ef_20⟩ : ∃ gg9 : Nat → Int32, gg9 = upd le3 (Int32.toNatClampNeg (nI (i))) x_19 := ⟨_, rfl⟩
        have hPD : kPD dC dI A [(jC, .inr (1, [.ref hF, .ref jK, .ref d2, .ref d3, .ref d4, .ref d5, .ref d6, .ref d7, .ref d8, .ref d9, .ref d10, .ref d11, .ref d12, .ref d13, .ref ru, .long ldr, .int lpr, .int lmo, .int lho])), (d2, .inl (w2, 10, .inl f_18)), (d3, .inl (w3, 10, .inl f_20)), (d4, .inl (w4, 10, .inl le4)), (d5, .inl (w5, 10, .inl le5)), (d6, .inl (w6, 10, .inl le6)), (d7, .inl (w7, 10, .inl le7)), (d8, .inl (w8, 10, .inl le8)), (d9, .inl (w9, 10, .inl le9)), (d10, .inl (w10, 4, .inl le10)), (d11, .inl (w11, 4, .inl le11)), (d12, .inl (w12, 4, .inl le12)), (d13, .inl (w13, 9, .inr (.inl le13))), (hF, .inr (2, [.ref f0, .ref f1, .ref f2, .ref f3, .ref f4, .int sn, .int (nI (ks)), .int (nI (kw))])), (f0, .inl (z0, 10, .inl g0)), (f1, .inl (z1, 10, .inl g1)), (f2, .inl (z2, 10, .inl g2)), (f3, .inl (z3, 10, .inl g3)), (f4, .inl (z4, 4, .inl g4)), (jK, .inr (5, [.ref k0, .ref k1])), (k0, .inl (cK, 8, .inl ll0)), (k1, .inl (cO, 32, .inl ll1))] H := by rw [ef_20]; exact ⟨hP, hD⟩
        have hP := hPD.1
        have hD := hPD.2
        refine lv_aload_n hx hb dX1_begin_98 rfl (lv_at hl 1 rfl) ?_
        refine va_get (D := (dC, dI)) (ci := 1) (v := .ref d4) (C := RX1) (T := TX1) (N := 19) hx hb hts (fun _ h => List.mem_cons_of_mem _ (List.mem_append_right _ (List.mem_append_left _ h))) hown hK hP 0 rfl rfl 4 kc_l_4_19 (hts (.fieldLink RX1 18 "NotEnded$Course" "places" "[I") (List.mem_cons_of_mem _ (List.mem_append_left _ (List.mem_of_getElem? (i := 18) rfl)))) (fun _ h9 => h9) rfl dX1_begin_99 ?_
        refine lv_iload hx hb dX1_begin_102 (lv_at hl 0 rfl) ?_
        refine lv_aload_n hx hb dX1_begin_104 rfl (lv_at hl 1 rfl) ?_
        refine va_get (D := (dC, dI)) (ci := 1) (v := .ref hF) (C := RX1) (T := TX1) (N := 19) hx hb hts (fun _ h => List.mem_cons_of_mem _ (List.mem_append_right _ (List.mem_append_left _ h))) hown hK hP 0 rfl rfl 0 kc_l_0_19 (hts (.fieldLink RX1 67 "NotEnded$Course" "folk" "LNotEnded$Folk;") (List.mem_cons_of_mem _ (List.mem_append_left _ (List.mem_of_getElem? (i := 2) rfl)))) (fun _ h9 => h9) rfl dX1_begin_105 ?_
        refine va_getN (D := (dC, dI)) (ci := 2) (v := .ref f2) (C := RX2) (T := TX2) (N := 8) hx hb hts (fun _ h => List.mem_cons_of_mem _ (List.mem_append_right _ (List.mem_append_right _ (List.mem_append_right _ (List.mem_append_right _ (List.mem_append_right _ h)))))) hown hK hP 13 rfl rfl 2 kc_l_2_8 (va_Nw.use rfl (hX.2 _ (List.mem_of_getElem? (i := 5) rfl))) (fun _ h9 => h9) rfl dX1_begin_108 ?_
        refine lv_iload hx hb dX1_begin_111 (lv_at hl 0 rfl) ?_
        refine va_iald hx hb hK hP 16 14 rfl rfl (vp_in_nI (n := i) (N := 10) bd_16 kc_31_10) dX1_begin_113 ?_
        refine lv_topi (fun x_21 ex_21 => ?_)
        refine va_iast hx hb hK hP hD hS 3 2 rfl rfl (vp_in_nI (n := i) (N := 10) bd_16 kc_31_10) dX1_begin_114 (fun H locs hP hD hS => ?_)
        obtain ⟨f_22, ef_22⟩ : ∃ gg9 : Nat → Int32, gg9 = upd le4 (Int32.toNatClampNeg (nI (i))) x_21 := ⟨_, rfl⟩
        have hPD : kPD dC dI A [(jC, .inr (1, [.ref hF, .ref jK, .ref d2, .ref d3, .ref d4, .ref d5, .ref d6, .ref d7, .ref d8, .ref d9, .ref d10, .ref d11, .ref d12, .ref d13, .ref ru, .long ldr, .int lpr, .int lmo, .int lho])), (d2, .inl (w2, 10, .inl f_18)), (d3, .inl (w3, 10, .inl f_20)), (d4, .inl (w4, 10, .inl f_22)), (d5, .inl (w5, 10, .inl le5)), (d6, .inl (w6, 10, .inl le6)), (d7, .inl (w7, 10, .inl le7)), (d8, .inl (w8, 10, .inl le8)), (d9, .inl (w9, 10, .inl le9)), (d10, .inl (w10, 4, .inl le10)), (d11, .inl (w11, 4, .inl le11)), (d12, .inl (w12, 4, .inl le12)), (d13, .inl (w13, 9, .inr (.inl le13))), (hF, .inr (2, [.ref f0, .ref f1, .ref f2, .ref f3, .ref f4, .int sn, .int (nI (ks)), .int (nI (kw))])), (f0, .inl (z0, 10, .inl g0)), (f1, .inl (z1, 10, .inl g1)), (f2, .inl (z2, 10, .inl g2)), (f3, .inl (z3, 10, .inl g3)), (f4, .inl (z4, 4, .inl g4)), (jK, .inr (5, [.ref k0, .ref k1])), (k0, .inl (cK, 8, .inl ll0)), (k1, .inl (cO, 32, .inl ll1))] H := by rw [ef_22]; exact ⟨hP, hD⟩
        have hP := hPD.1
        have hD := hPD.2
        refine lv_aload_n hx hb dX1_begin_115 rfl (lv_at hl 1 rfl) ?_
        refine va_get (D := (dC, dI)) (ci := 1) (v := .ref d5) (C := RX1) (T := TX1) (N := 19) hx hb hts (fun _ h => List.mem_cons_of_mem _ (List.mem_append_right _ (List.mem_append_left _ h))) hown hK hP 0 rfl rfl 5 kc_l_5_19 (hts (.fieldLink RX1 21 "NotEnded$Course" "tellsSince" "[I") (List.mem_cons_of_mem _ (List.mem_append_left _ (List.mem_of_getElem? (i := 19) rfl)))) (fun _ h9 => h9) rfl dX1_begin_116 ?_
        refine lv_iload hx hb dX1_begin_119 (lv_at hl 0 rfl) ?_
        refine lv_iconst (v := (-1)) hx hb dX1_begin_121 kc_i_m1 ?_
        refine va_iast hx hb hK hP hD hS 4 3 rfl rfl (vp_in_nI (n := i) (N := 10) bd_16 kc_31_10) dX1_begin_122 (fun H locs hP hD hS => ?_)
        obtain ⟨f_23, ef_23⟩ : ∃ gg9 : Nat → Int32, gg9 = upd le5 (Int32.toNatClampNeg (nI (i))) (-1) := ⟨_, rfl⟩
        have hPD : kPD dC dI A [(jC, .inr (1, [.ref hF, .ref jK, .ref d2, .ref d3, .ref d4, .ref d5, .ref d6, .ref d7, .ref d8, .ref d9, .ref d10, .ref d11, .ref d12, .ref d13, .ref ru, .long ldr, .int lpr, .int lmo, .int lho])), (d2, .inl (w2, 10, .inl f_18)), (d3, .inl (w3, 10, .inl f_20)), (d4, .inl (w4, 10, .inl f_22)), (d5, .inl (w5, 10, .inl f_23)), (d6, .inl (w6, 10, .inl le6)), (d7, .inl (w7, 10, .inl le7)), (d8, .inl (w8, 10, .inl le8)), (d9, .inl (w9, 10, .inl le9)), (d10, .inl (w10, 4, .inl le10)), (d11, .inl (w11, 4, .inl le11)), (d12, .inl (w12, 4, .inl le12)), (d13, .inl (w13, 9, .inr (.inl le13))), (hF, .inr (2, [.ref f0, .ref f1, .ref f2, .ref f3, .ref f4, .int sn, .int (nI (ks)), .int (nI (kw))])), (f0, .inl (z0, 10, .inl g0)), (f1, .inl (z1, 10, .inl g1)), (f2, .inl (z2, 10, .inl g2)), (f3, .inl (z3, 10, .inl g3)), (f4, .inl (z4, 4, .inl g4)), (jK, .inr (5, [.ref k0, .ref k1])), (k0, .inl (cK, 8, .inl ll0)), (k1, .inl (cO, 32, .inl ll1))] H := by rw [ef_23]; exact ⟨hP, hD⟩
        have hP := hPD.1
        have hD := hPD.2
        refine lv_iinc (v := nI (i + 1)) hx hb dX1_begin_123 hl (k := 0) rfl (kInc _ 1) kc_l_5_6 (kTo [(5, .int (nI (i + 1))), (0, .ref jC), (1, .ref ru), (2, .long p1), (4, .int p2)]) (fun ls hl => ?_)
        refine lv_goto (tgt := 52) hx hb dX1_begin_126 kc_t_126_m74 ?_
        exact ih_k_7 (i + 1) f_18 f_20 f_22 f_23 le6 le7 le8 le9 le10 le11 le12 le13 ll0 ll1 ldr lpr lmo lho (by omega) _ _ hP hD hS ls (lv_sub hl [0, 1, 2, 3, 4] rfl) (by omega)
  exact lp_k_7 (ks - 0 + 1) 0 e2 e3 e4 e5 e6 e7 e8 e9 e10 e11 e12 e13 l0 l1 p1 x_3 x_6 0 (by omega) _ _ hP hD hS ls (lv_sub hl [0, 1, 2, 3, 4] rfl) (by omega)

theorem dX3_isSo_0 : decode cX3_isSo 0 = .ok (.aload_n 0, 1) := kDs0 kf_42 (by decide +kernel)
theorem dX3_isSo_1 : decode cX3_isSo 1 = .ok (.getfield 18, 3) := kDs2 kf_180 (by decide +kernel)
theorem dX3_isSo_4 : decode cX3_isSo 4 = .ok (.iload_n 2, 1) := kDs0 kf_28 (by decide +kernel)
theorem dX3_isSo_5 : decode cX3_isSo 5 = .ok (.iaload, 1) := kDs0 kf_46 (by decide +kernel)
theorem dX3_isSo_6 : decode cX3_isSo 6 = .ok (.ifCond .ne 38, 3) := kDs4 kf_154 (by decide +kernel)
theorem dX3_isSo_44 : decode cX3_isSo 44 = .ok (.aload_n 1, 1) := kDs0 kf_43 (by decide +kernel)
theorem dX3_isSo_45 : decode cX3_isSo 45 = .ok (.aload_n 0, 1) := kDs0 kf_42 (by decide +kernel)
theorem dX3_isSo_46 : decode cX3_isSo 46 = .ok (.getfield 9, 3) := kDs2 kf_180 (by decide +kernel)
theorem dX3_isSo_49 : decode cX3_isSo 49 = .ok (.iload_n 2, 1) := kDs0 kf_28 (by decide +kernel)
theorem dX3_isSo_50 : decode cX3_isSo 50 = .ok (.iaload, 1) := kDs0 kf_46 (by decide +kernel)
theorem dX3_isSo_51 : decode cX3_isSo 51 = .ok (.invokevirtual 50, 3) := kDs2 kf_182 (by decide +kernel)
theorem dX3_isSo_54 : decode cX3_isSo 54 = .ok (.aload_n 0, 1) := kDs0 kf_42 (by decide +kernel)
theorem dX3_isSo_55 : decode cX3_isSo 55 = .ok (.getfield 21, 3) := kDs2 kf_180 (by decide +kernel)
theorem dX3_isSo_58 : decode cX3_isSo 58 = .ok (.iload_n 2, 1) := kDs0 kf_28 (by decide +kernel)
theorem dX3_isSo_59 : decode cX3_isSo 59 = .ok (.iaload, 1) := kDs0 kf_46 (by decide +kernel)
theorem dX3_isSo_60 : decode cX3_isSo 60 = .ok (.if_icmp .ne 7, 3) := kDs4 kf_160 (by decide +kernel)
theorem dX3_isSo_67 : decode cX3_isSo 67 = .ok (.iconst 0, 1) := kDs0 kf_3 (by decide +kernel)
theorem dX3_isSo_68 : decode cX3_isSo 68 = .ok (.ireturn, 1) := kDs0 kf_172 (by decide +kernel)
theorem dX3_isSo_63 : decode cX3_isSo 63 = .ok (.iconst 1, 1) := kDs0 kf_4 (by decide +kernel)
theorem dX3_isSo_64 : decode cX3_isSo 64 = .ok (.goto 4, 3) := kDs4 kf_167 (by decide +kernel)
theorem dX3_isSo_9 : decode cX3_isSo 9 = .ok (.aload_n 1, 1) := kDs0 kf_43 (by decide +kernel)
theorem dX3_isSo_10 : decode cX3_isSo 10 = .ok (.aload_n 0, 1) := kDs0 kf_42 (by decide +kernel)
theorem dX3_isSo_11 : decode cX3_isSo 11 = .ok (.getfield 9, 3) := kDs2 kf_180 (by decide +kernel)
theorem dX3_isSo_14 : decode cX3_isSo 14 = .ok (.iload_n 2, 1) := kDs0 kf_28 (by decide +kernel)
theorem dX3_isSo_15 : decode cX3_isSo 15 = .ok (.iaload, 1) := kDs0 kf_46 (by decide +kernel)
theorem dX3_isSo_16 : decode cX3_isSo 16 = .ok (.invokevirtual 39, 3) := kDs2 kf_182 (by decide +kernel)
theorem dX3_isSo_19 : decode cX3_isSo 19 = .ok (.aload_n 0, 1) := kDs0 kf_42 (by decide +kernel)
theorem dX3_isSo_20 : decode cX3_isSo 20 = .ok (.getfield 21, 3) := kDs2 kf_180 (by decide +kernel)
theorem dX3_isSo_23 : decode cX3_isSo 23 = .ok (.iload_n 2, 1) := kDs0 kf_28 (by decide +kernel)
theorem dX3_isSo_24 : decode cX3_isSo 24 = .ok (.iaload, 1) := kDs0 kf_46 (by decide +kernel)
theorem dX3_isSo_25 : decode cX3_isSo 25 = .ok (.isub, 1) := kDs0 kf_100 (by decide +kernel)
theorem dX3_isSo_26 : decode cX3_isSo 26 = .ok (.invokestatic 45, 3) := kDs2 kf_184 (by decide +kernel)
theorem dX3_isSo_29 : decode cX3_isSo 29 = .ok (.aload_n 0, 1) := kDs0 kf_42 (by decide +kernel)
theorem dX3_isSo_30 : decode cX3_isSo 30 = .ok (.getfield 24, 3) := kDs2 kf_180 (by decide +kernel)
theorem dX3_isSo_33 : decode cX3_isSo 33 = .ok (.iload_n 2, 1) := kDs0 kf_28 (by decide +kernel)
theorem dX3_isSo_34 : decode cX3_isSo 34 = .ok (.iaload, 1) := kDs0 kf_46 (by decide +kernel)
theorem dX3_isSo_35 : decode cX3_isSo 35 = .ok (.if_icmp .gt 7, 3) := kDs4 kf_163 (by decide +kernel)
theorem dX3_isSo_42 : decode cX3_isSo 42 = .ok (.iconst 0, 1) := kDs0 kf_3 (by decide +kernel)
theorem dX3_isSo_43 : decode cX3_isSo 43 = .ok (.ireturn, 1) := kDs0 kf_172 (by decide +kernel)
theorem dX3_isSo_38 : decode cX3_isSo 38 = .ok (.iconst 1, 1) := kDs0 kf_4 (by decide +kernel)
theorem dX3_isSo_39 : decode cX3_isSo 39 = .ok (.goto 4, 3) := kDs4 kf_167 (by decide +kernel)
def w_s_isSo3 : List Cond := .code yX3_isSo cX3_isSo 3 (some .boolean) :: ([.fieldLink RX3 18 "NotEnded$Notebook" "kinds" "[I", .fieldLink RX3 9 "NotEnded$Notebook" "persons" "[I", .initialized RX1, .selects RX1 yX1_placeOf yX1_placeOf, .instanceMethod yX1_placeOf, .methodLink RX3 50 yX1_placeOf, .fieldLink RX3 21 "NotEnded$Notebook" "values" "[I", .selects RX1 yX1_heldBy yX1_heldBy, .instanceMethod yX1_heldBy, .methodLink RX3 39 yX1_heldBy, .methodLink RX3 45 Lib.Math.abs.name, .static Lib.Math.abs.name, .initialized RJ9, .code Lib.Math.abs.name Lib.Math.abs.code 1 (some .int), .fieldLink RX3 24 "NotEnded$Notebook" "offs" "[I"] ++ (wsX30 ++ (w_s_placeOf1 ++ (w_s_heldBy1))))
theorem gw_s_isSo3 : (w_s_isSo3).all goodWord = true := kGc rfl (kGa (by decide +kernel) (kGa gw_wsX30 (kGa gw_s_placeOf1 gw_s_heldBy1)))
theorem hd_X3_isSo : yX3_isSo.cls ≠ "java/lang/invoke/MethodHandle" ∧ yX3_isSo.cls ≠ "java/lang/invoke/VarHandle" ∧ (parseMethodDescriptor yX3_isSo.desc).map (fun d => d.parameters.length) = some 2 := by decide +kernel
set_option maxHeartbeats 4000000 in
set_option maxRecDepth 100000 in
theorem s_isSo3 (l : Launch) (dC : Nat → ClassId) (dI : Nat → Nat → Nat) (jC : Nat) (d2 : Nat) (d3 : Nat) (d4 : Nat) (d5 : Nat) (d6 : Nat) (d7 : Nat) (d8 : Nat) (d9 : Nat) (d10 : Nat) (d11 : Nat) (d12 : Nat) (d13 : Nat) (w2 : ClassId) (w3 : ClassId) (w4 : ClassId) (w5 : ClassId) (w6 : ClassId) (w7 : ClassId) (w8 : ClassId) (w9 : ClassId) (w10 : ClassId) (w11 : ClassId) (w12 : ClassId) (w13 : ClassId) (e2 : Nat → Int32) (e3 : Nat → Int32) (e4 : Nat → Int32) (e5 : Nat → Int32) (e6 : Nat → Int32) (e7 : Nat → Int32) (e8 : Nat → Int32) (e9 : Nat → Int32) (e10 : Nat → Int32) (e11 : Nat → Int32) (e12 : Nat → Int32) (e13 : Nat → Int64) (dr : Int64) (pr : Int32) (mo : Int32) (ho : Int32) (hF : Nat) (f0 : Nat) (f1 : Nat) (f2 : Nat) (f3 : Nat) (f4 : Nat) (z0 : ClassId) (z1 : ClassId) (z2 : ClassId) (z3 : ClassId) (z4 : ClassId) (g0 : Nat → Int32) (g1 : Nat → Int32) (g2 : Nat → Int32) (g3 : Nat → Int32) (g4 : Nat → Int32) (sn : Int32) (ks : Nat) (kw : Nat) (hks : ks ≤ 10) (hkw : kw ≤ 4) (jK : Nat) (k0 : Nat) (k1 : Nat) (cK : ClassId) (cO : ClassId) (l0 : Nat → Int32) (l1 : Nat → Int32) (ru : Nat) (sA : Nat) (cl : Nat) (cS : ClassId) (cc : ClassId) (nS : Nat) (nC : Nat) (gS : Nat → Int32) (gC : Nat → Int32) (hnS : nS ≤ 200) (hnC : nC ≤ 200) (A : Nat → Prop) (hN : Nat) (o0 : Nat) (o1 : Nat) (o2 : Nat) (o3 : Nat) (o4 : Nat) (y0 : ClassId) (y1 : ClassId) (y2 : ClassId) (y3 : ClassId) (y4 : ClassId) (q0 : Nat → Int32) (q1 : Nat → Int32) (q2 : Nat → Int32) (q3 : Nat → Int32) (q4 : Nat → Int32) (kn : Nat) (hkn : kn ≤ 20) (pk : Nat) (hpk : pk < kn) : Met l yX3_isSo w_s_isSo3 ({ frames := 4, cells := 0, slots := 0, locals := 240 }) (kR dC dI [.ref hN, .ref jC, .int (nI (pk))] [(hN, .inr (3, [.ref o0, .ref o1, .ref o2, .ref o3, .ref o4, .int (nI (kn))])), (o0, .inl (y0, 20, .inl q0)), (o1, .inl (y1, 20, .inl q1)), (o2, .inl (y2, 20, .inl q2)), (o3, .inl (y3, 20, .inl q3)), (o4, .inl (y4, 20, .inl q4)), (jC, .inr (1, [.ref hF, .ref jK, .ref d2, .ref d3, .ref d4, .ref d5, .ref d6, .ref d7, .ref d8, .ref d9, .ref d10, .ref d11, .ref d12, .ref d13, .ref ru, .long dr, .int pr, .int mo, .int ho])), (d2, .inl (w2, 10, .inl e2)), (d3, .inl (w3, 10, .inl e3)), (d4, .inl (w4, 10, .inl e4)), (d5, .inl (w5, 10, .inl e5)), (d6, .inl (w6, 10, .inl e6)), (d7, .inl (w7, 10, .inl e7)), (d8, .inl (w8, 10, .inl e8)), (d9, .inl (w9, 10, .inl e9)), (d10, .inl (w10, 4, .inl e10)), (d11, .inl (w11, 4, .inl e11)), (d12, .inl (w12, 4, .inl e12)), (d13, .inl (w13, 9, .inr (.inl e13))), (hF, .inr (2, [.ref f0, .ref f1, .ref f2, .ref f3, .ref f4, .int sn, .int (nI (ks)), .int (nI (kw))])), (f0, .inl (z0, 10, .inl g0)), (f1, .inl (z1, 10, .inl g1)), (f2, .inl (z2, 10, .inl g2)), (f3, .inl (z3, 10, .inl g3)), (f4, .inl (z4, 4, .inl g4)), (jK, .inr (5, [.ref k0, .ref k1])), (k0, .inl (cK, 8, .inl l0)), (k1, .inl (cO, 32, .inl l1))] [(y0, .int), (y1, .int), (y2, .int), (y3, .int), (y4, .int), (w2, .int), (w3, .int), (w4, .int), (w5, .int), (w6, .int), (w7, .int), (w8, .int), (w9, .int), (w10, .int), (w11, .int), (w12, .int), (w13, .long), (z0, .int), (z1, .int), (z2, .int), (z3, .int), (z4, .int), (cK, .int), (cO, .int), (cS, .int), (cc, .int)] (kNF dC dI [(ru, .inr (6, [.ref sA, .ref cl])), (sA, .inl (cS, nS, .inl gS)), (cl, .inl (cc, nC, .inl gC))] A)) (vp_Si (fun r : Int32 => (r = 0 ∨ r = 1))) 0 0 (fun _ => False) := by
  refine Met.ofW (cc := cX3_isSo) (maxL := 3) (ret := (some .boolean)) (by decide) rfl ?_
  intro p e s m args below meth c s₁ B hml hv
  obtain ⟨rfl, hP, hK, hX⟩ := hv
  have hx := B.exec
  have hb := B.bytes
  have hr := B.returns
  have hts := atoms_spec (ws := w_s_isSo3) B.pre
  have hown : s.vm.findClass RX3 = some m.cls := findClass_of_methodNamed B.named
  have hlocks := B.notSynchronized
  have hS : va_S A s.heap s.heap [] := va_S.rf
  have hP : va_P (dC, dI) vwCl [(hN, .inr (3, [.ref o0, .ref o1, .ref o2, .ref o3, .ref o4, .int (nI (kn))])), (o0, .inl (y0, 20, .inl q0)), (o1, .inl (y1, 20, .inl q1)), (o2, .inl (y2, 20, .inl q2)), (o3, .inl (y3, 20, .inl q3)), (o4, .inl (y4, 20, .inl q4)), (jC, .inr (1, [.ref hF, .ref jK, .ref d2, .ref d3, .ref d4, .ref d5, .ref d6, .ref d7, .ref d8, .ref d9, .ref d10, .ref d11, .ref d12, .ref d13, .ref ru, .long dr, .int pr, .int mo, .int ho])), (d2, .inl (w2, 10, .inl e2)), (d3, .inl (w3, 10, .inl e3)), (d4, .inl (w4, 10, .inl e4)), (d5, .inl (w5, 10, .inl e5)), (d6, .inl (w6, 10, .inl e6)), (d7, .inl (w7, 10, .inl e7)), (d8, .inl (w8, 10, .inl e8)), (d9, .inl (w9, 10, .inl e9)), (d10, .inl (w10, 4, .inl e10)), (d11, .inl (w11, 4, .inl e11)), (d12, .inl (w12, 4, .inl e12)), (d13, .inl (w13, 9, .inr (.inl e13))), (hF, .inr (2, [.ref f0, .ref f1, .ref f2, .ref f3, .ref f4, .int sn, .int (nI (ks)), .int (nI (kw))])), (f0, .inl (z0, 10, .inl g0)), (f1, .inl (z1, 10, .inl g1)), (f2, .inl (z2, 10, .inl g2)), (f3, .inl (z3, 10, .inl g3)), (f4, .inl (z4, 4, .inl g4)), (jK, .inr (5, [.ref k0, .ref k1])), (k0, .inl (cK, 8, .inl l0)), (k1, .inl (cO, 32, .inl l1))] s.heap := hP
  have hl := lv_entry ([.ref hN, .ref jC, .int (nI (pk))]) (n := 3) (Nat.le_of_ble_eq_true rfl)
  rw [lg_entry_eq]
  generalize (lg_sl ([.ref hN, .ref jC, .int (nI (pk))]) ++ List.replicate (3 - (lg_sl ([.ref hN, .ref jC, .int (nI (pk))])).length) Slot.unset).toArray = ls at hl ⊢
  have hl : lv_has ls 3 [(0, .ref hN), (1, .ref jC), (2, .int (nI (pk)))] := hl
  refine kQ (fun Q hQ => ?_)
  refine lv_aload_n hx hb dX3_isSo_0 rfl (lv_at hl 0 rfl) ?_
  refine va_get (D := (dC, dI)) (ci := 3) (v := .ref o2) (C := RX3) (T := TX3) (N := 6) hx hb hts (fun _ h => List.mem_cons_of_mem _ (List.mem_append_right _ (List.mem_append_left _ h))) hown hK hP 0 rfl rfl 2 kc_l_2_6 (hts (.fieldLink RX3 18 "NotEnded$Notebook" "kinds" "[I") (List.mem_cons_of_mem _ (List.mem_append_left _ (List.mem_of_getElem? (i := 0) rfl)))) (fun _ h9 => h9) rfl dX3_isSo_1 ?_
  refine lv_iload_n hx hb dX3_isSo_4 rfl (lv_at hl 2 rfl) ?_
  have bd_1 : pk < 20 := by omega
  refine va_iald hx hb hK hP 3 2 rfl rfl (vp_in_nI (n := pk) (N := 20) bd_1 kc_31_20) dX3_isSo_5 ?_
  refine lv_topi (fun x_2 ex_2 => ?_)
  refine lv_if_ne (tgt := 44) hx hb dX3_isSo_6 kc_t_6_38 (fun c_3 => ?_) (fun c_3 => ?_)
  · refine lv_aload_n hx hb dX3_isSo_44 rfl (lv_at hl 1 rfl) ?_
    refine lv_aload_n hx hb dX3_isSo_45 rfl (lv_at hl 0 rfl) ?_
    refine va_get (D := (dC, dI)) (ci := 3) (v := .ref o0) (C := RX3) (T := TX3) (N := 6) hx hb hts (fun _ h => List.mem_cons_of_mem _ (List.mem_append_right _ (List.mem_append_left _ h))) hown hK hP 0 rfl rfl 0 kc_l_0_6 (hts (.fieldLink RX3 9 "NotEnded$Notebook" "persons" "[I") (List.mem_cons_of_mem _ (List.mem_append_left _ (List.mem_of_getElem? (i := 1) rfl)))) (fun _ h9 => h9) rfl dX3_isSo_46 ?_
    refine lv_iload_n hx hb dX3_isSo_49 rfl (lv_at hl 2 rfl) ?_
    refine va_iald hx hb hK hP 1 0 rfl rfl (vp_in_nI (n := pk) (N := 20) bd_1 kc_31_20) dX3_isSo_50 ?_
    refine lv_topi (fun x_4 ex_4 => ?_)
    have hPc := hP.sb (ws2 := [(jC, .inr (1, [.ref hF, .ref jK, .ref d2, .ref d3, .ref d4, .ref d5, .ref d6, .ref d7, .ref d8, .ref d9, .ref d10, .ref d11, .ref d12, .ref d13, .ref ru, .long dr, .int pr, .int mo, .int ho])), (d2, .inl (w2, 10, .inl e2)), (d3, .inl (w3, 10, .inl e3)), (d4, .inl (w4, 10, .inl e4)), (d5, .inl (w5, 10, .inl e5)), (d6, .inl (w6, 10, .inl e6)), (d7, .inl (w7, 10, .inl e7)), (d8, .inl (w8, 10, .inl e8)), (d9, .inl (w9, 10, .inl e9)), (d10, .inl (w10, 4, .inl e10)), (d11, .inl (w11, 4, .inl e11)), (d12, .inl (w12, 4, .inl e12)), (d13, .inl (w13, 9, .inr (.inl e13))), (hF, .inr (2, [.ref f0, .ref f1, .ref f2, .ref f3, .ref f4, .int sn, .int (nI (ks)), .int (nI (kw))])), (f0, .inl (z0, 10, .inl g0)), (f1, .inl (z1, 10, .inl g1)), (f2, .inl (z2, 10, .inl g2)), (f3, .inl (z3, 10, .inl g3)), (f4, .inl (z4, 4, .inl g4)), (jK, .inr (5, [.ref k0, .ref k1])), (k0, .inl (cK, 8, .inl l0)), (k1, .inl (cO, 32, .inl l1))]) [6, 7, 8, 9, 10, 11, 12, 13, 14, 15, 16, 17, 18, 19, 20, 21, 22, 23, 24, 25, 26, 27] rfl
    have hKc := hK.sb (tys2 := [(w2, .int), (w3, .int), (w4, .int), (w5, .int), (w6, .int), (w7, .int), (w8, .int), (w9, .int), (w10, .int), (w11, .int), (w12, .int), (w13, .long), (z0, .int), (z1, .int), (z2, .int), (z3, .int), (z4, .int), (cK, .int), (cO, .int), (cS, .int), (cc, .int)]) [5, 6, 7, 8, 9, 10, 11, 12, 13, 14, 15, 16, 17, 18, 19, 20, 21, 22, 23, 24, 25] rfl
    refine vp_callSi (va_runV (As := [.int x_4]) (rest := []) ⟨hx, hb, hml, hown, hts⟩ (s_placeOf1 l dC dI jC d2 d3 d4 d5 d6 d7 d8 d9 d10 d11 d12 d13 w2 w3 w4 w5 w6 w7 w8 w9 w10 w11 w12 w13 e2 e3 e4 e5 e6 e7 e8 e9 e10 e11 e12 e13 dr pr mo ho hF f0 f1 f2 f3 f4 z0 z1 z2 z3 z4 g0 g1 g2 g3 g4 sn ks kw hks hkw jK k0 k1 cK cO l0 l1 ru sA cl cS cc nS nC gS gC hnS hnC A x_4) (cwV 1 hts (kG (List.forall_mem_cons.mpr ⟨(List.mem_cons_of_mem _ (List.mem_append_left _ (List.mem_of_getElem? (i := 5) rfl))), (List.forall_mem_cons.mpr ⟨(List.mem_cons_of_mem _ (List.mem_append_left _ (List.mem_of_getElem? (i := 4) rfl))), (List.forall_mem_cons.mpr ⟨(List.mem_cons_of_mem _ (List.mem_append_left _ (List.mem_of_getElem? (i := 3) rfl))), (List.forall_mem_cons.mpr ⟨(List.mem_cons_of_mem _ (List.mem_append_left _ (List.mem_of_getElem? (i := 2) rfl))), (fun _ h => absurd h List.not_mem_nil)⟩)⟩)⟩)⟩) (kGV _ _ _ _) (fun _ h => List.mem_cons_of_mem _ (List.mem_append_right _ (List.mem_append_right _ (List.mem_append_left _ h)))) gw_s_placeOf1) rfl rfl rfl ⟨rfl, hd_X1_placeOf⟩ ⟨(Nat.le_of_ble_eq_true rfl), (Nat.le_of_ble_eq_true rfl)⟩) (kR_V kNF_blind (kNF_give hX hS (fun _ h => h)) (va_recv hKc hPc (ci := 1) (q0 := 0) rfl rfl) hPc hKc) rfl rfl hl.1 rfl (lv_room (Nat.le_of_ble_eq_true rfl)) dX3_isSo_51 ⟨(Nat.le_of_ble_eq_true rfl), (Nat.le_of_ble_eq_true rfl)⟩).run (fun r_5 hw => ?_)
    refine lv_aload_n hx hb dX3_isSo_54 rfl (lv_at hl 0 rfl) ?_
    refine va_get (D := (dC, dI)) (ci := 3) (v := .ref o3) (C := RX3) (T := TX3) (N := 6) hx hb hts (fun _ h => List.mem_cons_of_mem _ (List.mem_append_right _ (List.mem_append_left _ h))) hown hK hP 0 rfl rfl 3 kc_l_3_6 (hts (.fieldLink RX3 21 "NotEnded$Notebook" "values" "[I") (List.mem_cons_of_mem _ (List.mem_append_left _ (List.mem_of_getElem? (i := 6) rfl)))) (fun _ h9 => h9) rfl dX3_isSo_55 ?_
    refine lv_iload_n hx hb dX3_isSo_58 rfl (lv_at hl 2 rfl) ?_
    refine va_iald hx hb hK hP 4 3 rfl rfl (vp_in_nI (n := pk) (N := 20) bd_1 kc_31_20) dX3_isSo_59 ?_
    refine lv_topi (fun x_6 ex_6 => ?_)
    refine lv_icmp_ne (tgt := 67) hx hb dX3_isSo_60 kc_t_60_7 (fun c_7 => ?_) (fun c_7 => ?_)
    · refine lv_iconst (v := 0) hx hb dX3_isSo_67 kc_i_0 ?_
      rw [hQ]
      exact W.zret (v := 0) hx hb hr rfl (fun t ht hW => ⟨0, rfl, (Or.inl rfl), ht⟩) (fun _ h => nomatch h) dX3_isSo_68
    · refine lv_iconst (v := 1) hx hb dX3_isSo_63 kc_i_1 ?_
      refine lv_goto (tgt := 68) hx hb dX3_isSo_64 kc_t_64_4 ?_
      rw [hQ]
      exact W.zret (v := 1) hx hb hr rfl (fun t ht hW => ⟨1, rfl, (Or.inr rfl), ht⟩) (fun _ h => nomatch h) dX3_isSo_68
  · refine lv_aload_n hx hb dX3_isSo_9 rfl (lv_at hl 1 rfl) ?_
    refine lv_aload_n hx hb dX3_isSo_10 rfl (lv_at hl 0 rfl) ?_
    refine va_get (D := (dC, dI)) (ci := 3) (v := .ref o0) (C := RX3) (T := TX3) (N := 6) hx hb hts (fun _ h => List.mem_cons_of_mem _ (List.mem_append_right _ (List.mem_append_left _ h))) hown hK hP 0 rfl rfl 0 kc_l_0_6 (hts (.fieldLink RX3 9 "NotEnded$Notebook" "persons" "[I") (List.mem_cons_of_mem _ (List.mem_append_left _ (List.mem_of_getElem? (i := 1) rfl)))) (fun _ h9 => h9) rfl dX3_isSo_11 ?_
    refine lv_iload_n hx hb dX3_isSo_14 rfl (lv_at hl 2 rfl) ?_
    refine va_iald hx hb hK hP 1 0 rfl rfl (vp_in_nI (n := pk) (N := 20) bd_1 kc_31_20) dX3_isSo_15 ?_
    refine lv_topi (fun x_8 ex_8 => ?_)
    have hPc := hP.sb (ws2 := [(jC, .inr (1, [.ref hF, .ref jK, .ref d2, .ref d3, .ref d4, .ref d5, .ref d6, .ref d7, .ref d8, .ref d9, .ref d10, .ref d11, .ref d12, .ref d13, .ref ru, .long dr, .int pr, .int mo, .int ho])), (d2, .inl (w2, 10, .inl e2)), (d3, .inl (w3, 10, .inl e3)), (d4, .inl (w4, 10, .inl e4)), (d5, .inl (w5, 10, .inl e5)), (d6, .inl (w6, 10, .inl e6)), (d7, .inl (w7, 10, .inl e7)), (d8, .inl (w8, 10, .inl e8)), (d9, .inl (w9, 10, .inl e9)), (d10, .inl (w10, 4, .inl e10)), (d11, .inl (w11, 4, .inl e11)), (d12, .inl (w12, 4, .inl e12)), (d13, .inl (w13, 9, .inr (.inl e13))), (hF, .inr (2, [.ref f0, .ref f1, .ref f2, .ref f3, .ref f4, .int sn, .int (nI (ks)), .int (nI (kw))])), (f0, .inl (z0, 10, .inl g0)), (f1, .inl (z1, 10, .inl g1)), (f2, .inl (z2, 10, .inl g2)), (f3, .inl (z3, 10, .inl g3)), (f4, .inl (z4, 4, .inl g4)), (jK, .inr (5, [.ref k0, .ref k1])), (k0, .inl (cK, 8, .inl l0)), (k1, .inl (cO, 32, .inl l1))]) [6, 7, 8, 9, 10, 11, 12, 13, 14, 15, 16, 17, 18, 19, 20, 21, 22, 23, 24, 25, 26, 27] rfl
    have hKc := hK.sb (tys2 := [(w2, .int), (w3, .int), (w4, .int), (w5, .int), (w6, .int), (w7, .int), (w8, .int), (w9, .int), (w10, .int), (w11, .int), (w12, .int), (w13, .long), (z0, .int), (z1, .int), (z2, .int), (z3, .int), (z4, .int), (cK, .int), (cO, .int), (cS, .int), (cc, .int)]) [5, 6, 7, 8, 9, 10, 11, 12, 13, 14, 15, 16, 17, 18, 19, 20, 21, 22, 23, 24, 25] rfl
    refine vp_callSi (va_runV (As := [.int x_8]) (rest := []) ⟨hx, hb, hml, hown, hts⟩ (s_heldBy1 l dC dI jC d2 d3 d4 d5 d6 d7 d8 d9 d10 d11 d12 d13 w2 w3 w4 w5 w6 w7 w8 w9 w10 w11 w12 w13 e2 e3 e4 e5 e6 e7 e8 e9 e10 e11 e12 e13 dr pr mo ho hF f0 f1 f2 f3 f4 z0 z1 z2 z3 z4 g0 g1 g2 g3 g4 sn ks kw hks hkw jK k0 k1 cK cO l0 l1 ru sA cl cS cc nS nC gS gC hnS hnC A x_8) (cwV 1 hts (kG (List.forall_mem_cons.mpr ⟨(List.mem_cons_of_mem _ (List.mem_append_left _ (List.mem_of_getElem? (i := 9) rfl))), (List.forall_mem_cons.mpr ⟨(List.mem_cons_of_mem _ (List.mem_append_left _ (List.mem_of_getElem? (i := 8) rfl))), (List.forall_mem_cons.mpr ⟨(List.mem_cons_of_mem _ (List.mem_append_left _ (List.mem_of_getElem? (i := 7) rfl))), (List.forall_mem_cons.mpr ⟨(List.mem_cons_of_mem _ (List.mem_append_left _ (List.mem_of_getElem? (i := 2) rfl))), (fun _ h => absurd h List.not_mem_nil)⟩)⟩)⟩)⟩) (kGV _ _ _ _) (fun _ h => List.mem_cons_of_mem _ (List.mem_append_right _ (List.mem_append_right _ (List.mem_append_right _ h)))) gw_s_heldBy1) rfl rfl rfl ⟨rfl, hd_X1_heldBy⟩ ⟨(Nat.le_of_ble_eq_true rfl), (Nat.le_of_ble_eq_true rfl)⟩) (kR_V kNF_blind (kNF_give hX hS (fun _ h => h)) (va_recv hKc hPc (ci := 1) (q0 := 0) rfl rfl) hPc hKc) rfl rfl hl.1 rfl (lv_room (Nat.le_of_ble_eq_true rfl)) dX3_isSo_16 ⟨(Nat.le_of_ble_eq_true rfl), (Nat.le_of_ble_eq_true rfl)⟩).run (fun r_9 hw => ?_)
    refine lv_aload_n hx hb dX3_isSo_19 rfl (lv_at hl 0 rfl) ?_
    refine va_get (D := (dC, dI)) (ci := 3) (v := .ref o3) (C := RX3) (T := TX3) (N := 6) hx hb hts (fun _ h => List.mem_cons_of_mem _ (List.mem_append_right _ (List.mem_append_left _ h))) hown hK hP 0 rfl rfl 3 kc_l_3_6 (hts (.fieldLink RX3 21 "NotEnded$Notebook" "values" "[I") (List.mem_cons_of_mem _ (List.mem_append_left _ (List.mem_of_getElem? (i := 6) rfl)))) (fun _ h9 => h9) rfl dX3_isSo_20 ?_
    refine lv_iload_n hx hb dX3_isSo_23 rfl (lv_at hl 2 rfl) ?_
    refine va_iald hx hb hK hP 4 3 rfl rfl (vp_in_nI (n := pk) (N := 20) bd_1 kc_31_20) dX3_isSo_24 ?_
    refine lv_topi (fun x_10 ex_10 => ?_)
    refine lv_isub hx hb dX3_isSo_25 ?_
    refine lv_topi (fun x_11 ex_11 => ?_)
    refine va_mabs hx hb (hml.trans hl.1.symm) hown (hts (.methodLink RX3 45 Lib.Math.abs.name) (List.mem_cons_of_mem _ (List.mem_append_left _ (List.mem_of_getElem? (i := 10) rfl)))) (hts (.static Lib.Math.abs.name) (List.mem_cons_of_mem _ (List.mem_append_left _ (List.mem_of_getElem? (i := 11) rfl)))) (hts (.initialized RJ9) (List.mem_cons_of_mem _ (List.mem_append_left _ (List.mem_of_getElem? (i := 12) rfl)))) (hts (.code Lib.Math.abs.name Lib.Math.abs.code 1 (some .int)) (List.mem_cons_of_mem _ (List.mem_append_left _ (List.mem_of_getElem? (i := 13) rfl)))) (Nat.le_of_ble_eq_true rfl) (Nat.le_of_ble_eq_true rfl) (Nat.le_of_ble_eq_true rfl) (Nat.le_of_ble_eq_true rfl) dX3_isSo_26 ?_
    refine lv_topi (fun x_12 ex_12 => ?_)
    refine lv_aload_n hx hb dX3_isSo_29 rfl (lv_at hl 0 rfl) ?_
    refine va_get (D := (dC, dI)) (ci := 3) (v := .ref o4) (C := RX3) (T := TX3) (N := 6) hx hb hts (fun _ h => List.mem_cons_of_mem _ (List.mem_append_right _ (List.mem_append_left _ h))) hown hK hP 0 rfl rfl 4 kc_l_4_6 (hts (.fieldLink RX3 24 "NotEnded$Notebook" "offs" "[I") (List.mem_cons_of_mem _ (List.mem_append_left _ (List.mem_of_getElem? (i := 14) rfl)))) (fun _ h9 => h9) rfl dX3_isSo_30 ?_
    refine lv_iload_n hx hb dX3_isSo_33 rfl (lv_at hl 2 rfl) ?_
    refine va_iald hx hb hK hP 5 4 rfl rfl (vp_in_nI (n := pk) (N := 20) bd_1 kc_31_20) dX3_isSo_34 ?_
    refine lv_topi (fun x_13 ex_13 => ?_)
    refine lv_icmp_gt (tgt := 42) hx hb dX3_isSo_35 kc_t_35_7 (fun c_14 => ?_) (fun c_14 => ?_)
    · refine lv_iconst (v := 0) hx hb dX3_isSo_42 kc_i_0 ?_
      rw [hQ]
      exact W.zret (v := 0) hx hb hr rfl (fun t ht hW => ⟨0, rfl, (Or.inl rfl), ht⟩) (fun _ h => nomatch h) dX3_isSo_43
    · refine lv_iconst (v := 1) hx hb dX3_isSo_38 kc_i_1 ?_
      refine lv_goto (tgt := 43) hx hb dX3_isSo_39 kc_t_39_4 ?_
      rw [hQ]
      exact W.zret (v := 1) hx hb hr rfl (fun t ht hW => ⟨1, rfl, (Or.inr rfl), ht⟩) (fun _ h => nomatch h) dX3_isSo_43

theorem dX3_agrees_0 : decode cX3_agrees 0 = .ok (.aload_n 1, 1) := kDs0 kf_43 (by decide +kernel)
theorem dX3_agrees_1 : decode cX3_agrees 1 = .ok (.ifnonnull 5, 3) := kDs4 kf_199 (by decide +kernel)
theorem dX3_agrees_6 : decode cX3_agrees 6 = .ok (.iconst 0, 1) := kDs0 kf_3 (by decide +kernel)
theorem dX3_agrees_7 : decode cX3_agrees 7 = .ok (.istore 4, 2) := kDs1 kf_54 (by decide +kernel)
theorem dX3_agrees_9 : decode cX3_agrees 9 = .ok (.iload 4, 2) := kDs1 kf_21 (by decide +kernel)
theorem dX3_agrees_11 : decode cX3_agrees 11 = .ok (.aload_n 0, 1) := kDs0 kf_42 (by decide +kernel)
theorem dX3_agrees_12 : decode cX3_agrees 12 = .ok (.getfield 27, 3) := kDs2 kf_180 (by decide +kernel)
theorem dX3_agrees_15 : decode cX3_agrees 15 = .ok (.if_icmp .ge 46, 3) := kDs4 kf_162 (by decide +kernel)
theorem dX3_agrees_61 : decode cX3_agrees 61 = .ok (.iconst 1, 1) := kDs0 kf_4 (by decide +kernel)
theorem dX3_agrees_62 : decode cX3_agrees 62 = .ok (.ireturn, 1) := kDs0 kf_172 (by decide +kernel)
theorem dX3_agrees_18 : decode cX3_agrees 18 = .ok (.aload_n 0, 1) := kDs0 kf_42 (by decide +kernel)
theorem dX3_agrees_19 : decode cX3_agrees 19 = .ok (.getfield 15, 3) := kDs2 kf_180 (by decide +kernel)
theorem dX3_agrees_22 : decode cX3_agrees 22 = .ok (.iload 4, 2) := kDs1 kf_21 (by decide +kernel)
theorem dX3_agrees_24 : decode cX3_agrees 24 = .ok (.iaload, 1) := kDs0 kf_46 (by decide +kernel)
theorem dX3_agrees_25 : decode cX3_agrees 25 = .ok (.iload_n 2, 1) := kDs0 kf_28 (by decide +kernel)
theorem dX3_agrees_26 : decode cX3_agrees 26 = .ok (.if_icmp .ne 29, 3) := kDs4 kf_160 (by decide +kernel)
theorem dX3_agrees_55 : decode cX3_agrees 55 = .ok (.iinc 4 1, 3) := kDs5 kf_132 (by decide +kernel)
theorem dX3_agrees_58 : decode cX3_agrees 58 = .ok (.goto (-49), 3) := kDs4 kf_167 (by decide +kernel)
theorem dX3_agrees_29 : decode cX3_agrees 29 = .ok (.iload_n 3, 1) := kDs0 kf_29 (by decide +kernel)
theorem dX3_agrees_30 : decode cX3_agrees 30 = .ok (.aload_n 0, 1) := kDs0 kf_42 (by decide +kernel)
theorem dX3_agrees_31 : decode cX3_agrees 31 = .ok (.getfield 9, 3) := kDs2 kf_180 (by decide +kernel)
theorem dX3_agrees_34 : decode cX3_agrees 34 = .ok (.iload 4, 2) := kDs1 kf_21 (by decide +kernel)
theorem dX3_agrees_36 : decode cX3_agrees 36 = .ok (.iaload, 1) := kDs0 kf_46 (by decide +kernel)
theorem dX3_agrees_37 : decode cX3_agrees 37 = .ok (.invokestatic 31, 3) := kDs2 kf_184 (by decide +kernel)
theorem dX3_agrees_40 : decode cX3_agrees 40 = .ok (.ifCond .eq 15, 3) := kDs4 kf_153 (by decide +kernel)
theorem dX3_agrees_43 : decode cX3_agrees 43 = .ok (.aload_n 0, 1) := kDs0 kf_42 (by decide +kernel)
theorem dX3_agrees_44 : decode cX3_agrees 44 = .ok (.aload_n 1, 1) := kDs0 kf_43 (by decide +kernel)
theorem dX3_agrees_45 : decode cX3_agrees 45 = .ok (.iload 4, 2) := kDs1 kf_21 (by decide +kernel)
theorem dX3_agrees_47 : decode cX3_agrees 47 = .ok (.invokevirtual 35, 3) := kDs2 kf_182 (by decide +kernel)
theorem dX3_agrees_50 : decode cX3_agrees 50 = .ok (.ifCond .ne 5, 3) := kDs4 kf_154 (by decide +kernel)
theorem dX3_agrees_53 : decode cX3_agrees 53 = .ok (.iconst 0, 1) := kDs0 kf_3 (by decide +kernel)
theorem dX3_agrees_54 : decode cX3_agrees 54 = .ok (.ireturn, 1) := kDs0 kf_172 (by decide +kernel)
def w_s_agrees3 : List Cond := .code yX3_agrees cX3_agrees 5 (some .boolean) :: ([.fieldLink RX3 27 "NotEnded$Notebook" "size" "I", .fieldLink RX3 15 "NotEnded$Notebook" "hours" "[I", .fieldLink RX3 9 "NotEnded$Notebook" "persons" "[I", .initialized RX9, .static yX9_isBit, .initialized RX3, .selects RX3 yX3_isSo yX3_isSo, .instanceMethod yX3_isSo, .methodLink RX3 35 yX3_isSo] ++ (wsX30 ++ (w_s_isBit9 ++ (w_s_isSo3))))
theorem gw_s_agrees3 : (w_s_agrees3).all goodWord = true := kGc rfl (kGa (by decide +kernel) (kGa gw_wsX30 (kGa gw_s_isBit9 gw_s_isSo3)))
theorem hd_X3_agrees : yX3_agrees.cls ≠ "java/lang/invoke/MethodHandle" ∧ yX3_agrees.cls ≠ "java/lang/invoke/VarHandle" ∧ (parseMethodDescriptor yX3_agrees.desc).map (fun d => d.parameters.length) = some 3 := by decide +kernel
set_option maxHeartbeats 4000000 in
set_option maxRecDepth 100000 in
theorem s_agrees3 (l : Launch) (dC : Nat → ClassId) (dI : Nat → Nat → Nat) (jC : Nat) (d2 : Nat) (d3 : Nat) (d4 : Nat) (d5 : Nat) (d6 : Nat) (d7 : Nat) (d8 : Nat) (d9 : Nat) (d10 : Nat) (d11 : Nat) (d12 : Nat) (d13 : Nat) (w2 : ClassId) (w3 : ClassId) (w4 : ClassId) (w5 : ClassId) (w6 : ClassId) (w7 : ClassId) (w8 : ClassId) (w9 : ClassId) (w10 : ClassId) (w11 : ClassId) (w12 : ClassId) (w13 : ClassId) (e2 : Nat → Int32) (e3 : Nat → Int32) (e4 : Nat → Int32) (e5 : Nat → Int32) (e6 : Nat → Int32) (e7 : Nat → Int32) (e8 : Nat → Int32) (e9 : Nat → Int32) (e10 : Nat → Int32) (e11 : Nat → Int32) (e12 : Nat → Int32) (e13 : Nat → Int64) (dr : Int64) (pr : Int32) (mo : Int32) (ho : Int32) (hF : Nat) (f0 : Nat) (f1 : Nat) (f2 : Nat) (f3 : Nat) (f4 : Nat) (z0 : ClassId) (z1 : ClassId) (z2 : ClassId) (z3 : ClassId) (z4 : ClassId) (g0 : Nat → Int32) (g1 : Nat → Int32) (g2 : Nat → Int32) (g3 : Nat → Int32) (g4 : Nat → Int32) (sn : Int32) (ks : Nat) (kw : Nat) (hks : ks ≤ 10) (hkw : kw ≤ 4) (jK : Nat) (k0 : Nat) (k1 : Nat) (cK : ClassId) (cO : ClassId) (l0 : Nat → Int32) (l1 : Nat → Int32) (ru : Nat) (sA : Nat) (cl : Nat) (cS : ClassId) (cc : ClassId) (nS : Nat) (nC : Nat) (gS : Nat → Int32) (gC : Nat → Int32) (hnS : nS ≤ 200) (hnC : nC ≤ 200) (A : Nat → Prop) (hN : Nat) (o0 : Nat) (o1 : Nat) (o2 : Nat) (o3 : Nat) (o4 : Nat) (y0 : ClassId) (y1 : ClassId) (y2 : ClassId) (y3 : ClassId) (y4 : ClassId) (q0 : Nat → Int32) (q1 : Nat → Int32) (q2 : Nat → Int32) (q3 : Nat → Int32) (q4 : Nat → Int32) (kn : Nat) (hkn : kn ≤ 20) (p1 : Int32) (p2 : Int32) : Met l yX3_agrees w_s_agrees3 ({ frames := 5, cells := 0, slots := 0, locals := 300 }) (kR dC dI [.ref hN, .ref jC, .int p1, .int p2] [(hN, .inr (3, [.ref o0, .ref o1, .ref o2, .ref o3, .ref o4, .int (nI (kn))])), (o0, .inl (y0, 20, .inl q0)), (o1, .inl (y1, 20, .inl q1)), (o2, .inl (y2, 20, .inl q2)), (o3, .inl (y3, 20, .inl q3)), (o4, .inl (y4, 20, .inl q4)), (jC, .inr (1, [.ref hF, .ref jK, .ref d2, .ref d3, .ref d4, .ref d5, .ref d6, .ref d7, .ref d8, .ref d9, .ref d10, .ref d11, .ref d12, .ref d13, .ref ru, .long dr, .int pr, .int mo, .int ho])), (d2, .inl (w2, 10, .inl e2)), (d3, .inl (w3, 10, .inl e3)), (d4, .inl (w4, 10, .inl e4)), (d5, .inl (w5, 10, .inl e5)), (d6, .inl (w6, 10, .inl e6)), (d7, .inl (w7, 10, .inl e7)), (d8, .inl (w8, 10, .inl e8)), (d9, .inl (w9, 10, .inl e9)), (d10, .inl (w10, 4, .inl e10)), (d11, .inl (w11, 4, .inl e11)), (d12, .inl (w12, 4, .inl e12)), (d13, .inl (w13, 9, .inr (.inl e13))), (hF, .inr (2, [.ref f0, .ref f1, .ref f2, .ref f3, .ref f4, .int sn, .int (nI (ks)), .int (nI (kw))])), (f0, .inl (z0, 10, .inl g0)), (f1, .inl (z1, 10, .inl g1)), (f2, .inl (z2, 10, .inl g2)), (f3, .inl (z3, 10, .inl g3)), (f4, .inl (z4, 4, .inl g4)), (jK, .inr (5, [.ref k0, .ref k1])), (k0, .inl (cK, 8, .inl l0)), (k1, .inl (cO, 32, .inl l1))] [(y0, .int), (y1, .int), (y2, .int), (y3, .int), (y4, .int), (w2, .int), (w3, .int), (w4, .int), (w5, .int), (w6, .int), (w7, .int), (w8, .int), (w9, .int), (w10, .int), (w11, .int), (w12, .int), (w13, .long), (z0, .int), (z1, .int), (z2, .int), (z3, .int), (z4, .int), (cK, .int), (cO, .int), (cS, .int), (cc, .int)] (kNF dC dI [(ru, .inr (6, [.ref sA, .ref cl])), (sA, .inl (cS, nS, .inl gS)), (cl, .inl (cc, nC, .inl gC))] A)) (vp_Si (fun r : Int32 => (r = 0 ∨ r = 1))) 0 0 (fun _ => False) := by
  refine Met.ofW (cc := cX3_agrees) (maxL := 5) (ret := (some .boolean)) (by decide) rfl ?_
  intro p e s m args below meth c s₁ B hml hv
  obtain ⟨rfl, hP, hK, hX⟩ := hv
  have hx := B.exec
  have hb := B.bytes
  have hr := B.returns
  have hts := atoms_spec (ws := w_s_agrees3) B.pre
  have hown : s.vm.findClass RX3 = some m.cls := findClass_of_methodNamed B.named
  have hlocks := B.notSynchronized
  have hS : va_S A s.heap s.heap [] := va_S.rf
  have hP : va_P (dC, dI) vwCl [(hN, .inr (3, [.ref o0, .ref o1, .ref o2, .ref o3, .ref o4, .int (nI (kn))])), (o0, .inl (y0, 20, .inl q0)), (o1, .inl (y1, 20, .inl q1)), (o2, .inl (y2, 20, .inl q2)), (o3, .inl (y3, 20, .inl q3)), (o4, .inl (y4, 20, .inl q4)), (jC, .inr (1, [.ref hF, .ref jK, .ref d2, .ref d3, .ref d4, .ref d5, .ref d6, .ref d7, .ref d8, .ref d9, .ref d10, .ref d11, .ref d12, .ref d13, .ref ru, .long dr, .int pr, .int mo, .int ho])), (d2, .inl (w2, 10, .inl e2)), (d3, .inl (w3, 10, .inl e3)), (d4, .inl (w4, 10, .inl e4)), (d5, .inl (w5, 10, .inl e5)), (d6, .inl (w6, 10, .inl e6)), (d7, .inl (w7, 10, .inl e7)), (d8, .inl (w8, 10, .inl e8)), (d9, .inl (w9, 10, .inl e9)), (d10, .inl (w10, 4, .inl e10)), (d11, .inl (w11, 4, .inl e11)), (d12, .inl (w12, 4, .inl e12)), (d13, .inl (w13, 9, .inr (.inl e13))), (hF, .inr (2, [.ref f0, .ref f1, .ref f2, .ref f3, .ref f4, .int sn, .int (nI (ks)), .int (nI (kw))])), (f0, .inl (z0, 10, .inl g0)), (f1, .inl (z1, 10, .inl g1)), (f2, .inl (z2, 10, .inl g2)), (f3, .inl (z3, 10, .inl g3)), (f4, .inl (z4, 4, .inl g4)), (jK, .inr (5, [.ref k0, .ref k1])), (k0, .inl (cK, 8, .inl l0)), (k1, .inl (cO, 32, .inl l1))] s.heap := hP
  have hl := lv_entry ([.ref hN, .ref jC, .int p1, .int p2]) (n := 5) (Nat.le_of_ble_eq_true rfl)
  rw [lg_entry_eq]
  generalize (lg_sl ([.ref hN, .ref jC, .int p1, .int p2]) ++ List.replicate (5 - (lg_sl ([.ref hN, .ref jC, .int p1, .int p2])).length) Slot.unset).toArray = ls at hl ⊢
  have hl : lv_has ls 5 [(0, .ref hN), (1, .ref jC), (2, .int p1), (3, .int p2)] := hl
  refine kQ (fun Q hQ => ?_)
  refine lv_aload_n hx hb dX3_agrees_0 rfl (lv_at hl 1 rfl) ?_
  refine lv_ifnonnull (tgt := 6) hx hb dX3_agrees_1 kc_t_1_5 ?_
  refine lv_iconst (v := 0) hx hb dX3_agrees_6 kc_i_0 ?_
  refine lv_istore hx hb dX3_agrees_7 hl kc_l_4_5 (kTo [(4, .int 0), (0, .ref hN), (1, .ref jC), (2, .int p1), (3, .int p2)]) (fun ls hl => ?_)
  have lp_k_1 : ∀ (n9 : Nat) (i : Nat) (ivk_1_0 : i ≤ kn) (ls : Array Slot) (_ : lv_has ls 5 [(4, .int (nI (i))), (0, .ref hN), (1, .ref jC), (2, .int p1), (3, .int p2)]) (_ : kn - i < n9), W p l e (headSpec w_s_agrees3 ({ frames := 5, cells := 0, slots := 0, locals := 300 })).room s m (#[.ref hN, .ref jC, .int p1, .int p2] : Array Value) below meth c s.heap [] 0 0 Q (F0 m 9 ls []) := by
    intro n9
    induction n9 with
    | zero => intro i ivk_1_0 ls hl hm9; exact absurd hm9 (Nat.not_lt_zero _)
    | succ n9 ih_k_1 =>
      intro i ivk_1_0 ls hl hm9
      refine lv_iload hx hb dX3_agrees_9 (lv_at hl 0 rfl) ?_
      refine lv_aload_n hx hb dX3_agrees_11 rfl (lv_at hl 1 rfl) ?_
      refine va_get (D := (dC, dI)) (ci := 3) (v := .int (nI (kn))) (C := RX3) (T := TX3) (N := 6) hx hb hts (fun _ h => List.mem_cons_of_mem _ (List.mem_append_right _ (List.mem_append_left _ h))) hown hK hP 0 rfl rfl 5 kc_l_5_6 (hts (.fieldLink RX3 27 "NotEnded$Notebook" "size" "I") (List.mem_cons_of_mem _ (List.mem_append_left _ (List.mem_of_getElem? (i := 0) rfl)))) (fun _ h9 => h9) rfl dX3_agrees_12 ?_
      refine lv_icmp_ge (tgt := 61) hx hb dX3_agrees_15 kc_t_15_46 (fun c_2 => ?_) (fun c_2 => ?_)
      · have bd_4 : kn < 2147483648 := by omega
        have bd_5 : i < 2147483648 := by omega
        have hn_3 := kle (a := kn) (b := i) bd_4 bd_5 c_2
        refine lv_iconst (v := 1) hx hb dX3_agrees_61 kc_i_1 ?_
        rw [hQ]
        exact W.zret (v := 1) hx hb hr rfl (fun t ht hW => ⟨1, rfl, (Or.inr rfl), ht⟩) (fun _ h => nomatch h) dX3_agrees_62
      · have bd_7 : kn < 2147483648 := by omega
        have bd_8 : i < 2147483648 := by omega
        have hn_6 := knle (a := kn) (b := i) bd_7 bd_8 c_2
        refine lv_aload_n hx hb dX3_agrees_18 rfl (lv_at hl 1 rfl) ?_
        refine va_get (D := (dC, dI)) (ci := 3) (v := .ref o1) (C := RX3) (T := TX3) (N := 6) hx hb hts (fun _ h => List.mem_cons_of_mem _ (List.mem_append_right _ (List.mem_append_left _ h))) hown hK hP 0 rfl rfl 1 kc_l_1_6 (hts (.fieldLink RX3 15 "NotEnded$Notebook" "hours" "[I") (List.mem_cons_of_mem _ (List.mem_append_left _ (List.mem_of_getElem? (i := 1) rfl)))) (fun _ h9 => h9) rfl dX3_agrees_19 ?_
        refine lv_iload hx hb dX3_agrees_22 (lv_at hl 0 rfl) ?_
        have bd_9 : i < 20 := by omega
        refine va_iald hx hb hK hP 2 1 rfl rfl (vp_in_nI (n := i) (N := 20) bd_9 kc_31_20) dX3_agrees_24 ?_
        refine lv_topi (fun x_10 ex_10 => ?_)
        refine lv_iload_n hx hb dX3_agrees_25 rfl (lv_at hl 3 rfl) ?_
        refine lv_icmp_ne (tgt := 55) hx hb dX3_agrees_26 kc_t_26_29 (fun c_11 => ?_) (fun c_11 => ?_)
        · refine lv_iinc (v := nI (i + 1)) hx hb dX3_agrees_55 hl (k := 0) rfl (kInc _ 1) kc_l_4_5 (kTo [(4, .int (nI (i + 1))), (0, .ref hN), (1, .ref jC), (2, .int p1), (3, .int p2)]) (fun ls hl => ?_)
          refine lv_goto (tgt := 9) hx hb dX3_agrees_58 kc_t_58_m49 ?_
          exact ih_k_1 (i + 1) (by omega) ls (lv_sub hl [0, 1, 2, 3, 4] rfl) (by omega)
        · refine lv_iload_n hx hb dX3_agrees_29 rfl (lv_at hl 4 rfl) ?_
          refine lv_aload_n hx hb dX3_agrees_30 rfl (lv_at hl 1 rfl) ?_
          refine va_get (D := (dC, dI)) (ci := 3) (v := .ref o0) (C := RX3) (T := TX3) (N := 6) hx hb hts (fun _ h => List.mem_cons_of_mem _ (List.mem_append_right _ (List.mem_append_left _ h))) hown hK hP 0 rfl rfl 0 kc_l_0_6 (hts (.fieldLink RX3 9 "NotEnded$Notebook" "persons" "[I") (List.mem_cons_of_mem _ (List.mem_append_left _ (List.mem_of_getElem? (i := 2) rfl)))) (fun _ h9 => h9) rfl dX3_agrees_31 ?_
          refine lv_iload hx hb dX3_agrees_34 (lv_at hl 0 rfl) ?_
          refine va_iald hx hb hK hP 1 0 rfl rfl (vp_in_nI (n := i) (N := 20) bd_9 kc_31_20) dX3_agrees_36 ?_
          refine lv_topi (fun x_12 ex_12 => ?_)
          have hPc := hP.sb (ws2 := []) [] rfl
          have hKc := hK.sb (tys2 := []) [] rfl
          refine vp_callSi (va_runSN (As := [.int p2, .int x_12]) (rest := []) ⟨hx, hb, hml, hown, hts⟩ (s_isBit9 l dC dI p2 x_12) (⟨va_cnB 2 hts (goodIn_sub (fun _ h => List.mem_cons_of_mem _ (List.mem_append_right _ (List.mem_append_right _ (List.mem_append_left _ h)))) gw_s_isBit9) rfl rfl rfl (hX.2 _ (List.mem_of_getElem? (i := 16) rfl)) (hts (.initialized RX9) (List.mem_cons_of_mem _ (List.mem_append_left _ (List.mem_of_getElem? (i := 3) rfl)))) hd_X9_isBit ⟨(Nat.le_of_ble_eq_true rfl), (Nat.le_of_ble_eq_true rfl)⟩, (hts (.static yX9_isBit) (List.mem_cons_of_mem _ (List.mem_append_left _ (List.mem_of_getElem? (i := 4) rfl)))), trivial⟩) (kR_S kT_blind kT_give hPc hKc) rfl rfl hl.1 rfl (lv_room (Nat.le_of_ble_eq_true rfl)) dX3_agrees_37 ⟨(Nat.le_of_ble_eq_true rfl), (Nat.le_of_ble_eq_true rfl)⟩).run (fun r_13 hw => ?_)
          have hw_14 := hw
          refine lv_if_eq (tgt := 55) hx hb dX3_agrees_40 kc_t_40_15 (fun c_15 => ?_) (fun c_15 => ?_)
          · refine lv_iinc (v := nI (i + 1)) hx hb dX3_agrees_55 hl (k := 0) rfl (kInc _ 1) kc_l_4_5 (kTo [(4, .int (nI (i + 1))), (0, .ref hN), (1, .ref jC), (2, .int p1), (3, .int p2)]) (fun ls hl => ?_)
            refine lv_goto (tgt := 9) hx hb dX3_agrees_58 kc_t_58_m49 ?_
            exact ih_k_1 (i + 1) (by omega) ls (lv_sub hl [0, 1, 2, 3, 4] rfl) (by omega)
          · refine lv_aload_n hx hb dX3_agrees_43 rfl (lv_at hl 1 rfl) ?_
            refine lv_aload_n hx hb dX3_agrees_44 rfl (lv_at hl 2 rfl) ?_
            refine lv_iload hx hb dX3_agrees_45 (lv_at hl 0 rfl) ?_
            have bd_16 : i < kn := by omega
            have hPc := hP.sb (ws2 := [(hN, .inr (3, [.ref o0, .ref o1, .ref o2, .ref o3, .ref o4, .int (nI (kn))])), (o0, .inl (y0, 20, .inl q0)), (o1, .inl (y1, 20, .inl q1)), (o2, .inl (y2, 20, .inl q2)), (o3, .inl (y3, 20, .inl q3)), (o4, .inl (y4, 20, .inl q4)), (jC, .inr (1, [.ref hF, .ref jK, .ref d2, .ref d3, .ref d4, .ref d5, .ref d6, .ref d7, .ref d8, .ref d9, .ref d10, .ref d11, .ref d12, .ref d13, .ref ru, .long dr, .int pr, .int mo, .int ho])), (d2, .inl (w2, 10, .inl e2)), (d3, .inl (w3, 10, .inl e3)), (d4, .inl (w4, 10, .inl e4)), (d5, .inl (w5, 10, .inl e5)), (d6, .inl (w6, 10, .inl e6)), (d7, .inl (w7, 10, .inl e7)), (d8, .inl (w8, 10, .inl e8)), (d9, .inl (w9, 10, .inl e9)), (d10, .inl (w10, 4, .inl e10)), (d11, .inl (w11, 4, .inl e11)), (d12, .inl (w12, 4, .inl e12)), (d13, .inl (w13, 9, .inr (.inl e13))), (hF, .inr (2, [.ref f0, .ref f1, .ref f2, .ref f3, .ref f4, .int sn, .int (nI (ks)), .int (nI (kw))])), (f0, .inl (z0, 10, .inl g0)), (f1, .inl (z1, 10, .inl g1)), (f2, .inl (z2, 10, .inl g2)), (f3, .inl (z3, 10, .inl g3)), (f4, .inl (z4, 4, .inl g4)), (jK, .inr (5, [.ref k0, .ref k1])), (k0, .inl (cK, 8, .inl l0)), (k1, .inl (cO, 32, .inl l1))]) [0, 1, 2, 3, 4, 5, 6, 7, 8, 9, 10, 11, 12, 13, 14, 15, 16, 17, 18, 19, 20, 21, 22, 23, 24, 25, 26, 27] rfl
            have hKc := hK.sb (tys2 := [(y0, .int), (y1, .int), (y2, .int), (y3, .int), (y4, .int), (w2, .int), (w3, .int), (w4, .int), (w5, .int), (w6, .int), (w7, .int), (w8, .int), (w9, .int), (w10, .int), (w11, .int), (w12, .int), (w13, .long), (z0, .int), (z1, .int), (z2, .int), (z3, .int), (z4, .int), (cK, .int), (cO, .int), (cS, .int), (cc, .int)]) [0, 1, 2, 3, 4, 5, 6, 7, 8, 9, 10, 11, 12, 13, 14, 15, 16, 17, 18, 19, 20, 21, 22, 23, 24, 25] rfl
            refine vp_callSi (va_runV (As := [.ref jC, .int (nI (i))]) (rest := []) ⟨hx, hb, hml, hown, hts⟩ (s_isSo3 l dC dI jC d2 d3 d4 d5 d6 d7 d8 d9 d10 d11 d12 d13 w2 w3 w4 w5 w6 w7 w8 w9 w10 w11 w12 w13 e2 e3 e4 e5 e6 e7 e8 e9 e10 e11 e12 e13 dr pr mo ho hF f0 f1 f2 f3 f4 z0 z1 z2 z3 z4 g0 g1 g2 g3 g4 sn ks kw hks hkw jK k0 k1 cK cO l0 l1 ru sA cl cS cc nS nC gS gC hnS hnC A hN o0 o1 o2 o3 o4 y0 y1 y2 y3 y4 q0 q1 q2 q3 q4 kn hkn i bd_16) (cwV 2 hts (kG (List.forall_mem_cons.mpr ⟨(List.mem_cons_of_mem _ (List.mem_append_left _ (List.mem_of_getElem? (i := 8) rfl))), (List.forall_mem_cons.mpr ⟨(List.mem_cons_of_mem _ (List.mem_append_left _ (List.mem_of_getElem? (i := 7) rfl))), (List.forall_mem_cons.mpr ⟨(List.mem_cons_of_mem _ (List.mem_append_left _ (List.mem_of_getElem? (i := 6) rfl))), (List.forall_mem_cons.mpr ⟨(List.mem_cons_of_mem _ (List.mem_append_left _ (List.mem_of_getElem? (i := 5) rfl))), (fun _ h => absurd h List.not_mem_nil)⟩)⟩)⟩)⟩) (kGV _ _ _ _) (fun _ h => List.mem_cons_of_mem _ (List.mem_append_right _ (List.mem_append_right _ (List.mem_append_right _ h)))) gw_s_isSo3) rfl rfl rfl ⟨rfl, hd_X3_isSo⟩ ⟨(Nat.le_of_ble_eq_true rfl), (Nat.le_of_ble_eq_true rfl)⟩) (kR_V kNF_blind (kNF_give hX hS (fun _ h => h)) (va_recv hKc hPc (ci := 3) (q0 := 0) rfl rfl) hPc hKc) rfl rfl hl.1 rfl (lv_room (Nat.le_of_ble_eq_true rfl)) dX3_agrees_47 ⟨(Nat.le_of_ble_eq_true rfl), (Nat.le_of_ble_eq_true rfl)⟩).run (fun r_17 hw => ?_)
            have hw_18 := hw
            refine lv_if_ne (tgt := 55) hx hb dX3_agrees_50 kc_t_50_5 (fun c_19 => ?_) (fun c_19 => ?_)
            · refine lv_iinc (v := nI (i + 1)) hx hb dX3_agrees_55 hl (k := 0) rfl (kInc _ 1) kc_l_4_5 (kTo [(4, .int (nI (i + 1))), (0, .ref hN), (1, .ref jC), (2, .int p1), (3, .int p2)]) (fun ls hl => ?_)
              refine lv_goto (tgt := 9) hx hb dX3_agrees_58 kc_t_58_m49 ?_
              exact ih_k_1 (i + 1) (by omega) ls (lv_sub hl [0, 1, 2, 3, 4] rfl) (by omega)
            · refine lv_iconst (v := 0) hx hb dX3_agrees_53 kc_i_0 ?_
              rw [hQ]
              exact W.zret (v := 0) hx hb hr rfl (fun t ht hW => ⟨0, rfl, (Or.inl rfl), ht⟩) (fun _ h => nomatch h) dX3_agrees_54
  exact lp_k_1 (kn - 0 + 1) 0 (by omega) ls (lv_sub hl [0, 1, 2, 3, 4] rfl) (by omega)

theorem dJ6_compare_7cf53_0 : decode cJ6_compare_7cf53 0 = .ok (.iload_n 0, 1) := kDs0 kf_26 (by decide +kernel)
theorem dJ6_compare_7cf53_1 : decode cJ6_compare_7cf53 1 = .ok (.iload_n 1, 1) := kDs0 kf_27 (by decide +kernel)
theorem dJ6_compare_7cf53_2 : decode cJ6_compare_7cf53 2 = .ok (.if_icmp .ge 7, 3) := kDs4 kf_162 (by decide +kernel)
theorem dJ6_compare_7cf53_9 : decode cJ6_compare_7cf53 9 = .ok (.iload_n 0, 1) := kDs0 kf_26 (by decide +kernel)
theorem dJ6_compare_7cf53_10 : decode cJ6_compare_7cf53 10 = .ok (.iload_n 1, 1) := kDs0 kf_27 (by decide +kernel)
theorem dJ6_compare_7cf53_11 : decode cJ6_compare_7cf53 11 = .ok (.if_icmp .ne 7, 3) := kDs4 kf_160 (by decide +kernel)
theorem dJ6_compare_7cf53_18 : decode cJ6_compare_7cf53 18 = .ok (.iconst 1, 1) := kDs0 kf_4 (by decide +kernel)
theorem dJ6_compare_7cf53_19 : decode cJ6_compare_7cf53 19 = .ok (.ireturn, 1) := kDs0 kf_172 (by decide +kernel)
theorem dJ6_compare_7cf53_14 : decode cJ6_compare_7cf53 14 = .ok (.iconst 0, 1) := kDs0 kf_3 (by decide +kernel)
theorem dJ6_compare_7cf53_15 : decode cJ6_compare_7cf53 15 = .ok (.goto 4, 3) := kDs4 kf_167 (by decide +kernel)
theorem dJ6_compare_7cf53_5 : decode cJ6_compare_7cf53 5 = .ok (.iconst (-1), 1) := kDs0 kf_2 (by decide +kernel)
theorem dJ6_compare_7cf53_6 : decode cJ6_compare_7cf53 6 = .ok (.goto 13, 3) := kDs4 kf_167 (by decide +kernel)
def w_s_compare6 : List Cond := .code yJ6_compare_7cf53 cJ6_compare_7cf53 2 (some .int) :: ([])
theorem gw_s_compare6 : (w_s_compare6).all goodWord = true := kGc rfl kGn
theorem hd_J6_compare_7cf53 : yJ6_compare_7cf53.cls ≠ "java/lang/invoke/MethodHandle" ∧ yJ6_compare_7cf53.cls ≠ "java/lang/invoke/VarHandle" ∧ (parseMethodDescriptor yJ6_compare_7cf53.desc).map (fun d => d.parameters.length) = some 2 := by decide +kernel
set_option maxHeartbeats 4000000 in
set_option maxRecDepth 100000 in
theorem s_compare6 (l : Launch) (dC : Nat → ClassId) (dI : Nat → Nat → Nat) (p0 : Int32) (p1 : Int32) : Met l yJ6_compare_7cf53 w_s_compare6 ({ frames := 1, cells := 0, slots := 0, locals := 60 }) (kR dC dI [.int p0, .int p1] [] [] kT) (vp_Si (fun r : Int32 => True)) 0 0 (fun _ => False) := by
  refine Met.ofW (cc := cJ6_compare_7cf53) (maxL := 2) (ret := (some .int)) (by decide) rfl ?_
  intro p e s m args below meth c s₁ B hml hv
  obtain ⟨rfl, hP, hK, hX⟩ := hv
  have hx := B.exec
  have hb := B.bytes
  have hr := B.returns
  have hts := atoms_spec (ws := w_s_compare6) B.pre
  have hown : s.vm.findClass RJ6 = some m.cls := findClass_of_methodNamed B.named
  have hlocks := B.notSynchronized
  have hP : va_P (dC, dI) vwCl [] s.heap := hP
  have hl := lv_entry ([.int p0, .int p1]) (n := 2) (Nat.le_of_ble_eq_true rfl)
  rw [lg_entry_eq]
  generalize (lg_sl ([.int p0, .int p1]) ++ List.replicate (2 - (lg_sl ([.int p0, .int p1])).length) Slot.unset).toArray = ls at hl ⊢
  have hl : lv_has ls 2 [(0, .int p0), (1, .int p1)] := hl
  refine kQ (fun Q hQ => ?_)
  refine lv_iload_n hx hb dJ6_compare_7cf53_0 rfl (lv_at hl 0 rfl) ?_
  refine lv_iload_n hx hb dJ6_compare_7cf53_1 rfl (lv_at hl 1 rfl) ?_
  refine lv_icmp_ge (tgt := 9) hx hb dJ6_compare_7cf53_2 kc_t_2_7 (fun c_1 => ?_) (fun c_1 => ?_)
  · refine lv_iload_n hx hb dJ6_compare_7cf53_9 rfl (lv_at hl 0 rfl) ?_
    refine lv_iload_n hx hb dJ6_compare_7cf53_10 rfl (lv_at hl 1 rfl) ?_
    refine lv_icmp_ne (tgt := 18) hx hb dJ6_compare_7cf53_11 kc_t_11_7 (fun c_2 => ?_) (fun c_2 => ?_)
    · refine lv_iconst (v := 1) hx hb dJ6_compare_7cf53_18 kc_i_1 ?_
      rw [hQ]
      exact W.iret (v := 1) hx hb hr (fun t ht hW => ⟨1, rfl, trivial, ht⟩) (fun _ h => nomatch h) dJ6_compare_7cf53_19
    · refine lv_iconst (v := 0) hx hb dJ6_compare_7cf53_14 kc_i_0 ?_
      refine lv_goto (tgt := 19) hx hb dJ6_compare_7cf53_15 kc_t_15_4 ?_
      rw [hQ]
      exact W.iret (v := 0) hx hb hr (fun t ht hW => ⟨0, rfl, trivial, ht⟩) (fun _ h => nomatch h) dJ6_compare_7cf53_19
  · refine lv_iconst (v := (-1)) hx hb dJ6_compare_7cf53_5 kc_i_m1 ?_
    refine lv_goto (tgt := 19) hx hb dJ6_compare_7cf53_6 kc_t_6_13 ?_
    rw [hQ]
    exact W.iret (v := (-1)) hx hb hr (fun t ht hW => ⟨(-1), rfl, trivial, ht⟩) (fun _ h => nomatch h) dJ6_compare_7cf53_19

theorem dJ6_bitCount_0f7a4_0 : decode cJ6_bitCount_0f7a4 0 = .ok (.iload_n 0, 1) := kDs0 kf_26 (by decide +kernel)
theorem dJ6_bitCount_0f7a4_1 : decode cJ6_bitCount_0f7a4 1 = .ok (.iload_n 0, 1) := kDs0 kf_26 (by decide +kernel)
theorem dJ6_bitCount_0f7a4_2 : decode cJ6_bitCount_0f7a4 2 = .ok (.iconst 1, 1) := kDs0 kf_4 (by decide +kernel)
theorem dJ6_bitCount_0f7a4_3 : decode cJ6_bitCount_0f7a4 3 = .ok (.iushr, 1) := kDs0 kf_124 (by decide +kernel)
theorem dJ6_bitCount_0f7a4_4 : decode cJ6_bitCount_0f7a4 4 = .ok (.ldc_w 265, 3) := kDs2 kf_19 (by decide +kernel)
theorem dJ6_bitCount_0f7a4_7 : decode cJ6_bitCount_0f7a4 7 = .ok (.iand, 1) := kDs0 kf_126 (by decide +kernel)
theorem dJ6_bitCount_0f7a4_8 : decode cJ6_bitCount_0f7a4 8 = .ok (.isub, 1) := kDs0 kf_100 (by decide +kernel)
theorem dJ6_bitCount_0f7a4_9 : decode cJ6_bitCount_0f7a4 9 = .ok (.istore_n 0, 1) := kDs0 kf_59 (by decide +kernel)
theorem dJ6_bitCount_0f7a4_10 : decode cJ6_bitCount_0f7a4 10 = .ok (.iload_n 0, 1) := kDs0 kf_26 (by decide +kernel)
theorem dJ6_bitCount_0f7a4_11 : decode cJ6_bitCount_0f7a4 11 = .ok (.ldc_w 266, 3) := kDs2 kf_19 (by decide +kernel)
theorem dJ6_bitCount_0f7a4_14 : decode cJ6_bitCount_0f7a4 14 = .ok (.iand, 1) := kDs0 kf_126 (by decide +kernel)
theorem dJ6_bitCount_0f7a4_15 : decode cJ6_bitCount_0f7a4 15 = .ok (.iload_n 0, 1) := kDs0 kf_26 (by decide +kernel)
theorem dJ6_bitCount_0f7a4_16 : decode cJ6_bitCount_0f7a4 16 = .ok (.iconst 2, 1) := kDs0 kf_5 (by decide +kernel)
theorem dJ6_bitCount_0f7a4_17 : decode cJ6_bitCount_0f7a4 17 = .ok (.iushr, 1) := kDs0 kf_124 (by decide +kernel)
theorem dJ6_bitCount_0f7a4_18 : decode cJ6_bitCount_0f7a4 18 = .ok (.ldc_w 266, 3) := kDs2 kf_19 (by decide +kernel)
theorem dJ6_bitCount_0f7a4_21 : decode cJ6_bitCount_0f7a4 21 = .ok (.iand, 1) := kDs0 kf_126 (by decide +kernel)
theorem dJ6_bitCount_0f7a4_22 : decode cJ6_bitCount_0f7a4 22 = .ok (.iadd, 1) := kDs0 kf_96 (by decide +kernel)
theorem dJ6_bitCount_0f7a4_23 : decode cJ6_bitCount_0f7a4 23 = .ok (.istore_n 0, 1) := kDs0 kf_59 (by decide +kernel)
theorem dJ6_bitCount_0f7a4_24 : decode cJ6_bitCount_0f7a4 24 = .ok (.iload_n 0, 1) := kDs0 kf_26 (by decide +kernel)
theorem dJ6_bitCount_0f7a4_25 : decode cJ6_bitCount_0f7a4 25 = .ok (.iload_n 0, 1) := kDs0 kf_26 (by decide +kernel)
theorem dJ6_bitCount_0f7a4_26 : decode cJ6_bitCount_0f7a4 26 = .ok (.iconst 4, 1) := kDs0 kf_7 (by decide +kernel)
theorem dJ6_bitCount_0f7a4_27 : decode cJ6_bitCount_0f7a4 27 = .ok (.iushr, 1) := kDs0 kf_124 (by decide +kernel)
theorem dJ6_bitCount_0f7a4_28 : decode cJ6_bitCount_0f7a4 28 = .ok (.iadd, 1) := kDs0 kf_96 (by decide +kernel)
theorem dJ6_bitCount_0f7a4_29 : decode cJ6_bitCount_0f7a4 29 = .ok (.ldc_w 267, 3) := kDs2 kf_19 (by decide +kernel)
theorem dJ6_bitCount_0f7a4_32 : decode cJ6_bitCount_0f7a4 32 = .ok (.iand, 1) := kDs0 kf_126 (by decide +kernel)
theorem dJ6_bitCount_0f7a4_33 : decode cJ6_bitCount_0f7a4 33 = .ok (.istore_n 0, 1) := kDs0 kf_59 (by decide +kernel)
theorem dJ6_bitCount_0f7a4_34 : decode cJ6_bitCount_0f7a4 34 = .ok (.iload_n 0, 1) := kDs0 kf_26 (by decide +kernel)
theorem dJ6_bitCount_0f7a4_35 : decode cJ6_bitCount_0f7a4 35 = .ok (.iload_n 0, 1) := kDs0 kf_26 (by decide +kernel)
theorem dJ6_bitCount_0f7a4_36 : decode cJ6_bitCount_0f7a4 36 = .ok (.bipush 8, 2) := kDs3 kf_16 (by decide +kernel)
theorem dJ6_bitCount_0f7a4_38 : decode cJ6_bitCount_0f7a4 38 = .ok (.iushr, 1) := kDs0 kf_124 (by decide +kernel)
theorem dJ6_bitCount_0f7a4_39 : decode cJ6_bitCount_0f7a4 39 = .ok (.iadd, 1) := kDs0 kf_96 (by decide +kernel)
theorem dJ6_bitCount_0f7a4_40 : decode cJ6_bitCount_0f7a4 40 = .ok (.istore_n 0, 1) := kDs0 kf_59 (by decide +kernel)
theorem dJ6_bitCount_0f7a4_41 : decode cJ6_bitCount_0f7a4 41 = .ok (.iload_n 0, 1) := kDs0 kf_26 (by decide +kernel)
theorem dJ6_bitCount_0f7a4_42 : decode cJ6_bitCount_0f7a4 42 = .ok (.iload_n 0, 1) := kDs0 kf_26 (by decide +kernel)
theorem dJ6_bitCount_0f7a4_43 : decode cJ6_bitCount_0f7a4 43 = .ok (.bipush 16, 2) := kDs3 kf_16 (by decide +kernel)
theorem dJ6_bitCount_0f7a4_45 : decode cJ6_bitCount_0f7a4 45 = .ok (.iushr, 1) := kDs0 kf_124 (by decide +kernel)
theorem dJ6_bitCount_0f7a4_46 : decode cJ6_bitCount_0f7a4 46 = .ok (.iadd, 1) := kDs0 kf_96 (by decide +kernel)
theorem dJ6_bitCount_0f7a4_47 : decode cJ6_bitCount_0f7a4 47 = .ok (.istore_n 0, 1) := kDs0 kf_59 (by decide +kernel)
theorem dJ6_bitCount_0f7a4_48 : decode cJ6_bitCount_0f7a4 48 = .ok (.iload_n 0, 1) := kDs0 kf_26 (by decide +kernel)
theorem dJ6_bitCount_0f7a4_49 : decode cJ6_bitCount_0f7a4 49 = .ok (.bipush 63, 2) := kDs3 kf_16 (by decide +kernel)
theorem dJ6_bitCount_0f7a4_51 : decode cJ6_bitCount_0f7a4 51 = .ok (.iand, 1) := kDs0 kf_126 (by decide +kernel)
theorem dJ6_bitCount_0f7a4_52 : decode cJ6_bitCount_0f7a4 52 = .ok (.ireturn, 1) := kDs0 kf_172 (by decide +kernel)
def w_s_bitCount6 : List Cond := .code yJ6_bitCount_0f7a4 cJ6_bitCount_0f7a4 1 (some .int) :: ([.constant RJ6 265 (1431655765), .constant RJ6 266 (858993459), .constant RJ6 267 (252645135)] ++ [])
theorem gw_s_bitCount6 : (w_s_bitCount6).all goodWord = true := kGc rfl (kGa (by decide +kernel) kGn)
theorem hd_J6_bitCount_0f7a4 : yJ6_bitCount_0f7a4.cls ≠ "java/lang/invoke/MethodHandle" ∧ yJ6_bitCount_0f7a4.cls ≠ "java/lang/invoke/VarHandle" ∧ (parseMethodDescriptor yJ6_bitCount_0f7a4.desc).map (fun d => d.parameters.length) = some 1 := by decide +kernel
set_option maxHeartbeats 4000000 in
set_option maxRecDepth 100000 in
theorem s_bitCount6 (l : Launch) (dC : Nat → ClassId) (dI : Nat → Nat → Nat) (p0 : Int32) : Met l yJ6_bitCount_0f7a4 w_s_bitCount6 ({ frames := 1, cells := 0, slots := 0, locals := 60 }) (kR dC dI [.int p0] [] [] kT) (vp_Si (fun r : Int32 => True)) 0 0 (fun _ => False) := by
  refine Met.ofW (cc := cJ6_bitCount_0f7a4) (maxL := 1) (ret := (some .int)) (by decide) rfl ?_
  intro p e s m args below meth c s₁ B hml hv
  obtain ⟨rfl, hP, hK, hX⟩ := hv
  have hx := B.exec
  have hb := B.bytes
  have hr := B.returns
  have hts := atoms_spec (ws := w_s_bitCount6) B.pre
  have hown : s.vm.findClass RJ6 = some m.cls := findClass_of_methodNamed B.named
  have hlocks := B.notSynchronized
  have hP : va_P (dC, dI) vwCl [] s.heap := hP
  have hl := lv_entry ([.int p0]) (n := 1) (Nat.le_of_ble_eq_true rfl)
  rw [lg_entry_eq]
  generalize (lg_sl ([.int p0]) ++ List.replicate (1 - (lg_sl ([.int p0])).length) Slot.unset).toArray = ls at hl ⊢
  have hl : lv_has ls 1 [(0, .int p0)] := hl
  refine kQ (fun Q hQ => ?_)
  refine lv_iload_n hx hb dJ6_bitCount_0f7a4_0 rfl (lv_at hl 0 rfl) ?_
  refine lv_iload_n hx hb dJ6_bitCount_0f7a4_1 rfl (lv_at hl 0 rfl) ?_
  refine lv_iconst (v := 1) hx hb dJ6_bitCount_0f7a4_2 kc_i_1 ?_
  obtain ⟨x_1, ex_1⟩ : ∃ z : Int32, z = (Int32.toUInt32 p0 >>> (Int32.toUInt32 1 &&& Int32.toUInt32 31)).toInt32 := ⟨_, rfl⟩
  refine lv_iushr (v := x_1) hx hb dJ6_bitCount_0f7a4_3 ex_1.symm ?_
  refine lv_ldcw (v := 1431655765) hx hb hown (hts (.constant RJ6 265 (1431655765)) (List.mem_cons_of_mem _ (List.mem_append_left _ (List.mem_of_getElem? (i := 0) rfl)))) dJ6_bitCount_0f7a4_4 ?_
  refine lv_iand hx hb dJ6_bitCount_0f7a4_7 ?_
  refine lv_topi (fun x_2 ex_2 => ?_)
  refine lv_isub hx hb dJ6_bitCount_0f7a4_8 ?_
  refine lv_topi (fun x_3 ex_3 => ?_)
  refine lv_istore_n hx hb dJ6_bitCount_0f7a4_9 rfl hl kc_l_0_1 (kTo [(0, .int x_3)]) (fun ls hl => ?_)
  refine lv_iload_n hx hb dJ6_bitCount_0f7a4_10 rfl (lv_at hl 0 rfl) ?_
  refine lv_ldcw (v := 858993459) hx hb hown (hts (.constant RJ6 266 (858993459)) (List.mem_cons_of_mem _ (List.mem_append_left _ (List.mem_of_getElem? (i := 1) rfl)))) dJ6_bitCount_0f7a4_11 ?_
  refine lv_iand hx hb dJ6_bitCount_0f7a4_14 ?_
  refine lv_topi (fun x_4 ex_4 => ?_)
  refine lv_iload_n hx hb dJ6_bitCount_0f7a4_15 rfl (lv_at hl 0 rfl) ?_
  refine lv_iconst (v := 2) hx hb dJ6_bitCount_0f7a4_16 kc_i_2 ?_
  obtain ⟨x_5, ex_5⟩ : ∃ z : Int32, z = (Int32.toUInt32 x_3 >>> (Int32.toUInt32 2 &&& Int32.toUInt32 31)).toInt32 := ⟨_, rfl⟩
  refine lv_iushr (v := x_5) hx hb dJ6_bitCount_0f7a4_17 ex_5.symm ?_
  refine lv_ldcw (v := 858993459) hx hb hown (hts (.constant RJ6 266 (858993459)) (List.mem_cons_of_mem _ (List.mem_append_left _ (List.mem_of_getElem? (i := 1) rfl)))) dJ6_bitCount_0f7a4_18 ?_
  refine lv_iand hx hb dJ6_bitCount_0f7a4_21 ?_
  refine lv_topi (fun x_6 ex_6 => ?_)
  refine lv_iadd hx hb dJ6_bitCount_0f7a4_22 ?_
  refine lv_topi (fun x_7 ex_7 => ?_)
  refine lv_istore_n hx hb dJ6_bitCount_0f7a4_23 rfl hl kc_l_0_1 (kTo [(0, .int x_7)]) (fun ls hl => ?_)
  refine lv_iload_n hx hb dJ6_bitCount_0f7a4_24 rfl (lv_at hl 0 rfl) ?_
  refine lv_iload_n hx hb dJ6_bitCount_0f7a4_25 rfl (lv_at hl 0 rfl) ?_
  refine lv_iconst (v := 4) hx hb dJ6_bitCount_0f7a4_26 kc_i_4 ?_
  obtain ⟨x_8, ex_8⟩ : ∃ z : Int32, z = (Int32.toUInt32 x_7 >>> (Int32.toUInt32 4 &&& Int32.toUInt32 31)).toInt32 := ⟨_, rfl⟩
  refine lv_iushr (v := x_8) hx hb dJ6_bitCount_0f7a4_27 ex_8.symm ?_
  refine lv_iadd hx hb dJ6_bitCount_0f7a4_28 ?_
  refine lv_topi (fun x_9 ex_9 => ?_)
  refine lv_ldcw (v := 252645135) hx hb hown (hts (.constant RJ6 267 (252645135)) (List.mem_cons_of_mem _ (List.mem_append_left _ (List.mem_of_getElem? (i := 2) rfl)))) dJ6_bitCount_0f7a4_29 ?_
  refine lv_iand hx hb dJ6_bitCount_0f7a4_32 ?_
  refine lv_topi (fun x_10 ex_10 => ?_)
  refine lv_istore_n hx hb dJ6_bitCount_0f7a4_33 rfl hl kc_l_0_1 (kTo [(0, .int x_10)]) (fun ls hl => ?_)
  refine lv_iload_n hx hb dJ6_bitCount_0f7a4_34 rfl (lv_at hl 0 rfl) ?_
  refine lv_iload_n hx hb dJ6_bitCount_0f7a4_35 rfl (lv_at hl 0 rfl) ?_
  refine lv_bipush (v := 8) hx hb dJ6_bitCount_0f7a4_36 kc_b_8 ?_
  obtain ⟨x_11, ex_11⟩ : ∃ z : Int32, z = (Int32.toUInt32 x_10 >>> (Int32.toUInt32 8 &&& Int32.toUInt32 31)).toInt32 := ⟨_, rfl⟩
  refine lv_iushr (v := x_11) hx hb dJ6_bitCount_0f7a4_38 ex_11.symm ?_
  refine lv_iadd hx hb dJ6_bitCount_0f7a4_39 ?_
  refine lv_topi (fun x_12 ex_12 => ?_)
  refine lv_istore_n hx hb dJ6_bitCount_0f7a4_40 rfl hl kc_l_0_1 (kTo [(0, .int x_12)]) (fun ls hl => ?_)
  refine lv_iload_n hx hb dJ6_bitCount_0f7a4_41 rfl (lv_at hl 0 rfl) ?_
  refine lv_iload_n hx hb dJ6_bitCount_0f7a4_42 rfl (lv_at hl 0 rfl) ?_
  refine lv_bipush (v := 16) hx hb dJ6_bitCount_0f7a4_43 kc_b_16 ?_
  obtain ⟨x_13, ex_13⟩ : ∃ z : Int32, z = (Int32.toUInt32 x_12 >>> (Int32.toUInt32 16 &&& Int32.toUInt32 31)).toInt32 := ⟨_, rfl⟩
  refine lv_iushr (v := x_13) hx hb dJ6_bitCount_0f7a4_45 ex_13.symm ?_
  refine lv_iadd hx hb dJ6_bitCount_0f7a4_46 ?_
  refine lv_topi (fun x_14 ex_14 => ?_)
  refine lv_istore_n hx hb dJ6_bitCount_0f7a4_47 rfl hl kc_l_0_1 (kTo [(0, .int x_14)]) (fun ls hl => ?_)
  refine lv_iload_n hx hb dJ6_bitCount_0f7a4_48 rfl (lv_at hl 0 rfl) ?_
  refine lv_bipush (v := 63) hx hb dJ6_bitCount_0f7a4_49 kc_b_63 ?_
  refine lv_iand hx hb dJ6_bitCount_0f7a4_51 ?_
  refine lv_topi (fun x_15 ex_15 => ?_)
  rw [hQ]
  exact W.iret (v := x_15) hx hb hr (fun t ht hW => ⟨x_15, rfl, trivial, ht⟩) (fun _ h => nomatch h) dJ6_bitCount_0f7a4_52

theorem dX0_isLess_0 : decode cX0_isLess 0 = .ok (.aload_n 0, 1) := kDs0 kf_42 (by decide +kernel)
theorem dX0_isLess_1 : decode cX0_isLess 1 = .ok (.iload_n 1, 1) := kDs0 kf_27 (by decide +kernel)
theorem dX0_isLess_2 : decode cX0_isLess 2 = .ok (.invokevirtual 32, 3) := kDs2 kf_182 (by decide +kernel)
theorem dX0_isLess_5 : decode cX0_isLess 5 = .ok (.aload_n 0, 1) := kDs0 kf_42 (by decide +kernel)
theorem dX0_isLess_6 : decode cX0_isLess 6 = .ok (.iload_n 2, 1) := kDs0 kf_28 (by decide +kernel)
theorem dX0_isLess_7 : decode cX0_isLess 7 = .ok (.invokevirtual 32, 3) := kDs2 kf_182 (by decide +kernel)
theorem dX0_isLess_10 : decode cX0_isLess 10 = .ok (.invokestatic 36, 3) := kDs2 kf_184 (by decide +kernel)
theorem dX0_isLess_13 : decode cX0_isLess 13 = .ok (.istore_n 3, 1) := kDs0 kf_62 (by decide +kernel)
theorem dX0_isLess_14 : decode cX0_isLess 14 = .ok (.iload_n 1, 1) := kDs0 kf_27 (by decide +kernel)
theorem dX0_isLess_15 : decode cX0_isLess 15 = .ok (.invokestatic 42, 3) := kDs2 kf_184 (by decide +kernel)
theorem dX0_isLess_18 : decode cX0_isLess 18 = .ok (.iload_n 2, 1) := kDs0 kf_28 (by decide +kernel)
theorem dX0_isLess_19 : decode cX0_isLess 19 = .ok (.invokestatic 42, 3) := kDs2 kf_184 (by decide +kernel)
theorem dX0_isLess_22 : decode cX0_isLess 22 = .ok (.invokestatic 36, 3) := kDs2 kf_184 (by decide +kernel)
theorem dX0_isLess_25 : decode cX0_isLess 25 = .ok (.istore 4, 2) := kDs1 kf_54 (by decide +kernel)
theorem dX0_isLess_27 : decode cX0_isLess 27 = .ok (.iload_n 3, 1) := kDs0 kf_29 (by decide +kernel)
theorem dX0_isLess_28 : decode cX0_isLess 28 = .ok (.ifCond .eq 13, 3) := kDs4 kf_153 (by decide +kernel)
theorem dX0_isLess_41 : decode cX0_isLess 41 = .ok (.iload 4, 2) := kDs1 kf_21 (by decide +kernel)
theorem dX0_isLess_43 : decode cX0_isLess 43 = .ok (.ifCond .eq 16, 3) := kDs4 kf_153 (by decide +kernel)
theorem dX0_isLess_59 : decode cX0_isLess 59 = .ok (.iload_n 1, 1) := kDs0 kf_27 (by decide +kernel)
theorem dX0_isLess_60 : decode cX0_isLess 60 = .ok (.iload_n 2, 1) := kDs0 kf_28 (by decide +kernel)
theorem dX0_isLess_61 : decode cX0_isLess 61 = .ok (.invokestatic 45, 3) := kDs2 kf_184 (by decide +kernel)
theorem dX0_isLess_64 : decode cX0_isLess 64 = .ok (.ireturn, 1) := kDs0 kf_172 (by decide +kernel)
theorem dX0_isLess_46 : decode cX0_isLess 46 = .ok (.iload 4, 2) := kDs1 kf_21 (by decide +kernel)
theorem dX0_isLess_48 : decode cX0_isLess 48 = .ok (.ifCond .ge 7, 3) := kDs4 kf_156 (by decide +kernel)
theorem dX0_isLess_55 : decode cX0_isLess 55 = .ok (.iconst 0, 1) := kDs0 kf_3 (by decide +kernel)
theorem dX0_isLess_56 : decode cX0_isLess 56 = .ok (.goto 8, 3) := kDs4 kf_167 (by decide +kernel)
theorem dX0_isLess_51 : decode cX0_isLess 51 = .ok (.iconst 1, 1) := kDs0 kf_4 (by decide +kernel)
theorem dX0_isLess_52 : decode cX0_isLess 52 = .ok (.goto 12, 3) := kDs4 kf_167 (by decide +kernel)
theorem dX0_isLess_31 : decode cX0_isLess 31 = .ok (.iload_n 3, 1) := kDs0 kf_29 (by decide +kernel)
theorem dX0_isLess_32 : decode cX0_isLess 32 = .ok (.ifCond .ge 7, 3) := kDs4 kf_156 (by decide +kernel)
theorem dX0_isLess_39 : decode cX0_isLess 39 = .ok (.iconst 0, 1) := kDs0 kf_3 (by decide +kernel)
theorem dX0_isLess_40 : decode cX0_isLess 40 = .ok (.ireturn, 1) := kDs0 kf_172 (by decide +kernel)
theorem dX0_isLess_35 : decode cX0_isLess 35 = .ok (.iconst 1, 1) := kDs0 kf_4 (by decide +kernel)
theorem dX0_isLess_36 : decode cX0_isLess 36 = .ok (.goto 4, 3) := kDs4 kf_167 (by decide +kernel)
def w_s_isLess0 : List Cond := .code yX0_isLess cX0_isLess 5 (some .boolean) :: ([.initialized RX0, .selects RX0 yX0_costOf yX0_costOf, .instanceMethod yX0_costOf, .methodLink RX0 32 yX0_costOf, .initialized RJ6, .static yJ6_compare_7cf53, .methodLink RX0 36 yJ6_compare_7cf53, .static yJ6_bitCount_0f7a4, .methodLink RX0 42 yJ6_bitCount_0f7a4, .initialized RX9, .static yX9_isLowerFirst] ++ (w_s_costOf0 ++ (w_s_compare6 ++ (w_s_bitCount6 ++ (w_s_lower9)))))
theorem gw_s_isLess0 : (w_s_isLess0).all goodWord = true := kGc rfl (kGa (by decide +kernel) (kGa gw_s_costOf0 (kGa gw_s_compare6 (kGa gw_s_bitCount6 gw_s_lower9))))
theorem hd_X0_isLess : yX0_isLess.cls ≠ "java/lang/invoke/MethodHandle" ∧ yX0_isLess.cls ≠ "java/lang/invoke/VarHandle" ∧ (parseMethodDescriptor yX0_isLess.desc).map (fun d => d.parameters.length) = some 2 := by decide +kernel
set_option maxHeartbeats 4000000 in
set_option maxRecDepth 100000 in
theorem s_isLess0 (l : Launch) (dC : Nat → ClassId) (dI : Nat → Nat → Nat) (jA : Nat) (i0 : Nat) (i1 : Nat) (i2 : Nat) (i3 : Nat) (x0 : ClassId) (x1 : ClassId) (x2 : ClassId) (x3 : ClassId) (t0 : Nat → Int32) (t1 : Nat → Int32) (t2 : Nat → Int32) (t3 : Nat → Int32) (ka : Nat) (hka : ka ≤ 6) (p0 : Int32) (p1 : Int32) : Met l yX0_isLess w_s_isLess0 ({ frames := 3, cells := 0, slots := 0, locals := 180 }) (kR dC dI [.ref jA, .int p0, .int p1] [(jA, .inr (0, [.ref i0, .ref i1, .ref i2, .ref i3, .int (nI (ka))])), (i0, .inl (x0, 6, .inl t0)), (i1, .inl (x1, 6, .inl t1)), (i2, .inl (x2, 6, .inl t2)), (i3, .inl (x3, 6, .inl t3))] [(x0, .int), (x1, .int), (x2, .int), (x3, .int)] kNL) (vp_Si (fun r : Int32 => (r = 0 ∨ r = 1))) 0 0 (fun _ => False) := by
  refine Met.ofW (cc := cX0_isLess) (maxL := 5) (ret := (some .boolean)) (by decide) rfl ?_
  intro p e s m args below meth c s₁ B hml hv
  obtain ⟨rfl, hP, hK, hX⟩ := hv
  have hx := B.exec
  have hb := B.bytes
  have hr := B.returns
  have hts := atoms_spec (ws := w_s_isLess0) B.pre
  have hown : s.vm.findClass RX0 = some m.cls := findClass_of_methodNamed B.named
  have hlocks := B.notSynchronized
  have hP : va_P (dC, dI) vwCl [(jA, .inr (0, [.ref i0, .ref i1, .ref i2, .ref i3, .int (nI (ka))])), (i0, .inl (x0, 6, .inl t0)), (i1, .inl (x1, 6, .inl t1)), (i2, .inl (x2, 6, .inl t2)), (i3, .inl (x3, 6, .inl t3))] s.heap := hP
  have hl := lv_entry ([.ref jA, .int p0, .int p1]) (n := 5) (Nat.le_of_ble_eq_true rfl)
  rw [lg_entry_eq]
  generalize (lg_sl ([.ref jA, .int p0, .int p1]) ++ List.replicate (5 - (lg_sl ([.ref jA, .int p0, .int p1])).length) Slot.unset).toArray = ls at hl ⊢
  have hl : lv_has ls 5 [(0, .ref jA), (1, .int p0), (2, .int p1)] := hl
  refine kQ (fun Q hQ => ?_)
  refine lv_aload_n hx hb dX0_isLess_0 rfl (lv_at hl 0 rfl) ?_
  refine lv_iload_n hx hb dX0_isLess_1 rfl (lv_at hl 1 rfl) ?_
  have hPc := hP.sb (ws2 := [(jA, .inr (0, [.ref i0, .ref i1, .ref i2, .ref i3, .int (nI (ka))])), (i0, .inl (x0, 6, .inl t0)), (i1, .inl (x1, 6, .inl t1)), (i2, .inl (x2, 6, .inl t2)), (i3, .inl (x3, 6, .inl t3))]) [0, 1, 2, 3, 4] rfl
  have hKc := hK.sb (tys2 := [(x0, .int), (x1, .int), (x2, .int), (x3, .int)]) [0, 1, 2, 3] rfl
  refine vp_callSi (va_runV (As := [.int p0]) (rest := []) ⟨hx, hb, hml, hown, hts⟩ (s_costOf0 l dC dI jA i0 i1 i2 i3 x0 x1 x2 x3 t0 t1 t2 t3 ka hka p0) (cwV 1 hts (kG (List.forall_mem_cons.mpr ⟨(List.mem_cons_of_mem _ (List.mem_append_left _ (List.mem_of_getElem? (i := 3) rfl))), (List.forall_mem_cons.mpr ⟨(List.mem_cons_of_mem _ (List.mem_append_left _ (List.mem_of_getElem? (i := 2) rfl))), (List.forall_mem_cons.mpr ⟨(List.mem_cons_of_mem _ (List.mem_append_left _ (List.mem_of_getElem? (i := 1) rfl))), (List.forall_mem_cons.mpr ⟨(List.mem_cons_of_mem _ (List.mem_append_left _ (List.mem_of_getElem? (i := 0) rfl))), (fun _ h => absurd h List.not_mem_nil)⟩)⟩)⟩)⟩) (kGV _ _ _ _) (fun _ h => List.mem_cons_of_mem _ (List.mem_append_right _ (List.mem_append_left _ h))) gw_s_costOf0) rfl rfl rfl ⟨rfl, hd_X0_costOf⟩ ⟨(Nat.le_of_ble_eq_true rfl), (Nat.le_of_ble_eq_true rfl)⟩) (kR_V kNL_blind (kNL_give hX) (va_recv hKc hPc (ci := 0) (q0 := 0) rfl rfl) hPc hKc) rfl rfl hl.1 rfl (lv_room (Nat.le_of_ble_eq_true rfl)) dX0_isLess_2 ⟨(Nat.le_of_ble_eq_true rfl), (Nat.le_of_ble_eq_true rfl)⟩).run (fun r_1 hw => ?_)
  refine lv_aload_n hx hb dX0_isLess_5 rfl (lv_at hl 0 rfl) ?_
  refine lv_iload_n hx hb dX0_isLess_6 rfl (lv_at hl 2 rfl) ?_
  have hPc := hP.sb (ws2 := [(jA, .inr (0, [.ref i0, .ref i1, .ref i2, .ref i3, .int (nI (ka))])), (i0, .inl (x0, 6, .inl t0)), (i1, .inl (x1, 6, .inl t1)), (i2, .inl (x2, 6, .inl t2)), (i3, .inl (x3, 6, .inl t3))]) [0, 1, 2, 3, 4] rfl
  have hKc := hK.sb (tys2 := [(x0, .int), (x1, .int), (x2, .int), (x3, .int)]) [0, 1, 2, 3] rfl
  refine vp_callSi (va_runV (As := [.int p1]) (rest := [.int r_1]) ⟨hx, hb, hml, hown, hts⟩ (s_costOf0 l dC dI jA i0 i1 i2 i3 x0 x1 x2 x3 t0 t1 t2 t3 ka hka p1) (cwV 1 hts (kG (List.forall_mem_cons.mpr ⟨(List.mem_cons_of_mem _ (List.mem_append_left _ (List.mem_of_getElem? (i := 3) rfl))), (List.forall_mem_cons.mpr ⟨(List.mem_cons_of_mem _ (List.mem_append_left _ (List.mem_of_getElem? (i := 2) rfl))), (List.forall_mem_cons.mpr ⟨(List.mem_cons_of_mem _ (List.mem_append_left _ (List.mem_of_getElem? (i := 1) rfl))), (List.forall_mem_cons.mpr ⟨(List.mem_cons_of_mem _ (List.mem_append_left _ (List.mem_of_getElem? (i := 0) rfl))), (fun _ h => absurd h List.not_mem_nil)⟩)⟩)⟩)⟩) (kGV _ _ _ _) (fun _ h => List.mem_cons_of_mem _ (List.mem_append_right _ (List.mem_append_left _ h))) gw_s_costOf0) rfl rfl rfl ⟨rfl, hd_X0_costOf⟩ ⟨(Nat.le_of_ble_eq_true rfl), (Nat.le_of_ble_eq_true rfl)⟩) (kR_V kNL_blind (kNL_give hX) (va_recv hKc hPc (ci := 0) (q0 := 0) rfl rfl) hPc hKc) rfl rfl hl.1 rfl (lv_room (Nat.le_of_ble_eq_true rfl)) dX0_isLess_7 ⟨(Nat.le_of_ble_eq_true rfl), (Nat.le_of_ble_eq_true rfl)⟩).run (fun r_2 hw => ?_)
  have hPc := hP.sb (ws2 := []) [] rfl
  have hKc := hK.sb (tys2 := []) [] rfl
  refine vp_callSi (va_runS (As := [.int r_1, .int r_2]) (rest := []) ⟨hx, hb, hml, hown, hts⟩ (s_compare6 l dC dI r_1 r_2) (va_cwS 2 hts (kG (List.forall_mem_cons.mpr ⟨(List.mem_cons_of_mem _ (List.mem_append_left _ (List.mem_of_getElem? (i := 6) rfl))), (List.forall_mem_cons.mpr ⟨(List.mem_cons_of_mem _ (List.mem_append_left _ (List.mem_of_getElem? (i := 5) rfl))), (List.forall_mem_cons.mpr ⟨(List.mem_cons_of_mem _ (List.mem_append_left _ (List.mem_of_getElem? (i := 4) rfl))), (fun _ h => absurd h List.not_mem_nil)⟩)⟩)⟩) (kGS _ _ _) (fun _ h => List.mem_cons_of_mem _ (List.mem_append_right _ (List.mem_append_right _ (List.mem_append_left _ h)))) gw_s_compare6) rfl rfl rfl hd_J6_compare_7cf53 ⟨(Nat.le_of_ble_eq_true rfl), (Nat.le_of_ble_eq_true rfl)⟩) (kR_S kT_blind kT_give hPc hKc) rfl rfl hl.1 rfl (lv_room (Nat.le_of_ble_eq_true rfl)) dX0_isLess_10 ⟨(Nat.le_of_ble_eq_true rfl), (Nat.le_of_ble_eq_true rfl)⟩).run (fun r_3 hw => ?_)
  refine lv_istore_n hx hb dX0_isLess_13 rfl hl kc_l_3_5 (kTo [(3, .int r_3), (0, .ref jA), (1, .int p0), (2, .int p1)]) (fun ls hl => ?_)
  refine lv_iload_n hx hb dX0_isLess_14 rfl (lv_at hl 2 rfl) ?_
  have hPc := hP.sb (ws2 := []) [] rfl
  have hKc := hK.sb (tys2 := []) [] rfl
  refine vp_callSi (va_runS (As := [.int p0]) (rest := []) ⟨hx, hb, hml, hown, hts⟩ (s_bitCount6 l dC dI p0) (va_cwS 1 hts (kG (List.forall_mem_cons.mpr ⟨(List.mem_cons_of_mem _ (List.mem_append_left _ (List.mem_of_getElem? (i := 8) rfl))), (List.forall_mem_cons.mpr ⟨(List.mem_cons_of_mem _ (List.mem_append_left _ (List.mem_of_getElem? (i := 7) rfl))), (List.forall_mem_cons.mpr ⟨(List.mem_cons_of_mem _ (List.mem_append_left _ (List.mem_of_getElem? (i := 4) rfl))), (fun _ h => absurd h List.not_mem_nil)⟩)⟩)⟩) (kGS _ _ _) (fun _ h => List.mem_cons_of_mem _ (List.mem_append_right _ (List.mem_append_right _ (List.mem_append_right _ (List.mem_append_left _ h))))) gw_s_bitCount6) rfl rfl rfl hd_J6_bitCount_0f7a4 ⟨(Nat.le_of_ble_eq_true rfl), (Nat.le_of_ble_eq_true rfl)⟩) (kR_S kT_blind kT_give hPc hKc) rfl rfl hl.1 rfl (lv_room (Nat.le_of_ble_eq_true rfl)) dX0_isLess_15 ⟨(Nat.le_of_ble_eq_true rfl), (Nat.le_of_ble_eq_true rfl)⟩).run (fun r_4 hw => ?_)
  refine lv_iload_n hx hb dX0_isLess_18 rfl (lv_at hl 3 rfl) ?_
  have hPc := hP.sb (ws2 := []) [] rfl
  have hKc := hK.sb (tys2 := []) [] rfl
  refine vp_callSi (va_runS (As := [.int p1]) (rest := [.int r_4]) ⟨hx, hb, hml, hown, hts⟩ (s_bitCount6 l dC dI p1) (va_cwS 1 hts (kG (List.forall_mem_cons.mpr ⟨(List.mem_cons_of_mem _ (List.mem_append_left _ (List.mem_of_getElem? (i := 8) rfl))), (List.forall_mem_cons.mpr ⟨(List.mem_cons_of_mem _ (List.mem_append_left _ (List.mem_of_getElem? (i := 7) rfl))), (List.forall_mem_cons.mpr ⟨(List.mem_cons_of_mem _ (List.mem_append_left _ (List.mem_of_getElem? (i := 4) rfl))), (fun _ h => absurd h List.not_mem_nil)⟩)⟩)⟩) (kGS _ _ _) (fun _ h => List.mem_cons_of_mem _ (List.mem_append_right _ (List.mem_append_right _ (List.mem_append_right _ (List.mem_append_left _ h))))) gw_s_bitCount6) rfl rfl rfl hd_J6_bitCount_0f7a4 ⟨(Nat.le_of_ble_eq_true rfl), (Nat.le_of_ble_eq_true rfl)⟩) (kR_S kT_blind kT_give hPc hKc) rfl rfl hl.1 rfl (lv_room (Nat.le_of_ble_eq_true rfl)) dX0_isLess_19 ⟨(Nat.le_of_ble_eq_true rfl), (Nat.le_of_ble_eq_true rfl)⟩).run (fun r_5 hw => ?_)
  have hPc := hP.sb (ws2 := []) [] rfl
  have hKc := hK.sb (tys2 := []) [] rfl
  refine vp_callSi (va_runS (As := [.int r_4, .int r_5]) (rest := []) ⟨hx, hb, hml, hown, hts⟩ (s_compare6 l dC dI r_4 r_5) (va_cwS 2 hts (kG (List.forall_mem_cons.mpr ⟨(List.mem_cons_of_mem _ (List.mem_append_left _ (List.mem_of_getElem? (i := 6) rfl))), (List.forall_mem_cons.mpr ⟨(List.mem_cons_of_mem _ (List.mem_append_left _ (List.mem_of_getElem? (i := 5) rfl))), (List.forall_mem_cons.mpr ⟨(List.mem_cons_of_mem _ (List.mem_append_left _ (List.mem_of_getElem? (i := 4) rfl))), (fun _ h => absurd h List.not_mem_nil)⟩)⟩)⟩) (kGS _ _ _) (fun _ h => List.mem_cons_of_mem _ (List.mem_append_right _ (List.mem_append_right _ (List.mem_append_left _ h)))) gw_s_compare6) rfl rfl rfl hd_J6_compare_7cf53 ⟨(Nat.le_of_ble_eq_true rfl), (Nat.le_of_ble_eq_true rfl)⟩) (kR_S kT_blind kT_give hPc hKc) rfl rfl hl.1 rfl (lv_room (Nat.le_of_ble_eq_true rfl)) dX0_isLess_22 ⟨(Nat.le_of_ble_eq_true rfl), (Nat.le_of_ble_eq_true rfl)⟩).run (fun r_6 hw => ?_)
  refine lv_istore hx hb dX0_isLess_25 hl kc_l_4_5 (kTo [(4, .int r_6), (3, .int r_3), (0, .ref jA), (1, .int p0), (2, .int p1)]) (fun ls hl => ?_)
  refine lv_iload_n hx hb dX0_isLess_27 rfl (lv_at hl 1 rfl) ?_
  refine lv_if_eq (tgt := 41) hx hb dX0_isLess_28 kc_t_28_13 (fun c_7 => ?_) (fun c_7 => ?_)
  · refine lv_iload hx hb dX0_isLess_41 (lv_at hl 0 rfl) ?_
    refine lv_if_eq (tgt := 59) hx hb dX0_isLess_43 kc_t_43_16 (fun c_8 => ?_) (fun c_8 => ?_)
    · refine lv_iload_n hx hb dX0_isLess_59 rfl (lv_at hl 3 rfl) ?_
      refine lv_iload_n hx hb dX0_isLess_60 rfl (lv_at hl 4 rfl) ?_
      have hPc := hP.sb (ws2 := []) [] rfl
      have hKc := hK.sb (tys2 := []) [] rfl
      refine vp_callSi (va_runSN (As := [.int p0, .int p1]) (rest := []) ⟨hx, hb, hml, hown, hts⟩ (s_lower9 l dC dI p0 p1) (⟨va_cnB 2 hts (goodIn_sub (fun _ h => List.mem_cons_of_mem _ (List.mem_append_right _ (List.mem_append_right _ (List.mem_append_right _ (List.mem_append_right _ h))))) gw_s_lower9) rfl rfl rfl (hX _ (List.mem_of_getElem? (i := 18) rfl)) (hts (.initialized RX9) (List.mem_cons_of_mem _ (List.mem_append_left _ (List.mem_of_getElem? (i := 9) rfl)))) hd_X9_isLowerFirst ⟨(Nat.le_of_ble_eq_true rfl), (Nat.le_of_ble_eq_true rfl)⟩, (hts (.static yX9_isLowerFirst) (List.mem_cons_of_mem _ (List.mem_append_left _ (List.mem_of_getElem? (i := 10) rfl)))), trivial⟩) (kR_S kT_blind kT_give hPc hKc) rfl rfl hl.1 rfl (lv_room (Nat.le_of_ble_eq_true rfl)) dX0_isLess_61 ⟨(Nat.le_of_ble_eq_true rfl), (Nat.le_of_ble_eq_true rfl)⟩).run (fun r_9 hw => ?_)
      have hw_10 := hw
      rw [hQ]
      exact W.zret (v := r_9) hx hb hr (kB01 hw_10) (fun t ht hW => ⟨r_9, rfl, hw_10, ht⟩) (fun _ h => nomatch h) dX0_isLess_64
    · refine lv_iload hx hb dX0_isLess_46 (lv_at hl 0 rfl) ?_
      refine lv_if_ge (tgt := 55) hx hb dX0_isLess_48 kc_t_48_7 (fun c_11 => ?_) (fun c_11 => ?_)
      · refine lv_iconst (v := 0) hx hb dX0_isLess_55 kc_i_0 ?_
        refine lv_goto (tgt := 64) hx hb dX0_isLess_56 kc_t_56_8 ?_
        rw [hQ]
        exact W.zret (v := 0) hx hb hr rfl (fun t ht hW => ⟨0, rfl, (Or.inl rfl), ht⟩) (fun _ h => nomatch h) dX0_isLess_64
      · refine lv_iconst (v := 1) hx hb dX0_isLess_51 kc_i_1 ?_
        refine lv_goto (tgt := 64) hx hb dX0_isLess_52 kc_t_52_12 ?_
        rw [hQ]
        exact W.zret (v := 1) hx hb hr rfl (fun t ht hW => ⟨1, rfl, (Or.inr rfl), ht⟩) (fun _ h => nomatch h) dX0_isLess_64
  · refine lv_iload_n hx hb dX0_isLess_31 rfl (lv_at hl 1 rfl) ?_
    refine lv_if_ge (tgt := 39) hx hb dX0_isLess_32 kc_t_32_7 (fun c_12 => ?_) (fun c_12 => ?_)
    · refine lv_iconst (v := 0) hx hb dX0_isLess_39 kc_i_0 ?_
      rw [hQ]
      exact W.zret (v := 0) hx hb hr rfl (fun t ht hW => ⟨0, rfl, (Or.inl rfl), ht⟩) (fun _ h => nomatch h) dX0_isLess_40
    · refine lv_iconst (v := 1) hx hb dX0_isLess_35 kc_i_1 ?_
      refine lv_goto (tgt := 40) hx hb dX0_isLess_36 kc_t_36_4 ?_
      rw [hQ]
      exact W.zret (v := 1) hx hb hr rfl (fun t ht hW => ⟨1, rfl, (Or.inr rfl), ht⟩) (fun _ h => nomatch h) dX0_isLess_40

theorem dX8_length_0 : decode cX8_length 0 = .ok (.aload_n 0, 1) := kDs0 kf_42 (by decide +kernel)
theorem dX8_length_1 : decode cX8_length 1 = .ok (.getfield 15, 3) := kDs2 kf_180 (by decide +kernel)
theorem dX8_length_4 : decode cX8_length 4 = .ok (.ireturn, 1) := kDs0 kf_172 (by decide +kernel)
def w_s_length8 : List Cond := .code yX8_length cX8_length 1 (some .int) :: ([.fieldLink RX8 15 "NotEnded$Tape" "length" "I"] ++ (wsX80))
theorem gw_s_length8 : (w_s_length8).all goodWord = true := kGc rfl (kGa (by decide +kernel) gw_wsX80)
theorem hd_X8_length : yX8_length.cls ≠ "java/lang/invoke/MethodHandle" ∧ yX8_length.cls ≠ "java/lang/invoke/VarHandle" ∧ (parseMethodDescriptor yX8_length.desc).map (fun d => d.parameters.length) = some 0 := by decide +kernel
set_option maxHeartbeats 4000000 in
set_option maxRecDepth 100000 in
theorem s_length8 (l : Launch) (dC : Nat → ClassId) (dI : Nat → Nat → Nat) (jT : Nat) (t0 : Nat) (cC : ClassId) (gT : Nat → Int32) (kt : Nat) (hkt : kt ≤ 120) (hgT : ∀ j : Nat, narrow .char (.int (gT j)) = .int (gT j)) : Met l yX8_length w_s_length8 ({ frames := 1, cells := 0, slots := 0, locals := 60 }) (kR dC dI [.ref jT] [(jT, .inr (8, [.ref t0, .int (nI (kt))])), (t0, .inl (cC, 120, .inl gT))] [(cC, .char)] kT) (vp_Si (fun r : Int32 => r = nI kt)) 0 0 (fun _ => False) := by
  refine Met.ofW (cc := cX8_length) (maxL := 1) (ret := (some .int)) (by decide) rfl ?_
  intro p e s m args below meth c s₁ B hml hv
  obtain ⟨rfl, hP, hK, hX⟩ := hv
  have hx := B.exec
  have hb := B.bytes
  have hr := B.returns
  have hts := atoms_spec (ws := w_s_length8) B.pre
  have hown : s.vm.findClass RX8 = some m.cls := findClass_of_methodNamed B.named
  have hlocks := B.notSynchronized
  have hP : va_P (dC, dI) vwCl [(jT, .inr (8, [.ref t0, .int (nI (kt))])), (t0, .inl (cC, 120, .inl gT))] s.heap := hP
  have hl := lv_entry ([.ref jT]) (n := 1) (Nat.le_of_ble_eq_true rfl)
  rw [lg_entry_eq]
  generalize (lg_sl ([.ref jT]) ++ List.replicate (1 - (lg_sl ([.ref jT])).length) Slot.unset).toArray = ls at hl ⊢
  have hl : lv_has ls 1 [(0, .ref jT)] := hl
  refine kQ (fun Q hQ => ?_)
  refine lv_aload_n hx hb dX8_length_0 rfl (lv_at hl 0 rfl) ?_
  refine va_get (D := (dC, dI)) (ci := 8) (v := .int (nI (kt))) (C := RX8) (T := TX8) (N := 2) hx hb hts (fun _ h => List.mem_cons_of_mem _ (List.mem_append_right _ h)) hown hK hP 0 rfl rfl 1 kc_l_1_2 (hts (.fieldLink RX8 15 "NotEnded$Tape" "length" "I") (List.mem_cons_of_mem _ (List.mem_append_left _ (List.mem_of_getElem? (i := 0) rfl)))) (fun _ h9 => h9) rfl dX8_length_1 ?_
  rw [hQ]
  exact W.iret (v := nI (kt)) hx hb hr (fun t ht hW => ⟨nI (kt), rfl, rfl, ht⟩) (fun _ h => nomatch h) dX8_length_4

theorem dX8_at_0 : decode cX8_at 0 = .ok (.iload_n 1, 1) := kDs0 kf_27 (by decide +kernel)
theorem dX8_at_1 : decode cX8_at 1 = .ok (.ifCond .lt 29, 3) := kDs4 kf_155 (by decide +kernel)
theorem dX8_at_30 : decode cX8_at 30 = .ok (.iconst 0, 1) := kDs0 kf_3 (by decide +kernel)
theorem dX8_at_31 : decode cX8_at 31 = .ok (.ireturn, 1) := kDs0 kf_172 (by decide +kernel)
theorem dX8_at_4 : decode cX8_at 4 = .ok (.iload_n 1, 1) := kDs0 kf_27 (by decide +kernel)
theorem dX8_at_5 : decode cX8_at 5 = .ok (.aload_n 0, 1) := kDs0 kf_42 (by decide +kernel)
theorem dX8_at_6 : decode cX8_at 6 = .ok (.getfield 15, 3) := kDs2 kf_180 (by decide +kernel)
theorem dX8_at_9 : decode cX8_at 9 = .ok (.if_icmp .ge 21, 3) := kDs4 kf_162 (by decide +kernel)
theorem dX8_at_12 : decode cX8_at 12 = .ok (.iload_n 1, 1) := kDs0 kf_27 (by decide +kernel)
theorem dX8_at_13 : decode cX8_at 13 = .ok (.aload_n 0, 1) := kDs0 kf_42 (by decide +kernel)
theorem dX8_at_14 : decode cX8_at 14 = .ok (.getfield 9, 3) := kDs2 kf_180 (by decide +kernel)
theorem dX8_at_17 : decode cX8_at 17 = .ok (.arraylength, 1) := kDs0 kf_190 (by decide +kernel)
theorem dX8_at_18 : decode cX8_at 18 = .ok (.if_icmp .ge 12, 3) := kDs4 kf_162 (by decide +kernel)
theorem dX8_at_21 : decode cX8_at 21 = .ok (.aload_n 0, 1) := kDs0 kf_42 (by decide +kernel)
theorem dX8_at_22 : decode cX8_at 22 = .ok (.getfield 9, 3) := kDs2 kf_180 (by decide +kernel)
theorem dX8_at_25 : decode cX8_at 25 = .ok (.iload_n 1, 1) := kDs0 kf_27 (by decide +kernel)
theorem dX8_at_26 : decode cX8_at 26 = .ok (.caload, 1) := kDs0 kf_52 (by decide +kernel)
theorem dX8_at_27 : decode cX8_at 27 = .ok (.goto 4, 3) := kDs4 kf_167 (by decide +kernel)
theorem hd_X8_at : yX8_at.cls ≠ "java/lang/invoke/MethodHandle" ∧ yX8_at.cls ≠ "java/lang/invoke/VarHandle" ∧ (parseMethodDescriptor yX8_at.desc).map (fun d => d.parameters.length) = some 1 := by decide +kernel
theorem dX8_bytesIn_0 : decode cX8_bytesIn 0 = .ok (.iconst 0, 1) := kDs0 kf_3 (by decide +kernel)
theorem dX8_bytesIn_1 : decode cX8_bytesIn 1 = .ok (.istore_n 1, 1) := kDs0 kf_60 (by decide +kernel)
theorem dX8_bytesIn_2 : decode cX8_bytesIn 2 = .ok (.bipush 24, 2) := kDs3 kf_16 (by decide +kernel)
theorem dX8_bytesIn_4 : decode cX8_bytesIn 4 = .ok (.istore_n 2, 1) := kDs0 kf_61 (by decide +kernel)
theorem dX8_bytesIn_5 : decode cX8_bytesIn 5 = .ok (.iload_n 2, 1) := kDs0 kf_28 (by decide +kernel)
theorem dX8_bytesIn_6 : decode cX8_bytesIn 6 = .ok (.ifCond .lt 22, 3) := kDs4 kf_155 (by decide +kernel)
theorem dX8_bytesIn_9 : decode cX8_bytesIn 9 = .ok (.iload_n 0, 1) := kDs0 kf_26 (by decide +kernel)
theorem dX8_bytesIn_10 : decode cX8_bytesIn 10 = .ok (.iload_n 2, 1) := kDs0 kf_28 (by decide +kernel)
theorem dX8_bytesIn_11 : decode cX8_bytesIn 11 = .ok (.iushr, 1) := kDs0 kf_124 (by decide +kernel)
theorem dX8_bytesIn_12 : decode cX8_bytesIn 12 = .ok (.sipush 255, 3) := kDs4 kf_17 (by decide +kernel)
theorem dX8_bytesIn_15 : decode cX8_bytesIn 15 = .ok (.iand, 1) := kDs0 kf_126 (by decide +kernel)
theorem dX8_bytesIn_16 : decode cX8_bytesIn 16 = .ok (.ifCond .eq 6, 3) := kDs4 kf_153 (by decide +kernel)
theorem dX8_bytesIn_22 : decode cX8_bytesIn 22 = .ok (.iinc 2 (-8), 3) := kDs5 kf_132 (by decide +kernel)
theorem dX8_bytesIn_25 : decode cX8_bytesIn 25 = .ok (.goto (-20), 3) := kDs4 kf_167 (by decide +kernel)
theorem dX8_bytesIn_28 : decode cX8_bytesIn 28 = .ok (.iload_n 1, 1) := kDs0 kf_27 (by decide +kernel)
theorem dX8_bytesIn_29 : decode cX8_bytesIn 29 = .ok (.ireturn, 1) := kDs0 kf_172 (by decide +kernel)
theorem dX8_bytesIn_19 : decode cX8_bytesIn 19 = .ok (.iinc 1 1, 3) := kDs5 kf_132 (by decide +kernel)
theorem hd_X8_bytesIn : yX8_bytesIn.cls ≠ "java/lang/invoke/MethodHandle" ∧ yX8_bytesIn.cls ≠ "java/lang/invoke/VarHandle" ∧ (parseMethodDescriptor yX8_bytesIn.desc).map (fun d => d.parameters.length) = some 1 := by decide +kernel
theorem dX8_append_0 : decode cX8_append 0 = .ok (.bipush 24, 2) := kDs3 kf_16 (by decide +kernel)
theorem dX8_append_2 : decode cX8_append 2 = .ok (.istore_n 2, 1) := kDs0 kf_61 (by decide +kernel)
theorem dX8_append_3 : decode cX8_append 3 = .ok (.iload_n 2, 1) := kDs0 kf_28 (by decide +kernel)
theorem dX8_append_4 : decode cX8_append 4 = .ok (.ifCond .lt 54, 3) := kDs4 kf_155 (by decide +kernel)
theorem dX8_append_7 : decode cX8_append 7 = .ok (.iload_n 1, 1) := kDs0 kf_27 (by decide +kernel)
theorem dX8_append_8 : decode cX8_append 8 = .ok (.iload_n 2, 1) := kDs0 kf_28 (by decide +kernel)
theorem dX8_append_9 : decode cX8_append 9 = .ok (.iushr, 1) := kDs0 kf_124 (by decide +kernel)
theorem dX8_append_10 : decode cX8_append 10 = .ok (.sipush 255, 3) := kDs4 kf_17 (by decide +kernel)
theorem dX8_append_13 : decode cX8_append 13 = .ok (.iand, 1) := kDs0 kf_126 (by decide +kernel)
theorem dX8_append_14 : decode cX8_append 14 = .ok (.istore_n 3, 1) := kDs0 kf_62 (by decide +kernel)
theorem dX8_append_15 : decode cX8_append 15 = .ok (.iload_n 3, 1) := kDs0 kf_29 (by decide +kernel)
theorem dX8_append_16 : decode cX8_append 16 = .ok (.ifCond .eq 36, 3) := kDs4 kf_153 (by decide +kernel)
theorem dX8_append_52 : decode cX8_append 52 = .ok (.iinc 2 (-8), 3) := kDs5 kf_132 (by decide +kernel)
theorem dX8_append_55 : decode cX8_append 55 = .ok (.goto (-52), 3) := kDs4 kf_167 (by decide +kernel)
theorem dX8_append_58 : decode cX8_append 58 = .ok (.return_, 1) := kDs0 kf_177 (by decide +kernel)
theorem dX8_append_19 : decode cX8_append 19 = .ok (.aload_n 0, 1) := kDs0 kf_42 (by decide +kernel)
theorem dX8_append_20 : decode cX8_append 20 = .ok (.getfield 15, 3) := kDs2 kf_180 (by decide +kernel)
theorem dX8_append_23 : decode cX8_append 23 = .ok (.aload_n 0, 1) := kDs0 kf_42 (by decide +kernel)
theorem dX8_append_24 : decode cX8_append 24 = .ok (.getfield 9, 3) := kDs2 kf_180 (by decide +kernel)
theorem dX8_append_27 : decode cX8_append 27 = .ok (.arraylength, 1) := kDs0 kf_190 (by decide +kernel)
theorem dX8_append_28 : decode cX8_append 28 = .ok (.if_icmp .ge 24, 3) := kDs4 kf_162 (by decide +kernel)
theorem dX8_append_31 : decode cX8_append 31 = .ok (.aload_n 0, 1) := kDs0 kf_42 (by decide +kernel)
theorem dX8_append_32 : decode cX8_append 32 = .ok (.getfield 9, 3) := kDs2 kf_180 (by decide +kernel)
theorem dX8_append_35 : decode cX8_append 35 = .ok (.aload_n 0, 1) := kDs0 kf_42 (by decide +kernel)
theorem dX8_append_36 : decode cX8_append 36 = .ok (.getfield 15, 3) := kDs2 kf_180 (by decide +kernel)
theorem dX8_append_39 : decode cX8_append 39 = .ok (.iload_n 3, 1) := kDs0 kf_29 (by decide +kernel)
theorem dX8_append_40 : decode cX8_append 40 = .ok (.i2c, 1) := kDs0 kf_146 (by decide +kernel)
theorem dX8_append_41 : decode cX8_append 41 = .ok (.castore, 1) := kDs0 kf_85 (by decide +kernel)
theorem dX8_append_42 : decode cX8_append 42 = .ok (.aload_n 0, 1) := kDs0 kf_42 (by decide +kernel)
theorem dX8_append_43 : decode cX8_append 43 = .ok (.dup, 1) := kDs0 kf_89 (by decide +kernel)
theorem dX8_append_44 : decode cX8_append 44 = .ok (.getfield 15, 3) := kDs2 kf_180 (by decide +kernel)
theorem dX8_append_47 : decode cX8_append 47 = .ok (.iconst 1, 1) := kDs0 kf_4 (by decide +kernel)
theorem dX8_append_48 : decode cX8_append 48 = .ok (.iadd, 1) := kDs0 kf_96 (by decide +kernel)
theorem dX8_append_49 : decode cX8_append 49 = .ok (.putfield 15, 3) := kDs2 kf_181 (by decide +kernel)
theorem hd_X8_append : yX8_append.cls ≠ "java/lang/invoke/MethodHandle" ∧ yX8_append.cls ≠ "java/lang/invoke/VarHandle" ∧ (parseMethodDescriptor yX8_append.desc).map (fun d => d.parameters.length) = some 1 := by decide +kernel
def w_s_withinN9 : List Cond := .code yX9_within cX9_within 3 (some .int) :: ([])
theorem gw_s_withinN9 : (w_s_withinN9).all goodWord = true := kGc rfl kGn
set_option maxHeartbeats 4000000 in
set_option maxRecDepth 100000 in
theorem s_withinN9 (l : Launch) (dC : Nat → ClassId) (dI : Nat → Nat → Nat) (pa : Nat) (pb : Nat) (hpa : pa ≤ pb) (hpb : pb ≤ 1000) : Met l yX9_within w_s_withinN9 ({ frames := 1, cells := 0, slots := 0, locals := 60 }) (kR dC dI [.int (nI (pa)), .int 0, .int (nI (pb))] [] [] kT) (vp_Si (fun r : Int32 => r = nI pa)) 0 0 (fun _ => False) := by
  refine Met.ofW (cc := cX9_within) (maxL := 3) (ret := (some .int)) (by decide) rfl ?_
  intro p e s m args below meth c s₁ B hml hv
  obtain ⟨rfl, hP, hK, hX⟩ := hv
  have hx := B.exec
  have hb := B.bytes
  have hr := B.returns
  have hts := atoms_spec (ws := w_s_withinN9) B.pre
  have hown : s.vm.findClass RX9 = some m.cls := findClass_of_methodNamed B.named
  have hlocks := B.notSynchronized
  have hP : va_P (dC, dI) vwCl [] s.heap := hP
  have hl := lv_entry ([.int (nI (pa)), .int 0, .int (nI (pb))]) (n := 3) (Nat.le_of_ble_eq_true rfl)
  rw [lg_entry_eq]
  generalize (lg_sl ([.int (nI (pa)), .int 0, .int (nI (pb))]) ++ List.replicate (3 - (lg_sl ([.int (nI (pa)), .int 0, .int (nI (pb))])).length) Slot.unset).toArray = ls at hl ⊢
  have hl : lv_has ls 3 [(0, .int (nI (pa))), (1, .int 0), (2, .int (nI (pb)))] := hl
  refine kQ (fun Q hQ => ?_)
  refine lv_iload_n hx hb dX9_within_0 rfl (lv_at hl 0 rfl) ?_
  refine lv_iload_n hx hb dX9_within_1 rfl (lv_at hl 1 rfl) ?_
  refine lv_icmp_ge (tgt := 7) hx hb dX9_within_2 kc_t_2_5 (fun c_1 => ?_) (fun c_1 => absurd (nI_pos' (n := pa) (by omega)) c_1)
  refine lv_iload_n hx hb dX9_within_7 rfl (lv_at hl 0 rfl) ?_
  refine lv_iload_n hx hb dX9_within_8 rfl (lv_at hl 2 rfl) ?_
  refine lv_icmp_le (tgt := 16) hx hb dX9_within_9 kc_t_9_7 (fun c_2 => ?_) (fun c_2 => absurd (nI_le (a := pa) (b := pb) (by omega) (by omega)) c_2)
  refine lv_iload_n hx hb dX9_within_16 rfl (lv_at hl 0 rfl) ?_
  rw [hQ]
  exact W.iret (v := nI (pa)) hx hb hr (fun t ht hW => ⟨nI (pa), rfl, rfl, ht⟩) (fun _ h => nomatch h) dX9_within_17

theorem dX8_cutTo_0 : decode cX8_cutTo 0 = .ok (.aload_n 0, 1) := kDs0 kf_42 (by decide +kernel)
theorem dX8_cutTo_1 : decode cX8_cutTo 1 = .ok (.iload_n 1, 1) := kDs0 kf_27 (by decide +kernel)
theorem dX8_cutTo_2 : decode cX8_cutTo 2 = .ok (.iconst 0, 1) := kDs0 kf_3 (by decide +kernel)
theorem dX8_cutTo_3 : decode cX8_cutTo 3 = .ok (.aload_n 0, 1) := kDs0 kf_42 (by decide +kernel)
theorem dX8_cutTo_4 : decode cX8_cutTo 4 = .ok (.getfield 15, 3) := kDs2 kf_180 (by decide +kernel)
theorem dX8_cutTo_7 : decode cX8_cutTo 7 = .ok (.invokestatic 19, 3) := kDs2 kf_184 (by decide +kernel)
theorem dX8_cutTo_10 : decode cX8_cutTo 10 = .ok (.putfield 15, 3) := kDs2 kf_181 (by decide +kernel)
theorem dX8_cutTo_13 : decode cX8_cutTo 13 = .ok (.return_, 1) := kDs0 kf_177 (by decide +kernel)
def w_s_cutTo8 : List Cond := .code yX8_cutTo cX8_cutTo 2 none :: ([.fieldLink RX8 15 "NotEnded$Tape" "length" "I", .initialized RX9, .static yX9_within] ++ (wsX80 ++ (w_s_withinN9)))
theorem gw_s_cutTo8 : (w_s_cutTo8).all goodWord = true := kGc rfl (kGa (by decide +kernel) (kGa gw_wsX80 gw_s_withinN9))
theorem hd_X8_cutTo : yX8_cutTo.cls ≠ "java/lang/invoke/MethodHandle" ∧ yX8_cutTo.cls ≠ "java/lang/invoke/VarHandle" ∧ (parseMethodDescriptor yX8_cutTo.desc).map (fun d => d.parameters.length) = some 1 := by decide +kernel
set_option maxHeartbeats 4000000 in
set_option maxRecDepth 100000 in
theorem s_cutTo8 (l : Launch) (dC : Nat → ClassId) (dI : Nat → Nat → Nat) (jT : Nat) (t0 : Nat) (cC : ClassId) (gT : Nat → Int32) (kt : Nat) (hkt : kt ≤ 120) (hgT : ∀ j : Nat, narrow .char (.int (gT j)) = .int (gT j)) (pn : Nat) (hpn : pn ≤ kt) (sz : Nat) : Met l yX8_cutTo w_s_cutTo8 ({ frames := 2, cells := 0, slots := 0, locals := 120 }) (kW dC dI [.ref jT, .int (nI (pn))] [(jT, .inr (8, [.ref t0, .int (nI (kt))])), (t0, .inl (cC, 120, .inl gT))] [(cC, .char)] kNL sz) (va_Qv (fun (ku : Nat) => ku = pn) (fun (ku : Nat) => fun t : State => kB dC dI [(jT, .inr (8, [.ref t0, .int (nI (ku))])), (t0, .inl (cC, 120, .inl gT))] [(cC, .char)] (va_A [(jT, .inr (8, [.ref t0, .int (nI (kt))])), (t0, .inl (cC, 120, .inl gT))] sz) t) (va_A [(jT, .inr (8, [.ref t0, .int (nI (kt))])), (t0, .inl (cC, 120, .inl gT))] sz)) 0 0 (va_A [(jT, .inr (8, [.ref t0, .int (nI (kt))])), (t0, .inl (cC, 120, .inl gT))] sz) := by
  refine Met.ofW (cc := cX8_cutTo) (maxL := 2) (ret := none) (by decide) rfl ?_
  intro p e s m args below meth c s₁ B hml hv
  obtain ⟨rfl, hsz, hP, hK, hD0, hX⟩ := hv
  have hx := B.exec
  have hb := B.bytes
  have hr := B.returns
  have hts := atoms_spec (ws := w_s_cutTo8) B.pre
  have hown : s.vm.findClass RX8 = some m.cls := findClass_of_methodNamed B.named
  have hlocks := B.notSynchronized
  subst hsz
  have hD := hD0.self (sz := s.heap.size)
  generalize hAe : va_A [(jT, .inr (8, [.ref t0, .int (nI (kt))])), (t0, .inl (cC, 120, .inl gT))] s.heap.size = A at hD ⊢
  have hA : ∀ q : Nat, s.heap.size ≤ q → A q := fun q h => by rw [← hAe]; exact Or.inr h
  have hS : va_S A s.heap s.heap [] := va_S.rf
  have hP : va_P (dC, dI) vwCl [(jT, .inr (8, [.ref t0, .int (nI (kt))])), (t0, .inl (cC, 120, .inl gT))] s.heap := hP
  have hl := lv_entry ([.ref jT, .int (nI (pn))]) (n := 2) (Nat.le_of_ble_eq_true rfl)
  rw [lg_entry_eq]
  generalize (lg_sl ([.ref jT, .int (nI (pn))]) ++ List.replicate (2 - (lg_sl ([.ref jT, .int (nI (pn))])).length) Slot.unset).toArray = ls at hl ⊢
  have hl : lv_has ls 2 [(0, .ref jT), (1, .int (nI (pn)))] := hl
  refine kQ (fun Q hQ => ?_)
  refine lv_aload_n hx hb dX8_cutTo_0 rfl (lv_at hl 0 rfl) ?_
  refine lv_iload_n hx hb dX8_cutTo_1 rfl (lv_at hl 1 rfl) ?_
  refine lv_iconst (v := 0) hx hb dX8_cutTo_2 kc_i_0 ?_
  refine lv_aload_n hx hb dX8_cutTo_3 rfl (lv_at hl 0 rfl) ?_
  refine va_get (D := (dC, dI)) (ci := 8) (v := .int (nI (kt))) (C := RX8) (T := TX8) (N := 2) hx hb hts (fun _ h => List.mem_cons_of_mem _ (List.mem_append_right _ (List.mem_append_left _ h))) hown hK hP 0 rfl rfl 1 kc_l_1_2 (hts (.fieldLink RX8 15 "NotEnded$Tape" "length" "I") (List.mem_cons_of_mem _ (List.mem_append_left _ (List.mem_of_getElem? (i := 0) rfl)))) (fun _ h9 => h9) rfl dX8_cutTo_4 ?_
  have bd_1 : kt ≤ 1000 := by omega
  have hPc := hP.sb (ws2 := []) [] rfl
  have hKc := hK.sb (tys2 := []) [] rfl
  refine vp_callSi (va_runSN (As := [.int (nI (pn)), .int 0, .int (nI (kt))]) (rest := [.ref jT]) ⟨hx, hb, hml, hown, hts⟩ (s_withinN9 l dC dI pn kt hpn bd_1) (⟨va_cnB 3 hts (goodIn_sub (fun _ h => List.mem_cons_of_mem _ (List.mem_append_right _ (List.mem_append_right _ h))) gw_s_withinN9) rfl rfl rfl (hX _ (List.mem_of_getElem? (i := 9) rfl)) (hts (.initialized RX9) (List.mem_cons_of_mem _ (List.mem_append_left _ (List.mem_of_getElem? (i := 1) rfl)))) hd_X9_within ⟨(Nat.le_of_ble_eq_true rfl), (Nat.le_of_ble_eq_true rfl)⟩, (hts (.static yX9_within) (List.mem_cons_of_mem _ (List.mem_append_left _ (List.mem_of_getElem? (i := 2) rfl)))), trivial⟩) (kR_S kT_blind kT_give hPc hKc) rfl rfl hl.1 rfl (lv_room (Nat.le_of_ble_eq_true rfl)) dX8_cutTo_7 ⟨(Nat.le_of_ble_eq_true rfl), (Nat.le_of_ble_eq_true rfl)⟩).run (fun r_2 hw => ?_)
  obtain rfl : r_2 = nI (pn) := hw
  refine va_put (D := (dC, dI)) (ci := 8) (v := .int (nI (pn))) (ty := tyX8 1) (C := RX8) (T := TX8) (N := 2) hx hb hts (fun _ h => List.mem_cons_of_mem _ (List.mem_append_right _ (List.mem_append_left _ h))) tyX8 tyX8_ok nmX8 hown hK hP hD hS 0 rfl rfl 1 kc_l_1_2 (hts (.fieldLink RX8 15 "NotEnded$Tape" "length" "I") (List.mem_cons_of_mem _ (List.mem_append_left _ (List.mem_of_getElem? (i := 0) rfl)))) (fun _ h9 => h9) rfl (tyX8_ok 1 kc_l_1_2) rfl rfl (Nat.le_of_ble_eq_true rfl) dX8_cutTo_10 (fun H locs hP hD hS => ?_)
  have hPD : kPD dC dI A [(jT, .inr (8, [.ref t0, .int (nI (pn))])), (t0, .inl (cC, 120, .inl gT))] H := ⟨hP, hD⟩
  have hP := hPD.1
  have hD := hPD.2
  have hP9 := hP
  have hD9 := hD
  have hK9 := hK
  rw [hQ]
  exact W.vret hx hb hr (fun t ht hW => ⟨⟨pn, rfl, rfl,  by rw [ht]; exact hP9, va_K.moved hW.alike hK9, hD9⟩, hS.F ht⟩) hS.2.2 dX8_cutTo_13

theorem dJ0_isLatin1_aae02_0 : decode cJ0_isLatin1_aae02 0 = .ok (.getstatic 38, 3) := kDs2 kf_178 (by decide +kernel)
theorem dJ0_isLatin1_aae02_3 : decode cJ0_isLatin1_aae02 3 = .ok (.ifCond .eq 14, 3) := kDs4 kf_153 (by decide +kernel)
theorem dJ0_isLatin1_aae02_6 : decode cJ0_isLatin1_aae02 6 = .ok (.aload_n 0, 1) := kDs0 kf_42 (by decide +kernel)
theorem dJ0_isLatin1_aae02_7 : decode cJ0_isLatin1_aae02 7 = .ok (.getfield 15, 3) := kDs2 kf_180 (by decide +kernel)
theorem dJ0_isLatin1_aae02_10 : decode cJ0_isLatin1_aae02 10 = .ok (.ifCond .ne 7, 3) := kDs4 kf_154 (by decide +kernel)
theorem dJ0_isLatin1_aae02_13 : decode cJ0_isLatin1_aae02 13 = .ok (.iconst 1, 1) := kDs0 kf_4 (by decide +kernel)
theorem dJ0_isLatin1_aae02_14 : decode cJ0_isLatin1_aae02 14 = .ok (.goto 4, 3) := kDs4 kf_167 (by decide +kernel)
theorem dJ0_isLatin1_aae02_18 : decode cJ0_isLatin1_aae02 18 = .ok (.ireturn, 1) := kDs0 kf_172 (by decide +kernel)
def w_s_t_latin : List Cond := .code yJ0_isLatin1_aae02 cJ0_isLatin1_aae02 1 (some .boolean) :: ([.fieldLink RJ0 38 "java/lang/String" "COMPACT_STRINGS" "Z", .fieldLink RJ0 15 "java/lang/String" "coder" "B"] ++ [])
theorem gw_s_t_latin : (w_s_t_latin).all goodWord = true := kGc rfl (kGa (by decide +kernel) kGn)
theorem hd_J0_isLatin1_aae02 : yJ0_isLatin1_aae02.cls ≠ "java/lang/invoke/MethodHandle" ∧ yJ0_isLatin1_aae02.cls ≠ "java/lang/invoke/VarHandle" ∧ (parseMethodDescriptor yJ0_isLatin1_aae02.desc).map (fun d => d.parameters.length) = some 0 := by decide +kernel
set_option maxHeartbeats 4000000 in
set_option maxRecDepth 100000 in
theorem s_t_latin (l : Launch) (dC : Nat → ClassId) (dI : Nat → Nat → Nat) (q : Nat) (b : Nat) (n : Nat) (g : Nat → Int32) (hn : n ≤ 8) (A : Nat → Prop) : Met l yJ0_isLatin1_aae02 w_s_t_latin ({ frames := 1, cells := 0, slots := 0, locals := 60 }) (kR dC dI [.ref q] [] [] (kSt q b n g A)) (vp_Si (fun r : Int32 => r = 1)) 0 0 (fun _ => False) := by
  refine Met.ofW (cc := cJ0_isLatin1_aae02) (maxL := 1) (ret := (some .boolean)) (by decide) rfl ?_
  intro p e s m args below meth c s₁ B hml hv
  obtain ⟨rfl, hP, hK, hX⟩ := hv
  have hx := B.exec
  have hb := B.bytes
  have hr := B.returns
  have hts := atoms_spec (ws := w_s_t_latin) B.pre
  have hown : s.vm.findClass RJ0 = some m.cls := findClass_of_methodNamed B.named
  have hlocks := B.notSynchronized
  have hS : va_S A s.heap s.heap [] := va_S.rf
  have hP : va_P (dC, dI) vwCl [] s.heap := hP
  have hl := lv_entry ([.ref q]) (n := 1) (Nat.le_of_ble_eq_true rfl)
  rw [lg_entry_eq]
  generalize (lg_sl ([.ref q]) ++ List.replicate (1 - (lg_sl ([.ref q])).length) Slot.unset).toArray = ls at hl ⊢
  have hl : lv_has ls 1 [(0, .ref q)] := hl
  refine kQ (fun Q hQ => ?_)
  refine va_gets hx hb hX.2.2.2.2.1 hS hown (hts (.fieldLink RJ0 38 "java/lang/String" "COMPACT_STRINGS" "Z") (List.mem_cons_of_mem _ (List.mem_append_left _ (List.mem_of_getElem? (i := 0) rfl)))) (fun _ h9 => h9) dJ0_isLatin1_aae02_0 ?_
  refine lv_if_eq (tgt := 17) hx hb dJ0_isLatin1_aae02_3 kc_t_3_14 (fun c_1 => absurd c_1 (by decide)) (fun c_1 => ?_)
  refine lv_aload_n hx hb dJ0_isLatin1_aae02_6 rfl (lv_at hl 0 rfl) ?_
  refine vk_getf hx hb hX.2.1 hS hown (hts (.fieldLink RJ0 15 "java/lang/String" "coder" "B") (List.mem_cons_of_mem _ (List.mem_append_left _ (List.mem_of_getElem? (i := 1) rfl)))) (fun _ h9 => h9) dJ0_isLatin1_aae02_7 ?_
  refine lv_if_ne (tgt := 17) hx hb dJ0_isLatin1_aae02_10 kc_t_10_7 (fun c_2 => absurd (by decide) c_2) (fun c_2 => ?_)
  refine lv_iconst (v := 1) hx hb dJ0_isLatin1_aae02_13 kc_i_1 ?_
  refine lv_goto (tgt := 18) hx hb dJ0_isLatin1_aae02_14 kc_t_14_4 ?_
  rw [hQ]
  exact W.zret (v := 1) hx hb hr rfl (fun t ht hW => ⟨1, rfl, rfl, ht⟩) (fun _ h => nomatch h) dJ0_isLatin1_aae02_18

theorem dJ0_coder_7d493_0 : decode cJ0_coder_7d493 0 = .ok (.getstatic 38, 3) := kDs2 kf_178 (by decide +kernel)
theorem dJ0_coder_7d493_3 : decode cJ0_coder_7d493 3 = .ok (.ifCond .eq 10, 3) := kDs4 kf_153 (by decide +kernel)
theorem dJ0_coder_7d493_6 : decode cJ0_coder_7d493 6 = .ok (.aload_n 0, 1) := kDs0 kf_42 (by decide +kernel)
theorem dJ0_coder_7d493_7 : decode cJ0_coder_7d493 7 = .ok (.getfield 15, 3) := kDs2 kf_180 (by decide +kernel)
theorem dJ0_coder_7d493_10 : decode cJ0_coder_7d493 10 = .ok (.goto 4, 3) := kDs4 kf_167 (by decide +kernel)
theorem dJ0_coder_7d493_14 : decode cJ0_coder_7d493 14 = .ok (.ireturn, 1) := kDs0 kf_172 (by decide +kernel)
def w_s_t_coder : List Cond := .code yJ0_coder_7d493 cJ0_coder_7d493 1 (some .byte) :: ([.fieldLink RJ0 38 "java/lang/String" "COMPACT_STRINGS" "Z", .fieldLink RJ0 15 "java/lang/String" "coder" "B"] ++ [])
theorem gw_s_t_coder : (w_s_t_coder).all goodWord = true := kGc rfl (kGa (by decide +kernel) kGn)
theorem hd_J0_coder_7d493 : yJ0_coder_7d493.cls ≠ "java/lang/invoke/MethodHandle" ∧ yJ0_coder_7d493.cls ≠ "java/lang/invoke/VarHandle" ∧ (parseMethodDescriptor yJ0_coder_7d493.desc).map (fun d => d.parameters.length) = some 0 := by decide +kernel
set_option maxHeartbeats 4000000 in
set_option maxRecDepth 100000 in
theorem s_t_coder (l : Launch) (dC : Nat → ClassId) (dI : Nat → Nat → Nat) (q : Nat) (b : Nat) (n : Nat) (g : Nat → Int32) (hn : n ≤ 8) (A : Nat → Prop) : Met l yJ0_coder_7d493 w_s_t_coder ({ frames := 1, cells := 0, slots := 0, locals := 60 }) (kR dC dI [.ref q] [] [] (kSt q b n g A)) (vp_Si (fun r : Int32 => r = 0)) 0 0 (fun _ => False) := by
  refine Met.ofW (cc := cJ0_coder_7d493) (maxL := 1) (ret := (some .byte)) (by decide) rfl ?_
  intro p e s m args below meth c s₁ B hml hv
  obtain ⟨rfl, hP, hK, hX⟩ := hv
  have hx := B.exec
  have hb := B.bytes
  have hr := B.returns
  have hts := atoms_spec (ws := w_s_t_coder) B.pre
  have hown : s.vm.findClass RJ0 = some m.cls := findClass_of_methodNamed B.named
  have hlocks := B.notSynchronized
  have hS : va_S A s.heap s.heap [] := va_S.rf
  have hP : va_P (dC, dI) vwCl [] s.heap := hP
  have hl := lv_entry ([.ref q]) (n := 1) (Nat.le_of_ble_eq_true rfl)
  rw [lg_entry_eq]
  generalize (lg_sl ([.ref q]) ++ List.replicate (1 - (lg_sl ([.ref q])).length) Slot.unset).toArray = ls at hl ⊢
  have hl : lv_has ls 1 [(0, .ref q)] := hl
  refine kQ (fun Q hQ => ?_)
  refine va_gets hx hb hX.2.2.2.2.1 hS hown (hts (.fieldLink RJ0 38 "java/lang/String" "COMPACT_STRINGS" "Z") (List.mem_cons_of_mem _ (List.mem_append_left _ (List.mem_of_getElem? (i := 0) rfl)))) (fun _ h9 => h9) dJ0_coder_7d493_0 ?_
  refine lv_if_eq (tgt := 13) hx hb dJ0_coder_7d493_3 kc_t_3_10 (fun c_1 => absurd c_1 (by decide)) (fun c_1 => ?_)
  refine lv_aload_n hx hb dJ0_coder_7d493_6 rfl (lv_at hl 0 rfl) ?_
  refine vk_getf hx hb hX.2.1 hS hown (hts (.fieldLink RJ0 15 "java/lang/String" "coder" "B") (List.mem_cons_of_mem _ (List.mem_append_left _ (List.mem_of_getElem? (i := 1) rfl)))) (fun _ h9 => h9) dJ0_coder_7d493_7 ?_
  refine lv_goto (tgt := 14) hx hb dJ0_coder_7d493_10 kc_t_10_4 ?_
  rw [hQ]
  exact W.zret (v := 0) hx hb hr rfl (fun t ht hW => ⟨0, rfl, rfl, ht⟩) (fun _ h => nomatch h) dJ0_coder_7d493_14

theorem dJ0_length_8abf5_0 : decode cJ0_length_8abf5 0 = .ok (.aload_n 0, 1) := kDs0 kf_42 (by decide +kernel)
theorem dJ0_length_8abf5_1 : decode cJ0_length_8abf5 1 = .ok (.getfield 9, 3) := kDs2 kf_180 (by decide +kernel)
theorem dJ0_length_8abf5_4 : decode cJ0_length_8abf5 4 = .ok (.arraylength, 1) := kDs0 kf_190 (by decide +kernel)
theorem dJ0_length_8abf5_5 : decode cJ0_length_8abf5 5 = .ok (.aload_n 0, 1) := kDs0 kf_42 (by decide +kernel)
theorem dJ0_length_8abf5_6 : decode cJ0_length_8abf5 6 = .ok (.invokevirtual 335, 3) := kDs2 kf_182 (by decide +kernel)
theorem dJ0_length_8abf5_9 : decode cJ0_length_8abf5 9 = .ok (.ishr, 1) := kDs0 kf_122 (by decide +kernel)
theorem dJ0_length_8abf5_10 : decode cJ0_length_8abf5 10 = .ok (.ireturn, 1) := kDs0 kf_172 (by decide +kernel)
def w_s_t_length : List Cond := .code yJ0_length_8abf5 cJ0_length_8abf5 1 (some .int) :: ([.fieldLink RJ0 9 "java/lang/String" "value" "[B", .initialized RJ0, .selects RJ0 yJ0_coder_7d493 yJ0_coder_7d493, .instanceMethod yJ0_coder_7d493, .methodLink RJ0 335 yJ0_coder_7d493] ++ (w_s_t_coder))
theorem gw_s_t_length : (w_s_t_length).all goodWord = true := kGc rfl (kGa (by decide +kernel) gw_s_t_coder)
theorem hd_J0_length_8abf5 : yJ0_length_8abf5.cls ≠ "java/lang/invoke/MethodHandle" ∧ yJ0_length_8abf5.cls ≠ "java/lang/invoke/VarHandle" ∧ (parseMethodDescriptor yJ0_length_8abf5.desc).map (fun d => d.parameters.length) = some 0 := by decide +kernel
set_option maxHeartbeats 4000000 in
set_option maxRecDepth 100000 in
theorem s_t_length (l : Launch) (dC : Nat → ClassId) (dI : Nat → Nat → Nat) (q : Nat) (b : Nat) (n : Nat) (g : Nat → Int32) (hn : n ≤ 8) (A : Nat → Prop) : Met l yJ0_length_8abf5 w_s_t_length ({ frames := 2, cells := 0, slots := 0, locals := 120 }) (kR dC dI [.ref q] [] [] (kSt q b n g A)) (vp_Si (fun r : Int32 => r = nI n)) 0 0 (fun _ => False) := by
  refine Met.ofW (cc := cJ0_length_8abf5) (maxL := 1) (ret := (some .int)) (by decide) rfl ?_
  intro p e s m args below meth c s₁ B hml hv
  obtain ⟨rfl, hP, hK, hX⟩ := hv
  have hx := B.exec
  have hb := B.bytes
  have hr := B.returns
  have hts := atoms_spec (ws := w_s_t_length) B.pre
  have hown : s.vm.findClass RJ0 = some m.cls := findClass_of_methodNamed B.named
  have hlocks := B.notSynchronized
  have hS : va_S A s.heap s.heap [] := va_S.rf
  have hP : va_P (dC, dI) vwCl [] s.heap := hP
  have hl := lv_entry ([.ref q]) (n := 1) (Nat.le_of_ble_eq_true rfl)
  rw [lg_entry_eq]
  generalize (lg_sl ([.ref q]) ++ List.replicate (1 - (lg_sl ([.ref q])).length) Slot.unset).toArray = ls at hl ⊢
  have hl : lv_has ls 1 [(0, .ref q)] := hl
  refine kQ (fun Q hQ => ?_)
  refine lv_aload_n hx hb dJ0_length_8abf5_0 rfl (lv_at hl 0 rfl) ?_
  refine vk_getf hx hb hX.2.2.1 hS hown (hts (.fieldLink RJ0 9 "java/lang/String" "value" "[B") (List.mem_cons_of_mem _ (List.mem_append_left _ (List.mem_of_getElem? (i := 0) rfl)))) (fun _ h9 => h9) dJ0_length_8abf5_1 ?_
  refine va_tlen hx hb hX.2.2.2.1 hS (v := nI (n)) rfl dJ0_length_8abf5_4 ?_
  refine lv_aload_n hx hb dJ0_length_8abf5_5 rfl (lv_at hl 0 rfl) ?_
  have hPc := hP.sb (ws2 := []) [] rfl
  have hKc := hK.sb (tys2 := []) [] rfl
  refine vp_callSi (va_runV (As := []) (rest := [.int (nI (n))]) ⟨hx, hb, hml, hown, hts⟩ (s_t_coder l dC dI q b n g hn A) (cwV 0 hts (kG (List.forall_mem_cons.mpr ⟨(List.mem_cons_of_mem _ (List.mem_append_left _ (List.mem_of_getElem? (i := 4) rfl))), (List.forall_mem_cons.mpr ⟨(List.mem_cons_of_mem _ (List.mem_append_left _ (List.mem_of_getElem? (i := 3) rfl))), (List.forall_mem_cons.mpr ⟨(List.mem_cons_of_mem _ (List.mem_append_left _ (List.mem_of_getElem? (i := 2) rfl))), (List.forall_mem_cons.mpr ⟨(List.mem_cons_of_mem _ (List.mem_append_left _ (List.mem_of_getElem? (i := 1) rfl))), (fun _ h => absurd h List.not_mem_nil)⟩)⟩)⟩)⟩) (kGV _ _ _ _) (fun _ h => List.mem_cons_of_mem _ (List.mem_append_right _ h)) gw_s_t_coder) rfl rfl rfl ⟨rfl, hd_J0_coder_7d493⟩ ⟨(Nat.le_of_ble_eq_true rfl), (Nat.le_of_ble_eq_true rfl)⟩) (kR_V kSt_blind (kSt_give hX hS) (kSt_recv hX hS) hPc hKc) rfl rfl hl.1 rfl (lv_room (Nat.le_of_ble_eq_true rfl)) dJ0_length_8abf5_6 ⟨(Nat.le_of_ble_eq_true rfl), (Nat.le_of_ble_eq_true rfl)⟩).run (fun r_1 hw => ?_)
  obtain rfl : r_1 = 0 := hw
  refine lv_ishr hx hb dJ0_length_8abf5_9 ?_
  refine lv_topi (fun y_2 ey_2 => ?_)
  obtain rfl : y_2 = nI (n) := ey_2.trans (sc_shr0 (by omega))
  rw [hQ]
  exact W.iret (v := nI (n)) hx hb hr (fun t ht hW => ⟨nI (n), rfl, rfl, ht⟩) (fun _ h => nomatch h) dJ0_length_8abf5_10

theorem dJ1_indexOfChar_4cfef_0 : decode cJ1_indexOfChar_4cfef 0 = .ok (.iload_n 1, 1) := kDs0 kf_27 (by decide +kernel)
theorem dJ1_indexOfChar_4cfef_1 : decode cJ1_indexOfChar_4cfef 1 = .ok (.i2b, 1) := kDs0 kf_145 (by decide +kernel)
theorem dJ1_indexOfChar_4cfef_2 : decode cJ1_indexOfChar_4cfef 2 = .ok (.istore 4, 2) := kDs1 kf_54 (by decide +kernel)
theorem dJ1_indexOfChar_4cfef_4 : decode cJ1_indexOfChar_4cfef 4 = .ok (.iload_n 2, 1) := kDs0 kf_28 (by decide +kernel)
theorem dJ1_indexOfChar_4cfef_5 : decode cJ1_indexOfChar_4cfef 5 = .ok (.istore 5, 2) := kDs1 kf_54 (by decide +kernel)
theorem dJ1_indexOfChar_4cfef_7 : decode cJ1_indexOfChar_4cfef 7 = .ok (.iload 5, 2) := kDs1 kf_21 (by decide +kernel)
theorem dJ1_indexOfChar_4cfef_9 : decode cJ1_indexOfChar_4cfef 9 = .ok (.iload_n 3, 1) := kDs0 kf_29 (by decide +kernel)
theorem dJ1_indexOfChar_4cfef_10 : decode cJ1_indexOfChar_4cfef 10 = .ok (.if_icmp .ge 21, 3) := kDs4 kf_162 (by decide +kernel)
theorem dJ1_indexOfChar_4cfef_31 : decode cJ1_indexOfChar_4cfef 31 = .ok (.iconst (-1), 1) := kDs0 kf_2 (by decide +kernel)
theorem dJ1_indexOfChar_4cfef_32 : decode cJ1_indexOfChar_4cfef 32 = .ok (.ireturn, 1) := kDs0 kf_172 (by decide +kernel)
theorem dJ1_indexOfChar_4cfef_13 : decode cJ1_indexOfChar_4cfef 13 = .ok (.aload_n 0, 1) := kDs0 kf_42 (by decide +kernel)
theorem dJ1_indexOfChar_4cfef_14 : decode cJ1_indexOfChar_4cfef 14 = .ok (.iload 5, 2) := kDs1 kf_21 (by decide +kernel)
theorem dJ1_indexOfChar_4cfef_16 : decode cJ1_indexOfChar_4cfef 16 = .ok (.baload, 1) := kDs0 kf_51 (by decide +kernel)
theorem dJ1_indexOfChar_4cfef_17 : decode cJ1_indexOfChar_4cfef 17 = .ok (.iload 4, 2) := kDs1 kf_21 (by decide +kernel)
theorem dJ1_indexOfChar_4cfef_19 : decode cJ1_indexOfChar_4cfef 19 = .ok (.if_icmp .ne 6, 3) := kDs4 kf_160 (by decide +kernel)
theorem dJ1_indexOfChar_4cfef_25 : decode cJ1_indexOfChar_4cfef 25 = .ok (.iinc 5 1, 3) := kDs5 kf_132 (by decide +kernel)
theorem dJ1_indexOfChar_4cfef_28 : decode cJ1_indexOfChar_4cfef 28 = .ok (.goto (-21), 3) := kDs4 kf_167 (by decide +kernel)
theorem dJ1_indexOfChar_4cfef_22 : decode cJ1_indexOfChar_4cfef 22 = .ok (.iload 5, 2) := kDs1 kf_21 (by decide +kernel)
theorem dJ1_indexOfChar_4cfef_24 : decode cJ1_indexOfChar_4cfef 24 = .ok (.ireturn, 1) := kDs0 kf_172 (by decide +kernel)
theorem hd_J1_indexOfChar_4cfef : yJ1_indexOfChar_4cfef.cls ≠ "java/lang/invoke/MethodHandle" ∧ yJ1_indexOfChar_4cfef.cls ≠ "java/lang/invoke/VarHandle" ∧ (parseMethodDescriptor yJ1_indexOfChar_4cfef.desc).map (fun d => d.parameters.length) = some 4 := by decide +kernel
theorem dJ1_canEncode_9a6ad_0 : decode cJ1_canEncode_9a6ad 0 = .ok (.iload_n 0, 1) := kDs0 kf_26 (by decide +kernel)
theorem dJ1_canEncode_9a6ad_1 : decode cJ1_canEncode_9a6ad 1 = .ok (.ifCond .lt 14, 3) := kDs4 kf_155 (by decide +kernel)
theorem dJ1_canEncode_9a6ad_15 : decode cJ1_canEncode_9a6ad 15 = .ok (.iconst 0, 1) := kDs0 kf_3 (by decide +kernel)
theorem dJ1_canEncode_9a6ad_16 : decode cJ1_canEncode_9a6ad 16 = .ok (.ireturn, 1) := kDs0 kf_172 (by decide +kernel)
theorem dJ1_canEncode_9a6ad_4 : decode cJ1_canEncode_9a6ad 4 = .ok (.iload_n 0, 1) := kDs0 kf_26 (by decide +kernel)
theorem dJ1_canEncode_9a6ad_5 : decode cJ1_canEncode_9a6ad 5 = .ok (.sipush 255, 3) := kDs4 kf_17 (by decide +kernel)
theorem dJ1_canEncode_9a6ad_8 : decode cJ1_canEncode_9a6ad 8 = .ok (.if_icmp .gt 7, 3) := kDs4 kf_163 (by decide +kernel)
theorem dJ1_canEncode_9a6ad_11 : decode cJ1_canEncode_9a6ad 11 = .ok (.iconst 1, 1) := kDs0 kf_4 (by decide +kernel)
theorem dJ1_canEncode_9a6ad_12 : decode cJ1_canEncode_9a6ad 12 = .ok (.goto 4, 3) := kDs4 kf_167 (by decide +kernel)
theorem hd_J1_canEncode_9a6ad : yJ1_canEncode_9a6ad.cls ≠ "java/lang/invoke/MethodHandle" ∧ yJ1_canEncode_9a6ad.cls ≠ "java/lang/invoke/VarHandle" ∧ (parseMethodDescriptor yJ1_canEncode_9a6ad.desc).map (fun d => d.parameters.length) = some 1 := by decide +kernel
theorem dJ1_indexOf_4cfef_0 : decode cJ1_indexOf_4cfef 0 = .ok (.iload_n 1, 1) := kDs0 kf_27 (by decide +kernel)
theorem dJ1_indexOf_4cfef_1 : decode cJ1_indexOf_4cfef 1 = .ok (.invokestatic 88, 3) := kDs2 kf_184 (by decide +kernel)
theorem dJ1_indexOf_4cfef_4 : decode cJ1_indexOf_4cfef 4 = .ok (.ifCond .ne 5, 3) := kDs4 kf_154 (by decide +kernel)
theorem dJ1_indexOf_4cfef_9 : decode cJ1_indexOf_4cfef 9 = .ok (.iload_n 2, 1) := kDs0 kf_28 (by decide +kernel)
theorem dJ1_indexOf_4cfef_10 : decode cJ1_indexOf_4cfef 10 = .ok (.iconst 0, 1) := kDs0 kf_3 (by decide +kernel)
theorem dJ1_indexOf_4cfef_11 : decode cJ1_indexOf_4cfef 11 = .ok (.invokestatic 92, 3) := kDs2 kf_184 (by decide +kernel)
theorem dJ1_indexOf_4cfef_14 : decode cJ1_indexOf_4cfef 14 = .ok (.istore_n 2, 1) := kDs0 kf_61 (by decide +kernel)
theorem dJ1_indexOf_4cfef_15 : decode cJ1_indexOf_4cfef 15 = .ok (.iload_n 3, 1) := kDs0 kf_29 (by decide +kernel)
theorem dJ1_indexOf_4cfef_16 : decode cJ1_indexOf_4cfef 16 = .ok (.aload_n 0, 1) := kDs0 kf_42 (by decide +kernel)
theorem dJ1_indexOf_4cfef_17 : decode cJ1_indexOf_4cfef 17 = .ok (.arraylength, 1) := kDs0 kf_190 (by decide +kernel)
theorem dJ1_indexOf_4cfef_18 : decode cJ1_indexOf_4cfef 18 = .ok (.invokestatic 38, 3) := kDs2 kf_184 (by decide +kernel)
theorem dJ1_indexOf_4cfef_21 : decode cJ1_indexOf_4cfef 21 = .ok (.istore_n 3, 1) := kDs0 kf_62 (by decide +kernel)
theorem dJ1_indexOf_4cfef_22 : decode cJ1_indexOf_4cfef 22 = .ok (.iload_n 2, 1) := kDs0 kf_28 (by decide +kernel)
theorem dJ1_indexOf_4cfef_23 : decode cJ1_indexOf_4cfef 23 = .ok (.iload_n 3, 1) := kDs0 kf_29 (by decide +kernel)
theorem dJ1_indexOf_4cfef_24 : decode cJ1_indexOf_4cfef 24 = .ok (.if_icmp .lt 5, 3) := kDs4 kf_161 (by decide +kernel)
theorem dJ1_indexOf_4cfef_29 : decode cJ1_indexOf_4cfef 29 = .ok (.aload_n 0, 1) := kDs0 kf_42 (by decide +kernel)
theorem dJ1_indexOf_4cfef_30 : decode cJ1_indexOf_4cfef 30 = .ok (.iload_n 1, 1) := kDs0 kf_27 (by decide +kernel)
theorem dJ1_indexOf_4cfef_31 : decode cJ1_indexOf_4cfef 31 = .ok (.iload_n 2, 1) := kDs0 kf_28 (by decide +kernel)
theorem dJ1_indexOf_4cfef_32 : decode cJ1_indexOf_4cfef 32 = .ok (.iload_n 3, 1) := kDs0 kf_29 (by decide +kernel)
theorem dJ1_indexOf_4cfef_33 : decode cJ1_indexOf_4cfef 33 = .ok (.invokestatic 95, 3) := kDs2 kf_184 (by decide +kernel)
theorem dJ1_indexOf_4cfef_36 : decode cJ1_indexOf_4cfef 36 = .ok (.ireturn, 1) := kDs0 kf_172 (by decide +kernel)
theorem dJ1_indexOf_4cfef_27 : decode cJ1_indexOf_4cfef 27 = .ok (.iconst (-1), 1) := kDs0 kf_2 (by decide +kernel)
theorem dJ1_indexOf_4cfef_28 : decode cJ1_indexOf_4cfef 28 = .ok (.ireturn, 1) := kDs0 kf_172 (by decide +kernel)
theorem hd_J1_indexOf_4cfef : yJ1_indexOf_4cfef.cls ≠ "java/lang/invoke/MethodHandle" ∧ yJ1_indexOf_4cfef.cls ≠ "java/lang/invoke/VarHandle" ∧ (parseMethodDescriptor yJ1_indexOf_4cfef.desc).map (fun d => d.parameters.length) = some 4 := by decide +kernel
theorem dJ0_indexOf_7cf53_0 : decode cJ0_indexOf_7cf53 0 = .ok (.aload_n 0, 1) := kDs0 kf_42 (by decide +kernel)
theorem dJ0_indexOf_7cf53_1 : decode cJ0_indexOf_7cf53 1 = .ok (.invokevirtual 492, 3) := kDs2 kf_182 (by decide +kernel)
theorem dJ0_indexOf_7cf53_4 : decode cJ0_indexOf_7cf53 4 = .ok (.ifCond .eq 19, 3) := kDs4 kf_153 (by decide +kernel)
theorem dJ0_indexOf_7cf53_7 : decode cJ0_indexOf_7cf53 7 = .ok (.aload_n 0, 1) := kDs0 kf_42 (by decide +kernel)
theorem dJ0_indexOf_7cf53_8 : decode cJ0_indexOf_7cf53 8 = .ok (.getfield 9, 3) := kDs2 kf_180 (by decide +kernel)
theorem dJ0_indexOf_7cf53_11 : decode cJ0_indexOf_7cf53 11 = .ok (.iload_n 1, 1) := kDs0 kf_27 (by decide +kernel)
theorem dJ0_indexOf_7cf53_12 : decode cJ0_indexOf_7cf53 12 = .ok (.iload_n 2, 1) := kDs0 kf_28 (by decide +kernel)
theorem dJ0_indexOf_7cf53_13 : decode cJ0_indexOf_7cf53 13 = .ok (.aload_n 0, 1) := kDs0 kf_42 (by decide +kernel)
theorem dJ0_indexOf_7cf53_14 : decode cJ0_indexOf_7cf53 14 = .ok (.invokevirtual 505, 3) := kDs2 kf_182 (by decide +kernel)
theorem dJ0_indexOf_7cf53_17 : decode cJ0_indexOf_7cf53 17 = .ok (.invokestatic 637, 3) := kDs2 kf_184 (by decide +kernel)
theorem dJ0_indexOf_7cf53_20 : decode cJ0_indexOf_7cf53 20 = .ok (.goto 16, 3) := kDs4 kf_167 (by decide +kernel)
theorem dJ0_indexOf_7cf53_36 : decode cJ0_indexOf_7cf53 36 = .ok (.ireturn, 1) := kDs0 kf_172 (by decide +kernel)
theorem hd_J0_indexOf_7cf53 : yJ0_indexOf_7cf53.cls ≠ "java/lang/invoke/MethodHandle" ∧ yJ0_indexOf_7cf53.cls ≠ "java/lang/invoke/VarHandle" ∧ (parseMethodDescriptor yJ0_indexOf_7cf53.desc).map (fun d => d.parameters.length) = some 2 := by decide +kernel
theorem dJ0_indexOf_0f7a4_0 : decode cJ0_indexOf_0f7a4 0 = .ok (.aload_n 0, 1) := kDs0 kf_42 (by decide +kernel)
theorem dJ0_indexOf_0f7a4_1 : decode cJ0_indexOf_0f7a4 1 = .ok (.iload_n 1, 1) := kDs0 kf_27 (by decide +kernel)
theorem dJ0_indexOf_0f7a4_2 : decode cJ0_indexOf_0f7a4 2 = .ok (.iconst 0, 1) := kDs0 kf_3 (by decide +kernel)
theorem dJ0_indexOf_0f7a4_3 : decode cJ0_indexOf_0f7a4 3 = .ok (.invokevirtual 633, 3) := kDs2 kf_182 (by decide +kernel)
theorem dJ0_indexOf_0f7a4_6 : decode cJ0_indexOf_0f7a4 6 = .ok (.ireturn, 1) := kDs0 kf_172 (by decide +kernel)
theorem hd_J0_indexOf_0f7a4 : yJ0_indexOf_0f7a4.cls ≠ "java/lang/invoke/MethodHandle" ∧ yJ0_indexOf_0f7a4.cls ≠ "java/lang/invoke/VarHandle" ∧ (parseMethodDescriptor yJ0_indexOf_0f7a4.desc).map (fun d => d.parameters.length) = some 1 := by decide +kernel
