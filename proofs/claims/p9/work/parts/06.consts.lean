theorem kc_l_6_8 : 6 < 8 := by decide
theorem kc_l_7_8 : 7 < 8 := by decide
theorem kc_i_1 : Int32.ofInt (1) = 1 := by decide
theorem kc_l_5_8 : 5 < 8 := by decide
theorem kc_i_0 : Int32.ofInt (0) = 0 := by decide
theorem kc_l_4_8 : 4 < 8 := by decide
theorem kc_i_m1 : Int32.ofInt (-1) = (-1) := by decide
theorem kc_31_10 : 10 < 2 ^ 31 := by decide
theorem kc_l_2_3 : 2 < 3 := by decide
theorem kc_t_10_7 : ((10 : Nat) : Int) + (7) = ((17 : Nat) : Int) := by decide
theorem kc_t_14_4 : ((14 : Nat) : Int) + (4) = ((18 : Nat) : Int) := by decide
theorem kc_l_5_6 : 5 < 6 := by decide
theorem kc_31_20 : 20 < 2 ^ 31 := by decide
theorem kc_l_4_6 : 4 < 6 := by decide
theorem kc_t_27_4 : ((27 : Nat) : Int) + (4) = ((31 : Nat) : Int) := by decide
theorem kc_i_2 : Int32.ofInt (2) = 2 := by decide
theorem kc_31_8 : 8 < 2 ^ 31 := by decide
theorem kc_t_135_7 : ((135 : Nat) : Int) + (7) = ((142 : Nat) : Int) := by decide
theorem kc_l_5_7 : 5 < 7 := by decide
theorem kc_31_0 : 0 < 2 ^ 31 := by decide
theorem kc_l_6_7 : 6 < 7 := by decide
theorem kc_31_1 : 1 < 2 ^ 31 := by decide
theorem kc_b_50 : (Int8.ofInt (50)).toInt32 = 50 := by decide
theorem kc_b_48 : (Int8.ofInt (48)).toInt32 = 48 := by decide
theorem kc_31_48 : 48 < 2 ^ 31 := by decide
theorem kc_b_8 : (Int8.ofInt (8)).toInt32 = 8 := by decide
theorem kc_t_32_7 : ((32 : Nat) : Int) + (7) = ((39 : Nat) : Int) := by decide
theorem kc_b_120 : (Int8.ofInt (120)).toInt32 = 120 := by decide
theorem kc_b_47 : (Int8.ofInt (47)).toInt32 = 47 := by decide
theorem kc_l_6_11 : 6 < 11 := by decide
theorem kc_l_7_11 : 7 < 11 := by decide
theorem kc_l_9_11 : 9 < 11 := by decide
theorem kc_l_10_11 : 10 < 11 := by decide
theorem kc_t_97_7 : ((97 : Nat) : Int) + (7) = ((104 : Nat) : Int) := by decide
theorem kc_t_21_14 : ((21 : Nat) : Int) + (14) = ((35 : Nat) : Int) := by decide
theorem kc_31_14 : 14 < 2 ^ 31 := by decide
theorem kc_l_7_52 : 7 < 52 := by decide
theorem kc_l_26_52 : 26 < 52 := by decide
theorem kc_l_25_52 : 25 < 52 := by decide
theorem kc_t_7_31 : ((7 : Nat) : Int) + (31) = ((38 : Nat) : Int) := by decide
theorem kc_t_12_20 : ((12 : Nat) : Int) + (20) = ((32 : Nat) : Int) := by decide
theorem kc_t_35_m33 : ((35 : Nat) : Int) + (-33) = ((2 : Nat) : Int) := by decide
theorem kc_l_21_52 : 21 < 52 := by decide
theorem kc_t_27_5 : ((27 : Nat) : Int) + (5) = ((32 : Nat) : Int) := by decide
theorem kc_l_40_52 : 40 < 52 := by decide
theorem kc_l_42_52 : 42 < 52 := by decide
theorem kc_t_13_36 : ((13 : Nat) : Int) + (36) = ((49 : Nat) : Int) := by decide
theorem kc_l_30_52 : 30 < 52 := by decide
theorem kc_l_43_52 : 43 < 52 := by decide
theorem kc_t_61_7 : ((61 : Nat) : Int) + (7) = ((68 : Nat) : Int) := by decide
theorem kc_t_65_4 : ((65 : Nat) : Int) + (4) = ((69 : Nat) : Int) := by decide
theorem kc_l_28_52 : 28 < 52 := by decide
theorem kc_l_44_52 : 44 < 52 := by decide
theorem kc_t_38_7 : ((38 : Nat) : Int) + (7) = ((45 : Nat) : Int) := by decide
theorem kc_t_46_23 : ((46 : Nat) : Int) + (23) = ((69 : Nat) : Int) := by decide
theorem kc_t_42_27 : ((42 : Nat) : Int) + (27) = ((69 : Nat) : Int) := by decide
theorem kc_t_23_7 : ((23 : Nat) : Int) + (7) = ((30 : Nat) : Int) := by decide
theorem kc_nd_772 : va_nd [0, 1, 2, 3, 4, 5, 6, 7, 8, 9, 10, 11, 12, 13, 14, 15, 16, 17, 18, 19, 20, 21, 22, 23, 24, 25, 26, 27, 28, 29, 30] = true := by decide
theorem kc_b_121 : (Int8.ofInt (121)).toInt32 = 121 := by decide
theorem kc_nd_794 : va_nd [0, 2, 3, 4] = true := by decide
theorem kc_b_103 : (Int8.ofInt (103)).toInt32 = 103 := by decide
theorem kc_l_0_52 : 0 < 52 := by decide
theorem kc_t_6_24 : ((6 : Nat) : Int) + (24) = ((30 : Nat) : Int) := by decide
theorem kc_t_38_5 : ((38 : Nat) : Int) + (5) = ((43 : Nat) : Int) := by decide
theorem kc_t_15_15 : ((15 : Nat) : Int) + (15) = ((30 : Nat) : Int) := by decide
theorem kc_t_61_8 : ((61 : Nat) : Int) + (8) = ((69 : Nat) : Int) := by decide
theorem kc_t_71_8 : ((71 : Nat) : Int) + (8) = ((79 : Nat) : Int) := by decide
theorem kc_t_76_5 : ((76 : Nat) : Int) + (5) = ((81 : Nat) : Int) := by decide
theorem kc_t_66_15 : ((66 : Nat) : Int) + (15) = ((81 : Nat) : Int) := by decide
theorem kc_t_10_25 : ((10 : Nat) : Int) + (25) = ((35 : Nat) : Int) := by decide
theorem kc_t_63_40 : ((63 : Nat) : Int) + (40) = ((103 : Nat) : Int) := by decide
theorem kc_t_107_7 : ((107 : Nat) : Int) + (7) = ((114 : Nat) : Int) := by decide
theorem kc_l_46_52 : 46 < 52 := by decide
theorem kc_t_124_26 : ((124 : Nat) : Int) + (26) = ((150 : Nat) : Int) := by decide
theorem kc_t_159_111 : ((159 : Nat) : Int) + (111) = ((270 : Nat) : Int) := by decide
theorem kc_t_169_95 : ((169 : Nat) : Int) + (95) = ((264 : Nat) : Int) := by decide
theorem kc_t_267_m114 : ((267 : Nat) : Int) + (-114) = ((153 : Nat) : Int) := by decide
theorem kc_t_180_6 : ((180 : Nat) : Int) + (6) = ((186 : Nat) : Int) := by decide
theorem kc_t_212_52 : ((212 : Nat) : Int) + (52) = ((264 : Nat) : Int) := by decide
theorem kc_in_8_14 : vp_in 8 14 := by unfold vp_in; decide
theorem kc_t_237_18 : ((237 : Nat) : Int) + (18) = ((255 : Nat) : Int) := by decide
theorem kc_in_7_14 : vp_in 7 14 := by unfold vp_in; decide
theorem kc_t_252_4 : ((252 : Nat) : Int) + (4) = ((256 : Nat) : Int) := by decide
theorem kc_t_261_m51 : ((261 : Nat) : Int) + (-51) = ((210 : Nat) : Int) := by decide
theorem kc_in_6_14 : vp_in 6 14 := by unfold vp_in; decide
theorem kc_in_5_14 : vp_in 5 14 := by unfold vp_in; decide
theorem kc_in_4_14 : vp_in 4 14 := by unfold vp_in; decide
theorem kc_in_3_14 : vp_in 3 14 := by unfold vp_in; decide
theorem kc_in_2_14 : vp_in 2 14 := by unfold vp_in; decide
theorem kc_in_1_14 : vp_in 1 14 := by unfold vp_in; decide
theorem kc_in_0_14 : vp_in 0 14 := by unfold vp_in; decide
theorem kc_t_183_81 : ((183 : Nat) : Int) + (81) = ((264 : Nat) : Int) := by decide
theorem kc_t_147_m30 : ((147 : Nat) : Int) + (-30) = ((117 : Nat) : Int) := by decide
theorem kc_t_139_4 : ((139 : Nat) : Int) + (4) = ((143 : Nat) : Int) := by decide
theorem kc_t_75_18 : ((75 : Nat) : Int) + (18) = ((93 : Nat) : Int) := by decide
theorem kc_t_100_m43 : ((100 : Nat) : Int) + (-43) = ((57 : Nat) : Int) := by decide
theorem kc_t_86_7 : ((86 : Nat) : Int) + (7) = ((93 : Nat) : Int) := by decide
theorem kc_t_90_4 : ((90 : Nat) : Int) + (4) = ((94 : Nat) : Int) := by decide
theorem kc_t_16_76 : ((16 : Nat) : Int) + (76) = ((92 : Nat) : Int) := by decide
theorem kc_l_45_52 : 45 < 52 := by decide
theorem kc_t_35_51 : ((35 : Nat) : Int) + (51) = ((86 : Nat) : Int) := by decide
theorem kc_t_89_m77 : ((89 : Nat) : Int) + (-77) = ((12 : Nat) : Int) := by decide
theorem kc_l_41_52 : 41 < 52 := by decide
theorem kc_t_47_33 : ((47 : Nat) : Int) + (33) = ((80 : Nat) : Int) := by decide
theorem kc_t_83_m54 : ((83 : Nat) : Int) + (-54) = ((29 : Nat) : Int) := by decide
theorem kc_t_52_17 : ((52 : Nat) : Int) + (17) = ((69 : Nat) : Int) := by decide
theorem kc_t_75_5 : ((75 : Nat) : Int) + (5) = ((80 : Nat) : Int) := by decide
theorem kc_t_66_14 : ((66 : Nat) : Int) + (14) = ((80 : Nat) : Int) := by decide
theorem kc_t_17_33 : ((17 : Nat) : Int) + (33) = ((50 : Nat) : Int) := by decide
theorem kc_t_30_10 : ((30 : Nat) : Int) + (10) = ((40 : Nat) : Int) := by decide
theorem kc_t_47_m36 : ((47 : Nat) : Int) + (-36) = ((11 : Nat) : Int) := by decide
theorem kc_t_37_4 : ((37 : Nat) : Int) + (4) = ((41 : Nat) : Int) := by decide
theorem kc_t_34_44 : ((34 : Nat) : Int) + (44) = ((78 : Nat) : Int) := by decide
theorem kc_t_46_22 : ((46 : Nat) : Int) + (22) = ((68 : Nat) : Int) := by decide
theorem kc_t_75_m47 : ((75 : Nat) : Int) + (-47) = ((28 : Nat) : Int) := by decide
theorem kc_t_58_10 : ((58 : Nat) : Int) + (10) = ((68 : Nat) : Int) := by decide
theorem kc_t_10_5 : ((10 : Nat) : Int) + (5) = ((15 : Nat) : Int) := by decide
theorem kc_t_36_74 : ((36 : Nat) : Int) + (74) = ((110 : Nat) : Int) := by decide
theorem kc_t_61_43 : ((61 : Nat) : Int) + (43) = ((104 : Nat) : Int) := by decide
theorem kc_t_107_m77 : ((107 : Nat) : Int) + (-77) = ((30 : Nat) : Int) := by decide
theorem kc_t_66_38 : ((66 : Nat) : Int) + (38) = ((104 : Nat) : Int) := by decide
theorem kc_t_71_16 : ((71 : Nat) : Int) + (16) = ((87 : Nat) : Int) := by decide
theorem kc_t_81_6 : ((81 : Nat) : Int) + (6) = ((87 : Nat) : Int) := by decide
theorem kc_t_84_20 : ((84 : Nat) : Int) + (20) = ((104 : Nat) : Int) := by decide
