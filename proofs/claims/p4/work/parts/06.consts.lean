theorem kc_l_6_8 : 6 < 8 := by decide
theorem kc_l_7_8 : 7 < 8 := by decide
theorem kc_i_1 : Int32.ofInt (1) = 1 := by decide
theorem kc_l_5_8 : 5 < 8 := by decide
theorem kc_i_0 : Int32.ofInt (0) = 0 := by decide
theorem kc_l_2_4 : 2 < 4 := by decide
theorem kc_l_3_4 : 3 < 4 := by decide
theorem kc_t_9_22 : ((9 : Nat) : Int) + (22) = ((31 : Nat) : Int) := by decide
theorem kc_l_4_8 : 4 < 8 := by decide
theorem kc_31_4 : 4 < 2 ^ 31 := by decide
theorem kc_t_19_6 : ((19 : Nat) : Int) + (6) = ((25 : Nat) : Int) := by decide
theorem kc_t_28_m24 : ((28 : Nat) : Int) + (-24) = ((4 : Nat) : Int) := by decide
theorem kc_i_m1 : Int32.ofInt (-1) = (-1) := by decide
theorem kc_t_9_30 : ((9 : Nat) : Int) + (30) = ((39 : Nat) : Int) := by decide
theorem kc_t_41_7 : ((41 : Nat) : Int) + (7) = ((48 : Nat) : Int) := by decide
theorem kc_t_45_6 : ((45 : Nat) : Int) + (6) = ((51 : Nat) : Int) := by decide
theorem kc_t_19_14 : ((19 : Nat) : Int) + (14) = ((33 : Nat) : Int) := by decide
theorem kc_t_36_m32 : ((36 : Nat) : Int) + (-32) = ((4 : Nat) : Int) := by decide
theorem kc_l_1_4 : 1 < 4 := by decide
theorem kc_t_12_53 : ((12 : Nat) : Int) + (53) = ((65 : Nat) : Int) := by decide
theorem kc_t_22_37 : ((22 : Nat) : Int) + (37) = ((59 : Nat) : Int) := by decide
theorem kc_t_62_m55 : ((62 : Nat) : Int) + (-55) = ((7 : Nat) : Int) := by decide
theorem kc_t_27_26 : ((27 : Nat) : Int) + (26) = ((53 : Nat) : Int) := by decide
theorem kc_t_56_m39 : ((56 : Nat) : Int) + (-39) = ((17 : Nat) : Int) := by decide
theorem kc_l_2_8 : 2 < 8 := by decide
theorem kc_31_10 : 10 < 2 ^ 31 := by decide
theorem kc_t_42_11 : ((42 : Nat) : Int) + (11) = ((53 : Nat) : Int) := by decide
theorem kc_t_8_7 : ((8 : Nat) : Int) + (7) = ((15 : Nat) : Int) := by decide
theorem kc_t_12_4 : ((12 : Nat) : Int) + (4) = ((16 : Nat) : Int) := by decide
theorem kc_t_5_7 : ((5 : Nat) : Int) + (7) = ((12 : Nat) : Int) := by decide
theorem kc_t_9_4 : ((9 : Nat) : Int) + (4) = ((13 : Nat) : Int) := by decide
theorem kc_t_2_5 : ((2 : Nat) : Int) + (5) = ((7 : Nat) : Int) := by decide
theorem kc_t_9_7 : ((9 : Nat) : Int) + (7) = ((16 : Nat) : Int) := by decide
theorem kc_t_13_4 : ((13 : Nat) : Int) + (4) = ((17 : Nat) : Int) := by decide
theorem kc_l_2_3 : 2 < 3 := by decide
theorem kc_t_10_7 : ((10 : Nat) : Int) + (7) = ((17 : Nat) : Int) := by decide
theorem kc_t_14_4 : ((14 : Nat) : Int) + (4) = ((18 : Nat) : Int) := by decide
theorem kc_t_2_12 : ((2 : Nat) : Int) + (12) = ((14 : Nat) : Int) := by decide
theorem kc_t_7_7 : ((7 : Nat) : Int) + (7) = ((14 : Nat) : Int) := by decide
theorem kc_t_11_4 : ((11 : Nat) : Int) + (4) = ((15 : Nat) : Int) := by decide
theorem kc_i_3 : Int32.ofInt (3) = 3 := by decide
theorem kc_t_1_21 : ((1 : Nat) : Int) + (21) = ((22 : Nat) : Int) := by decide
theorem kc_t_9_13 : ((9 : Nat) : Int) + (13) = ((22 : Nat) : Int) := by decide
theorem kc_b_10 : (Int8.ofInt (10)).toInt32 = 10 := by decide
theorem kc_t_15_7 : ((15 : Nat) : Int) + (7) = ((22 : Nat) : Int) := by decide
theorem kc_t_19_4 : ((19 : Nat) : Int) + (4) = ((23 : Nat) : Int) := by decide
theorem kc_t_6_5 : ((6 : Nat) : Int) + (5) = ((11 : Nat) : Int) := by decide
theorem kc_l_0_8 : 0 < 8 := by decide
theorem kc_l_1_8 : 1 < 8 := by decide
theorem kc_t_43_18 : ((43 : Nat) : Int) + (18) = ((61 : Nat) : Int) := by decide
theorem kc_i_4 : Int32.ofInt (4) = 4 := by decide
theorem kc_t_5_5 : ((5 : Nat) : Int) + (5) = ((10 : Nat) : Int) := by decide
theorem kc_t_5_35 : ((5 : Nat) : Int) + (35) = ((40 : Nat) : Int) := by decide
theorem kc_t_13_27 : ((13 : Nat) : Int) + (27) = ((40 : Nat) : Int) := by decide
theorem kc_l_3_8 : 3 < 8 := by decide
theorem kc_l_5_6 : 5 < 6 := by decide
theorem kc_b_20 : (Int8.ofInt (20)).toInt32 = 20 := by decide
theorem kc_31_20 : 20 < 2 ^ 31 := by decide
theorem kc_l_0_6 : 0 < 6 := by decide
theorem kc_l_1_6 : 1 < 6 := by decide
theorem kc_l_2_6 : 2 < 6 := by decide
theorem kc_l_3_6 : 3 < 6 := by decide
theorem kc_l_4_6 : 4 < 6 := by decide
theorem kc_l_4_5 : 4 < 5 := by decide
theorem kc_b_6 : (Int8.ofInt (6)).toInt32 = 6 := by decide
theorem kc_31_6 : 6 < 2 ^ 31 := by decide
theorem kc_l_0_5 : 0 < 5 := by decide
theorem kc_l_1_5 : 1 < 5 := by decide
theorem kc_l_2_5 : 2 < 5 := by decide
theorem kc_l_3_5 : 3 < 5 := by decide
theorem kc_t_9_25 : ((9 : Nat) : Int) + (25) = ((34 : Nat) : Int) := by decide
theorem kc_t_19_9 : ((19 : Nat) : Int) + (9) = ((28 : Nat) : Int) := by decide
theorem kc_t_31_m27 : ((31 : Nat) : Int) + (-27) = ((4 : Nat) : Int) := by decide
theorem kc_t_18_12 : ((18 : Nat) : Int) + (12) = ((30 : Nat) : Int) := by decide
theorem kc_t_27_4 : ((27 : Nat) : Int) + (4) = ((31 : Nat) : Int) := by decide
theorem kc_t_9_39 : ((9 : Nat) : Int) + (39) = ((48 : Nat) : Int) := by decide
theorem kc_t_18_21 : ((18 : Nat) : Int) + (21) = ((39 : Nat) : Int) := by decide
theorem kc_t_45_m41 : ((45 : Nat) : Int) + (-41) = ((4 : Nat) : Int) := by decide
theorem kc_t_27_12 : ((27 : Nat) : Int) + (12) = ((39 : Nat) : Int) := by decide
theorem kc_t_36_4 : ((36 : Nat) : Int) + (4) = ((40 : Nat) : Int) := by decide
theorem kc_t_9_38 : ((9 : Nat) : Int) + (38) = ((47 : Nat) : Int) := by decide
theorem kc_t_17_22 : ((17 : Nat) : Int) + (22) = ((39 : Nat) : Int) := by decide
theorem kc_t_44_m40 : ((44 : Nat) : Int) + (-40) = ((4 : Nat) : Int) := by decide
theorem kc_t_9_42 : ((9 : Nat) : Int) + (42) = ((51 : Nat) : Int) := by decide
theorem kc_t_18_24 : ((18 : Nat) : Int) + (24) = ((42 : Nat) : Int) := by decide
theorem kc_t_48_m44 : ((48 : Nat) : Int) + (-44) = ((4 : Nat) : Int) := by decide
theorem kc_i_2 : Int32.ofInt (2) = 2 := by decide
theorem kc_t_28_14 : ((28 : Nat) : Int) + (14) = ((42 : Nat) : Int) := by decide
theorem kc_t_39_4 : ((39 : Nat) : Int) + (4) = ((43 : Nat) : Int) := by decide
theorem kc_t_1_19 : ((1 : Nat) : Int) + (19) = ((20 : Nat) : Int) := by decide
theorem kc_l_0_2 : 0 < 2 := by decide
theorem kc_t_10_10 : ((10 : Nat) : Int) + (10) = ((20 : Nat) : Int) := by decide
theorem kc_31_8 : 8 < 2 ^ 31 := by decide
theorem kc_s_10000 : (Int16.ofInt (10000)).toInt32 = 10000 := by decide
theorem kc_t_7_21 : ((7 : Nat) : Int) + (21) = ((28 : Nat) : Int) := by decide
theorem kc_t_16_12 : ((16 : Nat) : Int) + (12) = ((28 : Nat) : Int) := by decide
theorem kc_t_25_4 : ((25 : Nat) : Int) + (4) = ((29 : Nat) : Int) := by decide
theorem kc_t_135_7 : ((135 : Nat) : Int) + (7) = ((142 : Nat) : Int) := by decide
theorem kc_t_139_7 : ((139 : Nat) : Int) + (7) = ((146 : Nat) : Int) := by decide
theorem kc_t_160_7 : ((160 : Nat) : Int) + (7) = ((167 : Nat) : Int) := by decide
theorem kc_t_164_4 : ((164 : Nat) : Int) + (4) = ((168 : Nat) : Int) := by decide
theorem kc_t_149_7 : ((149 : Nat) : Int) + (7) = ((156 : Nat) : Int) := by decide
theorem kc_t_153_4 : ((153 : Nat) : Int) + (4) = ((157 : Nat) : Int) := by decide
theorem kc_t_171_7 : ((171 : Nat) : Int) + (7) = ((178 : Nat) : Int) := by decide
theorem kc_t_175_4 : ((175 : Nat) : Int) + (4) = ((179 : Nat) : Int) := by decide
theorem kc_t_5_6 : ((5 : Nat) : Int) + (6) = ((11 : Nat) : Int) := by decide
theorem kc_t_16_8 : ((16 : Nat) : Int) + (8) = ((24 : Nat) : Int) := by decide
theorem kc_t_21_5 : ((21 : Nat) : Int) + (5) = ((26 : Nat) : Int) := by decide
theorem kc_l_4_7 : 4 < 7 := by decide
theorem kc_l_5_7 : 5 < 7 := by decide
theorem kc_t_13_147 : ((13 : Nat) : Int) + (147) = ((160 : Nat) : Int) := by decide
theorem kc_t_162_12 : ((162 : Nat) : Int) + (12) = ((174 : Nat) : Int) := by decide
theorem kc_31_0 : 0 < 2 ^ 31 := by decide
theorem kc_l_1_2 : 1 < 2 := by decide
theorem kc_in_0_32 : vp_in 0 32 := by unfold vp_in; decide
theorem kc_t_171_4 : ((171 : Nat) : Int) + (4) = ((175 : Nat) : Int) := by decide
theorem kc_t_20_140 : ((20 : Nat) : Int) + (140) = ((160 : Nat) : Int) := by decide
theorem kc_l_6_7 : 6 < 7 := by decide
theorem kc_s_20000 : (Int16.ofInt (20000)).toInt32 = 20000 := by decide
theorem kc_t_34_32 : ((34 : Nat) : Int) + (32) = ((66 : Nat) : Int) := by decide
theorem kc_s_20033 : (Int16.ofInt (20033)).toInt32 = 20033 := by decide
theorem kc_t_71_37 : ((71 : Nat) : Int) + (37) = ((108 : Nat) : Int) := by decide
theorem kc_t_111_43 : ((111 : Nat) : Int) + (43) = ((154 : Nat) : Int) := by decide
theorem kc_31_1 : 1 < 2 ^ 31 := by decide
theorem kc_t_157_m147 : ((157 : Nat) : Int) + (-147) = ((10 : Nat) : Int) := by decide
theorem kc_31_32 : 32 < 2 ^ 31 := by decide
theorem kc_t_76_78 : ((76 : Nat) : Int) + (78) = ((154 : Nat) : Int) := by decide
theorem kc_t_96_7 : ((96 : Nat) : Int) + (7) = ((103 : Nat) : Int) := by decide
theorem kc_t_105_49 : ((105 : Nat) : Int) + (49) = ((154 : Nat) : Int) := by decide
theorem kc_t_100_4 : ((100 : Nat) : Int) + (4) = ((104 : Nat) : Int) := by decide
theorem kc_t_44_110 : ((44 : Nat) : Int) + (110) = ((154 : Nat) : Int) := by decide
theorem kc_t_63_91 : ((63 : Nat) : Int) + (91) = ((154 : Nat) : Int) := by decide
theorem kc_t_1_5 : ((1 : Nat) : Int) + (5) = ((6 : Nat) : Int) := by decide
theorem kc_l_3_7 : 3 < 7 := by decide
theorem kc_t_20_72 : ((20 : Nat) : Int) + (72) = ((92 : Nat) : Int) := by decide
theorem kc_t_44_42 : ((44 : Nat) : Int) + (42) = ((86 : Nat) : Int) := by decide
theorem kc_t_89_m75 : ((89 : Nat) : Int) + (-75) = ((14 : Nat) : Int) := by decide
theorem kc_t_51_18 : ((51 : Nat) : Int) + (18) = ((69 : Nat) : Int) := by decide
theorem kc_nd_138 : va_nd [0, 1, 2] = true := by decide
theorem kc_t_66_20 : ((66 : Nat) : Int) + (20) = ((86 : Nat) : Int) := by decide
theorem kc_t_7_13 : ((7 : Nat) : Int) + (13) = ((20 : Nat) : Int) := by decide
theorem kc_t_17_m12 : ((17 : Nat) : Int) + (-12) = ((5 : Nat) : Int) := by decide
theorem kc_t_19_m13 : ((19 : Nat) : Int) + (-13) = ((6 : Nat) : Int) := by decide
theorem kc_l_0_19 : 0 < 19 := by decide
theorem kc_t_8_12 : ((8 : Nat) : Int) + (12) = ((20 : Nat) : Int) := by decide
theorem kc_s_m1000 : (Int16.ofInt (-1000)).toInt32 = (-1000) := by decide
theorem kc_l_2_19 : 2 < 19 := by decide
theorem kc_t_17_6 : ((17 : Nat) : Int) + (6) = ((23 : Nat) : Int) := by decide
theorem kc_l_4_19 : 4 < 19 := by decide
theorem kc_l_5_19 : 5 < 19 := by decide
theorem kc_l_1_3 : 1 < 3 := by decide
theorem kc_t_12_33 : ((12 : Nat) : Int) + (33) = ((45 : Nat) : Int) := by decide
theorem kc_l_16_19 : 16 < 19 := by decide
theorem kc_t_23_16 : ((23 : Nat) : Int) + (16) = ((39 : Nat) : Int) := by decide
theorem kc_t_42_m38 : ((42 : Nat) : Int) + (-38) = ((4 : Nat) : Int) := by decide
theorem kc_t_33_6 : ((33 : Nat) : Int) + (6) = ((39 : Nat) : Int) := by decide
theorem kc_t_12_37 : ((12 : Nat) : Int) + (37) = ((49 : Nat) : Int) := by decide
theorem kc_t_23_20 : ((23 : Nat) : Int) + (20) = ((43 : Nat) : Int) := by decide
theorem kc_t_46_m42 : ((46 : Nat) : Int) + (-42) = ((4 : Nat) : Int) := by decide
theorem kc_t_34_9 : ((34 : Nat) : Int) + (9) = ((43 : Nat) : Int) := by decide
theorem kc_l_17_19 : 17 < 19 := by decide
theorem kc_b_50 : (Int8.ofInt (50)).toInt32 = 50 := by decide
theorem kc_t_22_17 : ((22 : Nat) : Int) + (17) = ((39 : Nat) : Int) := by decide
theorem kc_t_16_51 : ((16 : Nat) : Int) + (51) = ((67 : Nat) : Int) := by decide
theorem kc_t_68_7 : ((68 : Nat) : Int) + (7) = ((75 : Nat) : Int) := by decide
theorem kc_t_72_6 : ((72 : Nat) : Int) + (6) = ((78 : Nat) : Int) := by decide
theorem kc_t_28_33 : ((28 : Nat) : Int) + (33) = ((61 : Nat) : Int) := by decide
theorem kc_t_64_m57 : ((64 : Nat) : Int) + (-57) = ((7 : Nat) : Int) := by decide
theorem kc_t_45_16 : ((45 : Nat) : Int) + (16) = ((61 : Nat) : Int) := by decide
theorem kc_t_8_17 : ((8 : Nat) : Int) + (17) = ((25 : Nat) : Int) := by decide
theorem kc_t_18_7 : ((18 : Nat) : Int) + (7) = ((25 : Nat) : Int) := by decide
theorem kc_t_22_4 : ((22 : Nat) : Int) + (4) = ((26 : Nat) : Int) := by decide
theorem kc_t_8_21 : ((8 : Nat) : Int) + (21) = ((29 : Nat) : Int) := by decide
theorem kc_l_3_19 : 3 < 19 := by decide
theorem kc_t_8_10 : ((8 : Nat) : Int) + (10) = ((18 : Nat) : Int) := by decide
theorem kc_l_10_19 : 10 < 19 := by decide
theorem kc_nd_176 : va_nd [9] = true := by decide
theorem kc_l_11_19 : 11 < 19 := by decide
theorem kc_nd_178 : va_nd [10] = true := by decide
theorem kc_l_12_19 : 12 < 19 := by decide
theorem kc_nd_180 : va_nd [11] = true := by decide
theorem kc_t_34_84 : ((34 : Nat) : Int) + (84) = ((118 : Nat) : Int) := by decide
theorem kc_t_52_60 : ((52 : Nat) : Int) + (60) = ((112 : Nat) : Int) := by decide
theorem kc_t_115_m89 : ((115 : Nat) : Int) + (-89) = ((26 : Nat) : Int) := by decide
theorem kc_t_59_53 : ((59 : Nat) : Int) + (53) = ((112 : Nat) : Int) := by decide
theorem kc_t_102_7 : ((102 : Nat) : Int) + (7) = ((109 : Nat) : Int) := by decide
theorem kc_t_106_4 : ((106 : Nat) : Int) + (4) = ((110 : Nat) : Int) := by decide
theorem kc_l_1_19 : 1 < 19 := by decide
theorem kc_i_5 : Int32.ofInt (5) = 5 := by decide
theorem kc_l_18_19 : 18 < 19 := by decide
theorem kc_nd_190 : va_nd [19, 20, 21] = true := by decide
theorem kc_b_7 : (Int8.ofInt (7)).toInt32 = 7 := by decide
theorem kc_t_8_4 : ((8 : Nat) : Int) + (4) = ((12 : Nat) : Int) := by decide
theorem kc_l_2_7 : 2 < 7 := by decide
theorem kc_t_25_14 : ((25 : Nat) : Int) + (14) = ((39 : Nat) : Int) := by decide
theorem kc_t_43_19 : ((43 : Nat) : Int) + (19) = ((62 : Nat) : Int) := by decide
theorem kc_t_66_29 : ((66 : Nat) : Int) + (29) = ((95 : Nat) : Int) := by decide
theorem kc_t_143_11 : ((143 : Nat) : Int) + (11) = ((154 : Nat) : Int) := by decide
theorem kc_t_59_4 : ((59 : Nat) : Int) + (4) = ((63 : Nat) : Int) := by decide
theorem kc_t_83_7 : ((83 : Nat) : Int) + (7) = ((90 : Nat) : Int) := by decide
theorem kc_t_92_4 : ((92 : Nat) : Int) + (4) = ((96 : Nat) : Int) := by decide
theorem kc_t_151_4 : ((151 : Nat) : Int) + (4) = ((155 : Nat) : Int) := by decide
theorem kc_t_87_4 : ((87 : Nat) : Int) + (4) = ((91 : Nat) : Int) := by decide
theorem kc_nd_203 : va_nd [0, 1, 2, 3, 4, 5, 6, 7, 8, 9, 10, 11, 12, 13, 14, 15, 16, 17, 18, 19, 20, 21] = true := by decide
theorem kc_t_18_109 : ((18 : Nat) : Int) + (109) = ((127 : Nat) : Int) := by decide
theorem kc_t_29_92 : ((29 : Nat) : Int) + (92) = ((121 : Nat) : Int) := by decide
theorem kc_t_124_m114 : ((124 : Nat) : Int) + (-114) = ((10 : Nat) : Int) := by decide
theorem kc_l_6_19 : 6 < 19 := by decide
theorem kc_l_14_19 : 14 < 19 := by decide
theorem kc_l_7_19 : 7 < 19 := by decide
theorem kc_t_69_7 : ((69 : Nat) : Int) + (7) = ((76 : Nat) : Int) := by decide
theorem kc_l_8_19 : 8 < 19 := by decide
theorem kc_t_101_7 : ((101 : Nat) : Int) + (7) = ((108 : Nat) : Int) := by decide
theorem kc_t_105_15 : ((105 : Nat) : Int) + (15) = ((120 : Nat) : Int) := by decide
theorem kc_t_73_15 : ((73 : Nat) : Int) + (15) = ((88 : Nat) : Int) := by decide
theorem kc_t_10_45 : ((10 : Nat) : Int) + (45) = ((55 : Nat) : Int) := by decide
theorem kc_t_21_28 : ((21 : Nat) : Int) + (28) = ((49 : Nat) : Int) := by decide
theorem kc_t_52_m50 : ((52 : Nat) : Int) + (-50) = ((2 : Nat) : Int) := by decide
theorem kc_b_100 : (Int8.ofInt (100)).toInt32 = 100 := by decide
theorem kc_t_10_75 : ((10 : Nat) : Int) + (75) = ((85 : Nat) : Int) := by decide
theorem kc_t_20_22 : ((20 : Nat) : Int) + (22) = ((42 : Nat) : Int) := by decide
theorem kc_t_57_22 : ((57 : Nat) : Int) + (22) = ((79 : Nat) : Int) := by decide
theorem kc_t_82_m80 : ((82 : Nat) : Int) + (-80) = ((2 : Nat) : Int) := by decide
theorem kc_t_61_18 : ((61 : Nat) : Int) + (18) = ((79 : Nat) : Int) := by decide
theorem kc_l_9_19 : 9 < 19 := by decide
theorem kc_t_35_7 : ((35 : Nat) : Int) + (7) = ((42 : Nat) : Int) := by decide
theorem kc_nd_226 : va_nd [8] = true := by decide
theorem kc_t_18_56 : ((18 : Nat) : Int) + (56) = ((74 : Nat) : Int) := by decide
theorem kc_t_84_45 : ((84 : Nat) : Int) + (45) = ((129 : Nat) : Int) := by decide
theorem kc_t_95_28 : ((95 : Nat) : Int) + (28) = ((123 : Nat) : Int) := by decide
theorem kc_t_126_m50 : ((126 : Nat) : Int) + (-50) = ((76 : Nat) : Int) := by decide
theorem kc_t_29_39 : ((29 : Nat) : Int) + (39) = ((68 : Nat) : Int) := by decide
theorem kc_t_71_m61 : ((71 : Nat) : Int) + (-61) = ((10 : Nat) : Int) := by decide
theorem kc_t_40_28 : ((40 : Nat) : Int) + (28) = ((68 : Nat) : Int) := by decide
theorem kc_t_50_13 : ((50 : Nat) : Int) + (13) = ((63 : Nat) : Int) := by decide
theorem kc_t_10_62 : ((10 : Nat) : Int) + (62) = ((72 : Nat) : Int) := by decide
theorem kc_t_18_48 : ((18 : Nat) : Int) + (48) = ((66 : Nat) : Int) := by decide
theorem kc_t_69_m67 : ((69 : Nat) : Int) + (-67) = ((2 : Nat) : Int) := by decide
theorem kc_l_15_19 : 15 < 19 := by decide
theorem kc_b_33 : (Int8.ofInt (33)).toInt32 = 33 := by decide
theorem kc_t_56_10 : ((56 : Nat) : Int) + (10) = ((66 : Nat) : Int) := by decide
theorem kc_t_4_41 : ((4 : Nat) : Int) + (41) = ((45 : Nat) : Int) := by decide
theorem kc_b_48 : (Int8.ofInt (48)).toInt32 = 48 := by decide
theorem kc_t_10_35 : ((10 : Nat) : Int) + (35) = ((45 : Nat) : Int) := by decide
theorem kc_31_48 : 48 < 2 ^ 31 := by decide
theorem kc_t_42_m40 : ((42 : Nat) : Int) + (-40) = ((2 : Nat) : Int) := by decide
theorem kc_b_8 : (Int8.ofInt (8)).toInt32 = 8 := by decide
theorem kc_t_8_39 : ((8 : Nat) : Int) + (39) = ((47 : Nat) : Int) := by decide
theorem kc_l_13_19 : 13 < 19 := by decide
theorem kc_in_0_9 : vp_in 0 9 := by unfold vp_in; decide
theorem kc_31_9 : 9 < 2 ^ 31 := by decide
theorem kc_t_44_m37 : ((44 : Nat) : Int) + (-37) = ((7 : Nat) : Int) := by decide
theorem kc_nd_252 : va_nd [12] = true := by decide
theorem kc_t_31_47 : ((31 : Nat) : Int) + (47) = ((78 : Nat) : Int) := by decide
theorem kc_t_79_21 : ((79 : Nat) : Int) + (21) = ((100 : Nat) : Int) := by decide
theorem kc_t_88_12 : ((88 : Nat) : Int) + (12) = ((100 : Nat) : Int) := by decide
theorem kc_t_97_4 : ((97 : Nat) : Int) + (4) = ((101 : Nat) : Int) := by decide
theorem kc_t_39_33 : ((39 : Nat) : Int) + (33) = ((72 : Nat) : Int) := by decide
theorem kc_t_75_m52 : ((75 : Nat) : Int) + (-52) = ((23 : Nat) : Int) := by decide
theorem kc_t_45_7 : ((45 : Nat) : Int) + (7) = ((52 : Nat) : Int) := by decide
theorem kc_t_61_68 : ((61 : Nat) : Int) + (68) = ((129 : Nat) : Int) := by decide
theorem kc_t_126_m74 : ((126 : Nat) : Int) + (-74) = ((52 : Nat) : Int) := by decide
theorem kc_t_6_38 : ((6 : Nat) : Int) + (38) = ((44 : Nat) : Int) := by decide
theorem kc_t_60_7 : ((60 : Nat) : Int) + (7) = ((67 : Nat) : Int) := by decide
theorem kc_t_64_4 : ((64 : Nat) : Int) + (4) = ((68 : Nat) : Int) := by decide
theorem kc_t_15_46 : ((15 : Nat) : Int) + (46) = ((61 : Nat) : Int) := by decide
theorem kc_t_26_29 : ((26 : Nat) : Int) + (29) = ((55 : Nat) : Int) := by decide
theorem kc_t_58_m49 : ((58 : Nat) : Int) + (-49) = ((9 : Nat) : Int) := by decide
theorem kc_t_40_15 : ((40 : Nat) : Int) + (15) = ((55 : Nat) : Int) := by decide
theorem kc_t_50_5 : ((50 : Nat) : Int) + (5) = ((55 : Nat) : Int) := by decide
theorem kc_t_2_7 : ((2 : Nat) : Int) + (7) = ((9 : Nat) : Int) := by decide
theorem kc_t_11_7 : ((11 : Nat) : Int) + (7) = ((18 : Nat) : Int) := by decide
theorem kc_t_15_4 : ((15 : Nat) : Int) + (4) = ((19 : Nat) : Int) := by decide
theorem kc_t_6_13 : ((6 : Nat) : Int) + (13) = ((19 : Nat) : Int) := by decide
theorem kc_l_0_1 : 0 < 1 := by decide
theorem kc_b_16 : (Int8.ofInt (16)).toInt32 = 16 := by decide
theorem kc_b_63 : (Int8.ofInt (63)).toInt32 = 63 := by decide
theorem kc_t_28_13 : ((28 : Nat) : Int) + (13) = ((41 : Nat) : Int) := by decide
theorem kc_t_43_16 : ((43 : Nat) : Int) + (16) = ((59 : Nat) : Int) := by decide
theorem kc_t_48_7 : ((48 : Nat) : Int) + (7) = ((55 : Nat) : Int) := by decide
theorem kc_t_56_8 : ((56 : Nat) : Int) + (8) = ((64 : Nat) : Int) := by decide
theorem kc_t_52_12 : ((52 : Nat) : Int) + (12) = ((64 : Nat) : Int) := by decide
theorem kc_t_32_7 : ((32 : Nat) : Int) + (7) = ((39 : Nat) : Int) := by decide
theorem kc_t_1_29 : ((1 : Nat) : Int) + (29) = ((30 : Nat) : Int) := by decide
theorem kc_t_9_21 : ((9 : Nat) : Int) + (21) = ((30 : Nat) : Int) := by decide
theorem kc_31_120 : 120 < 2 ^ 31 := by decide
theorem kc_b_24 : (Int8.ofInt (24)).toInt32 = 24 := by decide
theorem kc_t_6_22 : ((6 : Nat) : Int) + (22) = ((28 : Nat) : Int) := by decide
theorem kc_s_255 : (Int16.ofInt (255)).toInt32 = 255 := by decide
theorem kc_t_16_6 : ((16 : Nat) : Int) + (6) = ((22 : Nat) : Int) := by decide
theorem kc_t_25_m20 : ((25 : Nat) : Int) + (-20) = ((5 : Nat) : Int) := by decide
theorem kc_t_4_54 : ((4 : Nat) : Int) + (54) = ((58 : Nat) : Int) := by decide
theorem kc_t_16_36 : ((16 : Nat) : Int) + (36) = ((52 : Nat) : Int) := by decide
theorem kc_t_55_m52 : ((55 : Nat) : Int) + (-52) = ((3 : Nat) : Int) := by decide
theorem kc_t_28_24 : ((28 : Nat) : Int) + (24) = ((52 : Nat) : Int) := by decide
theorem kc_t_3_14 : ((3 : Nat) : Int) + (14) = ((17 : Nat) : Int) := by decide
theorem kc_t_3_10 : ((3 : Nat) : Int) + (10) = ((13 : Nat) : Int) := by decide
theorem kc_t_10_4 : ((10 : Nat) : Int) + (4) = ((14 : Nat) : Int) := by decide
theorem kc_t_10_21 : ((10 : Nat) : Int) + (21) = ((31 : Nat) : Int) := by decide
theorem kc_t_28_m21 : ((28 : Nat) : Int) + (-21) = ((7 : Nat) : Int) := by decide
theorem kc_t_1_14 : ((1 : Nat) : Int) + (14) = ((15 : Nat) : Int) := by decide
theorem kc_t_4_5 : ((4 : Nat) : Int) + (5) = ((9 : Nat) : Int) := by decide
theorem kc_t_24_5 : ((24 : Nat) : Int) + (5) = ((29 : Nat) : Int) := by decide
theorem kc_t_4_19 : ((4 : Nat) : Int) + (19) = ((23 : Nat) : Int) := by decide
theorem kc_t_20_16 : ((20 : Nat) : Int) + (16) = ((36 : Nat) : Int) := by decide
theorem kc_b_120 : (Int8.ofInt (120)).toInt32 = 120 := by decide
theorem kc_b_32 : (Int8.ofInt (32)).toInt32 = 32 := by decide
theorem kc_t_21_19 : ((21 : Nat) : Int) + (19) = ((40 : Nat) : Int) := by decide
theorem kc_t_37_m35 : ((37 : Nat) : Int) + (-35) = ((2 : Nat) : Int) := by decide
theorem kc_t_3_5 : ((3 : Nat) : Int) + (5) = ((8 : Nat) : Int) := by decide
theorem kc_t_9_5 : ((9 : Nat) : Int) + (5) = ((14 : Nat) : Int) := by decide
theorem kc_nd_311 : va_nd [0, 1, 2, 3, 4] = true := by decide
theorem kc_t_11_5 : ((11 : Nat) : Int) + (5) = ((16 : Nat) : Int) := by decide
theorem kc_31_124 : 124 < 2 ^ 31 := by decide
theorem kc_t_3_13 : ((3 : Nat) : Int) + (13) = ((16 : Nat) : Int) := by decide
theorem kc_b_57 : (Int8.ofInt (57)).toInt32 = 57 := by decide
theorem kc_b_61 : (Int8.ofInt (61)).toInt32 = 61 := by decide
theorem kc_t_3_15 : ((3 : Nat) : Int) + (15) = ((18 : Nat) : Int) := by decide
theorem kc_b_60 : (Int8.ofInt (60)).toInt32 = 60 := by decide
theorem kc_t_9_9 : ((9 : Nat) : Int) + (9) = ((18 : Nat) : Int) := by decide
theorem kc_b_62 : (Int8.ofInt (62)).toInt32 = 62 := by decide
theorem kc_t_6_56 : ((6 : Nat) : Int) + (56) = ((62 : Nat) : Int) := by decide
theorem kc_t_76_15 : ((76 : Nat) : Int) + (15) = ((91 : Nat) : Int) := by decide
theorem kc_t_84_7 : ((84 : Nat) : Int) + (7) = ((91 : Nat) : Int) := by decide
theorem kc_t_88_4 : ((88 : Nat) : Int) + (4) = ((92 : Nat) : Int) := by decide
theorem kc_t_23_39 : ((23 : Nat) : Int) + (39) = ((62 : Nat) : Int) := by decide
theorem kc_t_59_m55 : ((59 : Nat) : Int) + (-55) = ((4 : Nat) : Int) := by decide
theorem kc_31_58 : 58 < 2 ^ 31 := by decide
theorem kc_31_63 : 63 < 2 ^ 31 := by decide
theorem kc_31_41 : 41 < 2 ^ 31 := by decide
theorem kc_31_93 : 93 < 2 ^ 31 := by decide
theorem kc_31_59 : 59 < 2 ^ 31 := by decide
theorem kc_31_57 : 57 < 2 ^ 31 := by decide
theorem kc_31_61 : 61 < 2 ^ 31 := by decide
theorem kc_31_60 : 60 < 2 ^ 31 := by decide
theorem kc_31_62 : 62 < 2 ^ 31 := by decide
theorem kc_31_255 : 255 < 2 ^ 31 := by decide
theorem kc_b_91 : (Int8.ofInt (91)).toInt32 = 91 := by decide
theorem kc_t_8_36 : ((8 : Nat) : Int) + (36) = ((44 : Nat) : Int) := by decide
theorem kc_31_91 : 91 < 2 ^ 31 := by decide
theorem kc_t_48_8 : ((48 : Nat) : Int) + (8) = ((56 : Nat) : Int) := by decide
theorem kc_t_66_5 : ((66 : Nat) : Int) + (5) = ((71 : Nat) : Int) := by decide
theorem kc_t_16_26 : ((16 : Nat) : Int) + (26) = ((42 : Nat) : Int) := by decide
theorem kc_t_15_64 : ((15 : Nat) : Int) + (64) = ((79 : Nat) : Int) := by decide
theorem kc_b_42 : (Int8.ofInt (42)).toInt32 = 42 := by decide
theorem kc_t_24_12 : ((24 : Nat) : Int) + (12) = ((36 : Nat) : Int) := by decide
theorem kc_31_42 : 42 < 2 ^ 31 := by decide
theorem kc_t_56_15 : ((56 : Nat) : Int) + (15) = ((71 : Nat) : Int) := by decide
theorem kc_t_68_5 : ((68 : Nat) : Int) + (5) = ((73 : Nat) : Int) := by decide
theorem kc_t_76_m64 : ((76 : Nat) : Int) + (-64) = ((12 : Nat) : Int) := by decide
theorem kc_b_47 : (Int8.ofInt (47)).toInt32 = 47 := by decide
theorem kc_t_33_46 : ((33 : Nat) : Int) + (46) = ((79 : Nat) : Int) := by decide
theorem kc_31_47 : 47 < 2 ^ 31 := by decide
theorem kc_b_43 : (Int8.ofInt (43)).toInt32 = 43 := by decide
theorem kc_31_43 : 43 < 2 ^ 31 := by decide
theorem kc_b_45 : (Int8.ofInt (45)).toInt32 = 45 := by decide
theorem kc_31_45 : 45 < 2 ^ 31 := by decide
theorem kc_t_1_99 : ((1 : Nat) : Int) + (99) = ((100 : Nat) : Int) := by decide
theorem kc_t_12_38 : ((12 : Nat) : Int) + (38) = ((50 : Nat) : Int) := by decide
theorem kc_31_33 : 33 < 2 ^ 31 := by decide
theorem kc_b_40 : (Int8.ofInt (40)).toInt32 = 40 := by decide
theorem kc_t_53_37 : ((53 : Nat) : Int) + (37) = ((90 : Nat) : Int) := by decide
theorem kc_31_40 : 40 < 2 ^ 31 := by decide
theorem kc_t_95_5 : ((95 : Nat) : Int) + (5) = ((100 : Nat) : Int) := by decide
theorem kc_t_109_5 : ((109 : Nat) : Int) + (5) = ((114 : Nat) : Int) := by decide
theorem kc_t_129_19 : ((129 : Nat) : Int) + (19) = ((148 : Nat) : Int) := by decide
theorem kc_t_141_7 : ((141 : Nat) : Int) + (7) = ((148 : Nat) : Int) := by decide
theorem kc_t_145_4 : ((145 : Nat) : Int) + (4) = ((149 : Nat) : Int) := by decide
theorem kc_t_61_27 : ((61 : Nat) : Int) + (27) = ((88 : Nat) : Int) := by decide
theorem kc_t_20_28 : ((20 : Nat) : Int) + (28) = ((48 : Nat) : Int) := by decide
theorem kc_t_16_49 : ((16 : Nat) : Int) + (49) = ((65 : Nat) : Int) := by decide
theorem kc_b_38 : (Int8.ofInt (38)).toInt32 = 38 := by decide
theorem kc_t_25_40 : ((25 : Nat) : Int) + (40) = ((65 : Nat) : Int) := by decide
theorem kc_31_38 : 38 < 2 ^ 31 := by decide
theorem kc_t_44_13 : ((44 : Nat) : Int) + (13) = ((57 : Nat) : Int) := by decide
theorem kc_s_20038 : (Int16.ofInt (20038)).toInt32 = 20038 := by decide
theorem kc_t_54_5 : ((54 : Nat) : Int) + (5) = ((59 : Nat) : Int) := by decide
theorem kc_t_62_m49 : ((62 : Nat) : Int) + (-49) = ((13 : Nat) : Int) := by decide
theorem kc_b_124 : (Int8.ofInt (124)).toInt32 = 124 := by decide
theorem kc_s_20124 : (Int16.ofInt (20124)).toInt32 = 20124 := by decide
theorem kc_t_26_16 : ((26 : Nat) : Int) + (16) = ((42 : Nat) : Int) := by decide
theorem kc_b_93 : (Int8.ofInt (93)).toInt32 = 93 := by decide
theorem kc_t_72_16 : ((72 : Nat) : Int) + (16) = ((88 : Nat) : Int) := by decide
theorem kc_b_41 : (Int8.ofInt (41)).toInt32 = 41 := by decide
theorem kc_t_81_7 : ((81 : Nat) : Int) + (7) = ((88 : Nat) : Int) := by decide
theorem kc_t_85_4 : ((85 : Nat) : Int) + (4) = ((89 : Nat) : Int) := by decide
theorem kc_t_31_17 : ((31 : Nat) : Int) + (17) = ((48 : Nat) : Int) := by decide
theorem kc_t_45_4 : ((45 : Nat) : Int) + (4) = ((49 : Nat) : Int) := by decide
theorem kc_t_13_5 : ((13 : Nat) : Int) + (5) = ((18 : Nat) : Int) := by decide
theorem kc_b_58 : (Int8.ofInt (58)).toInt32 = 58 := by decide
theorem kc_t_34_5 : ((34 : Nat) : Int) + (5) = ((39 : Nat) : Int) := by decide
theorem kc_t_50_12 : ((50 : Nat) : Int) + (12) = ((62 : Nat) : Int) := by decide
theorem kc_t_63_4 : ((63 : Nat) : Int) + (4) = ((67 : Nat) : Int) := by decide
theorem kc_t_69_31 : ((69 : Nat) : Int) + (31) = ((100 : Nat) : Int) := by decide
theorem kc_t_103_7 : ((103 : Nat) : Int) + (7) = ((110 : Nat) : Int) := by decide
theorem kc_t_114_5 : ((114 : Nat) : Int) + (5) = ((119 : Nat) : Int) := by decide
theorem kc_t_131_26 : ((131 : Nat) : Int) + (26) = ((157 : Nat) : Int) := by decide
theorem kc_t_139_18 : ((139 : Nat) : Int) + (18) = ((157 : Nat) : Int) := by decide
theorem kc_t_150_7 : ((150 : Nat) : Int) + (7) = ((157 : Nat) : Int) := by decide
theorem kc_t_154_4 : ((154 : Nat) : Int) + (4) = ((158 : Nat) : Int) := by decide
theorem kc_t_59_7 : ((59 : Nat) : Int) + (7) = ((66 : Nat) : Int) := by decide
theorem kc_t_77_5 : ((77 : Nat) : Int) + (5) = ((82 : Nat) : Int) := by decide
theorem kc_t_89_11 : ((89 : Nat) : Int) + (11) = ((100 : Nat) : Int) := by decide
theorem kc_t_107_4 : ((107 : Nat) : Int) + (4) = ((111 : Nat) : Int) := by decide
theorem kc_t_2_8 : ((2 : Nat) : Int) + (8) = ((10 : Nat) : Int) := by decide
theorem kc_t_7_5 : ((7 : Nat) : Int) + (5) = ((12 : Nat) : Int) := by decide
theorem kc_t_17_8 : ((17 : Nat) : Int) + (8) = ((25 : Nat) : Int) := by decide
theorem kc_t_22_5 : ((22 : Nat) : Int) + (5) = ((27 : Nat) : Int) := by decide
theorem kc_b_31 : (Int8.ofInt (31)).toInt32 = 31 := by decide
theorem kc_t_50_44 : ((50 : Nat) : Int) + (44) = ((94 : Nat) : Int) := by decide
theorem kc_31_31 : 31 < 2 ^ 31 := by decide
theorem kc_t_57_8 : ((57 : Nat) : Int) + (8) = ((65 : Nat) : Int) := by decide
theorem kc_t_69_5 : ((69 : Nat) : Int) + (5) = ((74 : Nat) : Int) := by decide
theorem kc_b_59 : (Int8.ofInt (59)).toInt32 = 59 := by decide
theorem kc_t_80_8 : ((80 : Nat) : Int) + (8) = ((88 : Nat) : Int) := by decide
theorem kc_t_91_m44 : ((91 : Nat) : Int) + (-44) = ((47 : Nat) : Int) := by decide
theorem kc_t_4_22 : ((4 : Nat) : Int) + (22) = ((26 : Nat) : Int) := by decide
theorem kc_31_5 : 5 < 2 ^ 31 := by decide
theorem kc_l_2_10 : 2 < 10 := by decide
theorem kc_nd_419 : va_nd [1, 2, 3] = true := by decide
theorem kc_t_23_m21 : ((23 : Nat) : Int) + (-21) = ((2 : Nat) : Int) := by decide
theorem kc_t_7_24 : ((7 : Nat) : Int) + (24) = ((31 : Nat) : Int) := by decide
theorem kc_nd_422 : va_nd [0, 1, 2, 3] = true := by decide
theorem kc_t_16_9 : ((16 : Nat) : Int) + (9) = ((25 : Nat) : Int) := by decide
theorem kc_l_6_10 : 6 < 10 := by decide
theorem kc_nd_425 : va_nd [1, 2, 3, 4, 5, 6, 7, 8, 9, 10, 11, 12, 13, 14, 15, 16, 17, 18, 19, 20, 21, 22] = true := by decide
theorem kc_l_8_10 : 8 < 10 := by decide
theorem kc_t_50_14 : ((50 : Nat) : Int) + (14) = ((64 : Nat) : Int) := by decide
theorem kc_t_17_44 : ((17 : Nat) : Int) + (44) = ((61 : Nat) : Int) := by decide
theorem kc_l_7_10 : 7 < 10 := by decide
theorem kc_t_35_5 : ((35 : Nat) : Int) + (5) = ((40 : Nat) : Int) := by decide
theorem kc_t_44_11 : ((44 : Nat) : Int) + (11) = ((55 : Nat) : Int) := by decide
theorem kc_t_58_m45 : ((58 : Nat) : Int) + (-45) = ((13 : Nat) : Int) := by decide
theorem kc_t_3_11 : ((3 : Nat) : Int) + (11) = ((14 : Nat) : Int) := by decide
theorem kc_nd_434 : va_nd [0, 1] = true := by decide
theorem kc_nd_435 : va_nd [1] = true := by decide
theorem kc_nd_436 : va_nd [3] = true := by decide
theorem kc_nd_437 : va_nd [0, 4, 6, 1, 2, 3, 5, 7] = true := by decide
theorem kc_l_5_9 : 5 < 9 := by decide
theorem kc_l_6_9 : 6 < 9 := by decide
theorem kc_l_7_9 : 7 < 9 := by decide
theorem kc_t_21_68 : ((21 : Nat) : Int) + (68) = ((89 : Nat) : Int) := by decide
theorem kc_t_31_27 : ((31 : Nat) : Int) + (27) = ((58 : Nat) : Int) := by decide
theorem kc_l_8_9 : 8 < 9 := by decide
theorem kc_t_63_20 : ((63 : Nat) : Int) + (20) = ((83 : Nat) : Int) := by decide
theorem kc_t_86_m69 : ((86 : Nat) : Int) + (-69) = ((17 : Nat) : Int) := by decide
theorem kc_t_37_17 : ((37 : Nat) : Int) + (17) = ((54 : Nat) : Int) := by decide
theorem kc_t_55_4 : ((55 : Nat) : Int) + (4) = ((59 : Nat) : Int) := by decide
theorem kc_nd_448 : va_nd [0, 1, 2, 3, 4, 5, 6, 7, 8, 9, 10, 11, 12, 13, 14, 15, 16, 17, 18, 19, 20, 21, 22, 23, 24, 25, 26, 27, 28, 29, 30, 31, 32, 33] = true := by decide
theorem kc_t_76_7 : ((76 : Nat) : Int) + (7) = ((83 : Nat) : Int) := by decide
theorem kc_t_51_7 : ((51 : Nat) : Int) + (7) = ((58 : Nat) : Int) := by decide
theorem kc_l_5_10 : 5 < 10 := by decide
theorem kc_l_6_11 : 6 < 11 := by decide
theorem kc_l_7_11 : 7 < 11 := by decide
theorem kc_l_8_11 : 8 < 11 := by decide
theorem kc_t_19_91 : ((19 : Nat) : Int) + (91) = ((110 : Nat) : Int) := by decide
theorem kc_t_29_17 : ((29 : Nat) : Int) + (17) = ((46 : Nat) : Int) := by decide
theorem kc_l_9_11 : 9 < 11 := by decide
theorem kc_t_51_23 : ((51 : Nat) : Int) + (23) = ((74 : Nat) : Int) := by decide
theorem kc_l_10_11 : 10 < 11 := by decide
theorem kc_t_79_25 : ((79 : Nat) : Int) + (25) = ((104 : Nat) : Int) := by decide
theorem kc_t_107_m92 : ((107 : Nat) : Int) + (-92) = ((15 : Nat) : Int) := by decide
theorem kc_t_39_7 : ((39 : Nat) : Int) + (7) = ((46 : Nat) : Int) := by decide
theorem kc_t_43_4 : ((43 : Nat) : Int) + (4) = ((47 : Nat) : Int) := by decide
theorem kc_t_57_13 : ((57 : Nat) : Int) + (13) = ((70 : Nat) : Int) := by decide
theorem kc_t_71_4 : ((71 : Nat) : Int) + (4) = ((75 : Nat) : Int) := by decide
theorem kc_t_97_7 : ((97 : Nat) : Int) + (7) = ((104 : Nat) : Int) := by decide
theorem kc_t_67_7 : ((67 : Nat) : Int) + (7) = ((74 : Nat) : Int) := by decide
theorem kc_l_3_10 : 3 < 10 := by decide
theorem kc_t_12_36 : ((12 : Nat) : Int) + (36) = ((48 : Nat) : Int) := by decide
theorem kc_t_23_25 : ((23 : Nat) : Int) + (25) = ((48 : Nat) : Int) := by decide
theorem kc_t_35_13 : ((35 : Nat) : Int) + (13) = ((48 : Nat) : Int) := by decide
theorem kc_t_74_13 : ((74 : Nat) : Int) + (13) = ((87 : Nat) : Int) := by decide
theorem kc_t_90_15 : ((90 : Nat) : Int) + (15) = ((105 : Nat) : Int) := by decide
theorem kc_t_102_12 : ((102 : Nat) : Int) + (12) = ((114 : Nat) : Int) := by decide
theorem kc_t_12_27 : ((12 : Nat) : Int) + (27) = ((39 : Nat) : Int) := by decide
theorem kc_t_24_15 : ((24 : Nat) : Int) + (15) = ((39 : Nat) : Int) := by decide
theorem kc_t_36_7 : ((36 : Nat) : Int) + (7) = ((43 : Nat) : Int) := by decide
theorem kc_t_24_25 : ((24 : Nat) : Int) + (25) = ((49 : Nat) : Int) := by decide
theorem kc_t_36_13 : ((36 : Nat) : Int) + (13) = ((49 : Nat) : Int) := by decide
theorem kc_t_46_7 : ((46 : Nat) : Int) + (7) = ((53 : Nat) : Int) := by decide
theorem kc_t_78_17 : ((78 : Nat) : Int) + (17) = ((95 : Nat) : Int) := by decide
theorem kc_b_99 : (Int8.ofInt (99)).toInt32 = 99 := by decide
theorem kc_t_92_13 : ((92 : Nat) : Int) + (13) = ((105 : Nat) : Int) := by decide
theorem kc_t_12_24 : ((12 : Nat) : Int) + (24) = ((36 : Nat) : Int) := by decide
theorem kc_t_23_13 : ((23 : Nat) : Int) + (13) = ((36 : Nat) : Int) := by decide
theorem kc_t_33_5 : ((33 : Nat) : Int) + (5) = ((38 : Nat) : Int) := by decide
theorem kc_t_60_13 : ((60 : Nat) : Int) + (13) = ((73 : Nat) : Int) := by decide
theorem kc_t_70_10 : ((70 : Nat) : Int) + (10) = ((80 : Nat) : Int) := by decide
theorem kc_t_12_13 : ((12 : Nat) : Int) + (13) = ((25 : Nat) : Int) := by decide
theorem kc_t_22_7 : ((22 : Nat) : Int) + (7) = ((29 : Nat) : Int) := by decide
theorem kc_t_60_6 : ((60 : Nat) : Int) + (6) = ((66 : Nat) : Int) := by decide
theorem kc_b_15 : (Int8.ofInt (15)).toInt32 = 15 := by decide
theorem kc_t_72_22 : ((72 : Nat) : Int) + (22) = ((94 : Nat) : Int) := by decide
theorem kc_t_12_25 : ((12 : Nat) : Int) + (25) = ((37 : Nat) : Int) := by decide
theorem kc_t_23_14 : ((23 : Nat) : Int) + (14) = ((37 : Nat) : Int) := by decide
theorem kc_t_34_7 : ((34 : Nat) : Int) + (7) = ((41 : Nat) : Int) := by decide
theorem kc_t_1_13 : ((1 : Nat) : Int) + (13) = ((14 : Nat) : Int) := by decide
theorem kc_t_38_37 : ((38 : Nat) : Int) + (37) = ((75 : Nat) : Int) := by decide
theorem kc_t_57_12 : ((57 : Nat) : Int) + (12) = ((69 : Nat) : Int) := by decide
theorem kc_t_72_m43 : ((72 : Nat) : Int) + (-43) = ((29 : Nat) : Int) := by decide
theorem kc_t_11_10 : ((11 : Nat) : Int) + (10) = ((21 : Nat) : Int) := by decide
theorem kc_t_12_11 : ((12 : Nat) : Int) + (11) = ((23 : Nat) : Int) := by decide
theorem kc_t_20_5 : ((20 : Nat) : Int) + (5) = ((25 : Nat) : Int) := by decide
theorem kc_t_60_64 : ((60 : Nat) : Int) + (64) = ((124 : Nat) : Int) := by decide
theorem kc_l_4_10 : 4 < 10 := by decide
theorem kc_l_9_10 : 9 < 10 := by decide
theorem kc_t_81_37 : ((81 : Nat) : Int) + (37) = ((118 : Nat) : Int) := by decide
theorem kc_t_121_m70 : ((121 : Nat) : Int) + (-70) = ((51 : Nat) : Int) := by decide
theorem kc_t_95_23 : ((95 : Nat) : Int) + (23) = ((118 : Nat) : Int) := by decide
theorem kc_nd_510 : va_nd [0, 20, 21, 22] = true := by decide
theorem kc_t_106_12 : ((106 : Nat) : Int) + (12) = ((118 : Nat) : Int) := by decide
theorem kc_t_24_13 : ((24 : Nat) : Int) + (13) = ((37 : Nat) : Int) := by decide
theorem kc_t_53_8 : ((53 : Nat) : Int) + (8) = ((61 : Nat) : Int) := by decide
theorem kc_t_63_12 : ((63 : Nat) : Int) + (12) = ((75 : Nat) : Int) := by decide
theorem kc_t_58_8 : ((58 : Nat) : Int) + (8) = ((66 : Nat) : Int) := by decide
theorem kc_l_4_9 : 4 < 9 := by decide
theorem kc_t_12_5 : ((12 : Nat) : Int) + (5) = ((17 : Nat) : Int) := by decide
theorem kc_t_46_31 : ((46 : Nat) : Int) + (31) = ((77 : Nat) : Int) := by decide
theorem kc_t_65_6 : ((65 : Nat) : Int) + (6) = ((71 : Nat) : Int) := by decide
theorem kc_t_74_m30 : ((74 : Nat) : Int) + (-30) = ((44 : Nat) : Int) := by decide
theorem kc_t_17_5 : ((17 : Nat) : Int) + (5) = ((22 : Nat) : Int) := by decide
theorem kc_t_28_7 : ((28 : Nat) : Int) + (7) = ((35 : Nat) : Int) := by decide
theorem kc_t_32_4 : ((32 : Nat) : Int) + (4) = ((36 : Nat) : Int) := by decide
theorem kc_t_20_8 : ((20 : Nat) : Int) + (8) = ((28 : Nat) : Int) := by decide
theorem kc_t_25_5 : ((25 : Nat) : Int) + (5) = ((30 : Nat) : Int) := by decide
theorem kc_t_49_17 : ((49 : Nat) : Int) + (17) = ((66 : Nat) : Int) := by decide
theorem kc_t_14_11 : ((14 : Nat) : Int) + (11) = ((25 : Nat) : Int) := by decide
theorem kc_t_36_18 : ((36 : Nat) : Int) + (18) = ((54 : Nat) : Int) := by decide
theorem kc_t_17_14 : ((17 : Nat) : Int) + (14) = ((31 : Nat) : Int) := by decide
theorem kc_t_24_7 : ((24 : Nat) : Int) + (7) = ((31 : Nat) : Int) := by decide
theorem kc_t_28_4 : ((28 : Nat) : Int) + (4) = ((32 : Nat) : Int) := by decide
theorem kc_nd_532 : va_nd [1, 2, 3, 4, 5, 6] = true := by decide
theorem kc_t_51_4 : ((51 : Nat) : Int) + (4) = ((55 : Nat) : Int) := by decide
theorem kc_t_8_19 : ((8 : Nat) : Int) + (19) = ((27 : Nat) : Int) := by decide
theorem kc_t_19_8 : ((19 : Nat) : Int) + (8) = ((27 : Nat) : Int) := by decide
theorem kc_t_7_14 : ((7 : Nat) : Int) + (14) = ((21 : Nat) : Int) := by decide
theorem kc_t_18_4 : ((18 : Nat) : Int) + (4) = ((22 : Nat) : Int) := by decide
theorem kc_t_8_13 : ((8 : Nat) : Int) + (13) = ((21 : Nat) : Int) := by decide
theorem kc_t_18_5 : ((18 : Nat) : Int) + (5) = ((23 : Nat) : Int) := by decide
theorem kc_t_24_29 : ((24 : Nat) : Int) + (29) = ((53 : Nat) : Int) := by decide
theorem kc_t_58_21 : ((58 : Nat) : Int) + (21) = ((79 : Nat) : Int) := by decide
theorem kc_t_84_8 : ((84 : Nat) : Int) + (8) = ((92 : Nat) : Int) := by decide
theorem kc_t_89_20 : ((89 : Nat) : Int) + (20) = ((109 : Nat) : Int) := by decide
theorem kc_t_64_11 : ((64 : Nat) : Int) + (11) = ((75 : Nat) : Int) := by decide
theorem kc_t_76_4 : ((76 : Nat) : Int) + (4) = ((80 : Nat) : Int) := by decide
theorem kc_nd_546 : va_nd [7, 8, 9, 10, 11, 12] = true := by decide
theorem kc_t_72_7 : ((72 : Nat) : Int) + (7) = ((79 : Nat) : Int) := by decide
theorem kc_t_35_18 : ((35 : Nat) : Int) + (18) = ((53 : Nat) : Int) := by decide
theorem kc_t_50_4 : ((50 : Nat) : Int) + (4) = ((54 : Nat) : Int) := by decide
theorem kc_t_8_25 : ((8 : Nat) : Int) + (25) = ((33 : Nat) : Int) := by decide
theorem kc_t_30_5 : ((30 : Nat) : Int) + (5) = ((35 : Nat) : Int) := by decide
theorem kc_t_36_17 : ((36 : Nat) : Int) + (17) = ((53 : Nat) : Int) := by decide
theorem kc_t_58_14 : ((58 : Nat) : Int) + (14) = ((72 : Nat) : Int) := by decide
theorem kc_t_77_23 : ((77 : Nat) : Int) + (23) = ((100 : Nat) : Int) := by decide
theorem kc_t_105_13 : ((105 : Nat) : Int) + (13) = ((118 : Nat) : Int) := by decide
theorem kc_t_110_8 : ((110 : Nat) : Int) + (8) = ((118 : Nat) : Int) := by decide
theorem kc_t_115_18 : ((115 : Nat) : Int) + (18) = ((133 : Nat) : Int) := by decide
theorem kc_t_93_7 : ((93 : Nat) : Int) + (7) = ((100 : Nat) : Int) := by decide
theorem kc_nd_559 : va_nd [7, 8, 9, 10, 11] = true := by decide
theorem kc_t_130_4 : ((130 : Nat) : Int) + (4) = ((134 : Nat) : Int) := by decide
theorem kc_t_65_7 : ((65 : Nat) : Int) + (7) = ((72 : Nat) : Int) := by decide
theorem kc_t_69_4 : ((69 : Nat) : Int) + (4) = ((73 : Nat) : Int) := by decide
theorem kc_t_1_8 : ((1 : Nat) : Int) + (8) = ((9 : Nat) : Int) := by decide
theorem kc_t_6_7 : ((6 : Nat) : Int) + (7) = ((13 : Nat) : Int) := by decide
theorem kc_t_12_23 : ((12 : Nat) : Int) + (23) = ((35 : Nat) : Int) := by decide
theorem kc_t_21_14 : ((21 : Nat) : Int) + (14) = ((35 : Nat) : Int) := by decide
theorem kc_t_32_11 : ((32 : Nat) : Int) + (11) = ((43 : Nat) : Int) := by decide
theorem kc_l_0_10 : 0 < 10 := by decide
theorem kc_t_40_5 : ((40 : Nat) : Int) + (5) = ((45 : Nat) : Int) := by decide
theorem kc_nd_570 : va_nd [1, 2] = true := by decide
theorem kc_t_4_14 : ((4 : Nat) : Int) + (14) = ((18 : Nat) : Int) := by decide
theorem kc_b_m2 : (Int8.ofInt (-2)).toInt32 = (-2) := by decide
theorem kc_l_1_10 : 1 < 10 := by decide
theorem kc_nd_574 : va_nd [1, 2, 3, 4, 5] = true := by decide
theorem kc_t_15_5 : ((15 : Nat) : Int) + (5) = ((20 : Nat) : Int) := by decide
theorem kc_t_17_7 : ((17 : Nat) : Int) + (7) = ((24 : Nat) : Int) := by decide
theorem kc_t_29_15 : ((29 : Nat) : Int) + (15) = ((44 : Nat) : Int) := by decide
theorem kc_t_41_5 : ((41 : Nat) : Int) + (5) = ((46 : Nat) : Int) := by decide
theorem kc_nd_579 : va_nd [4, 5] = true := by decide
theorem kc_nd_580 : va_nd [1, 2, 10] = true := by decide
theorem kc_nd_581 : va_nd [0, 5, 6, 7, 8, 9, 1, 2, 3, 4] = true := by decide
theorem kc_nd_582 : va_nd [3, 4, 10] = true := by decide
theorem kc_t_13_16 : ((13 : Nat) : Int) + (16) = ((29 : Nat) : Int) := by decide
theorem kc_t_6_10 : ((6 : Nat) : Int) + (10) = ((16 : Nat) : Int) := by decide
theorem kc_t_4_12 : ((4 : Nat) : Int) + (12) = ((16 : Nat) : Int) := by decide
theorem kc_t_7_20 : ((7 : Nat) : Int) + (20) = ((27 : Nat) : Int) := by decide
theorem kc_t_16_5 : ((16 : Nat) : Int) + (5) = ((21 : Nat) : Int) := by decide
theorem kc_t_24_m22 : ((24 : Nat) : Int) + (-22) = ((2 : Nat) : Int) := by decide
theorem kc_b_127 : (Int8.ofInt (127)).toInt32 = 127 := by decide
theorem kc_l_11_52 : 11 < 52 := by decide
theorem kc_l_10_52 : 10 < 52 := by decide
theorem kc_t_8_35 : ((8 : Nat) : Int) + (35) = ((43 : Nat) : Int) := by decide
theorem kc_t_51_24 : ((51 : Nat) : Int) + (24) = ((75 : Nat) : Int) := by decide
theorem kc_l_5_52 : 5 < 52 := by decide
theorem kc_l_9_52 : 9 < 52 := by decide
theorem kc_t_72_4 : ((72 : Nat) : Int) + (4) = ((76 : Nat) : Int) := by decide
theorem kc_t_27_16 : ((27 : Nat) : Int) + (16) = ((43 : Nat) : Int) := by decide
theorem kc_t_40_m40 : ((40 : Nat) : Int) + (-40) = ((0 : Nat) : Int) := by decide
theorem kc_l_12_52 : 12 < 52 := by decide
theorem kc_t_5_11 : ((5 : Nat) : Int) + (11) = ((16 : Nat) : Int) := by decide
theorem kc_l_13_52 : 13 < 52 := by decide
theorem kc_t_6_8 : ((6 : Nat) : Int) + (8) = ((14 : Nat) : Int) := by decide
theorem kc_nd_603 : va_nd [0] = true := by decide
theorem kc_t_13_8 : ((13 : Nat) : Int) + (8) = ((21 : Nat) : Int) := by decide
theorem kc_t_8_45 : ((8 : Nat) : Int) + (45) = ((53 : Nat) : Int) := by decide
theorem kc_l_17_52 : 17 < 52 := by decide
theorem kc_t_13_20 : ((13 : Nat) : Int) + (20) = ((33 : Nat) : Int) := by decide
theorem kc_t_36_40 : ((36 : Nat) : Int) + (40) = ((76 : Nat) : Int) := by decide
theorem kc_t_96_62 : ((96 : Nat) : Int) + (62) = ((158 : Nat) : Int) := by decide
theorem kc_t_104_54 : ((104 : Nat) : Int) + (54) = ((158 : Nat) : Int) := by decide
theorem kc_t_109_10 : ((109 : Nat) : Int) + (10) = ((119 : Nat) : Int) := by decide
theorem kc_t_155_m63 : ((155 : Nat) : Int) + (-63) = ((92 : Nat) : Int) := by decide
theorem kc_t_43_5 : ((43 : Nat) : Int) + (5) = ((48 : Nat) : Int) := by decide
theorem kc_l_4_52 : 4 < 52 := by decide
theorem kc_31_128 : 128 < 2 ^ 31 := by decide
theorem kc_t_10_84 : ((10 : Nat) : Int) + (84) = ((94 : Nat) : Int) := by decide
theorem kc_t_19_12 : ((19 : Nat) : Int) + (12) = ((31 : Nat) : Int) := by decide
theorem kc_t_37_7 : ((37 : Nat) : Int) + (7) = ((44 : Nat) : Int) := by decide
theorem kc_t_41_4 : ((41 : Nat) : Int) + (4) = ((45 : Nat) : Int) := by decide
theorem kc_t_63_10 : ((63 : Nat) : Int) + (10) = ((73 : Nat) : Int) := by decide
theorem kc_t_70_17 : ((70 : Nat) : Int) + (17) = ((87 : Nat) : Int) := by decide
theorem kc_t_91_m86 : ((91 : Nat) : Int) + (-86) = ((5 : Nat) : Int) := by decide
theorem kc_t_28_66 : ((28 : Nat) : Int) + (66) = ((94 : Nat) : Int) := by decide
theorem kc_t_80_7 : ((80 : Nat) : Int) + (7) = ((87 : Nat) : Int) := by decide
theorem kc_t_10_74 : ((10 : Nat) : Int) + (74) = ((84 : Nat) : Int) := by decide
theorem kc_t_70_7 : ((70 : Nat) : Int) + (7) = ((77 : Nat) : Int) := by decide
theorem kc_t_81_m76 : ((81 : Nat) : Int) + (-76) = ((5 : Nat) : Int) := by decide
theorem kc_t_28_56 : ((28 : Nat) : Int) + (56) = ((84 : Nat) : Int) := by decide
theorem kc_t_1_7 : ((1 : Nat) : Int) + (7) = ((8 : Nat) : Int) := by decide
theorem kc_t_34_8 : ((34 : Nat) : Int) + (8) = ((42 : Nat) : Int) := by decide
theorem kc_t_62_17 : ((62 : Nat) : Int) + (17) = ((79 : Nat) : Int) := by decide
theorem kc_t_83_17 : ((83 : Nat) : Int) + (17) = ((100 : Nat) : Int) := by decide
theorem kc_t_89_7 : ((89 : Nat) : Int) + (7) = ((96 : Nat) : Int) := by decide
theorem kc_t_97_14 : ((97 : Nat) : Int) + (14) = ((111 : Nat) : Int) := by decide
theorem kc_t_93_18 : ((93 : Nat) : Int) + (18) = ((111 : Nat) : Int) := by decide
theorem kc_t_76_35 : ((76 : Nat) : Int) + (35) = ((111 : Nat) : Int) := by decide
theorem kc_t_72_39 : ((72 : Nat) : Int) + (39) = ((111 : Nat) : Int) := by decide
theorem kc_t_8_37 : ((8 : Nat) : Int) + (37) = ((45 : Nat) : Int) := by decide
theorem kc_t_48_42 : ((48 : Nat) : Int) + (42) = ((90 : Nat) : Int) := by decide
theorem kc_t_55_5 : ((55 : Nat) : Int) + (5) = ((60 : Nat) : Int) := by decide
theorem kc_t_1_12 : ((1 : Nat) : Int) + (12) = ((13 : Nat) : Int) := by decide
theorem kc_t_23_46 : ((23 : Nat) : Int) + (46) = ((69 : Nat) : Int) := by decide
theorem kc_t_32_37 : ((32 : Nat) : Int) + (37) = ((69 : Nat) : Int) := by decide
theorem kc_t_66_m48 : ((66 : Nat) : Int) + (-48) = ((18 : Nat) : Int) := by decide
theorem kc_t_57_7 : ((57 : Nat) : Int) + (7) = ((64 : Nat) : Int) := by decide
theorem kc_t_61_4 : ((61 : Nat) : Int) + (4) = ((65 : Nat) : Int) := by decide
theorem kc_t_12_48 : ((12 : Nat) : Int) + (48) = ((60 : Nat) : Int) := by decide
theorem kc_t_21_39 : ((21 : Nat) : Int) + (39) = ((60 : Nat) : Int) := by decide
theorem kc_t_43_8 : ((43 : Nat) : Int) + (8) = ((51 : Nat) : Int) := by decide
theorem kc_t_52_4 : ((52 : Nat) : Int) + (4) = ((56 : Nat) : Int) := by decide
theorem kc_t_57_m50 : ((57 : Nat) : Int) + (-50) = ((7 : Nat) : Int) := by decide
theorem kc_t_59_5 : ((59 : Nat) : Int) + (5) = ((64 : Nat) : Int) := by decide
theorem kc_t_73_5 : ((73 : Nat) : Int) + (5) = ((78 : Nat) : Int) := by decide
theorem kc_t_40_4 : ((40 : Nat) : Int) + (4) = ((44 : Nat) : Int) := by decide
theorem kc_l_16_52 : 16 < 52 := by decide
theorem kc_t_13_9 : ((13 : Nat) : Int) + (9) = ((22 : Nat) : Int) := by decide
theorem kc_t_38_4 : ((38 : Nat) : Int) + (4) = ((42 : Nat) : Int) := by decide
theorem kc_t_79_4 : ((79 : Nat) : Int) + (4) = ((83 : Nat) : Int) := by decide
theorem kc_t_88_48 : ((88 : Nat) : Int) + (48) = ((136 : Nat) : Int) := by decide
theorem kc_t_141_22 : ((141 : Nat) : Int) + (22) = ((163 : Nat) : Int) := by decide
theorem kc_l_18_52 : 18 < 52 := by decide
theorem kc_t_148_15 : ((148 : Nat) : Int) + (15) = ((163 : Nat) : Int) := by decide
theorem kc_l_14_52 : 14 < 52 := by decide
theorem kc_t_156_7 : ((156 : Nat) : Int) + (7) = ((163 : Nat) : Int) := by decide
theorem kc_t_160_4 : ((160 : Nat) : Int) + (4) = ((164 : Nat) : Int) := by decide
theorem kc_l_15_52 : 15 < 52 := by decide
theorem kc_t_63_28 : ((63 : Nat) : Int) + (28) = ((91 : Nat) : Int) := by decide
theorem kc_t_101_35 : ((101 : Nat) : Int) + (35) = ((136 : Nat) : Int) := by decide
theorem kc_t_111_25 : ((111 : Nat) : Int) + (25) = ((136 : Nat) : Int) := by decide
theorem kc_t_127_4 : ((127 : Nat) : Int) + (4) = ((131 : Nat) : Int) := by decide
theorem kc_t_18_8 : ((18 : Nat) : Int) + (8) = ((26 : Nat) : Int) := by decide
theorem kc_t_87_29 : ((87 : Nat) : Int) + (29) = ((116 : Nat) : Int) := by decide
theorem kc_t_96_20 : ((96 : Nat) : Int) + (20) = ((116 : Nat) : Int) := by decide
theorem kc_t_121_16 : ((121 : Nat) : Int) + (16) = ((137 : Nat) : Int) := by decide
theorem kc_t_129_8 : ((129 : Nat) : Int) + (8) = ((137 : Nat) : Int) := by decide
theorem kc_t_113_m31 : ((113 : Nat) : Int) + (-31) = ((82 : Nat) : Int) := by decide
theorem kc_t_23_5 : ((23 : Nat) : Int) + (5) = ((28 : Nat) : Int) := by decide
theorem kc_t_39_5 : ((39 : Nat) : Int) + (5) = ((44 : Nat) : Int) := by decide
theorem kc_l_2_52 : 2 < 52 := by decide
theorem kc_l_3_52 : 3 < 52 := by decide
theorem kc_31_14 : 14 < 2 ^ 31 := by decide
theorem kc_nd_682 : va_nd [0, 1, 3] = true := by decide
theorem kc_t_1_15 : ((1 : Nat) : Int) + (15) = ((16 : Nat) : Int) := by decide
theorem kc_l_7_52 : 7 < 52 := by decide
theorem kc_l_8_52 : 8 < 52 := by decide
theorem kc_l_26_52 : 26 < 52 := by decide
theorem kc_t_9_28 : ((9 : Nat) : Int) + (28) = ((37 : Nat) : Int) := by decide
theorem kc_l_25_52 : 25 < 52 := by decide
theorem kc_t_34_m30 : ((34 : Nat) : Int) + (-30) = ((4 : Nat) : Int) := by decide
theorem kc_l_37_52 : 37 < 52 := by decide
theorem kc_t_8_16 : ((8 : Nat) : Int) + (16) = ((24 : Nat) : Int) := by decide
theorem kc_t_21_4 : ((21 : Nat) : Int) + (4) = ((25 : Nat) : Int) := by decide
theorem kc_t_7_31 : ((7 : Nat) : Int) + (31) = ((38 : Nat) : Int) := by decide
theorem kc_t_12_20 : ((12 : Nat) : Int) + (20) = ((32 : Nat) : Int) := by decide
theorem kc_t_35_m33 : ((35 : Nat) : Int) + (-33) = ((2 : Nat) : Int) := by decide
theorem kc_l_21_52 : 21 < 52 := by decide
theorem kc_t_27_5 : ((27 : Nat) : Int) + (5) = ((32 : Nat) : Int) := by decide
theorem kc_l_40_52 : 40 < 52 := by decide
theorem kc_l_42_52 : 42 < 52 := by decide
theorem kc_t_13_36 : ((13 : Nat) : Int) + (36) = ((49 : Nat) : Int) := by decide
theorem kc_l_30_52 : 30 < 52 := by decide
theorem kc_l_43_52 : 43 < 52 := by decide
theorem kc_t_61_7 : ((61 : Nat) : Int) + (7) = ((68 : Nat) : Int) := by decide
theorem kc_t_65_4 : ((65 : Nat) : Int) + (4) = ((69 : Nat) : Int) := by decide
theorem kc_l_28_52 : 28 < 52 := by decide
theorem kc_l_44_52 : 44 < 52 := by decide
theorem kc_t_38_7 : ((38 : Nat) : Int) + (7) = ((45 : Nat) : Int) := by decide
theorem kc_t_46_23 : ((46 : Nat) : Int) + (23) = ((69 : Nat) : Int) := by decide
theorem kc_t_42_27 : ((42 : Nat) : Int) + (27) = ((69 : Nat) : Int) := by decide
theorem kc_l_51_52 : 51 < 52 := by decide
theorem kc_l_50_52 : 50 < 52 := by decide
theorem kc_t_10_22 : ((10 : Nat) : Int) + (22) = ((32 : Nat) : Int) := by decide
theorem kc_t_46_17 : ((46 : Nat) : Int) + (17) = ((63 : Nat) : Int) := by decide
theorem kc_t_52_7 : ((52 : Nat) : Int) + (7) = ((59 : Nat) : Int) := by decide
theorem kc_t_60_8 : ((60 : Nat) : Int) + (8) = ((68 : Nat) : Int) := by decide
theorem kc_t_56_12 : ((56 : Nat) : Int) + (12) = ((68 : Nat) : Int) := by decide
theorem kc_t_23_7 : ((23 : Nat) : Int) + (7) = ((30 : Nat) : Int) := by decide
theorem kc_t_5_24 : ((5 : Nat) : Int) + (24) = ((29 : Nat) : Int) := by decide
theorem kc_t_26_4 : ((26 : Nat) : Int) + (4) = ((30 : Nat) : Int) := by decide
theorem kc_l_39_52 : 39 < 52 := by decide
theorem kc_l_38_52 : 38 < 52 := by decide
theorem kc_t_24_59 : ((24 : Nat) : Int) + (59) = ((83 : Nat) : Int) := by decide
theorem kc_l_19_52 : 19 < 52 := by decide
theorem kc_l_29_52 : 29 < 52 := by decide
theorem kc_l_20_52 : 20 < 52 := by decide
theorem kc_l_31_52 : 31 < 52 := by decide
theorem kc_t_80_m62 : ((80 : Nat) : Int) + (-62) = ((18 : Nat) : Int) := by decide
theorem kc_t_16_89 : ((16 : Nat) : Int) + (89) = ((105 : Nat) : Int) := by decide
theorem kc_l_27_52 : 27 < 52 := by decide
theorem kc_t_120_43 : ((120 : Nat) : Int) + (43) = ((163 : Nat) : Int) := by decide
theorem kc_b_118 : (Int8.ofInt (118)).toInt32 = 118 := by decide
theorem kc_in_118_128 : vp_in 118 128 := by unfold vp_in; decide
theorem kc_b_112 : (Int8.ofInt (112)).toInt32 = 112 := by decide
theorem kc_in_112_128 : vp_in 112 128 := by unfold vp_in; decide
theorem kc_b_110 : (Int8.ofInt (110)).toInt32 = 110 := by decide
theorem kc_in_110_128 : vp_in 110 128 := by unfold vp_in; decide
theorem kc_b_109 : (Int8.ofInt (109)).toInt32 = 109 := by decide
theorem kc_t_204_7 : ((204 : Nat) : Int) + (7) = ((211 : Nat) : Int) := by decide
theorem kc_in_109_128 : vp_in 109 128 := by unfold vp_in; decide
theorem kc_b_115 : (Int8.ofInt (115)).toInt32 = 115 := by decide
theorem kc_in_115_128 : vp_in 115 128 := by unfold vp_in; decide
theorem kc_b_117 : (Int8.ofInt (117)).toInt32 = 117 := by decide
theorem kc_in_117_128 : vp_in 117 128 := by unfold vp_in; decide
theorem kc_t_242_7 : ((242 : Nat) : Int) + (7) = ((249 : Nat) : Int) := by decide
theorem kc_in_100_128 : vp_in 100 128 := by unfold vp_in; decide
theorem kc_b_105 : (Int8.ofInt (105)).toInt32 = 105 := by decide
theorem kc_in_105_128 : vp_in 105 128 := by unfold vp_in; decide
theorem kc_t_246_10 : ((246 : Nat) : Int) + (10) = ((256 : Nat) : Int) := by decide
theorem kc_t_208_6 : ((208 : Nat) : Int) + (6) = ((214 : Nat) : Int) := by decide
theorem kc_l_24_52 : 24 < 52 := by decide
theorem kc_t_134_6 : ((134 : Nat) : Int) + (6) = ((140 : Nat) : Int) := by decide
theorem kc_t_160_m46 : ((160 : Nat) : Int) + (-46) = ((114 : Nat) : Int) := by decide
theorem kc_t_137_20 : ((137 : Nat) : Int) + (20) = ((157 : Nat) : Int) := by decide
theorem kc_t_22_77 : ((22 : Nat) : Int) + (77) = ((99 : Nat) : Int) := by decide
theorem kc_t_102_m92 : ((102 : Nat) : Int) + (-92) = ((10 : Nat) : Int) := by decide
theorem kc_t_34_65 : ((34 : Nat) : Int) + (65) = ((99 : Nat) : Int) := by decide
theorem kc_t_44_55 : ((44 : Nat) : Int) + (55) = ((99 : Nat) : Int) := by decide
theorem kc_t_88_7 : ((88 : Nat) : Int) + (7) = ((95 : Nat) : Int) := by decide
theorem kc_t_63_36 : ((63 : Nat) : Int) + (36) = ((99 : Nat) : Int) := by decide
theorem kc_t_30_7 : ((30 : Nat) : Int) + (7) = ((37 : Nat) : Int) := by decide
theorem kc_t_34_4 : ((34 : Nat) : Int) + (4) = ((38 : Nat) : Int) := by decide
theorem kc_t_7_86 : ((7 : Nat) : Int) + (86) = ((93 : Nat) : Int) := by decide
theorem kc_t_100_39 : ((100 : Nat) : Int) + (39) = ((139 : Nat) : Int) := by decide
theorem kc_t_146_137 : ((146 : Nat) : Int) + (137) = ((283 : Nat) : Int) := by decide
theorem kc_t_290_72 : ((290 : Nat) : Int) + (72) = ((362 : Nat) : Int) := by decide
theorem kc_t_298_6 : ((298 : Nat) : Int) + (6) = ((304 : Nat) : Int) := by decide
theorem kc_l_34_52 : 34 < 52 := by decide
theorem kc_l_36_52 : 36 < 52 := by decide
theorem kc_t_333_23 : ((333 : Nat) : Int) + (23) = ((356 : Nat) : Int) := by decide
theorem kc_t_359_m74 : ((359 : Nat) : Int) + (-74) = ((285 : Nat) : Int) := by decide
theorem kc_l_33_52 : 33 < 52 := by decide
theorem kc_nd_772 : va_nd [0, 1, 2, 3, 4, 5, 6, 7, 8, 9, 10, 11, 12, 13, 14, 15, 16, 17, 18, 19, 20, 21, 22, 23, 24, 25, 26, 27, 28, 29, 30] = true := by decide
theorem kc_t_346_10 : ((346 : Nat) : Int) + (10) = ((356 : Nat) : Int) := by decide
theorem kc_t_301_55 : ((301 : Nat) : Int) + (55) = ((356 : Nat) : Int) := by decide
theorem kc_t_154_123 : ((154 : Nat) : Int) + (123) = ((277 : Nat) : Int) := by decide
theorem kc_t_280_m139 : ((280 : Nat) : Int) + (-139) = ((141 : Nat) : Int) := by decide
theorem kc_t_165_6 : ((165 : Nat) : Int) + (6) = ((171 : Nat) : Int) := by decide
theorem kc_t_183_10 : ((183 : Nat) : Int) + (10) = ((193 : Nat) : Int) := by decide
theorem kc_t_207_70 : ((207 : Nat) : Int) + (70) = ((277 : Nat) : Int) := by decide
theorem kc_l_22_52 : 22 < 52 := by decide
theorem kc_t_220_51 : ((220 : Nat) : Int) + (51) = ((271 : Nat) : Int) := by decide
theorem kc_t_274_m72 : ((274 : Nat) : Int) + (-72) = ((202 : Nat) : Int) := by decide
theorem kc_t_228_43 : ((228 : Nat) : Int) + (43) = ((271 : Nat) : Int) := by decide
theorem kc_t_238_18 : ((238 : Nat) : Int) + (18) = ((256 : Nat) : Int) := by decide
theorem kc_l_35_52 : 35 < 52 := by decide
theorem kc_t_253_18 : ((253 : Nat) : Int) + (18) = ((271 : Nat) : Int) := by decide
theorem kc_t_190_9 : ((190 : Nat) : Int) + (9) = ((199 : Nat) : Int) := by decide
theorem kc_t_168_109 : ((168 : Nat) : Int) + (109) = ((277 : Nat) : Int) := by decide
theorem kc_t_108_25 : ((108 : Nat) : Int) + (25) = ((133 : Nat) : Int) := by decide
theorem kc_t_136_m41 : ((136 : Nat) : Int) + (-41) = ((95 : Nat) : Int) := by decide
theorem kc_l_32_52 : 32 < 52 := by decide
theorem kc_t_34_6 : ((34 : Nat) : Int) + (6) = ((40 : Nat) : Int) := by decide
theorem kc_b_121 : (Int8.ofInt (121)).toInt32 = 121 := by decide
theorem kc_nd_794 : va_nd [0, 2, 3, 4] = true := by decide
theorem kc_b_103 : (Int8.ofInt (103)).toInt32 = 103 := by decide
theorem kc_t_90_m88 : ((90 : Nat) : Int) + (-88) = ((2 : Nat) : Int) := by decide
theorem kc_t_37_50 : ((37 : Nat) : Int) + (50) = ((87 : Nat) : Int) := by decide
theorem kc_t_13_m13 : ((13 : Nat) : Int) + (-13) = ((0 : Nat) : Int) := by decide
theorem kc_l_0_52 : 0 < 52 := by decide
theorem kc_t_10_33 : ((10 : Nat) : Int) + (33) = ((43 : Nat) : Int) := by decide
theorem kc_t_21_22 : ((21 : Nat) : Int) + (22) = ((43 : Nat) : Int) := by decide
theorem kc_t_30_13 : ((30 : Nat) : Int) + (13) = ((43 : Nat) : Int) := by decide
theorem kc_t_40_7 : ((40 : Nat) : Int) + (7) = ((47 : Nat) : Int) := by decide
theorem kc_t_61_13 : ((61 : Nat) : Int) + (13) = ((74 : Nat) : Int) := by decide
theorem kc_t_77_13 : ((77 : Nat) : Int) + (13) = ((90 : Nat) : Int) := by decide
theorem kc_t_87_10 : ((87 : Nat) : Int) + (10) = ((97 : Nat) : Int) := by decide
theorem kc_t_71_26 : ((71 : Nat) : Int) + (26) = ((97 : Nat) : Int) := by decide
theorem kc_t_10_24 : ((10 : Nat) : Int) + (24) = ((34 : Nat) : Int) := by decide
theorem kc_t_21_13 : ((21 : Nat) : Int) + (13) = ((34 : Nat) : Int) := by decide
theorem kc_t_31_5 : ((31 : Nat) : Int) + (5) = ((36 : Nat) : Int) := by decide
theorem kc_t_60_58 : ((60 : Nat) : Int) + (58) = ((118 : Nat) : Int) := by decide
theorem kc_t_67_22 : ((67 : Nat) : Int) + (22) = ((89 : Nat) : Int) := by decide
theorem kc_t_98_10 : ((98 : Nat) : Int) + (10) = ((108 : Nat) : Int) := by decide
theorem kc_t_115_m61 : ((115 : Nat) : Int) + (-61) = ((54 : Nat) : Int) := by decide
theorem kc_t_105_4 : ((105 : Nat) : Int) + (4) = ((109 : Nat) : Int) := by decide
theorem kc_t_78_7 : ((78 : Nat) : Int) + (7) = ((85 : Nat) : Int) := by decide
theorem kc_t_86_23 : ((86 : Nat) : Int) + (23) = ((109 : Nat) : Int) := by decide
theorem kc_t_82_27 : ((82 : Nat) : Int) + (27) = ((109 : Nat) : Int) := by decide
theorem kc_t_10_36 : ((10 : Nat) : Int) + (36) = ((46 : Nat) : Int) := by decide
theorem kc_t_15_31 : ((15 : Nat) : Int) + (31) = ((46 : Nat) : Int) := by decide
theorem kc_t_24_22 : ((24 : Nat) : Int) + (22) = ((46 : Nat) : Int) := by decide
theorem kc_t_33_13 : ((33 : Nat) : Int) + (13) = ((46 : Nat) : Int) := by decide
theorem kc_t_43_7 : ((43 : Nat) : Int) + (7) = ((50 : Nat) : Int) := by decide
theorem kc_t_12_7 : ((12 : Nat) : Int) + (7) = ((19 : Nat) : Int) := by decide
theorem kc_t_54_14 : ((54 : Nat) : Int) + (14) = ((68 : Nat) : Int) := by decide
theorem kc_t_65_11 : ((65 : Nat) : Int) + (11) = ((76 : Nat) : Int) := by decide
theorem kc_t_16_76 : ((16 : Nat) : Int) + (76) = ((92 : Nat) : Int) := by decide
theorem kc_l_45_52 : 45 < 52 := by decide
theorem kc_t_35_51 : ((35 : Nat) : Int) + (51) = ((86 : Nat) : Int) := by decide
theorem kc_t_89_m77 : ((89 : Nat) : Int) + (-77) = ((12 : Nat) : Int) := by decide
theorem kc_l_41_52 : 41 < 52 := by decide
theorem kc_t_47_33 : ((47 : Nat) : Int) + (33) = ((80 : Nat) : Int) := by decide
theorem kc_t_83_m54 : ((83 : Nat) : Int) + (-54) = ((29 : Nat) : Int) := by decide
theorem kc_t_52_17 : ((52 : Nat) : Int) + (17) = ((69 : Nat) : Int) := by decide
theorem kc_t_75_5 : ((75 : Nat) : Int) + (5) = ((80 : Nat) : Int) := by decide
theorem kc_t_66_14 : ((66 : Nat) : Int) + (14) = ((80 : Nat) : Int) := by decide
theorem kc_t_17_33 : ((17 : Nat) : Int) + (33) = ((50 : Nat) : Int) := by decide
theorem kc_t_30_10 : ((30 : Nat) : Int) + (10) = ((40 : Nat) : Int) := by decide
theorem kc_t_47_m36 : ((47 : Nat) : Int) + (-36) = ((11 : Nat) : Int) := by decide
theorem kc_t_37_4 : ((37 : Nat) : Int) + (4) = ((41 : Nat) : Int) := by decide
theorem kc_t_4_23 : ((4 : Nat) : Int) + (23) = ((27 : Nat) : Int) := by decide
theorem kc_b_119 : (Int8.ofInt (119)).toInt32 = 119 := by decide
theorem kc_t_42_4 : ((42 : Nat) : Int) + (4) = ((46 : Nat) : Int) := by decide
theorem kc_b_97 : (Int8.ofInt (97)).toInt32 = 97 := by decide
theorem kc_t_20_7 : ((20 : Nat) : Int) + (7) = ((27 : Nat) : Int) := by decide
theorem kc_t_36_m31 : ((36 : Nat) : Int) + (-31) = ((5 : Nat) : Int) := by decide
theorem kc_t_21_17 : ((21 : Nat) : Int) + (17) = ((38 : Nat) : Int) := by decide
theorem kc_t_10_11 : ((10 : Nat) : Int) + (11) = ((21 : Nat) : Int) := by decide
theorem kc_t_40_17 : ((40 : Nat) : Int) + (17) = ((57 : Nat) : Int) := by decide
theorem kc_t_50_7 : ((50 : Nat) : Int) + (7) = ((57 : Nat) : Int) := by decide
theorem kc_t_54_4 : ((54 : Nat) : Int) + (4) = ((58 : Nat) : Int) := by decide
theorem kc_t_10_14 : ((10 : Nat) : Int) + (14) = ((24 : Nat) : Int) := by decide
theorem kc_t_47_61 : ((47 : Nat) : Int) + (61) = ((108 : Nat) : Int) := by decide
theorem kc_l_23_52 : 23 < 52 := by decide
theorem kc_t_60_38 : ((60 : Nat) : Int) + (38) = ((98 : Nat) : Int) := by decide
theorem kc_t_105_m64 : ((105 : Nat) : Int) + (-64) = ((41 : Nat) : Int) := by decide
theorem kc_t_72_26 : ((72 : Nat) : Int) + (26) = ((98 : Nat) : Int) := by decide
theorem kc_t_88_10 : ((88 : Nat) : Int) + (10) = ((98 : Nat) : Int) := by decide
theorem kc_t_95_4 : ((95 : Nat) : Int) + (4) = ((99 : Nat) : Int) := by decide
theorem kc_t_77_83 : ((77 : Nat) : Int) + (83) = ((160 : Nat) : Int) := by decide
theorem kc_t_176_7 : ((176 : Nat) : Int) + (7) = ((183 : Nat) : Int) := by decide
theorem kc_t_180_4 : ((180 : Nat) : Int) + (4) = ((184 : Nat) : Int) := by decide
theorem kc_t_87_6 : ((87 : Nat) : Int) + (6) = ((93 : Nat) : Int) := by decide
theorem kc_l_48_52 : 48 < 52 := by decide
theorem kc_t_100_29 : ((100 : Nat) : Int) + (29) = ((129 : Nat) : Int) := by decide
theorem kc_t_137_17 : ((137 : Nat) : Int) + (17) = ((154 : Nat) : Int) := by decide
theorem kc_t_157_m86 : ((157 : Nat) : Int) + (-86) = ((71 : Nat) : Int) := by decide
theorem kc_l_49_52 : 49 < 52 := by decide
theorem kc_t_90_64 : ((90 : Nat) : Int) + (64) = ((154 : Nat) : Int) := by decide
theorem kc_t_25_30 : ((25 : Nat) : Int) + (30) = ((55 : Nat) : Int) := by decide
theorem kc_t_36_19 : ((36 : Nat) : Int) + (19) = ((55 : Nat) : Int) := by decide
theorem kc_t_39_34 : ((39 : Nat) : Int) + (34) = ((73 : Nat) : Int) := by decide
theorem kc_t_87_56 : ((87 : Nat) : Int) + (56) = ((143 : Nat) : Int) := by decide
theorem kc_t_146_7 : ((146 : Nat) : Int) + (7) = ((153 : Nat) : Int) := by decide
theorem kc_t_155_8 : ((155 : Nat) : Int) + (8) = ((163 : Nat) : Int) := by decide
theorem kc_t_160_9 : ((160 : Nat) : Int) + (9) = ((169 : Nat) : Int) := by decide
theorem kc_t_150_19 : ((150 : Nat) : Int) + (19) = ((169 : Nat) : Int) := by decide
theorem kc_t_97_40 : ((97 : Nat) : Int) + (40) = ((137 : Nat) : Int) := by decide
theorem kc_t_140_m61 : ((140 : Nat) : Int) + (-61) = ((79 : Nat) : Int) := by decide
theorem kc_t_103_17 : ((103 : Nat) : Int) + (17) = ((120 : Nat) : Int) := by decide
theorem kc_t_130_7 : ((130 : Nat) : Int) + (7) = ((137 : Nat) : Int) := by decide
theorem kc_t_114_6 : ((114 : Nat) : Int) + (6) = ((120 : Nat) : Int) := by decide
theorem kc_t_117_20 : ((117 : Nat) : Int) + (20) = ((137 : Nat) : Int) := by decide
theorem kc_l_47_52 : 47 < 52 := by decide
theorem kc_t_53_10 : ((53 : Nat) : Int) + (10) = ((63 : Nat) : Int) := by decide
theorem kc_t_70_m37 : ((70 : Nat) : Int) + (-37) = ((33 : Nat) : Int) := by decide
theorem kc_t_60_4 : ((60 : Nat) : Int) + (4) = ((64 : Nat) : Int) := by decide
theorem kc_t_34_44 : ((34 : Nat) : Int) + (44) = ((78 : Nat) : Int) := by decide
theorem kc_t_46_22 : ((46 : Nat) : Int) + (22) = ((68 : Nat) : Int) := by decide
theorem kc_t_75_m47 : ((75 : Nat) : Int) + (-47) = ((28 : Nat) : Int) := by decide
theorem kc_t_58_10 : ((58 : Nat) : Int) + (10) = ((68 : Nat) : Int) := by decide
theorem kc_t_10_5 : ((10 : Nat) : Int) + (5) = ((15 : Nat) : Int) := by decide
theorem kc_t_36_74 : ((36 : Nat) : Int) + (74) = ((110 : Nat) : Int) := by decide
theorem kc_t_61_43 : ((61 : Nat) : Int) + (43) = ((104 : Nat) : Int) := by decide
theorem kc_t_107_m77 : ((107 : Nat) : Int) + (-77) = ((30 : Nat) : Int) := by decide
theorem kc_t_66_38 : ((66 : Nat) : Int) + (38) = ((104 : Nat) : Int) := by decide
theorem kc_t_71_16 : ((71 : Nat) : Int) + (16) = ((87 : Nat) : Int) := by decide
theorem kc_t_81_6 : ((81 : Nat) : Int) + (6) = ((87 : Nat) : Int) := by decide
theorem kc_t_84_20 : ((84 : Nat) : Int) + (20) = ((104 : Nat) : Int) := by decide
theorem kc_t_10_25 : ((10 : Nat) : Int) + (25) = ((35 : Nat) : Int) := by decide
theorem kc_t_63_40 : ((63 : Nat) : Int) + (40) = ((103 : Nat) : Int) := by decide
theorem kc_t_107_7 : ((107 : Nat) : Int) + (7) = ((114 : Nat) : Int) := by decide
theorem kc_l_46_52 : 46 < 52 := by decide
theorem kc_t_124_26 : ((124 : Nat) : Int) + (26) = ((150 : Nat) : Int) := by decide
theorem kc_t_159_111 : ((159 : Nat) : Int) + (111) = ((270 : Nat) : Int) := by decide
theorem kc_t_169_95 : ((169 : Nat) : Int) + (95) = ((264 : Nat) : Int) := by decide
theorem kc_t_267_m114 : ((267 : Nat) : Int) + (-114) = ((153 : Nat) : Int) := by decide
theorem kc_t_180_6 : ((180 : Nat) : Int) + (6) = ((186 : Nat) : Int) := by decide
theorem kc_t_212_52 : ((212 : Nat) : Int) + (52) = ((264 : Nat) : Int) := by decide
theorem kc_in_8_14 : vp_in 8 14 := by unfold vp_in; decide
theorem kc_t_237_18 : ((237 : Nat) : Int) + (18) = ((255 : Nat) : Int) := by decide
theorem kc_in_7_14 : vp_in 7 14 := by unfold vp_in; decide
theorem kc_t_252_4 : ((252 : Nat) : Int) + (4) = ((256 : Nat) : Int) := by decide
theorem kc_t_261_m51 : ((261 : Nat) : Int) + (-51) = ((210 : Nat) : Int) := by decide
theorem kc_in_6_14 : vp_in 6 14 := by unfold vp_in; decide
theorem kc_in_5_14 : vp_in 5 14 := by unfold vp_in; decide
theorem kc_in_4_14 : vp_in 4 14 := by unfold vp_in; decide
theorem kc_in_3_14 : vp_in 3 14 := by unfold vp_in; decide
theorem kc_in_2_14 : vp_in 2 14 := by unfold vp_in; decide
theorem kc_in_1_14 : vp_in 1 14 := by unfold vp_in; decide
theorem kc_in_0_14 : vp_in 0 14 := by unfold vp_in; decide
theorem kc_t_183_81 : ((183 : Nat) : Int) + (81) = ((264 : Nat) : Int) := by decide
theorem kc_t_147_m30 : ((147 : Nat) : Int) + (-30) = ((117 : Nat) : Int) := by decide
theorem kc_t_139_4 : ((139 : Nat) : Int) + (4) = ((143 : Nat) : Int) := by decide
theorem kc_t_75_18 : ((75 : Nat) : Int) + (18) = ((93 : Nat) : Int) := by decide
theorem kc_t_100_m43 : ((100 : Nat) : Int) + (-43) = ((57 : Nat) : Int) := by decide
theorem kc_t_86_7 : ((86 : Nat) : Int) + (7) = ((93 : Nat) : Int) := by decide
theorem kc_t_90_4 : ((90 : Nat) : Int) + (4) = ((94 : Nat) : Int) := by decide
theorem kc_t_6_24 : ((6 : Nat) : Int) + (24) = ((30 : Nat) : Int) := by decide
theorem kc_t_38_5 : ((38 : Nat) : Int) + (5) = ((43 : Nat) : Int) := by decide
theorem kc_t_15_15 : ((15 : Nat) : Int) + (15) = ((30 : Nat) : Int) := by decide
theorem kc_t_61_8 : ((61 : Nat) : Int) + (8) = ((69 : Nat) : Int) := by decide
theorem kc_t_71_8 : ((71 : Nat) : Int) + (8) = ((79 : Nat) : Int) := by decide
theorem kc_t_76_5 : ((76 : Nat) : Int) + (5) = ((81 : Nat) : Int) := by decide
theorem kc_t_66_15 : ((66 : Nat) : Int) + (15) = ((81 : Nat) : Int) := by decide
theorem kc_t_11_32 : ((11 : Nat) : Int) + (32) = ((43 : Nat) : Int) := by decide
theorem kc_t_31_12 : ((31 : Nat) : Int) + (12) = ((43 : Nat) : Int) := by decide
theorem kc_t_10_16 : ((10 : Nat) : Int) + (16) = ((26 : Nat) : Int) := by decide
theorem kc_t_10_13 : ((10 : Nat) : Int) + (13) = ((23 : Nat) : Int) := by decide
theorem kc_t_11_30 : ((11 : Nat) : Int) + (30) = ((41 : Nat) : Int) := by decide
theorem kc_t_19_22 : ((19 : Nat) : Int) + (22) = ((41 : Nat) : Int) := by decide
theorem kc_t_29_12 : ((29 : Nat) : Int) + (12) = ((41 : Nat) : Int) := by decide
theorem kc_t_44_28 : ((44 : Nat) : Int) + (28) = ((72 : Nat) : Int) := by decide
theorem kc_t_55_27 : ((55 : Nat) : Int) + (27) = ((82 : Nat) : Int) := by decide
theorem kc_t_66_18 : ((66 : Nat) : Int) + (18) = ((84 : Nat) : Int) := by decide
theorem kc_t_69_13 : ((69 : Nat) : Int) + (13) = ((82 : Nat) : Int) := by decide
theorem kc_t_79_5 : ((79 : Nat) : Int) + (5) = ((84 : Nat) : Int) := by decide
theorem kc_t_11_31 : ((11 : Nat) : Int) + (31) = ((42 : Nat) : Int) := by decide
theorem kc_t_19_23 : ((19 : Nat) : Int) + (23) = ((42 : Nat) : Int) := by decide
theorem kc_t_45_13 : ((45 : Nat) : Int) + (13) = ((58 : Nat) : Int) := by decide
theorem kc_t_60_12 : ((60 : Nat) : Int) + (12) = ((72 : Nat) : Int) := by decide
theorem kc_t_74_20 : ((74 : Nat) : Int) + (20) = ((94 : Nat) : Int) := by decide
theorem kc_t_99_5 : ((99 : Nat) : Int) + (5) = ((104 : Nat) : Int) := by decide
theorem kc_t_82_12 : ((82 : Nat) : Int) + (12) = ((94 : Nat) : Int) := by decide
theorem kc_t_87_7 : ((87 : Nat) : Int) + (7) = ((94 : Nat) : Int) := by decide
theorem kc_t_91_4 : ((91 : Nat) : Int) + (4) = ((95 : Nat) : Int) := by decide
theorem kc_t_69_26 : ((69 : Nat) : Int) + (26) = ((95 : Nat) : Int) := by decide
theorem kc_t_55_40 : ((55 : Nat) : Int) + (40) = ((95 : Nat) : Int) := by decide
theorem kc_t_6_27 : ((6 : Nat) : Int) + (27) = ((33 : Nat) : Int) := by decide
theorem kc_t_30_m25 : ((30 : Nat) : Int) + (-25) = ((5 : Nat) : Int) := by decide
theorem kc_t_4_45 : ((4 : Nat) : Int) + (45) = ((49 : Nat) : Int) := by decide
theorem kc_t_14_6 : ((14 : Nat) : Int) + (6) = ((20 : Nat) : Int) := by decide
theorem kc_l_1_52 : 1 < 52 := by decide
theorem kc_l_6_52 : 6 < 52 := by decide
theorem kc_t_46_m43 : ((46 : Nat) : Int) + (-43) = ((3 : Nat) : Int) := by decide
theorem kc_t_17_26 : ((17 : Nat) : Int) + (26) = ((43 : Nat) : Int) := by decide
theorem kc_nd_967 : va_nd [29, 30] = true := by decide
theorem kc_nd_968 : va_nd [29, 30, 0, 1, 2, 3, 4, 5, 6, 7, 8, 9, 10, 11, 12, 13, 14, 15, 16, 17, 18, 19, 20, 21, 22, 23, 24, 25, 26, 27, 28] = true := by decide
theorem kc_t_6_11 : ((6 : Nat) : Int) + (11) = ((17 : Nat) : Int) := by decide
theorem kc_t_14_5 : ((14 : Nat) : Int) + (5) = ((19 : Nat) : Int) := by decide
theorem kc_t_15_13 : ((15 : Nat) : Int) + (13) = ((28 : Nat) : Int) := by decide
theorem kc_t_11_6 : ((11 : Nat) : Int) + (6) = ((17 : Nat) : Int) := by decide
theorem kc_t_29_7 : ((29 : Nat) : Int) + (7) = ((36 : Nat) : Int) := by decide
theorem kc_nd_974 : va_nd [0, 1, 4] = true := by decide
theorem kc_t_33_4 : ((33 : Nat) : Int) + (4) = ((37 : Nat) : Int) := by decide
theorem kc_t_11_28 : ((11 : Nat) : Int) + (28) = ((39 : Nat) : Int) := by decide
theorem kc_t_24_17 : ((24 : Nat) : Int) + (17) = ((41 : Nat) : Int) := by decide
theorem kc_t_53_7 : ((53 : Nat) : Int) + (7) = ((60 : Nat) : Int) := by decide
theorem kc_t_70_5 : ((70 : Nat) : Int) + (5) = ((75 : Nat) : Int) := by decide
theorem kc_t_76_10 : ((76 : Nat) : Int) + (10) = ((86 : Nat) : Int) := by decide
theorem kc_t_83_10 : ((83 : Nat) : Int) + (10) = ((93 : Nat) : Int) := by decide
theorem kc_t_101_26 : ((101 : Nat) : Int) + (26) = ((127 : Nat) : Int) := by decide
theorem kc_t_144_20 : ((144 : Nat) : Int) + (20) = ((164 : Nat) : Int) := by decide
theorem kc_31_1680 : 1680 < 2 ^ 31 := by decide
theorem kc_t_124_m28 : ((124 : Nat) : Int) + (-28) = ((96 : Nat) : Int) := by decide
theorem kc_t_36_5 : ((36 : Nat) : Int) + (5) = ((41 : Nat) : Int) := by decide
theorem kc_t_57_4 : ((57 : Nat) : Int) + (4) = ((61 : Nat) : Int) := by decide
theorem kc_l_5_11 : 5 < 11 := by decide
theorem kc_t_51_38 : ((51 : Nat) : Int) + (38) = ((89 : Nat) : Int) := by decide
theorem kc_t_91_8 : ((91 : Nat) : Int) + (8) = ((99 : Nat) : Int) := by decide
theorem kc_t_96_6 : ((96 : Nat) : Int) + (6) = ((102 : Nat) : Int) := by decide
theorem kc_t_123_93 : ((123 : Nat) : Int) + (93) = ((216 : Nat) : Int) := by decide
theorem kc_t_133_6 : ((133 : Nat) : Int) + (6) = ((139 : Nat) : Int) := by decide
theorem kc_t_168_7 : ((168 : Nat) : Int) + (7) = ((175 : Nat) : Int) := by decide
theorem kc_t_193_13 : ((193 : Nat) : Int) + (13) = ((206 : Nat) : Int) := by decide
theorem kc_t_213_m96 : ((213 : Nat) : Int) + (-96) = ((117 : Nat) : Int) := by decide
theorem kc_t_203_4 : ((203 : Nat) : Int) + (4) = ((207 : Nat) : Int) := by decide
theorem kc_t_172_4 : ((172 : Nat) : Int) + (4) = ((176 : Nat) : Int) := by decide
theorem kc_t_136_74 : ((136 : Nat) : Int) + (74) = ((210 : Nat) : Int) := by decide
theorem kc_t_64_15 : ((64 : Nat) : Int) + (15) = ((79 : Nat) : Int) := by decide
theorem kc_t_86_m41 : ((86 : Nat) : Int) + (-41) = ((45 : Nat) : Int) := by decide
theorem kc_nd_1002 : va_nd [0, 1, 2, 3, 4, 5] = true := by decide
theorem kc_b_9 : (Int8.ofInt (9)).toInt32 = 9 := by decide
theorem kc_nd_1004 : va_nd [0, 1, 2, 3, 4, 5, 6, 7, 8, 9, 10, 11, 12] = true := by decide
theorem kc_nd_1005 : va_nd [6] = true := by decide
theorem kc_nd_1006 : va_nd [13] = true := by decide
theorem kc_nd_1007 : va_nd [19] = true := by decide
theorem kc_nd_1008 : va_nd [32] = true := by decide
theorem kc_nd_1009 : va_nd [38] = true := by decide
theorem kc_nd_1010 : va_nd [43] = true := by decide
theorem kc_nd_1011 : va_nd [0, 1, 2, 3, 4, 5, 6, 7, 8, 9, 10, 11, 12, 13, 14, 15, 16, 17, 18, 19, 20, 21, 22, 23, 24, 25, 26, 27, 28, 29, 30, 31, 32, 33, 34, 35, 36, 37, 38, 39, 40, 41, 42, 43] = true := by decide
theorem kc_s_1680 : (Int16.ofInt (1680)).toInt32 = 1680 := by decide
theorem kc_b_14 : (Int8.ofInt (14)).toInt32 = 14 := by decide
theorem kc_s_128 : (Int16.ofInt (128)).toInt32 = 128 := by decide
theorem kc_in_0_1 : vp_in 0 1 := by unfold vp_in; decide
theorem kc_nd_1016 : va_nd [1, 2, 3, 4, 5, 6, 7, 8, 9, 10, 11, 12, 13, 14, 15, 16, 17, 18, 19, 20, 21, 22, 23, 24, 25, 26, 27, 28, 29, 30, 31, 32, 33, 34, 35, 36, 37, 38, 39, 0] = true := by decide
theorem kc_nd_1017 : va_nd [0, 42, 43] = true := by decide
theorem kc_nd_1018 : va_nd [44, 45, 46, 47, 48, 49, 50, 51, 52, 53, 54, 55, 56, 57, 58, 59, 60, 61, 62, 63, 64, 65, 66, 67, 68, 69, 70, 71, 72, 73, 74] = true := by decide
theorem kc_t_230_1533 : ((230 : Nat) : Int) + (1533) = ((1763 : Nat) : Int) := by decide
theorem kc_t_1766_m1743 : ((1766 : Nat) : Int) + (-1743) = ((23 : Nat) : Int) := by decide
theorem kc_t_255_1508 : ((255 : Nat) : Int) + (1508) = ((1763 : Nat) : Int) := by decide
theorem kc_nd_1022 : va_nd [0, 39, 40, 41, 42, 43] = true := by decide
theorem kc_t_278_1485 : ((278 : Nat) : Int) + (1485) = ((1763 : Nat) : Int) := by decide
theorem kc_nd_1024 : va_nd [0, 39, 40, 41, 42, 43, 34, 35, 36, 37] = true := by decide
theorem kc_t_305_1458 : ((305 : Nat) : Int) + (1458) = ((1763 : Nat) : Int) := by decide
theorem kc_t_333_7 : ((333 : Nat) : Int) + (7) = ((340 : Nat) : Int) := by decide
theorem kc_nd_1027 : va_nd [0, 14, 15, 16, 17, 18, 19] = true := by decide
theorem kc_t_370_7 : ((370 : Nat) : Int) + (7) = ((377 : Nat) : Int) := by decide
theorem kc_t_382_1381 : ((382 : Nat) : Int) + (1381) = ((1763 : Nat) : Int) := by decide
theorem kc_t_374_4 : ((374 : Nat) : Int) + (4) = ((378 : Nat) : Int) := by decide
theorem kc_t_337_4 : ((337 : Nat) : Int) + (4) = ((341 : Nat) : Int) := by decide
theorem kc_t_419_1344 : ((419 : Nat) : Int) + (1344) = ((1763 : Nat) : Int) := by decide
theorem kc_t_444_1319 : ((444 : Nat) : Int) + (1319) = ((1763 : Nat) : Int) := by decide
theorem kc_nd_1034 : va_nd [0, 1, 2, 3, 4, 5, 6, 7, 8, 9, 10, 11, 12, 13, 14, 15, 16, 17, 18, 19, 20, 21, 22, 23, 24, 25, 26, 27, 28, 29, 30, 31, 32, 33, 34, 35, 36, 37, 38, 75] = true := by decide
theorem kc_t_496_1267 : ((496 : Nat) : Int) + (1267) = ((1763 : Nat) : Int) := by decide
theorem kc_nd_1036 : va_nd [0, 1, 2, 3, 4, 5, 6, 7, 8, 9, 10, 11, 12, 13, 14, 15, 16, 17, 18, 19, 20, 21, 22, 23, 24, 25, 26, 27, 28, 29, 30, 31, 32, 33, 34, 35, 36, 37, 38] = true := by decide
theorem kc_t_603_1160 : ((603 : Nat) : Int) + (1160) = ((1763 : Nat) : Int) := by decide
theorem kc_t_696_1067 : ((696 : Nat) : Int) + (1067) = ((1763 : Nat) : Int) := by decide
theorem kc_t_789_974 : ((789 : Nat) : Int) + (974) = ((1763 : Nat) : Int) := by decide
theorem kc_t_870_893 : ((870 : Nat) : Int) + (893) = ((1763 : Nat) : Int) := by decide
theorem kc_t_963_800 : ((963 : Nat) : Int) + (800) = ((1763 : Nat) : Int) := by decide
theorem kc_nd_1042 : va_nd [0, 14, 15, 16, 17, 18, 19, 23, 24, 25, 26, 27, 28] = true := by decide
theorem kc_t_1036_727 : ((1036 : Nat) : Int) + (727) = ((1763 : Nat) : Int) := by decide
theorem kc_t_1068_7 : ((1068 : Nat) : Int) + (7) = ((1075 : Nat) : Int) := by decide
theorem kc_t_1109_7 : ((1109 : Nat) : Int) + (7) = ((1116 : Nat) : Int) := by decide
theorem kc_t_1121_642 : ((1121 : Nat) : Int) + (642) = ((1763 : Nat) : Int) := by decide
theorem kc_t_1113_4 : ((1113 : Nat) : Int) + (4) = ((1117 : Nat) : Int) := by decide
theorem kc_t_1072_4 : ((1072 : Nat) : Int) + (4) = ((1076 : Nat) : Int) := by decide
theorem kc_t_1202_561 : ((1202 : Nat) : Int) + (561) = ((1763 : Nat) : Int) := by decide
theorem kc_t_1295_468 : ((1295 : Nat) : Int) + (468) = ((1763 : Nat) : Int) := by decide
theorem kc_nd_1051 : va_nd [0, 20, 21, 22, 34, 35, 36, 37] = true := by decide
theorem kc_t_1332_431 : ((1332 : Nat) : Int) + (431) = ((1763 : Nat) : Int) := by decide
theorem kc_t_1357_406 : ((1357 : Nat) : Int) + (406) = ((1763 : Nat) : Int) := by decide
theorem kc_t_1394_369 : ((1394 : Nat) : Int) + (369) = ((1763 : Nat) : Int) := by decide
theorem kc_nd_1055 : va_nd [0, 14, 15, 16, 17, 18, 19, 36, 37, 38] = true := by decide
theorem kc_t_1431_332 : ((1431 : Nat) : Int) + (332) = ((1763 : Nat) : Int) := by decide
theorem kc_t_1512_251 : ((1512 : Nat) : Int) + (251) = ((1763 : Nat) : Int) := by decide
theorem kc_nd_1058 : va_nd [0, 14, 15, 16, 17, 18, 19, 29, 30, 31, 32, 33] = true := by decide
theorem kc_t_1573_190 : ((1573 : Nat) : Int) + (190) = ((1763 : Nat) : Int) := by decide
theorem kc_t_1666_97 : ((1666 : Nat) : Int) + (97) = ((1763 : Nat) : Int) := by decide
theorem kc_t_1735_28 : ((1735 : Nat) : Int) + (28) = ((1763 : Nat) : Int) := by decide
theorem kc_t_1760_3 : ((1760 : Nat) : Int) + (3) = ((1763 : Nat) : Int) := by decide
theorem kc_l_1_7 : 1 < 7 := by decide
theorem kc_nd_1064 : va_nd [44] = true := by decide
