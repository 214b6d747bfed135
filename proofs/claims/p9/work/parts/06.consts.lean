theorem kc_l_6_8 : 6 < 8 := by decide
theorem kc_l_7_8 : 7 < 8 := by decide
theorem kc_i_1 : Int32.ofInt (1) = 1 := by decide
theorem kc_l_5_8 : 5 < 8 := by decide
theorem kc_i_0 : Int32.ofInt (0) = 0 := by decide
theorem kc_l_2_4 : 2 < 4 := by decide
theorem kc_l_3_4 : 3 < 4 := by decide
theorem kc_t_41_7 : ((41 : Nat) : Int) + (7) = ((48 : Nat) : Int) := by decide
theorem kc_t_6_5 : ((6 : Nat) : Int) + (5) = ((11 : Nat) : Int) := by decide
theorem kc_t_5_5 : ((5 : Nat) : Int) + (5) = ((10 : Nat) : Int) := by decide
theorem kc_l_3_8 : 3 < 8 := by decide
theorem kc_l_4_5 : 4 < 5 := by decide
theorem kc_l_1_5 : 1 < 5 := by decide
theorem kc_l_2_5 : 2 < 5 := by decide
theorem kc_l_3_5 : 3 < 5 := by decide
theorem kc_t_39_4 : ((39 : Nat) : Int) + (4) = ((43 : Nat) : Int) := by decide
theorem kc_s_10000 : (Int16.ofInt (10000)).toInt32 = 10000 := by decide
theorem kc_s_20000 : (Int16.ofInt (20000)).toInt32 = 20000 := by decide
theorem kc_s_20033 : (Int16.ofInt (20033)).toInt32 = 20033 := by decide
theorem kc_t_35_7 : ((35 : Nat) : Int) + (7) = ((42 : Nat) : Int) := by decide
theorem kc_b_33 : (Int8.ofInt (33)).toInt32 = 33 := by decide
theorem kc_b_63 : (Int8.ofInt (63)).toInt32 = 63 := by decide
theorem kc_31_120 : 120 < 2 ^ 31 := by decide
theorem kc_b_120 : (Int8.ofInt (120)).toInt32 = 120 := by decide
theorem kc_nd_311 : va_nd [0, 1, 2, 3, 4] = true := by decide
theorem kc_31_124 : 124 < 2 ^ 31 := by decide
theorem kc_b_91 : (Int8.ofInt (91)).toInt32 = 91 := by decide
theorem kc_t_8_36 : ((8 : Nat) : Int) + (36) = ((44 : Nat) : Int) := by decide
theorem kc_31_91 : 91 < 2 ^ 31 := by decide
theorem kc_t_48_8 : ((48 : Nat) : Int) + (8) = ((56 : Nat) : Int) := by decide
theorem kc_t_66_5 : ((66 : Nat) : Int) + (5) = ((71 : Nat) : Int) := by decide
theorem kc_t_16_26 : ((16 : Nat) : Int) + (26) = ((42 : Nat) : Int) := by decide
theorem kc_t_15_64 : ((15 : Nat) : Int) + (64) = ((79 : Nat) : Int) := by decide
theorem kc_b_42 : (Int8.ofInt (42)).toInt32 = 42 := by decide
theorem kc_t_24_12 : ((24 : Nat) : Int) + (12) = ((36 : Nat) : Int) := by decide
theorem kc_31_42 : 42 < 2 ^ 31 := by decide
theorem kc_t_56_15 : ((56 : Nat) : Int) + (15) = ((71 : Nat) : Int) := by decide
theorem kc_t_68_5 : ((68 : Nat) : Int) + (5) = ((73 : Nat) : Int) := by decide
theorem kc_t_76_m64 : ((76 : Nat) : Int) + (-64) = ((12 : Nat) : Int) := by decide
theorem kc_b_47 : (Int8.ofInt (47)).toInt32 = 47 := by decide
theorem kc_t_33_46 : ((33 : Nat) : Int) + (46) = ((79 : Nat) : Int) := by decide
theorem kc_31_47 : 47 < 2 ^ 31 := by decide
theorem kc_b_43 : (Int8.ofInt (43)).toInt32 = 43 := by decide
theorem kc_31_43 : 43 < 2 ^ 31 := by decide
theorem kc_b_45 : (Int8.ofInt (45)).toInt32 = 45 := by decide
theorem kc_31_45 : 45 < 2 ^ 31 := by decide
theorem kc_t_1_99 : ((1 : Nat) : Int) + (99) = ((100 : Nat) : Int) := by decide
theorem kc_t_12_38 : ((12 : Nat) : Int) + (38) = ((50 : Nat) : Int) := by decide
theorem kc_31_33 : 33 < 2 ^ 31 := by decide
theorem kc_b_40 : (Int8.ofInt (40)).toInt32 = 40 := by decide
theorem kc_t_53_37 : ((53 : Nat) : Int) + (37) = ((90 : Nat) : Int) := by decide
theorem kc_31_40 : 40 < 2 ^ 31 := by decide
theorem kc_t_95_5 : ((95 : Nat) : Int) + (5) = ((100 : Nat) : Int) := by decide
theorem kc_t_109_5 : ((109 : Nat) : Int) + (5) = ((114 : Nat) : Int) := by decide
theorem kc_t_129_19 : ((129 : Nat) : Int) + (19) = ((148 : Nat) : Int) := by decide
theorem kc_t_141_7 : ((141 : Nat) : Int) + (7) = ((148 : Nat) : Int) := by decide
theorem kc_t_145_4 : ((145 : Nat) : Int) + (4) = ((149 : Nat) : Int) := by decide
theorem kc_t_61_27 : ((61 : Nat) : Int) + (27) = ((88 : Nat) : Int) := by decide
theorem kc_t_20_28 : ((20 : Nat) : Int) + (28) = ((48 : Nat) : Int) := by decide
theorem kc_t_16_49 : ((16 : Nat) : Int) + (49) = ((65 : Nat) : Int) := by decide
theorem kc_b_38 : (Int8.ofInt (38)).toInt32 = 38 := by decide
theorem kc_t_25_40 : ((25 : Nat) : Int) + (40) = ((65 : Nat) : Int) := by decide
theorem kc_31_38 : 38 < 2 ^ 31 := by decide
theorem kc_t_44_13 : ((44 : Nat) : Int) + (13) = ((57 : Nat) : Int) := by decide
theorem kc_s_20038 : (Int16.ofInt (20038)).toInt32 = 20038 := by decide
theorem kc_t_54_5 : ((54 : Nat) : Int) + (5) = ((59 : Nat) : Int) := by decide
theorem kc_t_62_m49 : ((62 : Nat) : Int) + (-49) = ((13 : Nat) : Int) := by decide
theorem kc_b_124 : (Int8.ofInt (124)).toInt32 = 124 := by decide
theorem kc_s_20124 : (Int16.ofInt (20124)).toInt32 = 20124 := by decide
theorem kc_t_26_16 : ((26 : Nat) : Int) + (16) = ((42 : Nat) : Int) := by decide
theorem kc_b_93 : (Int8.ofInt (93)).toInt32 = 93 := by decide
theorem kc_t_72_16 : ((72 : Nat) : Int) + (16) = ((88 : Nat) : Int) := by decide
theorem kc_b_41 : (Int8.ofInt (41)).toInt32 = 41 := by decide
theorem kc_t_81_7 : ((81 : Nat) : Int) + (7) = ((88 : Nat) : Int) := by decide
theorem kc_t_85_4 : ((85 : Nat) : Int) + (4) = ((89 : Nat) : Int) := by decide
theorem kc_t_31_17 : ((31 : Nat) : Int) + (17) = ((48 : Nat) : Int) := by decide
theorem kc_t_45_4 : ((45 : Nat) : Int) + (4) = ((49 : Nat) : Int) := by decide
theorem kc_t_13_5 : ((13 : Nat) : Int) + (5) = ((18 : Nat) : Int) := by decide
theorem kc_b_58 : (Int8.ofInt (58)).toInt32 = 58 := by decide
theorem kc_t_34_5 : ((34 : Nat) : Int) + (5) = ((39 : Nat) : Int) := by decide
theorem kc_t_50_12 : ((50 : Nat) : Int) + (12) = ((62 : Nat) : Int) := by decide
theorem kc_t_63_4 : ((63 : Nat) : Int) + (4) = ((67 : Nat) : Int) := by decide
theorem kc_t_69_31 : ((69 : Nat) : Int) + (31) = ((100 : Nat) : Int) := by decide
theorem kc_t_103_7 : ((103 : Nat) : Int) + (7) = ((110 : Nat) : Int) := by decide
theorem kc_t_114_5 : ((114 : Nat) : Int) + (5) = ((119 : Nat) : Int) := by decide
theorem kc_t_131_26 : ((131 : Nat) : Int) + (26) = ((157 : Nat) : Int) := by decide
theorem kc_t_139_18 : ((139 : Nat) : Int) + (18) = ((157 : Nat) : Int) := by decide
theorem kc_t_150_7 : ((150 : Nat) : Int) + (7) = ((157 : Nat) : Int) := by decide
theorem kc_t_154_4 : ((154 : Nat) : Int) + (4) = ((158 : Nat) : Int) := by decide
theorem kc_t_59_7 : ((59 : Nat) : Int) + (7) = ((66 : Nat) : Int) := by decide
theorem kc_t_77_5 : ((77 : Nat) : Int) + (5) = ((82 : Nat) : Int) := by decide
theorem kc_t_89_11 : ((89 : Nat) : Int) + (11) = ((100 : Nat) : Int) := by decide
theorem kc_t_107_4 : ((107 : Nat) : Int) + (4) = ((111 : Nat) : Int) := by decide
