theorem kc_l_6_8 : 6 < 8 := by decide
theorem kc_l_7_8 : 7 < 8 := by decide
theorem kc_i_1 : Int32.ofInt (1) = 1 := by decide
theorem kc_l_5_8 : 5 < 8 := by decide
theorem kc_i_0 : Int32.ofInt (0) = 0 := by decide
theorem kc_l_4_8 : 4 < 8 := by decide
theorem kc_i_m1 : Int32.ofInt (-1) = (-1) := by decide
theorem kc_l_2_8 : 2 < 8 := by decide
theorem kc_i_3 : Int32.ofInt (3) = 3 := by decide
theorem kc_b_10 : (Int8.ofInt (10)).toInt32 = 10 := by decide
theorem kc_l_0_8 : 0 < 8 := by decide
theorem kc_l_1_8 : 1 < 8 := by decide
theorem kc_i_4 : Int32.ofInt (4) = 4 := by decide
theorem kc_l_3_8 : 3 < 8 := by decide
theorem kc_l_5_6 : 5 < 6 := by decide
theorem kc_b_20 : (Int8.ofInt (20)).toInt32 = 20 := by decide
theorem kc_l_0_6 : 0 < 6 := by decide
theorem kc_l_1_6 : 1 < 6 := by decide
theorem kc_l_2_6 : 2 < 6 := by decide
theorem kc_l_3_6 : 3 < 6 := by decide
theorem kc_l_4_6 : 4 < 6 := by decide
theorem kc_l_4_5 : 4 < 5 := by decide
theorem kc_b_6 : (Int8.ofInt (6)).toInt32 = 6 := by decide
theorem kc_l_0_5 : 0 < 5 := by decide
theorem kc_l_1_5 : 1 < 5 := by decide
theorem kc_l_2_5 : 2 < 5 := by decide
theorem kc_l_3_5 : 3 < 5 := by decide
theorem kc_i_2 : Int32.ofInt (2) = 2 := by decide
theorem kc_l_0_2 : 0 < 2 := by decide
theorem kc_l_4_7 : 4 < 7 := by decide
theorem kc_l_5_7 : 5 < 7 := by decide
theorem kc_l_1_2 : 1 < 2 := by decide
theorem kc_l_6_7 : 6 < 7 := by decide
theorem kc_l_3_7 : 3 < 7 := by decide
theorem kc_nd_138 : va_nd [0, 1, 2] = true := by decide
theorem kc_l_0_19 : 0 < 19 := by decide
theorem kc_l_2_19 : 2 < 19 := by decide
theorem kc_l_4_19 : 4 < 19 := by decide
theorem kc_l_5_19 : 5 < 19 := by decide
theorem kc_l_16_19 : 16 < 19 := by decide
theorem kc_l_17_19 : 17 < 19 := by decide
theorem kc_l_3_19 : 3 < 19 := by decide
theorem kc_l_10_19 : 10 < 19 := by decide
theorem kc_nd_176 : va_nd [9] = true := by decide
theorem kc_l_11_19 : 11 < 19 := by decide
theorem kc_l_12_19 : 12 < 19 := by decide
theorem kc_nd_180 : va_nd [11] = true := by decide
theorem kc_l_1_19 : 1 < 19 := by decide
theorem kc_i_5 : Int32.ofInt (5) = 5 := by decide
theorem kc_l_18_19 : 18 < 19 := by decide
theorem kc_b_7 : (Int8.ofInt (7)).toInt32 = 7 := by decide
theorem kc_l_2_7 : 2 < 7 := by decide
theorem kc_l_6_19 : 6 < 19 := by decide
theorem kc_l_14_19 : 14 < 19 := by decide
theorem kc_l_7_19 : 7 < 19 := by decide
theorem kc_l_8_19 : 8 < 19 := by decide
theorem kc_l_9_19 : 9 < 19 := by decide
theorem kc_l_15_19 : 15 < 19 := by decide
theorem kc_b_8 : (Int8.ofInt (8)).toInt32 = 8 := by decide
theorem kc_l_13_19 : 13 < 19 := by decide
theorem kc_t_11_7 : ((11 : Nat) : Int) + (7) = ((18 : Nat) : Int) := by decide
theorem kc_t_15_4 : ((15 : Nat) : Int) + (4) = ((19 : Nat) : Int) := by decide
theorem kc_b_120 : (Int8.ofInt (120)).toInt32 = 120 := by decide
theorem kc_b_32 : (Int8.ofInt (32)).toInt32 = 32 := by decide
theorem kc_nd_311 : va_nd [0, 1, 2, 3, 4] = true := by decide
theorem kc_b_124 : (Int8.ofInt (124)).toInt32 = 124 := by decide
theorem kc_b_31 : (Int8.ofInt (31)).toInt32 = 31 := by decide
theorem kc_l_2_10 : 2 < 10 := by decide
theorem kc_l_6_10 : 6 < 10 := by decide
theorem kc_l_8_10 : 8 < 10 := by decide
theorem kc_l_7_10 : 7 < 10 := by decide
theorem kc_nd_434 : va_nd [0, 1] = true := by decide
theorem kc_nd_435 : va_nd [1] = true := by decide
theorem kc_nd_436 : va_nd [3] = true := by decide
theorem kc_l_5_10 : 5 < 10 := by decide
theorem kc_l_3_10 : 3 < 10 := by decide
theorem kc_l_4_10 : 4 < 10 := by decide
theorem kc_l_9_10 : 9 < 10 := by decide
theorem kc_l_0_10 : 0 < 10 := by decide
theorem kc_l_1_10 : 1 < 10 := by decide
theorem kc_l_5_52 : 5 < 52 := by decide
theorem kc_nd_603 : va_nd [0] = true := by decide
theorem kc_l_17_52 : 17 < 52 := by decide
theorem kc_l_4_52 : 4 < 52 := by decide
theorem kc_l_16_52 : 16 < 52 := by decide
theorem kc_l_2_52 : 2 < 52 := by decide
theorem kc_l_3_52 : 3 < 52 := by decide
theorem kc_l_25_52 : 25 < 52 := by decide
theorem kc_l_21_52 : 21 < 52 := by decide
theorem kc_l_40_52 : 40 < 52 := by decide
theorem kc_l_42_52 : 42 < 52 := by decide
theorem kc_l_30_52 : 30 < 52 := by decide
theorem kc_l_43_52 : 43 < 52 := by decide
theorem kc_l_28_52 : 28 < 52 := by decide
theorem kc_l_44_52 : 44 < 52 := by decide
theorem kc_l_50_52 : 50 < 52 := by decide
theorem kc_l_19_52 : 19 < 52 := by decide
theorem kc_l_29_52 : 29 < 52 := by decide
theorem kc_l_20_52 : 20 < 52 := by decide
theorem kc_l_31_52 : 31 < 52 := by decide
theorem kc_l_24_52 : 24 < 52 := by decide
theorem kc_l_34_52 : 34 < 52 := by decide
theorem kc_l_36_52 : 36 < 52 := by decide
theorem kc_l_33_52 : 33 < 52 := by decide
theorem kc_nd_772 : va_nd [0, 1, 2, 3, 4, 5, 6, 7, 8, 9, 10, 11, 12, 13, 14, 15, 16, 17, 18, 19, 20, 21, 22, 23, 24, 25, 26, 27, 28, 29, 30] = true := by decide
theorem kc_l_22_52 : 22 < 52 := by decide
theorem kc_l_35_52 : 35 < 52 := by decide
theorem kc_l_32_52 : 32 < 52 := by decide
theorem kc_l_41_52 : 41 < 52 := by decide
theorem kc_l_23_52 : 23 < 52 := by decide
theorem kc_l_48_52 : 48 < 52 := by decide
theorem kc_l_49_52 : 49 < 52 := by decide
theorem kc_l_47_52 : 47 < 52 := by decide
theorem kc_l_46_52 : 46 < 52 := by decide
theorem kc_l_1_52 : 1 < 52 := by decide
theorem kc_nd_1002 : va_nd [0, 1, 2, 3, 4, 5] = true := by decide
theorem kc_b_9 : (Int8.ofInt (9)).toInt32 = 9 := by decide
theorem kc_nd_1004 : va_nd [0, 1, 2, 3, 4, 5, 6, 7, 8, 9, 10, 11, 12] = true := by decide
theorem kc_nd_1005 : va_nd [6] = true := by decide
theorem kc_nd_1006 : va_nd [13] = true := by decide
theorem kc_nd_1007 : va_nd [19] = true := by decide
theorem kc_nd_1008 : va_nd [32] = true := by decide
theorem kc_nd_1009 : va_nd [38] = true := by decide
theorem kc_nd_1010 : va_nd [43] = true := by decide
theorem kc_nd_1011 : va_nd [0, 1, 2, 3, 4, 5, 6, 7, 8, 9, 10, 11, 12, 13, 14, 15, 16, 17, 18, 19, 20, 21, 22, 23, 24, 25, 26, 27, 28, 29, 30, 31, 32, 33, 34, 35, 36, 37, 38, 39, 40, 41, 42, 43] = true := by decide
theorem kc_s_1680 : (Int16.ofInt (1680)).toInt32 = 1680 := by decide
theorem kc_b_14 : (Int8.ofInt (14)).toInt32 = 14 := by decide
theorem kc_s_128 : (Int16.ofInt (128)).toInt32 = 128 := by decide
theorem kc_nd_1017 : va_nd [0, 42, 43] = true := by decide
theorem kc_nd_1018 : va_nd [44, 45, 46, 47, 48, 49, 50, 51, 52, 53, 54, 55, 56, 57, 58, 59, 60, 61, 62, 63, 64, 65, 66, 67, 68, 69, 70, 71, 72, 73, 74] = true := by decide
theorem kc_t_230_1533 : ((230 : Nat) : Int) + (1533) = ((1763 : Nat) : Int) := by decide
theorem kc_t_1766_m1743 : ((1766 : Nat) : Int) + (-1743) = ((23 : Nat) : Int) := by decide
theorem kc_t_255_1508 : ((255 : Nat) : Int) + (1508) = ((1763 : Nat) : Int) := by decide
theorem kc_nd_1022 : va_nd [0, 39, 40, 41, 42, 43] = true := by decide
theorem kc_t_280_1483 : ((280 : Nat) : Int) + (1483) = ((1763 : Nat) : Int) := by decide
theorem kc_nd_1024 : va_nd [0, 39, 40, 41, 42, 43, 34, 35, 36, 37] = true := by decide
theorem kc_t_305_1458 : ((305 : Nat) : Int) + (1458) = ((1763 : Nat) : Int) := by decide
theorem kc_t_333_7 : ((333 : Nat) : Int) + (7) = ((340 : Nat) : Int) := by decide
theorem kc_nd_1027 : va_nd [0, 14, 15, 16, 17, 18, 19] = true := by decide
theorem kc_t_370_7 : ((370 : Nat) : Int) + (7) = ((377 : Nat) : Int) := by decide
theorem kc_t_382_1381 : ((382 : Nat) : Int) + (1381) = ((1763 : Nat) : Int) := by decide
theorem kc_t_374_4 : ((374 : Nat) : Int) + (4) = ((378 : Nat) : Int) := by decide
theorem kc_t_337_4 : ((337 : Nat) : Int) + (4) = ((341 : Nat) : Int) := by decide
theorem kc_t_419_1344 : ((419 : Nat) : Int) + (1344) = ((1763 : Nat) : Int) := by decide
theorem kc_t_444_1319 : ((444 : Nat) : Int) + (1319) = ((1763 : Nat) : Int) := by decide
theorem kc_nd_1034 : va_nd [0, 1, 2, 3, 4, 5, 6, 7, 8, 9, 10, 11, 12, 13, 14, 15, 16, 17, 18, 19, 20, 21, 22, 23, 24, 25, 26, 27, 28, 29, 30, 31, 32, 33, 34, 35, 36, 37, 38, 75] = true := by decide
theorem kc_t_496_1267 : ((496 : Nat) : Int) + (1267) = ((1763 : Nat) : Int) := by decide
theorem kc_nd_1036 : va_nd [0, 1, 2, 3, 4, 5, 6, 7, 8, 9, 10, 11, 12, 13, 14, 15, 16, 17, 18, 19, 20, 21, 22, 23, 24, 25, 26, 27, 28, 29, 30, 31, 32, 33, 34, 35, 36, 37, 38] = true := by decide
theorem kc_t_601_1162 : ((601 : Nat) : Int) + (1162) = ((1763 : Nat) : Int) := by decide
theorem kc_t_696_1067 : ((696 : Nat) : Int) + (1067) = ((1763 : Nat) : Int) := by decide
theorem kc_t_789_974 : ((789 : Nat) : Int) + (974) = ((1763 : Nat) : Int) := by decide
theorem kc_t_870_893 : ((870 : Nat) : Int) + (893) = ((1763 : Nat) : Int) := by decide
theorem kc_t_963_800 : ((963 : Nat) : Int) + (800) = ((1763 : Nat) : Int) := by decide
theorem kc_nd_1042 : va_nd [0, 14, 15, 16, 17, 18, 19, 23, 24, 25, 26, 27, 28] = true := by decide
theorem kc_t_1036_727 : ((1036 : Nat) : Int) + (727) = ((1763 : Nat) : Int) := by decide
theorem kc_t_1068_7 : ((1068 : Nat) : Int) + (7) = ((1075 : Nat) : Int) := by decide
theorem kc_t_1109_7 : ((1109 : Nat) : Int) + (7) = ((1116 : Nat) : Int) := by decide
theorem kc_t_1121_642 : ((1121 : Nat) : Int) + (642) = ((1763 : Nat) : Int) := by decide
theorem kc_t_1113_4 : ((1113 : Nat) : Int) + (4) = ((1117 : Nat) : Int) := by decide
theorem kc_t_1072_4 : ((1072 : Nat) : Int) + (4) = ((1076 : Nat) : Int) := by decide
theorem kc_t_1202_561 : ((1202 : Nat) : Int) + (561) = ((1763 : Nat) : Int) := by decide
theorem kc_t_1295_468 : ((1295 : Nat) : Int) + (468) = ((1763 : Nat) : Int) := by decide
theorem kc_nd_1051 : va_nd [0, 20, 21, 22, 34, 35, 36, 37] = true := by decide
theorem kc_t_1332_431 : ((1332 : Nat) : Int) + (431) = ((1763 : Nat) : Int) := by decide
theorem kc_t_1357_406 : ((1357 : Nat) : Int) + (406) = ((1763 : Nat) : Int) := by decide
theorem kc_t_1394_369 : ((1394 : Nat) : Int) + (369) = ((1763 : Nat) : Int) := by decide
theorem kc_nd_1055 : va_nd [0, 14, 15, 16, 17, 18, 19, 36, 37, 38] = true := by decide
theorem kc_t_1431_332 : ((1431 : Nat) : Int) + (332) = ((1763 : Nat) : Int) := by decide
theorem kc_t_1512_251 : ((1512 : Nat) : Int) + (251) = ((1763 : Nat) : Int) := by decide
theorem kc_nd_1058 : va_nd [0, 14, 15, 16, 17, 18, 19, 29, 30, 31, 32, 33] = true := by decide
theorem kc_t_1573_190 : ((1573 : Nat) : Int) + (190) = ((1763 : Nat) : Int) := by decide
theorem kc_t_1666_97 : ((1666 : Nat) : Int) + (97) = ((1763 : Nat) : Int) := by decide
theorem kc_t_1735_28 : ((1735 : Nat) : Int) + (28) = ((1763 : Nat) : Int) := by decide
theorem kc_t_1760_3 : ((1760 : Nat) : Int) + (3) = ((1763 : Nat) : Int) := by decide
theorem kc_l_1_7 : 1 < 7 := by decide
theorem kc_nd_1064 : va_nd [44] = true := by decide

