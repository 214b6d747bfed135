theorem kc_i_1 : Int32.ofInt (1) = 1 := by decide
theorem kc_i_0 : Int32.ofInt (0) = 0 := by decide
theorem kc_i_3 : Int32.ofInt (3) = 3 := by decide
theorem kc_i_4 : Int32.ofInt (4) = 4 := by decide
theorem kc_l_5_6 : 5 < 6 := by decide
theorem kc_b_6 : (Int8.ofInt (6)).toInt32 = 6 := by decide
theorem kc_i_2 : Int32.ofInt (2) = 2 := by decide
theorem kc_l_4_7 : 4 < 7 := by decide
theorem kc_l_5_7 : 5 < 7 := by decide
theorem kc_l_6_7 : 6 < 7 := by decide
theorem kc_i_5 : Int32.ofInt (5) = 5 := by decide
theorem kc_b_32 : (Int8.ofInt (32)).toInt32 = 32 := by decide
theorem kc_t_12_7 : ((12 : Nat) : Int) + (7) = ((19 : Nat) : Int) := by decide
theorem kc_in_0_1 : vp_in 0 1 := by unfold vp_in; decide
theorem kc_nd_1016 : va_nd [1, 2, 3, 4, 5, 6, 7, 8, 9, 10, 11, 12, 13, 14, 15, 16, 17, 18, 19, 20, 21, 22, 23, 24, 25, 26, 27, 28, 29, 30, 31, 32, 33, 34, 35, 36, 37, 38, 39, 0] = true := by decide
theorem kc_nd_1018 : va_nd [44, 45, 46, 47, 48, 49, 50, 51, 52, 53, 54, 55, 56, 57, 58, 59, 60, 61, 62, 63, 64, 65, 66, 67, 68, 69, 70, 71, 72, 73, 74] = true := by decide
theorem kc_t_1794_m1771 : ((1794 : Nat) : Int) + (-1771) = ((23 : Nat) : Int) := by decide
theorem kc_nd_1027 : va_nd [0, 14, 15, 16, 17, 18, 19] = true := by decide
theorem kc_t_444_1347 : ((444 : Nat) : Int) + (1347) = ((1791 : Nat) : Int) := by decide
theorem kc_nd_1034 : va_nd [0, 1, 2, 3, 4, 5, 6, 7, 8, 9, 10, 11, 12, 13, 14, 15, 16, 17, 18, 19, 20, 21, 22, 23, 24, 25, 26, 27, 28, 29, 30, 31, 32, 33, 34, 35, 36, 37, 38, 75] = true := by decide
theorem kc_t_502_5 : ((502 : Nat) : Int) + (5) = ((507 : Nat) : Int) := by decide
theorem kc_t_509_15 : ((509 : Nat) : Int) + (15) = ((524 : Nat) : Int) := by decide
theorem kc_t_524_1267 : ((524 : Nat) : Int) + (1267) = ((1791 : Nat) : Int) := by decide
theorem kc_t_519_5 : ((519 : Nat) : Int) + (5) = ((524 : Nat) : Int) := by decide
theorem kc_nd_1039 : va_nd [0, 1, 2, 3, 4, 5, 6, 7, 8, 9, 10, 11, 12, 13, 14, 15, 16, 17, 18, 19, 20, 21, 22, 23, 24, 25, 26, 27, 28, 29, 30, 31, 32, 33, 34, 35, 36, 37, 38] = true := by decide
theorem kc_t_631_1160 : ((631 : Nat) : Int) + (1160) = ((1791 : Nat) : Int) := by decide
