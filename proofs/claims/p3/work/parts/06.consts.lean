theorem kc_i_1 : Int32.ofInt (1) = 1 := by decide
theorem kc_l_4_7 : 4 < 7 := by decide
theorem kc_nd_1018 : va_nd [44, 45, 46, 47, 48, 49, 50, 51, 52, 53, 54, 55, 56, 57, 58, 59, 60, 61, 62, 63, 64, 65, 66, 67, 68, 69, 70, 71, 72, 73, 74] = true := by decide
theorem kc_t_1766_m1743 : ((1766 : Nat) : Int) + (-1743) = ((23 : Nat) : Int) := by decide
theorem kc_nd_1051 : va_nd [0, 20, 21, 22, 34, 35, 36, 37] = true := by decide
theorem kc_t_1357_406 : ((1357 : Nat) : Int) + (406) = ((1763 : Nat) : Int) := by decide
