def w_s_chk3n : List Cond := .code yJ3_checkIndex_8e157 cJ3_checkIndex_8e157 3 (some .int) :: ([])
def w_s_chk3r : List Cond := .code yJ3_checkIndex_8e157 cJ3_checkIndex_8e157 3 (some .int) :: ([])
def w_s_t_chk0 : List Cond := .code yJ0_checkIndex_df160 cJ0_checkIndex_df160 2 none :: ([.fieldLink RJ0 1053 "jdk/internal/util/Preconditions" "SIOOBE_FORMATTER" "Ljava/util/function/BiFunction;", .initialized RJ3, .static yJ3_checkIndex_8e157, .methodLink RJ0 1059 yJ3_checkIndex_8e157] ++ (w_s_chk3n ++ (w_s_chk3r)))
def w_s_bitJ : List Cond := .code yJ13_bitCount_95d88 cJ13_bitCount_95d88 2 (some .int) :: ([.constantLong RJ13 314 (6148914691236517205), .constantLong RJ13 316 (3689348814741910323), .constantLong RJ13 318 (1085102592571150095)] ++ [])
theorem gw_s_bitJ : (w_s_bitJ).all goodWord = true := kGc rfl (kGa (by decide +kernel) kGn)
def w_s_isIn10_47 : List Cond := .code yX10_isIn cX10_isIn 3 (some .boolean) :: ([])
theorem gw_s_isIn10_47 : (w_s_isIn10_47).all goodWord = true := kGc rfl kGn
def w_s_isIn10_8 : List Cond := .code yX10_isIn cX10_isIn 3 (some .boolean) :: ([])
theorem gw_s_isIn10_8 : (w_s_isIn10_8).all goodWord = true := kGc rfl kGn
def w_s_isIn10 : List Cond := .code yX10_isIn cX10_isIn 3 (some .boolean) :: ([])
theorem gw_s_isIn10 : (w_s_isIn10).all goodWord = true := kGc rfl kGn
