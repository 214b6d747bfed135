def w_s_chk3n : List Cond := .code yJ3_checkIndex_8e157 cJ3_checkIndex_8e157 3 (some .int) :: ([])
def w_s_chk3r : List Cond := .code yJ3_checkIndex_8e157 cJ3_checkIndex_8e157 3 (some .int) :: ([])
def w_s_t_chk0 : List Cond := .code yJ0_checkIndex_df160 cJ0_checkIndex_df160 2 none :: ([.fieldLink RJ0 1053 "jdk/internal/util/Preconditions" "SIOOBE_FORMATTER" "Ljava/util/function/BiFunction;", .initialized RJ3, .static yJ3_checkIndex_8e157, .methodLink RJ0 1059 yJ3_checkIndex_8e157] ++ (w_s_chk3n ++ (w_s_chk3r)))
def w_s_isIn10 : List Cond := .code yX10_isIn cX10_isIn 3 (some .boolean) :: ([])
theorem gw_s_isIn10 : (w_s_isIn10).all goodWord = true := kGc rfl kGn
