def w_s_size2 : List Cond := .code yX2_size cX2_size 1 (some .int) :: ([.fieldLink RX2 31 "NotEnded$Folk" "size" "I"] ++ (wsX20))
theorem gw_s_size2 : (w_s_size2).all goodWord = true := kGc rfl (kGa (by decide +kernel) gw_wsX20)
def w_s_isIn9 : List Cond := .code yX9_isIn cX9_isIn 3 (some .boolean) :: ([])
theorem gw_s_isIn9 : (w_s_isIn9).all goodWord = true := kGc rfl kGn
