def w_s_has10 : List Cond := .code yX10_has cX10_has 2 (some .boolean) :: ([])
theorem gw_s_has10 : (w_s_has10).all goodWord = true := kGc rfl kGn
