def w_s_length8 : List Cond := .code yX8_length cX8_length 1 (some .int) :: ([.fieldLink RX8 15 "NotEnded$Tape" "length" "I"] ++ (wsX80))
theorem gw_s_length8 : (w_s_length8).all goodWord = true := kGc rfl (kGa (by decide +kernel) gw_wsX80)
def w_s_withinN9 : List Cond := .code yX9_within cX9_within 3 (some .int) :: ([])
theorem gw_s_withinN9 : (w_s_withinN9).all goodWord = true := kGc rfl kGn
def w_s_cutTo8 : List Cond := .code yX8_cutTo cX8_cutTo 2 none :: ([.fieldLink RX8 15 "NotEnded$Tape" "length" "I", .initialized RX9, .static yX9_within] ++ (wsX80 ++ (w_s_withinN9)))
theorem gw_s_cutTo8 : (w_s_cutTo8).all goodWord = true := kGc rfl (kGa (by decide +kernel) (kGa gw_wsX80 gw_s_withinN9))
