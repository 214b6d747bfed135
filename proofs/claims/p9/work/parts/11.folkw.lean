def w_s_addWord2 : List Cond := .code yX2_addWord cX2_addWord 2 (some .int) :: ([.fieldLink RX2 34 "NotEnded$Folk" "words" "I", .fieldLink RX2 24 "NotEnded$Folk" "hours" "[I"] ++ (wsX20))
theorem gw_s_addWord2 : (w_s_addWord2).all goodWord = true := kGc rfl (kGa (by decide +kernel) gw_wsX20)
