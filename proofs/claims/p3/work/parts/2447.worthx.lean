def w_s_worthOf5x : List Cond := .code yX5_worthOf cX5_worthOf 7 (some .int) :: ([.initialized RX5, .selects RX5 yX5_reckon yX5_reckon, .instanceMethod yX5_reckon, .methodLink RX5 26 yX5_reckon] ++ (wsX60 ++ (w_s_reckon5x)))
theorem gw_s_worthOf5x : (w_s_worthOf5x).all goodWord = true := kGc rfl (kGa (by decide +kernel) (kGa gw_wsX60 gw_s_reckon5x))
def w_s_setLetter5x : List Cond := .code yX5_setLetter cX5_setLetter 3 none :: ([.fieldLink RX5 9 "NotEnded$Reckoner" "letters" "[I"] ++ (wsX50))
theorem gw_s_setLetter5x : (w_s_setLetter5x).all goodWord = true := kGc rfl (kGa (by decide +kernel) gw_wsX50)
