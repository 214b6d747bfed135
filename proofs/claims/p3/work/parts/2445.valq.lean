def w_s_join5x : List Cond := .code yX5_join cX5_join 3 (some .long) :: ([])
theorem gw_s_join5x : (w_s_join5x).all goodWord = true := kGc rfl kGn
def w_s_bounded5x : List Cond := .code yX5_bounded cX5_bounded 2 (some .int) :: ([.constantLong RX5 48 (1000000), .constantLong RX5 51 (-1000000), .constant RX5 53 (-1000000), .constant RX5 50 (1000000)] ++ [])
theorem gw_s_bounded5x : (w_s_bounded5x).all goodWord = true := kGc rfl (kGa (by decide +kernel) kGn)
def w_s_valueOf5x : List Cond := .code yX5_valueOf cX5_valueOf 3 (some .int) :: ([.fieldLink RX5 9 "NotEnded$Reckoner" "letters" "[I"] ++ (wsX50))
theorem gw_s_valueOf5x : (w_s_valueOf5x).all goodWord = true := kGc rfl (kGa (by decide +kernel) gw_wsX50)
def w_s_reckon5x : List Cond := .code yX5_reckon cX5_reckon 7 (some .int) :: ([.methodLink RX5 30 Lib.Math.max.name, .static Lib.Math.max.name, .initialized RJ9, .code Lib.Math.max.name Lib.Math.max.code 2 (some .int), .fieldLink RX5 15 "NotEnded$Reckoner" "open" "[I", .initialized RX5, .static yX5_join, .methodLink RX5 40 yX5_join, .static yX5_bounded, .methodLink RX5 44 yX5_bounded, .selects RX5 yX5_valueOf yX5_valueOf, .instanceMethod yX5_valueOf, .methodLink RX5 36 yX5_valueOf] ++ (wsX50 ++ (w_s_join5x ++ (w_s_bounded5x ++ (w_s_valueOf5x)))))
theorem gw_s_reckon5x : (w_s_reckon5x).all goodWord = true := kGc rfl (kGa (by decide +kernel) (kGa gw_wsX50 (kGa gw_s_join5x (kGa gw_s_bounded5x gw_s_valueOf5x))))
