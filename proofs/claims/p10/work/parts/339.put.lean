def w_s_bytes10 : List Cond := .code yX10_bytesIn cX10_bytesIn 3 (some .int) :: ([])
theorem gw_s_bytes10 : (w_s_bytes10).all goodWord = true := kGc rfl kGn
def w_s_put10x : List Cond := .code yX10_put cX10_put 3 none :: ([.fieldLink RX10 9 "NotEndedModel" "tape" "[B", .fieldLink RX10 131 "NotEndedModel" "length" "I"] ++ (wsX100))
theorem gw_s_put10x : (w_s_put10x).all goodWord = true := kGc rfl (kGa (by decide +kernel) gw_wsX100)
