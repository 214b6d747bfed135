def w_s_bytes8x : List Cond := .code yX8_bytesIn cX8_bytesIn 3 (some .int) :: ([])
theorem gw_s_bytes8x : (w_s_bytes8x).all goodWord = true := kGc rfl kGn
def w_s_append8x : List Cond := .code yX8_append cX8_append 4 none :: ([.fieldLink RX8 15 "NotEnded$Tape" "length" "I", .fieldLink RX8 9 "NotEnded$Tape" "signs" "[C"] ++ (wsX80))
theorem gw_s_append8x : (w_s_append8x).all goodWord = true := kGc rfl (kGa (by decide +kernel) gw_wsX80)
