def w_s_at7y : List Cond := .code yX7_at cX7_at 2 (some (.object "NotEnded$Rule")) :: ([.fieldLink RX7 9 "NotEnded$Shelf" "size" "I", .fieldLink RX7 17 "NotEnded$Shelf" "rules" "[LNotEnded$Rule;"] ++ (wsX70))
theorem gw_s_at7y : (w_s_at7y).all goodWord = true := kGc rfl (kGa (by decide +kernel) gw_wsX70)
def kBarA (p : Int32) (ku : Nat) (y : Nat → List kTr) : Int32 := if kPn p ku = 0 then -1 else kPop (nI (kBar (y (Int32.toNatClampNeg p))))

