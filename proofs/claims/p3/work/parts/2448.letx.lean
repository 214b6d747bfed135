/-- the letters of an outcome -/
def kOl (o : Int32) : Nat → Int32 := fun k => (o >>> (nI k &&& 31)) &&& 1
/-- whether a turning lets an outcome -/
def kLet (o : Int32) (t : List kTr) : Int32 := if kWoT (kOl o) 0 t = 0 then 0 else 1
/-- the outcomes for which nothing stands, as bits -/
def kBrN (f : Nat → Int32) : Nat → Nat
  | 0 => 0
  | n + 1 => if f n = 0 then kBrN f n ||| 2 ^ n else kBrN f n
def kBar (t : List kTr) : Nat := kBrN (fun k => kLet (nI k) t) 32
def w_s_isLet9x : List Cond := .code yX9_isLet cX9_isLet 4 (some .boolean) :: ([.fieldLink RX9 28 "NotEnded" "reckoner" "LNotEnded$Reckoner;", .initialized RX5, .selects RX5 yX5_worthOf yX5_worthOf, .instanceMethod yX5_worthOf, .methodLink RX9 267 yX5_worthOf, .selects RX5 yX5_setLetter yX5_setLetter, .instanceMethod yX5_setLetter, .methodLink RX9 264 yX5_setLetter] ++ (wsX90 ++ (w_s_worthOf5x ++ (w_s_setLetter5x))))
theorem gw_s_isLet9x : (w_s_isLet9x).all goodWord = true := kGc rfl (kGa (by decide +kernel) (kGa gw_wsX90 (kGa gw_s_worthOf5x gw_s_setLetter5x)))
def w_s_barred9x : List Cond := .code yX9_barredBy cX9_barredBy 4 (some .int) :: ([.initialized RX9, .selects RX9 yX9_isLet yX9_isLet, .instanceMethod yX9_isLet, .methodLink RX9 226 yX9_isLet] ++ (w_s_isLet9x))
theorem gw_s_barred9x : (w_s_barred9x).all goodWord = true := kGc rfl (kGa (by decide +kernel) gw_s_isLet9x)
