def kUs (x k : Int32) : Int32 := (Int32.toUInt32 x >>> (Int32.toUInt32 k &&& Int32.toUInt32 31)).toInt32
def kPw1 (p : Int32) : Int32 := p - (kUs p 1 &&& 1431655765)
def kPw2 (p : Int32) : Int32 := (p &&& 858993459) + (kUs p 2 &&& 858993459)
def kPw3 (p : Int32) : Int32 := (p + kUs p 4) &&& 252645135
def kPw4 (p : Int32) : Int32 := p + kUs p 8
def kPw5 (p : Int32) : Int32 := p + kUs p 16
def kPop (p : Int32) : Int32 := kPw5 (kPw4 (kPw3 (kPw2 (kPw1 p)))) &&& 63
def w_s_bitCount6b : List Cond := .code yJ6_bitCount_0f7a4 cJ6_bitCount_0f7a4 1 (some .int) :: ([.constant RJ6 265 (1431655765), .constant RJ6 266 (858993459), .constant RJ6 267 (252645135)] ++ [])
theorem gw_s_bitCount6b : (w_s_bitCount6b).all goodWord = true := kGc rfl (kGa (by decide +kernel) kGn)
