def w_s_bitCount6n : List Cond := .code yJ6_bitCount_0f7a4 cJ6_bitCount_0f7a4 1 (some .int) :: ([.constant RJ6 265 (1431655765), .constant RJ6 266 (858993459), .constant RJ6 267 (252645135)] ++ [])
theorem gw_s_bitCount6n : (w_s_bitCount6n).all goodWord = true := kGc rfl (kGa (by decide +kernel) kGn)
set_option maxHeartbeats 4000000 in
set_option maxRecDepth 100000 in
theorem s_bitCount6n (l : Launch) (dC : Nat → ClassId) (dI : Nat → Nat → Nat) (ps : Nat) (hps : ps < 1024) : Met l yJ6_bitCount_0f7a4 w_s_bitCount6n ({ frames := 1, cells := 0, slots := 0, locals := 60 }) (kR dC dI [.int (nI (ps))] [] [] kT) (vp_Si (fun r : Int32 => r = nI (kPc ps))) 0 0 (fun _ => False) := by
  sorry

