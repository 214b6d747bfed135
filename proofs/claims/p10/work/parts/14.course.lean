def w_s_fill : List Cond := .code yJ7_fill_53178 cJ7_fill_53178 4 none :: ([])
theorem gw_s_fill : (w_s_fill).all goodWord = true := kGc rfl kGn
theorem hd_J7_fill_53178 : yJ7_fill_53178.cls ≠ "java/lang/invoke/MethodHandle" ∧ yJ7_fill_53178.cls ≠ "java/lang/invoke/VarHandle" ∧ (parseMethodDescriptor yJ7_fill_53178.desc).map (fun d => d.parameters.length) = some 2 := by decide +kernel
set_option maxHeartbeats 4000000 in
set_option maxRecDepth 100000 in
theorem s_fill (l : Launch) (dC : Nat → ClassId) (dI : Nat → Nat → Nat) (ar : Nat) (cI : ClassId) (n : Nat) (g : Nat → Int32) (hn : n ≤ 200) (p0 : Int32) (sz : Nat) : Met l yJ7_fill_53178 w_s_fill ({ frames := 1, cells := 0, slots := 0, locals := 60 }) (kW dC dI [.ref ar, .int p0] [(ar, .inl (cI, n, .inl g))] [(cI, .int)] kT sz) (va_Qv (fun (g1 : (Nat → Int32)) => True) (fun (g1 : (Nat → Int32)) => fun t : State => kB dC dI [(ar, .inl (cI, n, .inl g1))] [(cI, .int)] (va_A [(ar, .inl (cI, n, .inl g))] sz) t) (va_A [(ar, .inl (cI, n, .inl g))] sz)) 0 0 (va_A [(ar, .inl (cI, n, .inl g))] sz) := by
  sorry

def w_s_fillL : List Cond := .code yJ7_fill_d0a16 cJ7_fill_d0a16 5 none :: ([])
theorem gw_s_fillL : (w_s_fillL).all goodWord = true := kGc rfl kGn
def w_s_heldBy1 : List Cond := .code yX1_heldBy cX1_heldBy 2 (some .int) :: ([.fieldLink RX1 67 "NotEnded$Course" "folk" "LNotEnded$Folk;", .initialized RX2, .selects RX2 yX2_has yX2_has, .instanceMethod yX2_has, .methodLink RX1 94 yX2_has, .fieldLink RX1 9 "NotEnded$Course" "held" "[I"] ++ (wsX10 ++ (w_s_has2)))
theorem gw_s_heldBy1 : (w_s_heldBy1).all goodWord = true := kGc rfl (kGa (by decide +kernel) (kGa gw_wsX10 gw_s_has2))
def w_s_placeOf1 : List Cond := .code yX1_placeOf cX1_placeOf 2 (some .int) :: ([.fieldLink RX1 67 "NotEnded$Course" "folk" "LNotEnded$Folk;", .initialized RX2, .selects RX2 yX2_has yX2_has, .instanceMethod yX2_has, .methodLink RX1 94 yX2_has, .fieldLink RX1 18 "NotEnded$Course" "places" "[I"] ++ (wsX10 ++ (w_s_has2)))
theorem gw_s_placeOf1 : (w_s_placeOf1).all goodWord = true := kGc rfl (kGa (by decide +kernel) (kGa gw_wsX10 gw_s_has2))
def w_s_whoHoldsOn1 : List Cond := .code yX1_whoHoldsOn cX1_whoHoldsOn 3 (some .int) :: ([.fieldLink RX1 67 "NotEnded$Course" "folk" "LNotEnded$Folk;", .initialized RX2, .selects RX2 yX2_size yX2_size, .instanceMethod yX2_size, .methodLink RX1 84 yX2_size, .fieldLink RX1 61 "NotEnded$Course" "moved" "I", .initialized RX9, .static yX9_isBit, .fieldLink RX1 9 "NotEnded$Course" "held" "[I"] ++ (wsX10 ++ (w_s_size2 ++ (w_s_isBit9))))
theorem gw_s_whoHoldsOn1 : (w_s_whoHoldsOn1).all goodWord = true := kGc rfl (kGa (by decide +kernel) (kGa gw_wsX10 (kGa gw_s_size2 gw_s_isBit9)))
def w_s_housesThatTold1 : List Cond := .code yX1_housesThatTold cX1_housesThatTold 3 (some .int) :: ([.fieldLink RX1 67 "NotEnded$Course" "folk" "LNotEnded$Folk;", .initialized RX2, .selects RX2 yX2_size yX2_size, .instanceMethod yX2_size, .methodLink RX1 84 yX2_size, .fieldLink RX1 21 "NotEnded$Course" "tellsSince" "[I"] ++ (wsX10 ++ (w_s_size2 ++ (wsX20))))
theorem gw_s_housesThatTold1 : (w_s_housesThatTold1).all goodWord = true := kGc rfl (kGa (by decide +kernel) (kGa gw_wsX10 (kGa gw_s_size2 gw_wsX20)))
def w_s_mean1 : List Cond := .code yX1_meanHeldIn cX1_meanHeldIn 5 (some .int) :: ([.fieldLink RX1 67 "NotEnded$Course" "folk" "LNotEnded$Folk;", .initialized RX2, .selects RX2 yX2_size yX2_size, .instanceMethod yX2_size, .methodLink RX1 84 yX2_size, .fieldLink RX1 61 "NotEnded$Course" "moved" "I", .initialized RX9, .static yX9_isBit, .fieldLink RX1 9 "NotEnded$Course" "held" "[I"] ++ (wsX10 ++ (w_s_size2 ++ (w_s_isBit9 ++ (wsX20)))))
theorem gw_s_mean1 : (w_s_mean1).all goodWord = true := kGc rfl (kGa (by decide +kernel) (kGa gw_wsX10 (kGa gw_s_size2 (kGa gw_s_isBit9 gw_wsX20))))
def w_s_mayGo1 : List Cond := .code yX1_mayGo cX1_mayGo 2 (some .boolean) :: ([.fieldLink RX1 61 "NotEnded$Course" "moved" "I", .initialized RX9, .static yX9_isBit, .fieldLink RX1 18 "NotEnded$Course" "places" "[I"] ++ (wsX10 ++ (w_s_isBit9)))
theorem gw_s_mayGo1 : (w_s_mayGo1).all goodWord = true := kGc rfl (kGa (by decide +kernel) (kGa gw_wsX10 gw_s_isBit9))
