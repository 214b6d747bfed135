def w_s_t_latin : List Cond := .code yJ0_isLatin1_aae02 cJ0_isLatin1_aae02 1 (some .boolean) :: ([.fieldLink RJ0 38 "java/lang/String" "COMPACT_STRINGS" "Z", .fieldLink RJ0 15 "java/lang/String" "coder" "B"] ++ [])
theorem gw_s_t_latin : (w_s_t_latin).all goodWord = true := kGc rfl (kGa (by decide +kernel) kGn)
def w_s_t_coder : List Cond := .code yJ0_coder_7d493 cJ0_coder_7d493 1 (some .byte) :: ([.fieldLink RJ0 38 "java/lang/String" "COMPACT_STRINGS" "Z", .fieldLink RJ0 15 "java/lang/String" "coder" "B"] ++ [])
theorem gw_s_t_coder : (w_s_t_coder).all goodWord = true := kGc rfl (kGa (by decide +kernel) kGn)
def w_s_t_length : List Cond := .code yJ0_length_8abf5 cJ0_length_8abf5 1 (some .int) :: ([.fieldLink RJ0 9 "java/lang/String" "value" "[B", .initialized RJ0, .selects RJ0 yJ0_coder_7d493 yJ0_coder_7d493, .instanceMethod yJ0_coder_7d493, .methodLink RJ0 335 yJ0_coder_7d493] ++ (w_s_t_coder))
theorem gw_s_t_length : (w_s_t_length).all goodWord = true := kGc rfl (kGa (by decide +kernel) gw_s_t_coder)
theorem hd_J0_indexOf_0f7a4 : yJ0_indexOf_0f7a4.cls ≠ "java/lang/invoke/MethodHandle" ∧ yJ0_indexOf_0f7a4.cls ≠ "java/lang/invoke/VarHandle" ∧ (parseMethodDescriptor yJ0_indexOf_0f7a4.desc).map (fun d => d.parameters.length) = some 1 := by decide +kernel
