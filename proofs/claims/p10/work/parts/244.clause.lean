def w_s_clause4x : List Cond := .code yX4_readClause cX4_readClause 5 (some .boolean) :: wf_rq
theorem gw_s_clause4x : (w_s_clause4x).all goodWord = true := kFamG rfl gf_rq
