def w_s_clause10x : List Cond := .code yX10_clause cX10_clause 5 none :: wf_mq
theorem gw_s_clause10x : (w_s_clause10x).all goodWord = true := kFamG rfl gf_mq
