theorem tw_75 : (.initialized RX9 : Cond) ∈ lw_tbl := sorry

theorem tw_85 : (.initialized RX10 : Cond) ∈ lw_tbl := sorry

theorem tw_889 : (.methodLink RL 106 yX9_bars : Cond) ∈ lw_tbl := sorry

theorem tw_890 : (.instanceMethod yX9_bars : Cond) ∈ lw_tbl := sorry

theorem tw_891 : (.selects RX9 yX9_bars yX9_bars : Cond) ∈ lw_tbl := sorry

theorem tw_1511 : (.methodLink RL 109 yX10_bars : Cond) ∈ lw_tbl := sorry

theorem tw_1512 : (.instanceMethod yX10_bars : Cond) ∈ lw_tbl := sorry

theorem tw_1513 : (.selects RX10 yX10_bars yX10_bars : Cond) ∈ lw_tbl := sorry

theorem in_w_s_bars9 : ∀ w ∈ w_s_bars9, w ∈ lw_tbl := sorry

theorem in_w_s_bars10 : ∀ w ∈ w_s_bars10, w ∈ lw_tbl := sorry

