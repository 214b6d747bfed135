theorem dX9_isIn_0 : decode cX9_isIn 0 = .ok (.iload_n 0, 1) := by decide +kernel
theorem dX9_isIn_1 : decode cX9_isIn 1 = .ok (.iload_n 1, 1) := by decide +kernel
theorem dX9_isIn_2 : decode cX9_isIn 2 = .ok (.if_icmp .lt 12, 3) := by decide +kernel
theorem dX9_isIn_14 : decode cX9_isIn 14 = .ok (.iconst 0, 1) := by decide +kernel
theorem dX9_isIn_15 : decode cX9_isIn 15 = .ok (.ireturn, 1) := by decide +kernel
theorem dX9_isIn_5 : decode cX9_isIn 5 = .ok (.iload_n 0, 1) := by decide +kernel
theorem dX9_isIn_6 : decode cX9_isIn 6 = .ok (.iload_n 2, 1) := by decide +kernel
theorem dX9_isIn_7 : decode cX9_isIn 7 = .ok (.if_icmp .gt 7, 3) := by decide +kernel
theorem dX9_isIn_10 : decode cX9_isIn 10 = .ok (.iconst 1, 1) := by decide +kernel
theorem dX9_isIn_11 : decode cX9_isIn 11 = .ok (.goto 4, 3) := by decide +kernel
theorem dX10_isIn_0 : decode cX10_isIn 0 = .ok (.iload_n 0, 1) := by decide +kernel
theorem dX10_isIn_1 : decode cX10_isIn 1 = .ok (.iload_n 1, 1) := by decide +kernel
theorem dX10_isIn_2 : decode cX10_isIn 2 = .ok (.if_icmp .lt 12, 3) := by decide +kernel
theorem dX10_isIn_14 : decode cX10_isIn 14 = .ok (.iconst 0, 1) := by decide +kernel
theorem dX10_isIn_15 : decode cX10_isIn 15 = .ok (.ireturn, 1) := by decide +kernel
theorem dX10_isIn_5 : decode cX10_isIn 5 = .ok (.iload_n 0, 1) := by decide +kernel
theorem dX10_isIn_6 : decode cX10_isIn 6 = .ok (.iload_n 2, 1) := by decide +kernel
theorem dX10_isIn_7 : decode cX10_isIn 7 = .ok (.if_icmp .gt 7, 3) := by decide +kernel
theorem dX10_isIn_10 : decode cX10_isIn 10 = .ok (.iconst 1, 1) := by decide +kernel
theorem dX10_isIn_11 : decode cX10_isIn 11 = .ok (.goto 4, 3) := by decide +kernel
theorem dX7_at_0 : decode cX7_at 0 = .ok (.iload_n 1, 1) := by decide +kernel
theorem dX7_at_1 : decode cX7_at 1 = .ok (.ifCond .lt 29, 3) := by decide +kernel
theorem dX7_at_30 : decode cX7_at 30 = .ok (.aconst_null, 1) := by decide +kernel
theorem dX7_at_31 : decode cX7_at 31 = .ok (.areturn, 1) := by decide +kernel
theorem dX7_at_4 : decode cX7_at 4 = .ok (.iload_n 1, 1) := by decide +kernel
theorem dX7_at_5 : decode cX7_at 5 = .ok (.aload_n 0, 1) := by decide +kernel
theorem dX7_at_6 : decode cX7_at 6 = .ok (.getfield 9, 3) := by decide +kernel
theorem dX7_at_9 : decode cX7_at 9 = .ok (.if_icmp .ge 21, 3) := by decide +kernel
theorem dX2_has_0 : decode cX2_has 0 = .ok (.iload_n 1, 1) := by decide +kernel
theorem dX2_has_1 : decode cX2_has 1 = .ok (.ifCond .lt 21, 3) := by decide +kernel
theorem dX2_has_22 : decode cX2_has 22 = .ok (.iconst 0, 1) := by decide +kernel
theorem dX2_has_23 : decode cX2_has 23 = .ok (.ireturn, 1) := by decide +kernel
theorem dX2_has_4 : decode cX2_has 4 = .ok (.iload_n 1, 1) := by decide +kernel
theorem dX2_has_5 : decode cX2_has 5 = .ok (.aload_n 0, 1) := by decide +kernel
theorem dX2_has_6 : decode cX2_has 6 = .ok (.getfield 31, 3) := by decide +kernel
theorem dX2_has_9 : decode cX2_has 9 = .ok (.if_icmp .ge 13, 3) := by decide +kernel
theorem dX9_run_0 : decode cX9_run 0 = .ok (.aload_n 0, 1) := by decide +kernel
theorem dX9_run_1 : decode cX9_run 1 = .ok (.getfield 37, 3) := by decide +kernel
theorem dX9_run_4 : decode cX9_run 4 = .ok (.iload_n 1, 1) := by decide +kernel
theorem dX9_run_5 : decode cX9_run 5 = .ok (.invokevirtual 138, 3) := by decide +kernel
theorem dX9_run_8 : decode cX9_run 8 = .ok (.astore 7, 2) := by decide +kernel
theorem dX9_run_10 : decode cX9_run 10 = .ok (.aload 7, 2) := by decide +kernel
theorem dX9_run_12 : decode cX9_run 12 = .ok (.ifnull 36, 3) := by decide +kernel
theorem dX9_run_48 : decode cX9_run 48 = .ok (.sipush (-1000), 3) := by decide +kernel
theorem dX9_run_51 : decode cX9_run 51 = .ok (.ireturn, 1) := by decide +kernel
theorem dX9_all_0 : decode cX9_all 0 = .ok (.aload_n 0, 1) := by decide +kernel
theorem dX9_all_1 : decode cX9_all 1 = .ok (.getfield 37, 3) := by decide +kernel
theorem dX9_all_4 : decode cX9_all 4 = .ok (.iload_n 1, 1) := by decide +kernel
theorem dX9_all_5 : decode cX9_all 5 = .ok (.invokevirtual 138, 3) := by decide +kernel
theorem dX9_all_8 : decode cX9_all 8 = .ok (.astore 6, 2) := by decide +kernel
theorem dX9_all_10 : decode cX9_all 10 = .ok (.aload 6, 2) := by decide +kernel
theorem dX9_all_12 : decode cX9_all 12 = .ok (.ifnull 24, 3) := by decide +kernel
theorem dX9_all_36 : decode cX9_all 36 = .ok (.iconst (-1), 1) := by decide +kernel
theorem dX9_all_37 : decode cX9_all 37 = .ok (.ireturn, 1) := by decide +kernel
theorem dX9_without_0 : decode cX9_without 0 = .ok (.aload_n 0, 1) := by decide +kernel
theorem dX9_without_1 : decode cX9_without 1 = .ok (.getfield 37, 3) := by decide +kernel
theorem dX9_without_4 : decode cX9_without 4 = .ok (.iload_n 1, 1) := by decide +kernel
theorem dX9_without_5 : decode cX9_without 5 = .ok (.invokevirtual 138, 3) := by decide +kernel
theorem dX9_without_8 : decode cX9_without 8 = .ok (.astore 6, 2) := by decide +kernel
theorem dX9_without_10 : decode cX9_without 10 = .ok (.aload 6, 2) := by decide +kernel
theorem dX9_without_12 : decode cX9_without 12 = .ok (.ifnull 37, 3) := by decide +kernel
theorem dX9_without_49 : decode cX9_without 49 = .ok (.sipush (-1000), 3) := by decide +kernel
theorem dX9_without_52 : decode cX9_without 52 = .ok (.ireturn, 1) := by decide +kernel
theorem dX9_did_0 : decode cX9_did 0 = .ok (.aload_n 0, 1) := by decide +kernel
theorem dX9_did_1 : decode cX9_did 1 = .ok (.getfield 37, 3) := by decide +kernel
theorem dX9_did_4 : decode cX9_did 4 = .ok (.iload_n 1, 1) := by decide +kernel
theorem dX9_did_5 : decode cX9_did 5 = .ok (.invokevirtual 138, 3) := by decide +kernel
theorem dX9_did_8 : decode cX9_did 8 = .ok (.astore 5, 2) := by decide +kernel
theorem dX9_did_10 : decode cX9_did 10 = .ok (.aload 5, 2) := by decide +kernel
theorem dX9_did_12 : decode cX9_did 12 = .ok (.ifnull 27, 3) := by decide +kernel
theorem dX9_did_39 : decode cX9_did 39 = .ok (.sipush (-1000), 3) := by decide +kernel
theorem dX9_did_42 : decode cX9_did 42 = .ok (.ireturn, 1) := by decide +kernel
theorem dX9_lean_0 : decode cX9_lean 0 = .ok (.aload_n 0, 1) := by decide +kernel
theorem dX9_lean_1 : decode cX9_lean 1 = .ok (.getfield 37, 3) := by decide +kernel
theorem dX9_lean_4 : decode cX9_lean 4 = .ok (.iload_n 1, 1) := by decide +kernel
theorem dX9_lean_5 : decode cX9_lean 5 = .ok (.invokevirtual 138, 3) := by decide +kernel
theorem dX9_lean_8 : decode cX9_lean 8 = .ok (.astore 6, 2) := by decide +kernel
theorem dX9_lean_10 : decode cX9_lean 10 = .ok (.aload 6, 2) := by decide +kernel
theorem dX9_lean_12 : decode cX9_lean 12 = .ok (.ifnull 37, 3) := by decide +kernel
theorem dX9_lean_49 : decode cX9_lean 49 = .ok (.sipush (-1000), 3) := by decide +kernel
theorem dX9_lean_52 : decode cX9_lean 52 = .ok (.ireturn, 1) := by decide +kernel
theorem dX9_books_0 : decode cX9_books 0 = .ok (.aload_n 0, 1) := by decide +kernel
theorem dX9_books_1 : decode cX9_books 1 = .ok (.getfield 37, 3) := by decide +kernel
theorem dX9_books_4 : decode cX9_books 4 = .ok (.iload_n 1, 1) := by decide +kernel
theorem dX9_books_5 : decode cX9_books 5 = .ok (.invokevirtual 138, 3) := by decide +kernel
theorem dX9_books_8 : decode cX9_books 8 = .ok (.astore 5, 2) := by decide +kernel
theorem dX9_books_10 : decode cX9_books 10 = .ok (.aload 5, 2) := by decide +kernel
theorem dX9_books_12 : decode cX9_books 12 = .ok (.ifnull 13, 3) := by decide +kernel
theorem dX9_books_25 : decode cX9_books 25 = .ok (.sipush (-1000), 3) := by decide +kernel
theorem dX9_books_28 : decode cX9_books 28 = .ok (.ireturn, 1) := by decide +kernel
theorem dX9_stayed_0 : decode cX9_stayed 0 = .ok (.aload_n 0, 1) := by decide +kernel
theorem dX9_stayed_1 : decode cX9_stayed 1 = .ok (.getfield 37, 3) := by decide +kernel
theorem dX9_stayed_4 : decode cX9_stayed 4 = .ok (.iload_n 1, 1) := by decide +kernel
theorem dX9_stayed_5 : decode cX9_stayed 5 = .ok (.invokevirtual 138, 3) := by decide +kernel
theorem dX9_stayed_8 : decode cX9_stayed 8 = .ok (.astore 5, 2) := by decide +kernel
theorem dX9_stayed_10 : decode cX9_stayed 10 = .ok (.aload 5, 2) := by decide +kernel
theorem dX9_stayed_12 : decode cX9_stayed 12 = .ok (.ifnull 11, 3) := by decide +kernel
theorem dX9_stayed_23 : decode cX9_stayed 23 = .ok (.iconst (-1), 1) := by decide +kernel
theorem dX9_stayed_24 : decode cX9_stayed 24 = .ok (.ireturn, 1) := by decide +kernel
theorem dX9_help_0 : decode cX9_help 0 = .ok (.aload_n 0, 1) := by decide +kernel
theorem dX9_help_1 : decode cX9_help 1 = .ok (.getfield 37, 3) := by decide +kernel
theorem dX9_help_4 : decode cX9_help 4 = .ok (.iload_n 1, 1) := by decide +kernel
theorem dX9_help_5 : decode cX9_help 5 = .ok (.invokevirtual 138, 3) := by decide +kernel
theorem dX9_help_8 : decode cX9_help 8 = .ok (.astore 6, 2) := by decide +kernel
theorem dX9_help_10 : decode cX9_help 10 = .ok (.aload 6, 2) := by decide +kernel
theorem dX9_help_12 : decode cX9_help 12 = .ok (.ifnull 25, 3) := by decide +kernel
theorem dX9_help_37 : decode cX9_help 37 = .ok (.iconst (-1), 1) := by decide +kernel
theorem dX9_help_38 : decode cX9_help 38 = .ok (.ireturn, 1) := by decide +kernel
theorem dX9_lookers_0 : decode cX9_lookers 0 = .ok (.aload_n 0, 1) := by decide +kernel
theorem dX9_lookers_1 : decode cX9_lookers 1 = .ok (.getfield 37, 3) := by decide +kernel
theorem dX9_lookers_4 : decode cX9_lookers 4 = .ok (.iload_n 1, 1) := by decide +kernel
theorem dX9_lookers_5 : decode cX9_lookers 5 = .ok (.invokevirtual 138, 3) := by decide +kernel
theorem dX9_lookers_8 : decode cX9_lookers 8 = .ok (.astore 4, 2) := by decide +kernel
theorem dX9_lookers_10 : decode cX9_lookers 10 = .ok (.aload 4, 2) := by decide +kernel
theorem dX9_lookers_12 : decode cX9_lookers 12 = .ok (.ifnonnull 5, 3) := by decide +kernel
theorem dX9_lookers_15 : decode cX9_lookers 15 = .ok (.iconst (-1), 1) := by decide +kernel
theorem dX9_lookers_16 : decode cX9_lookers 16 = .ok (.ireturn, 1) := by decide +kernel
theorem dX9_odds_0 : decode cX9_odds 0 = .ok (.aload_n 0, 1) := by decide +kernel
theorem dX9_odds_1 : decode cX9_odds 1 = .ok (.getfield 37, 3) := by decide +kernel
theorem dX9_odds_4 : decode cX9_odds 4 = .ok (.iload_n 1, 1) := by decide +kernel
theorem dX9_odds_5 : decode cX9_odds 5 = .ok (.invokevirtual 138, 3) := by decide +kernel
theorem dX9_odds_8 : decode cX9_odds 8 = .ok (.astore 6, 2) := by decide +kernel
theorem dX9_odds_10 : decode cX9_odds 10 = .ok (.aload 6, 2) := by decide +kernel
theorem dX9_odds_12 : decode cX9_odds 12 = .ok (.ifnull 25, 3) := by decide +kernel
theorem dX9_odds_37 : decode cX9_odds 37 = .ok (.ldc2_w 217, 3) := by decide +kernel
theorem dX9_odds_40 : decode cX9_odds 40 = .ok (.lreturn, 1) := by decide +kernel
theorem dX9_lets_0 : decode cX9_lets 0 = .ok (.aload_n 0, 1) := by decide +kernel
theorem dX9_lets_1 : decode cX9_lets 1 = .ok (.getfield 41, 3) := by decide +kernel
theorem dX9_lets_4 : decode cX9_lets 4 = .ok (.iload_n 1, 1) := by decide +kernel
theorem dX9_lets_5 : decode cX9_lets 5 = .ok (.invokevirtual 138, 3) := by decide +kernel
theorem dX9_lets_8 : decode cX9_lets 8 = .ok (.astore_n 3, 1) := by decide +kernel
theorem dX9_lets_9 : decode cX9_lets 9 = .ok (.aload_n 3, 1) := by decide +kernel
theorem dX9_lets_10 : decode cX9_lets 10 = .ok (.ifnull 10, 3) := by decide +kernel
theorem dX9_lets_20 : decode cX9_lets 20 = .ok (.iconst (-1), 1) := by decide +kernel
theorem dX9_lets_21 : decode cX9_lets 21 = .ok (.ireturn, 1) := by decide +kernel
theorem dX9_bars_0 : decode cX9_bars 0 = .ok (.aload_n 0, 1) := by decide +kernel
theorem dX9_bars_1 : decode cX9_bars 1 = .ok (.getfield 41, 3) := by decide +kernel
theorem dX9_bars_4 : decode cX9_bars 4 = .ok (.iload_n 1, 1) := by decide +kernel
theorem dX9_bars_5 : decode cX9_bars 5 = .ok (.invokevirtual 138, 3) := by decide +kernel
theorem dX9_bars_8 : decode cX9_bars 8 = .ok (.astore_n 2, 1) := by decide +kernel
theorem dX9_bars_9 : decode cX9_bars 9 = .ok (.aload_n 2, 1) := by decide +kernel
theorem dX9_bars_10 : decode cX9_bars 10 = .ok (.ifnonnull 7, 3) := by decide +kernel
theorem dX9_bars_13 : decode cX9_bars 13 = .ok (.iconst (-1), 1) := by decide +kernel
theorem dX9_bars_14 : decode cX9_bars 14 = .ok (.goto 11, 3) := by decide +kernel
theorem dX9_bars_25 : decode cX9_bars 25 = .ok (.ireturn, 1) := by decide +kernel
theorem dX9_bolder_0 : decode cX9_bolder 0 = .ok (.aload_n 0, 1) := by decide +kernel
theorem dX9_bolder_1 : decode cX9_bolder 1 = .ok (.getfield 41, 3) := by decide +kernel
theorem dX9_bolder_4 : decode cX9_bolder 4 = .ok (.iload_n 1, 1) := by decide +kernel
theorem dX9_bolder_5 : decode cX9_bolder 5 = .ok (.invokevirtual 138, 3) := by decide +kernel
theorem dX9_bolder_8 : decode cX9_bolder 8 = .ok (.astore_n 3, 1) := by decide +kernel
theorem dX9_bolder_9 : decode cX9_bolder 9 = .ok (.aload_n 0, 1) := by decide +kernel
theorem dX9_bolder_10 : decode cX9_bolder 10 = .ok (.getfield 41, 3) := by decide +kernel
theorem dX9_bolder_13 : decode cX9_bolder 13 = .ok (.iload_n 2, 1) := by decide +kernel
theorem dX9_bolder_14 : decode cX9_bolder 14 = .ok (.invokevirtual 138, 3) := by decide +kernel
theorem dX9_bolder_17 : decode cX9_bolder 17 = .ok (.astore 4, 2) := by decide +kernel
theorem dX9_bolder_19 : decode cX9_bolder 19 = .ok (.aload_n 3, 1) := by decide +kernel
theorem dX9_bolder_20 : decode cX9_bolder 20 = .ok (.ifnull 8, 3) := by decide +kernel
theorem dX9_bolder_28 : decode cX9_bolder 28 = .ok (.iconst (-1), 1) := by decide +kernel
theorem dX9_bolder_29 : decode cX9_bolder 29 = .ok (.ireturn, 1) := by decide +kernel
theorem dX9_know_0 : decode cX9_know 0 = .ok (.aload_n 0, 1) := by decide +kernel
theorem dX9_know_1 : decode cX9_know 1 = .ok (.getfield 47, 3) := by decide +kernel
theorem dX9_know_4 : decode cX9_know 4 = .ok (.iload_n 1, 1) := by decide +kernel
theorem dX9_know_5 : decode cX9_know 5 = .ok (.invokevirtual 128, 3) := by decide +kernel
theorem dX9_know_8 : decode cX9_know 8 = .ok (.ifCond .eq 19, 3) := by decide +kernel
theorem dX9_know_27 : decode cX9_know 27 = .ok (.iconst 0, 1) := by decide +kernel
theorem dX9_know_28 : decode cX9_know 28 = .ok (.ireturn, 1) := by decide +kernel
theorem dX9_note_0 : decode cX9_note 0 = .ok (.aload_n 0, 1) := by decide +kernel
theorem dX9_note_1 : decode cX9_note 1 = .ok (.getfield 47, 3) := by decide +kernel
theorem dX9_note_4 : decode cX9_note 4 = .ok (.iload_n 1, 1) := by decide +kernel
theorem dX9_note_5 : decode cX9_note 5 = .ok (.invokevirtual 128, 3) := by decide +kernel
theorem dX9_note_8 : decode cX9_note 8 = .ok (.ifCond .eq 13, 3) := by decide +kernel
theorem dX9_note_21 : decode cX9_note 21 = .ok (.iconst (-1), 1) := by decide +kernel
theorem dX9_note_22 : decode cX9_note 22 = .ok (.ireturn, 1) := by decide +kernel
theorem dX9_say_0 : decode cX9_say 0 = .ok (.aload_n 0, 1) := by decide +kernel
theorem dX9_say_1 : decode cX9_say 1 = .ok (.getfield 47, 3) := by decide +kernel
theorem dX9_say_4 : decode cX9_say 4 = .ok (.iload_n 1, 1) := by decide +kernel
theorem dX9_say_5 : decode cX9_say 5 = .ok (.invokevirtual 128, 3) := by decide +kernel
theorem dX9_say_8 : decode cX9_say 8 = .ok (.ifCond .eq 19, 3) := by decide +kernel
theorem dX9_say_27 : decode cX9_say 27 = .ok (.iconst 0, 1) := by decide +kernel
theorem dX9_say_28 : decode cX9_say 28 = .ok (.ireturn, 1) := by decide +kernel
theorem dX9_act_0 : decode cX9_act 0 = .ok (.aload_n 0, 1) := by decide +kernel
theorem dX9_act_1 : decode cX9_act 1 = .ok (.getfield 47, 3) := by decide +kernel
theorem dX9_act_4 : decode cX9_act 4 = .ok (.iload_n 1, 1) := by decide +kernel
theorem dX9_act_5 : decode cX9_act 5 = .ok (.invokevirtual 128, 3) := by decide +kernel
theorem dX9_act_8 : decode cX9_act 8 = .ok (.ifCond .eq 25, 3) := by decide +kernel
theorem dX9_act_33 : decode cX9_act 33 = .ok (.iconst (-1), 1) := by decide +kernel
theorem dX9_act_34 : decode cX9_act 34 = .ok (.ireturn, 1) := by decide +kernel
theorem dX7_size_0 : decode cX7_size 0 = .ok (.aload_n 0, 1) := by decide +kernel
theorem dX7_size_1 : decode cX7_size 1 = .ok (.getfield 9, 3) := by decide +kernel
theorem dX7_size_4 : decode cX7_size 4 = .ok (.ireturn, 1) := by decide +kernel
theorem dX2_size_0 : decode cX2_size 0 = .ok (.aload_n 0, 1) := by decide +kernel
theorem dX2_size_1 : decode cX2_size 1 = .ok (.getfield 31, 3) := by decide +kernel
theorem dX2_size_4 : decode cX2_size 4 = .ok (.ireturn, 1) := by decide +kernel
theorem dX2_words_0 : decode cX2_words 0 = .ok (.aload_n 0, 1) := by decide +kernel
theorem dX2_words_1 : decode cX2_words 1 = .ok (.getfield 34, 3) := by decide +kernel
theorem dX2_words_4 : decode cX2_words 4 = .ok (.ireturn, 1) := by decide +kernel
theorem dX3_size_0 : decode cX3_size 0 = .ok (.aload_n 0, 1) := by decide +kernel
theorem dX3_size_1 : decode cX3_size 1 = .ok (.getfield 27, 3) := by decide +kernel
theorem dX3_size_4 : decode cX3_size 4 = .ok (.ireturn, 1) := by decide +kernel
theorem dX0_size_0 : decode cX0_size 0 = .ok (.aload_n 0, 1) := by decide +kernel
theorem dX0_size_1 : decode cX0_size 1 = .ok (.getfield 24, 3) := by decide +kernel
theorem dX0_size_4 : decode cX0_size 4 = .ok (.ireturn, 1) := by decide +kernel
theorem dX8_length_0 : decode cX8_length 0 = .ok (.aload_n 0, 1) := by decide +kernel
theorem dX8_length_1 : decode cX8_length 1 = .ok (.getfield 15, 3) := by decide +kernel
theorem dX8_length_4 : decode cX8_length 4 = .ok (.ireturn, 1) := by decide +kernel
theorem dX2_everybody_0 : decode cX2_everybody 0 = .ok (.iconst 1, 1) := by decide +kernel
theorem dX2_everybody_1 : decode cX2_everybody 1 = .ok (.aload_n 0, 1) := by decide +kernel
theorem dX2_everybody_2 : decode cX2_everybody 2 = .ok (.getfield 31, 3) := by decide +kernel
theorem dX2_everybody_5 : decode cX2_everybody 5 = .ok (.ishl, 1) := by decide +kernel
theorem dX2_everybody_6 : decode cX2_everybody 6 = .ok (.iconst 1, 1) := by decide +kernel
theorem dX2_everybody_7 : decode cX2_everybody 7 = .ok (.isub, 1) := by decide +kernel
theorem dX2_everybody_8 : decode cX2_everybody 8 = .ok (.ireturn, 1) := by decide +kernel
theorem dX2_thoseAlone_0 : decode cX2_thoseAlone 0 = .ok (.aload_n 0, 1) := by decide +kernel
theorem dX2_thoseAlone_1 : decode cX2_thoseAlone 1 = .ok (.invokevirtual 41, 3) := by decide +kernel
theorem dX2_thoseAlone_4 : decode cX2_thoseAlone 4 = .ok (.istore_n 1, 1) := by decide +kernel
theorem dX2_thoseAlone_5 : decode cX2_thoseAlone 5 = .ok (.iconst 0, 1) := by decide +kernel
theorem dX2_thoseAlone_6 : decode cX2_thoseAlone 6 = .ok (.istore_n 2, 1) := by decide +kernel
theorem dX2_thoseAlone_7 : decode cX2_thoseAlone 7 = .ok (.iload_n 2, 1) := by decide +kernel
theorem dX2_thoseAlone_8 : decode cX2_thoseAlone 8 = .ok (.aload_n 0, 1) := by decide +kernel
theorem dX2_thoseAlone_9 : decode cX2_thoseAlone 9 = .ok (.getfield 31, 3) := by decide +kernel
theorem dX2_thoseAlone_12 : decode cX2_thoseAlone 12 = .ok (.if_icmp .ge 53, 3) := by decide +kernel
theorem dX2_thoseAlone_65 : decode cX2_thoseAlone 65 = .ok (.iload_n 1, 1) := by decide +kernel
theorem dX2_thoseAlone_66 : decode cX2_thoseAlone 66 = .ok (.ireturn, 1) := by decide +kernel
theorem dX9_isHouse_0 : decode cX9_isHouse 0 = .ok (.iload_n 0, 1) := by decide +kernel
theorem dX9_isHouse_1 : decode cX9_isHouse 1 = .ok (.iconst 0, 1) := by decide +kernel
theorem dX9_isHouse_2 : decode cX9_isHouse 2 = .ok (.iconst 3, 1) := by decide +kernel
theorem dX9_isHouse_3 : decode cX9_isHouse 3 = .ok (.invokestatic 117, 3) := by decide +kernel
theorem dX9_isHouse_6 : decode cX9_isHouse 6 = .ok (.ireturn, 1) := by decide +kernel
theorem dX9_isSort_0 : decode cX9_isSort 0 = .ok (.iload_n 0, 1) := by decide +kernel
theorem dX9_isSort_1 : decode cX9_isSort 1 = .ok (.ifCond .eq 8, 3) := by decide +kernel
theorem dX9_isSort_9 : decode cX9_isSort 9 = .ok (.iconst 1, 1) := by decide +kernel
theorem dX9_isSort_10 : decode cX9_isSort 10 = .ok (.goto 4, 3) := by decide +kernel
theorem dX9_isSort_14 : decode cX9_isSort 14 = .ok (.ireturn, 1) := by decide +kernel
theorem dX9_isSort_4 : decode cX9_isSort 4 = .ok (.iload_n 0, 1) := by decide +kernel
theorem dX9_isSort_5 : decode cX9_isSort 5 = .ok (.iconst 1, 1) := by decide +kernel
theorem dX9_isSort_6 : decode cX9_isSort 6 = .ok (.if_icmp .ne 7, 3) := by decide +kernel
theorem dX9_isSort_13 : decode cX9_isSort 13 = .ok (.iconst 0, 1) := by decide +kernel
theorem dX9_within_0 : decode cX9_within 0 = .ok (.iload_n 0, 1) := by decide +kernel
theorem dX9_within_1 : decode cX9_within 1 = .ok (.iload_n 1, 1) := by decide +kernel
theorem dX9_within_2 : decode cX9_within 2 = .ok (.if_icmp .ge 5, 3) := by decide +kernel
theorem dX9_within_7 : decode cX9_within 7 = .ok (.iload_n 0, 1) := by decide +kernel
theorem dX9_within_8 : decode cX9_within 8 = .ok (.iload_n 2, 1) := by decide +kernel
theorem dX9_within_9 : decode cX9_within 9 = .ok (.if_icmp .le 7, 3) := by decide +kernel
theorem dX9_within_16 : decode cX9_within 16 = .ok (.iload_n 0, 1) := by decide +kernel
theorem dX9_within_17 : decode cX9_within 17 = .ok (.ireturn, 1) := by decide +kernel
theorem dX9_within_12 : decode cX9_within 12 = .ok (.iload_n 2, 1) := by decide +kernel
theorem dX9_within_13 : decode cX9_within 13 = .ok (.goto 4, 3) := by decide +kernel
theorem dX9_within_5 : decode cX9_within 5 = .ok (.iload_n 1, 1) := by decide +kernel
theorem dX9_within_6 : decode cX9_within 6 = .ok (.ireturn, 1) := by decide +kernel
theorem dX8_bytesIn_0 : decode cX8_bytesIn 0 = .ok (.iconst 0, 1) := by decide +kernel
theorem dX8_bytesIn_1 : decode cX8_bytesIn 1 = .ok (.istore_n 1, 1) := by decide +kernel
theorem dX8_bytesIn_2 : decode cX8_bytesIn 2 = .ok (.bipush 24, 2) := by decide +kernel
theorem dX8_bytesIn_4 : decode cX8_bytesIn 4 = .ok (.istore_n 2, 1) := by decide +kernel
theorem dX8_bytesIn_5 : decode cX8_bytesIn 5 = .ok (.iload_n 2, 1) := by decide +kernel
theorem dX8_bytesIn_6 : decode cX8_bytesIn 6 = .ok (.ifCond .lt 22, 3) := by decide +kernel
theorem dX8_bytesIn_9 : decode cX8_bytesIn 9 = .ok (.iload_n 0, 1) := by decide +kernel
theorem dX8_bytesIn_10 : decode cX8_bytesIn 10 = .ok (.iload_n 2, 1) := by decide +kernel
theorem dX8_bytesIn_11 : decode cX8_bytesIn 11 = .ok (.iushr, 1) := by decide +kernel
theorem dX8_bytesIn_12 : decode cX8_bytesIn 12 = .ok (.sipush 255, 3) := by decide +kernel
theorem dX8_bytesIn_15 : decode cX8_bytesIn 15 = .ok (.iand, 1) := by decide +kernel
theorem dX8_bytesIn_16 : decode cX8_bytesIn 16 = .ok (.ifCond .eq 6, 3) := by decide +kernel
theorem dX8_bytesIn_22 : decode cX8_bytesIn 22 = .ok (.iinc 2 (-8), 3) := by decide +kernel
theorem dX8_bytesIn_25 : decode cX8_bytesIn 25 = .ok (.goto (-20), 3) := by decide +kernel
theorem dX8_bytesIn_28 : decode cX8_bytesIn 28 = .ok (.iload_n 1, 1) := by decide +kernel
theorem dX8_bytesIn_29 : decode cX8_bytesIn 29 = .ok (.ireturn, 1) := by decide +kernel
theorem dX8_bytesIn_19 : decode cX8_bytesIn 19 = .ok (.iinc 1 1, 3) := by decide +kernel
theorem dX10_bytesIn_0 : decode cX10_bytesIn 0 = .ok (.iconst 0, 1) := by decide +kernel
theorem dX10_bytesIn_1 : decode cX10_bytesIn 1 = .ok (.istore_n 1, 1) := by decide +kernel
theorem dX10_bytesIn_2 : decode cX10_bytesIn 2 = .ok (.bipush 24, 2) := by decide +kernel
theorem dX10_bytesIn_4 : decode cX10_bytesIn 4 = .ok (.istore_n 2, 1) := by decide +kernel
theorem dX10_bytesIn_5 : decode cX10_bytesIn 5 = .ok (.iload_n 2, 1) := by decide +kernel
theorem dX10_bytesIn_6 : decode cX10_bytesIn 6 = .ok (.ifCond .lt 27, 3) := by decide +kernel
theorem dX10_bytesIn_9 : decode cX10_bytesIn 9 = .ok (.iload_n 1, 1) := by decide +kernel
theorem dX10_bytesIn_10 : decode cX10_bytesIn 10 = .ok (.iload_n 0, 1) := by decide +kernel
theorem dX10_bytesIn_11 : decode cX10_bytesIn 11 = .ok (.iload_n 2, 1) := by decide +kernel
theorem dX10_bytesIn_12 : decode cX10_bytesIn 12 = .ok (.ishr, 1) := by decide +kernel
theorem dX10_bytesIn_13 : decode cX10_bytesIn 13 = .ok (.sipush 255, 3) := by decide +kernel
theorem dX10_bytesIn_16 : decode cX10_bytesIn 16 = .ok (.iand, 1) := by decide +kernel
theorem dX10_bytesIn_17 : decode cX10_bytesIn 17 = .ok (.ifCond .eq 7, 3) := by decide +kernel
theorem dX10_bytesIn_24 : decode cX10_bytesIn 24 = .ok (.iconst 0, 1) := by decide +kernel
theorem dX10_bytesIn_25 : decode cX10_bytesIn 25 = .ok (.iadd, 1) := by decide +kernel
theorem dX10_bytesIn_26 : decode cX10_bytesIn 26 = .ok (.istore_n 1, 1) := by decide +kernel
theorem dX10_bytesIn_27 : decode cX10_bytesIn 27 = .ok (.iinc 2 (-8), 3) := by decide +kernel
theorem dX10_bytesIn_30 : decode cX10_bytesIn 30 = .ok (.goto (-25), 3) := by decide +kernel
theorem dX10_bytesIn_33 : decode cX10_bytesIn 33 = .ok (.iload_n 1, 1) := by decide +kernel
theorem dX10_bytesIn_34 : decode cX10_bytesIn 34 = .ok (.ireturn, 1) := by decide +kernel
theorem dX10_bytesIn_20 : decode cX10_bytesIn 20 = .ok (.iconst 1, 1) := by decide +kernel
theorem dX10_bytesIn_21 : decode cX10_bytesIn 21 = .ok (.goto 4, 3) := by decide +kernel
theorem dX10_isLaw_0 : decode cX10_isLaw 0 = .ok (.iload_n 1, 1) := by decide +kernel
theorem dX10_isLaw_1 : decode cX10_isLaw 1 = .ok (.ifCond .lt 15, 3) := by decide +kernel
theorem dX10_isLaw_16 : decode cX10_isLaw 16 = .ok (.iconst 0, 1) := by decide +kernel
theorem dX10_isLaw_17 : decode cX10_isLaw 17 = .ok (.ireturn, 1) := by decide +kernel
theorem dX10_isLaw_4 : decode cX10_isLaw 4 = .ok (.iload_n 1, 1) := by decide +kernel
theorem dX10_isLaw_5 : decode cX10_isLaw 5 = .ok (.aload_n 0, 1) := by decide +kernel
theorem dX10_isLaw_6 : decode cX10_isLaw 6 = .ok (.getfield 244, 3) := by decide +kernel
theorem dX10_isLaw_9 : decode cX10_isLaw 9 = .ok (.if_icmp .ge 7, 3) := by decide +kernel
theorem dX10_isTurning_0 : decode cX10_isTurning 0 = .ok (.iload_n 1, 1) := by decide +kernel
theorem dX10_isTurning_1 : decode cX10_isTurning 1 = .ok (.ifCond .lt 15, 3) := by decide +kernel
theorem dX10_isTurning_16 : decode cX10_isTurning 16 = .ok (.iconst 0, 1) := by decide +kernel
theorem dX10_isTurning_17 : decode cX10_isTurning 17 = .ok (.ireturn, 1) := by decide +kernel
theorem dX10_isTurning_4 : decode cX10_isTurning 4 = .ok (.iload_n 1, 1) := by decide +kernel
theorem dX10_isTurning_5 : decode cX10_isTurning 5 = .ok (.aload_n 0, 1) := by decide +kernel
theorem dX10_isTurning_6 : decode cX10_isTurning 6 = .ok (.getfield 247, 3) := by decide +kernel
theorem dX10_isTurning_9 : decode cX10_isTurning 9 = .ok (.if_icmp .ge 7, 3) := by decide +kernel
theorem dX10_isPerson_0 : decode cX10_isPerson 0 = .ok (.iload_n 1, 1) := by decide +kernel
theorem dX10_isPerson_1 : decode cX10_isPerson 1 = .ok (.ifCond .lt 15, 3) := by decide +kernel
theorem dX10_isPerson_16 : decode cX10_isPerson 16 = .ok (.iconst 0, 1) := by decide +kernel
theorem dX10_isPerson_17 : decode cX10_isPerson 17 = .ok (.ireturn, 1) := by decide +kernel
theorem dX10_isPerson_4 : decode cX10_isPerson 4 = .ok (.iload_n 1, 1) := by decide +kernel
theorem dX10_isPerson_5 : decode cX10_isPerson 5 = .ok (.aload_n 0, 1) := by decide +kernel
theorem dX10_isPerson_6 : decode cX10_isPerson 6 = .ok (.getfield 250, 3) := by decide +kernel
theorem dX10_isPerson_9 : decode cX10_isPerson 9 = .ok (.if_icmp .ge 7, 3) := by decide +kernel
theorem dX10_isAsked_0 : decode cX10_isAsked 0 = .ok (.aload_n 0, 1) := by decide +kernel
theorem dX10_isAsked_1 : decode cX10_isAsked 1 = .ok (.iload_n 1, 1) := by decide +kernel
theorem dX10_isAsked_2 : decode cX10_isAsked 2 = .ok (.invokevirtual 311, 3) := by decide +kernel
theorem dX10_isAsked_5 : decode cX10_isAsked 5 = .ok (.ifCond .eq 24, 3) := by decide +kernel
theorem dX10_isAsked_29 : decode cX10_isAsked 29 = .ok (.iconst 0, 1) := by decide +kernel
theorem dX10_isAsked_30 : decode cX10_isAsked 30 = .ok (.ireturn, 1) := by decide +kernel
theorem dX10_run_0 : decode cX10_run 0 = .ok (.aload_n 0, 1) := by decide +kernel
theorem dX10_run_1 : decode cX10_run 1 = .ok (.iconst 0, 1) := by decide +kernel
theorem dX10_run_2 : decode cX10_run 2 = .ok (.putfield 117, 3) := by decide +kernel
theorem dX10_run_5 : decode cX10_run 5 = .ok (.aload_n 0, 1) := by decide +kernel
theorem dX10_run_6 : decode cX10_run 6 = .ok (.iload_n 1, 1) := by decide +kernel
theorem dX10_run_7 : decode cX10_run 7 = .ok (.invokevirtual 311, 3) := by decide +kernel
theorem dX10_run_10 : decode cX10_run 10 = .ok (.ifCond .eq 33, 3) := by decide +kernel
theorem dX10_run_43 : decode cX10_run 43 = .ok (.sipush (-1000), 3) := by decide +kernel
theorem dX10_run_46 : decode cX10_run 46 = .ok (.ireturn, 1) := by decide +kernel
theorem dX10_all_0 : decode cX10_all 0 = .ok (.aload_n 0, 1) := by decide +kernel
theorem dX10_all_1 : decode cX10_all 1 = .ok (.iconst 0, 1) := by decide +kernel
theorem dX10_all_2 : decode cX10_all 2 = .ok (.putfield 117, 3) := by decide +kernel
theorem dX10_all_5 : decode cX10_all 5 = .ok (.aload_n 0, 1) := by decide +kernel
theorem dX10_all_6 : decode cX10_all 6 = .ok (.iload_n 1, 1) := by decide +kernel
theorem dX10_all_7 : decode cX10_all 7 = .ok (.invokevirtual 311, 3) := by decide +kernel
theorem dX10_all_10 : decode cX10_all 10 = .ok (.ifCond .eq 24, 3) := by decide +kernel
theorem dX10_all_34 : decode cX10_all 34 = .ok (.iconst (-1), 1) := by decide +kernel
theorem dX10_all_35 : decode cX10_all 35 = .ok (.ireturn, 1) := by decide +kernel
theorem dX10_without_0 : decode cX10_without 0 = .ok (.aload_n 0, 1) := by decide +kernel
theorem dX10_without_1 : decode cX10_without 1 = .ok (.iconst 0, 1) := by decide +kernel
theorem dX10_without_2 : decode cX10_without 2 = .ok (.putfield 117, 3) := by decide +kernel
theorem dX10_without_5 : decode cX10_without 5 = .ok (.aload_n 0, 1) := by decide +kernel
theorem dX10_without_6 : decode cX10_without 6 = .ok (.iload_n 1, 1) := by decide +kernel
theorem dX10_without_7 : decode cX10_without 7 = .ok (.invokevirtual 311, 3) := by decide +kernel
theorem dX10_without_10 : decode cX10_without 10 = .ok (.ifCond .eq 36, 3) := by decide +kernel
theorem dX10_without_46 : decode cX10_without 46 = .ok (.sipush (-1000), 3) := by decide +kernel
theorem dX10_without_49 : decode cX10_without 49 = .ok (.ireturn, 1) := by decide +kernel
theorem dX10_did_0 : decode cX10_did 0 = .ok (.aload_n 0, 1) := by decide +kernel
theorem dX10_did_1 : decode cX10_did 1 = .ok (.iconst 0, 1) := by decide +kernel
theorem dX10_did_2 : decode cX10_did 2 = .ok (.putfield 117, 3) := by decide +kernel
theorem dX10_did_5 : decode cX10_did 5 = .ok (.aload_n 0, 1) := by decide +kernel
theorem dX10_did_6 : decode cX10_did 6 = .ok (.iload_n 1, 1) := by decide +kernel
theorem dX10_did_7 : decode cX10_did 7 = .ok (.iload 4, 2) := by decide +kernel
theorem dX10_did_9 : decode cX10_did 9 = .ok (.invokevirtual 325, 3) := by decide +kernel
theorem dX10_did_12 : decode cX10_did 12 = .ok (.ifCond .ne 7, 3) := by decide +kernel
theorem dX10_did_15 : decode cX10_did 15 = .ok (.sipush (-1000), 3) := by decide +kernel
theorem dX10_did_18 : decode cX10_did 18 = .ok (.ireturn, 1) := by decide +kernel
theorem dX10_lean_0 : decode cX10_lean 0 = .ok (.aload_n 0, 1) := by decide +kernel
theorem dX10_lean_1 : decode cX10_lean 1 = .ok (.iconst 0, 1) := by decide +kernel
theorem dX10_lean_2 : decode cX10_lean 2 = .ok (.putfield 117, 3) := by decide +kernel
theorem dX10_lean_5 : decode cX10_lean 5 = .ok (.aload_n 0, 1) := by decide +kernel
theorem dX10_lean_6 : decode cX10_lean 6 = .ok (.iload_n 1, 1) := by decide +kernel
theorem dX10_lean_7 : decode cX10_lean 7 = .ok (.iload 4, 2) := by decide +kernel
theorem dX10_lean_9 : decode cX10_lean 9 = .ok (.invokevirtual 325, 3) := by decide +kernel
theorem dX10_lean_12 : decode cX10_lean 12 = .ok (.ifCond .eq 13, 3) := by decide +kernel
theorem dX10_lean_25 : decode cX10_lean 25 = .ok (.sipush (-1000), 3) := by decide +kernel
theorem dX10_lean_28 : decode cX10_lean 28 = .ok (.ireturn, 1) := by decide +kernel
theorem dX10_books_0 : decode cX10_books 0 = .ok (.aload_n 0, 1) := by decide +kernel
theorem dX10_books_1 : decode cX10_books 1 = .ok (.iconst 0, 1) := by decide +kernel
theorem dX10_books_2 : decode cX10_books 2 = .ok (.putfield 117, 3) := by decide +kernel
theorem dX10_books_5 : decode cX10_books 5 = .ok (.aload_n 0, 1) := by decide +kernel
theorem dX10_books_6 : decode cX10_books 6 = .ok (.iload_n 1, 1) := by decide +kernel
theorem dX10_books_7 : decode cX10_books 7 = .ok (.invokevirtual 311, 3) := by decide +kernel
theorem dX10_books_10 : decode cX10_books 10 = .ok (.ifCond .eq 13, 3) := by decide +kernel
theorem dX10_books_23 : decode cX10_books 23 = .ok (.sipush (-1000), 3) := by decide +kernel
theorem dX10_books_26 : decode cX10_books 26 = .ok (.ireturn, 1) := by decide +kernel
theorem dX10_stayed_0 : decode cX10_stayed 0 = .ok (.aload_n 0, 1) := by decide +kernel
theorem dX10_stayed_1 : decode cX10_stayed 1 = .ok (.iconst 0, 1) := by decide +kernel
theorem dX10_stayed_2 : decode cX10_stayed 2 = .ok (.putfield 117, 3) := by decide +kernel
theorem dX10_stayed_5 : decode cX10_stayed 5 = .ok (.aload_n 0, 1) := by decide +kernel
theorem dX10_stayed_6 : decode cX10_stayed 6 = .ok (.iload_n 1, 1) := by decide +kernel
theorem dX10_stayed_7 : decode cX10_stayed 7 = .ok (.invokevirtual 311, 3) := by decide +kernel
theorem dX10_stayed_10 : decode cX10_stayed 10 = .ok (.ifCond .eq 11, 3) := by decide +kernel
theorem dX10_stayed_21 : decode cX10_stayed 21 = .ok (.iconst (-1), 1) := by decide +kernel
theorem dX10_stayed_22 : decode cX10_stayed 22 = .ok (.ireturn, 1) := by decide +kernel
theorem dX10_help_0 : decode cX10_help 0 = .ok (.aload_n 0, 1) := by decide +kernel
theorem dX10_help_1 : decode cX10_help 1 = .ok (.iconst 0, 1) := by decide +kernel
theorem dX10_help_2 : decode cX10_help 2 = .ok (.putfield 117, 3) := by decide +kernel
theorem dX10_help_5 : decode cX10_help 5 = .ok (.aload_n 0, 1) := by decide +kernel
theorem dX10_help_6 : decode cX10_help 6 = .ok (.iload_n 1, 1) := by decide +kernel
theorem dX10_help_7 : decode cX10_help 7 = .ok (.iload 4, 2) := by decide +kernel
theorem dX10_help_9 : decode cX10_help 9 = .ok (.invokevirtual 325, 3) := by decide +kernel
theorem dX10_help_12 : decode cX10_help 12 = .ok (.ifCond .eq 13, 3) := by decide +kernel
theorem dX10_help_25 : decode cX10_help 25 = .ok (.iconst (-1), 1) := by decide +kernel
theorem dX10_help_26 : decode cX10_help 26 = .ok (.ireturn, 1) := by decide +kernel
theorem dX10_lookers_0 : decode cX10_lookers 0 = .ok (.aload_n 0, 1) := by decide +kernel
theorem dX10_lookers_1 : decode cX10_lookers 1 = .ok (.iconst 0, 1) := by decide +kernel
theorem dX10_lookers_2 : decode cX10_lookers 2 = .ok (.putfield 117, 3) := by decide +kernel
theorem dX10_lookers_5 : decode cX10_lookers 5 = .ok (.aload_n 0, 1) := by decide +kernel
theorem dX10_lookers_6 : decode cX10_lookers 6 = .ok (.iload_n 1, 1) := by decide +kernel
theorem dX10_lookers_7 : decode cX10_lookers 7 = .ok (.invokevirtual 311, 3) := by decide +kernel
theorem dX10_lookers_10 : decode cX10_lookers 10 = .ok (.ifCond .ne 5, 3) := by decide +kernel
theorem dX10_lookers_13 : decode cX10_lookers 13 = .ok (.iconst (-1), 1) := by decide +kernel
theorem dX10_lookers_14 : decode cX10_lookers 14 = .ok (.ireturn, 1) := by decide +kernel
theorem dX10_lets_0 : decode cX10_lets 0 = .ok (.aload_n 0, 1) := by decide +kernel
theorem dX10_lets_1 : decode cX10_lets 1 = .ok (.iconst 0, 1) := by decide +kernel
theorem dX10_lets_2 : decode cX10_lets 2 = .ok (.putfield 117, 3) := by decide +kernel
theorem dX10_lets_5 : decode cX10_lets 5 = .ok (.aload_n 0, 1) := by decide +kernel
theorem dX10_lets_6 : decode cX10_lets 6 = .ok (.iload_n 1, 1) := by decide +kernel
theorem dX10_lets_7 : decode cX10_lets 7 = .ok (.invokevirtual 349, 3) := by decide +kernel
theorem dX10_lets_10 : decode cX10_lets 10 = .ok (.ifCond .eq 10, 3) := by decide +kernel
theorem dX10_lets_20 : decode cX10_lets 20 = .ok (.iconst (-1), 1) := by decide +kernel
theorem dX10_lets_21 : decode cX10_lets 21 = .ok (.goto 17, 3) := by decide +kernel
theorem dX10_lets_38 : decode cX10_lets 38 = .ok (.ireturn, 1) := by decide +kernel
theorem dX10_bars_0 : decode cX10_bars 0 = .ok (.aload_n 0, 1) := by decide +kernel
theorem dX10_bars_1 : decode cX10_bars 1 = .ok (.iconst 0, 1) := by decide +kernel
theorem dX10_bars_2 : decode cX10_bars 2 = .ok (.putfield 117, 3) := by decide +kernel
theorem dX10_bars_5 : decode cX10_bars 5 = .ok (.aload_n 0, 1) := by decide +kernel
theorem dX10_bars_6 : decode cX10_bars 6 = .ok (.iload_n 1, 1) := by decide +kernel
theorem dX10_bars_7 : decode cX10_bars 7 = .ok (.invokevirtual 349, 3) := by decide +kernel
theorem dX10_bars_10 : decode cX10_bars 10 = .ok (.ifCond .eq 14, 3) := by decide +kernel
theorem dX10_bars_24 : decode cX10_bars 24 = .ok (.iconst (-1), 1) := by decide +kernel
theorem dX10_bars_25 : decode cX10_bars 25 = .ok (.ireturn, 1) := by decide +kernel
theorem dX10_bolder_0 : decode cX10_bolder 0 = .ok (.aload_n 0, 1) := by decide +kernel
theorem dX10_bolder_1 : decode cX10_bolder 1 = .ok (.iconst 0, 1) := by decide +kernel
theorem dX10_bolder_2 : decode cX10_bolder 2 = .ok (.putfield 117, 3) := by decide +kernel
theorem dX10_bolder_5 : decode cX10_bolder 5 = .ok (.aload_n 0, 1) := by decide +kernel
theorem dX10_bolder_6 : decode cX10_bolder 6 = .ok (.iload_n 1, 1) := by decide +kernel
theorem dX10_bolder_7 : decode cX10_bolder 7 = .ok (.invokevirtual 349, 3) := by decide +kernel
theorem dX10_bolder_10 : decode cX10_bolder 10 = .ok (.ifCond .eq 11, 3) := by decide +kernel
theorem dX10_bolder_21 : decode cX10_bolder 21 = .ok (.iconst (-1), 1) := by decide +kernel
theorem dX10_bolder_22 : decode cX10_bolder 22 = .ok (.ireturn, 1) := by decide +kernel
theorem dX10_know_0 : decode cX10_know 0 = .ok (.aload_n 0, 1) := by decide +kernel
theorem dX10_know_1 : decode cX10_know 1 = .ok (.iconst 0, 1) := by decide +kernel
theorem dX10_know_2 : decode cX10_know 2 = .ok (.putfield 117, 3) := by decide +kernel
theorem dX10_know_5 : decode cX10_know 5 = .ok (.aload_n 0, 1) := by decide +kernel
theorem dX10_know_6 : decode cX10_know 6 = .ok (.iload_n 1, 1) := by decide +kernel
theorem dX10_know_7 : decode cX10_know 7 = .ok (.invokevirtual 253, 3) := by decide +kernel
theorem dX10_know_10 : decode cX10_know 10 = .ok (.ifCond .eq 16, 3) := by decide +kernel
theorem dX10_know_26 : decode cX10_know 26 = .ok (.iconst 0, 1) := by decide +kernel
theorem dX10_know_27 : decode cX10_know 27 = .ok (.ireturn, 1) := by decide +kernel
theorem dX10_note_0 : decode cX10_note 0 = .ok (.aload_n 0, 1) := by decide +kernel
theorem dX10_note_1 : decode cX10_note 1 = .ok (.iconst 0, 1) := by decide +kernel
theorem dX10_note_2 : decode cX10_note 2 = .ok (.putfield 117, 3) := by decide +kernel
theorem dX10_note_5 : decode cX10_note 5 = .ok (.aload_n 0, 1) := by decide +kernel
theorem dX10_note_6 : decode cX10_note 6 = .ok (.getfield 331, 3) := by decide +kernel
theorem dX10_note_9 : decode cX10_note 9 = .ok (.bipush 20, 2) := by decide +kernel
theorem dX10_note_11 : decode cX10_note 11 = .ok (.if_icmp .eq 30, 3) := by decide +kernel
theorem dX10_note_14 : decode cX10_note 14 = .ok (.aload_n 0, 1) := by decide +kernel
theorem dX10_note_15 : decode cX10_note 15 = .ok (.iload_n 1, 1) := by decide +kernel
theorem dX10_note_16 : decode cX10_note 16 = .ok (.invokevirtual 253, 3) := by decide +kernel
theorem dX10_note_19 : decode cX10_note 19 = .ok (.ifCond .eq 22, 3) := by decide +kernel
theorem dX10_note_41 : decode cX10_note 41 = .ok (.iconst (-1), 1) := by decide +kernel
theorem dX10_note_42 : decode cX10_note 42 = .ok (.ireturn, 1) := by decide +kernel
theorem dX10_say_0 : decode cX10_say 0 = .ok (.aload_n 0, 1) := by decide +kernel
theorem dX10_say_1 : decode cX10_say 1 = .ok (.iconst 0, 1) := by decide +kernel
theorem dX10_say_2 : decode cX10_say 2 = .ok (.putfield 117, 3) := by decide +kernel
theorem dX10_say_5 : decode cX10_say 5 = .ok (.aload_n 0, 1) := by decide +kernel
theorem dX10_say_6 : decode cX10_say 6 = .ok (.iload_n 1, 1) := by decide +kernel
theorem dX10_say_7 : decode cX10_say 7 = .ok (.invokevirtual 253, 3) := by decide +kernel
theorem dX10_say_10 : decode cX10_say 10 = .ok (.ifCond .eq 16, 3) := by decide +kernel
theorem dX10_say_26 : decode cX10_say 26 = .ok (.iconst 0, 1) := by decide +kernel
theorem dX10_say_27 : decode cX10_say 27 = .ok (.ireturn, 1) := by decide +kernel
theorem dX10_act_0 : decode cX10_act 0 = .ok (.aload_n 0, 1) := by decide +kernel
theorem dX10_act_1 : decode cX10_act 1 = .ok (.iconst 0, 1) := by decide +kernel
theorem dX10_act_2 : decode cX10_act 2 = .ok (.putfield 117, 3) := by decide +kernel
theorem dX10_act_5 : decode cX10_act 5 = .ok (.aload_n 0, 1) := by decide +kernel
theorem dX10_act_6 : decode cX10_act 6 = .ok (.getfield 367, 3) := by decide +kernel
theorem dX10_act_9 : decode cX10_act 9 = .ok (.bipush 6, 2) := by decide +kernel
theorem dX10_act_11 : decode cX10_act 11 = .ok (.if_icmp .eq 31, 3) := by decide +kernel
theorem dX10_act_14 : decode cX10_act 14 = .ok (.aload_n 0, 1) := by decide +kernel
theorem dX10_act_15 : decode cX10_act 15 = .ok (.iload_n 1, 1) := by decide +kernel
theorem dX10_act_16 : decode cX10_act 16 = .ok (.invokevirtual 253, 3) := by decide +kernel
theorem dX10_act_19 : decode cX10_act 19 = .ok (.ifCond .eq 23, 3) := by decide +kernel
theorem dX10_act_42 : decode cX10_act 42 = .ok (.iconst (-1), 1) := by decide +kernel
theorem dX10_act_43 : decode cX10_act 43 = .ok (.ireturn, 1) := by decide +kernel
theorem dX10_fits_0 : decode cX10_fits 0 = .ok (.aload_n 0, 1) := by decide +kernel
theorem dX10_fits_1 : decode cX10_fits 1 = .ok (.iconst 0, 1) := by decide +kernel
theorem dX10_fits_2 : decode cX10_fits 2 = .ok (.putfield 117, 3) := by decide +kernel
theorem dX10_fits_5 : decode cX10_fits 5 = .ok (.iconst 0, 1) := by decide +kernel
theorem dX10_fits_6 : decode cX10_fits 6 = .ok (.istore 4, 2) := by decide +kernel
theorem dX10_fits_8 : decode cX10_fits 8 = .ok (.iconst 0, 1) := by decide +kernel
theorem dX10_fits_9 : decode cX10_fits 9 = .ok (.istore 5, 2) := by decide +kernel
theorem dX10_fits_11 : decode cX10_fits 11 = .ok (.iload 5, 2) := by decide +kernel
theorem dX10_fits_13 : decode cX10_fits 13 = .ok (.aload_n 0, 1) := by decide +kernel
theorem dX10_fits_14 : decode cX10_fits 14 = .ok (.getfield 244, 3) := by decide +kernel
theorem dX10_fits_17 : decode cX10_fits 17 = .ok (.if_icmp .ge 33, 3) := by decide +kernel
theorem dX10_fits_50 : decode cX10_fits 50 = .ok (.iload 4, 2) := by decide +kernel
theorem dX10_fits_52 : decode cX10_fits 52 = .ok (.ireturn, 1) := by decide +kernel
theorem dX10_odds_0 : decode cX10_odds 0 = .ok (.aload_n 0, 1) := by decide +kernel
theorem dX10_odds_1 : decode cX10_odds 1 = .ok (.iconst 0, 1) := by decide +kernel
theorem dX10_odds_2 : decode cX10_odds 2 = .ok (.putfield 117, 3) := by decide +kernel
theorem dX10_odds_5 : decode cX10_odds 5 = .ok (.aload_n 0, 1) := by decide +kernel
theorem dX10_odds_6 : decode cX10_odds 6 = .ok (.iload_n 1, 1) := by decide +kernel
theorem dX10_odds_7 : decode cX10_odds 7 = .ok (.invokevirtual 311, 3) := by decide +kernel
theorem dX10_odds_10 : decode cX10_odds 10 = .ok (.ifCond .eq 25, 3) := by decide +kernel
theorem dX10_odds_35 : decode cX10_odds 35 = .ok (.ldc2_w 347, 3) := by decide +kernel
theorem dX10_odds_38 : decode cX10_odds 38 = .ok (.lreturn, 1) := by decide +kernel
theorem dX10_count_0 : decode cX10_count 0 = .ok (.aload_n 0, 1) := by decide +kernel
theorem dX10_count_1 : decode cX10_count 1 = .ok (.iconst 0, 1) := by decide +kernel
theorem dX10_count_2 : decode cX10_count 2 = .ok (.putfield 117, 3) := by decide +kernel
theorem dX10_count_5 : decode cX10_count 5 = .ok (.iload_n 1, 1) := by decide +kernel
theorem dX10_count_6 : decode cX10_count 6 = .ok (.tableswitch 77 0 6 #[42, 47, 52, 57, 62, 67, 72], 42) := by decide +kernel
theorem dX10_count_48 : decode cX10_count 48 = .ok (.aload_n 0, 1) := by decide +kernel
theorem dX10_count_49 : decode cX10_count 49 = .ok (.getfield 244, 3) := by decide +kernel
theorem dX10_count_52 : decode cX10_count 52 = .ok (.ireturn, 1) := by decide +kernel
theorem dX10_count_53 : decode cX10_count 53 = .ok (.aload_n 0, 1) := by decide +kernel
theorem dX10_count_54 : decode cX10_count 54 = .ok (.getfield 247, 3) := by decide +kernel
theorem dX10_count_57 : decode cX10_count 57 = .ok (.ireturn, 1) := by decide +kernel
theorem dX10_count_58 : decode cX10_count 58 = .ok (.aload_n 0, 1) := by decide +kernel
theorem dX10_count_59 : decode cX10_count 59 = .ok (.getfield 250, 3) := by decide +kernel
theorem dX10_count_62 : decode cX10_count 62 = .ok (.ireturn, 1) := by decide +kernel
theorem dX10_count_63 : decode cX10_count 63 = .ok (.aload_n 0, 1) := by decide +kernel
theorem dX10_count_64 : decode cX10_count 64 = .ok (.getfield 256, 3) := by decide +kernel
theorem dX10_count_67 : decode cX10_count 67 = .ok (.ireturn, 1) := by decide +kernel
theorem dX10_count_68 : decode cX10_count 68 = .ok (.aload_n 0, 1) := by decide +kernel
theorem dX10_count_69 : decode cX10_count 69 = .ok (.getfield 331, 3) := by decide +kernel
theorem dX10_count_72 : decode cX10_count 72 = .ok (.ireturn, 1) := by decide +kernel
theorem dX10_count_73 : decode cX10_count 73 = .ok (.aload_n 0, 1) := by decide +kernel
theorem dX10_count_74 : decode cX10_count 74 = .ok (.getfield 367, 3) := by decide +kernel
theorem dX10_count_77 : decode cX10_count 77 = .ok (.ireturn, 1) := by decide +kernel
theorem dX10_count_78 : decode cX10_count 78 = .ok (.aload_n 0, 1) := by decide +kernel
theorem dX10_count_79 : decode cX10_count 79 = .ok (.getfield 131, 3) := by decide +kernel
theorem dX10_count_82 : decode cX10_count 82 = .ok (.ireturn, 1) := by decide +kernel
theorem dX10_count_83 : decode cX10_count 83 = .ok (.iconst (-1), 1) := by decide +kernel
theorem dX10_count_84 : decode cX10_count 84 = .ok (.ireturn, 1) := by decide +kernel
theorem dX10_end_0 : decode cX10_end 0 = .ok (.aload_n 0, 1) := by decide +kernel
theorem dX10_end_1 : decode cX10_end 1 = .ok (.iconst 0, 1) := by decide +kernel
theorem dX10_end_2 : decode cX10_end 2 = .ok (.putfield 117, 3) := by decide +kernel
theorem dX10_end_5 : decode cX10_end 5 = .ok (.iload_n 1, 1) := by decide +kernel
theorem dX10_end_6 : decode cX10_end 6 = .ok (.ifCond .lt 11, 3) := by decide +kernel
theorem dX10_end_17 : decode cX10_end 17 = .ok (.iconst 0, 1) := by decide +kernel
theorem dX10_end_18 : decode cX10_end 18 = .ok (.ireturn, 1) := by decide +kernel
theorem dX10_end_9 : decode cX10_end 9 = .ok (.iload_n 1, 1) := by decide +kernel
theorem dX10_end_10 : decode cX10_end 10 = .ok (.aload_n 0, 1) := by decide +kernel
theorem dX10_end_11 : decode cX10_end 11 = .ok (.getfield 131, 3) := by decide +kernel
theorem dX10_end_14 : decode cX10_end 14 = .ok (.if_icmp .le 5, 3) := by decide +kernel
theorem dX10_end_19 : decode cX10_end 19 = .ok (.aload_n 0, 1) := by decide +kernel
theorem dX10_end_20 : decode cX10_end 20 = .ok (.iload_n 1, 1) := by decide +kernel
theorem dX10_end_21 : decode cX10_end 21 = .ok (.putfield 131, 3) := by decide +kernel
theorem dX10_end_24 : decode cX10_end 24 = .ok (.iconst 1, 1) := by decide +kernel
theorem dX10_end_25 : decode cX10_end 25 = .ok (.ireturn, 1) := by decide +kernel
