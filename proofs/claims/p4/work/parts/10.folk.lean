theorem dX2_size_0 : decode cX2_size 0 = .ok (.aload_n 0, 1) := kDs0 kf_42 (by decide +kernel)
theorem dX2_size_1 : decode cX2_size 1 = .ok (.getfield 31, 3) := kDs2 kf_180 (by decide +kernel)
theorem dX2_size_4 : decode cX2_size 4 = .ok (.ireturn, 1) := kDs0 kf_172 (by decide +kernel)
def w_s_size2 : List Cond := .code yX2_size cX2_size 1 (some .int) :: ([.fieldLink RX2 31 "NotEnded$Folk" "size" "I"] ++ (wsX20))
theorem gw_s_size2 : (w_s_size2).all goodWord = true := kGc rfl (kGa (by decide +kernel) gw_wsX20)
theorem hd_X2_size : yX2_size.cls ≠ "java/lang/invoke/MethodHandle" ∧ yX2_size.cls ≠ "java/lang/invoke/VarHandle" ∧ (parseMethodDescriptor yX2_size.desc).map (fun d => d.parameters.length) = some 0 := by decide +kernel
set_option maxHeartbeats 4000000 in
set_option maxRecDepth 100000 in
theorem s_size2 (l : Launch) (dC : Nat → ClassId) (dI : Nat → Nat → Nat) (hF : Nat) (f0 : Nat) (f1 : Nat) (f2 : Nat) (f3 : Nat) (f4 : Nat) (z0 : ClassId) (z1 : ClassId) (z2 : ClassId) (z3 : ClassId) (z4 : ClassId) (g0 : Nat → Int32) (g1 : Nat → Int32) (g2 : Nat → Int32) (g3 : Nat → Int32) (g4 : Nat → Int32) (sn : Int32) (ks : Nat) (kw : Nat) (hks : ks ≤ 10) (hkw : kw ≤ 4) : Met l yX2_size w_s_size2 ({ frames := 1, cells := 0, slots := 0, locals := 60 }) (kR dC dI [.ref hF] [(hF, .inr (2, [.ref f0, .ref f1, .ref f2, .ref f3, .ref f4, .int sn, .int (nI (ks)), .int (nI (kw))])), (f0, .inl (z0, 10, .inl g0)), (f1, .inl (z1, 10, .inl g1)), (f2, .inl (z2, 10, .inl g2)), (f3, .inl (z3, 10, .inl g3)), (f4, .inl (z4, 4, .inl g4))] [(z0, .int), (z1, .int), (z2, .int), (z3, .int), (z4, .int)] kT) (vp_Si (fun r : Int32 => r = nI ks)) 0 0 (fun _ => False) := by
  refine Met.ofW (cc := cX2_size) (maxL := 1) (ret := (some .int)) (by decide) rfl ?_
  intro p e s m args below meth c s₁ B hml hv
  obtain ⟨rfl, hP, hK, hX⟩ := hv
  have hx := B.exec
  have hb := B.bytes
  have hr := B.returns
  have hts := atoms_spec (ws := w_s_size2) B.pre
  have hown : s.vm.findClass RX2 = some m.cls := findClass_of_methodNamed B.named
  have hlocks := B.notSynchronized
  have hP : va_P (dC, dI) vwCl [(hF, .inr (2, [.ref f0, .ref f1, .ref f2, .ref f3, .ref f4, .int sn, .int (nI (ks)), .int (nI (kw))])), (f0, .inl (z0, 10, .inl g0)), (f1, .inl (z1, 10, .inl g1)), (f2, .inl (z2, 10, .inl g2)), (f3, .inl (z3, 10, .inl g3)), (f4, .inl (z4, 4, .inl g4))] s.heap := hP
  have hl := lv_entry ([.ref hF]) (n := 1) (Nat.le_of_ble_eq_true rfl)
  rw [lg_entry_eq]
  generalize (lg_sl ([.ref hF]) ++ List.replicate (1 - (lg_sl ([.ref hF])).length) Slot.unset).toArray = ls at hl ⊢
  have hl : lv_has ls 1 [(0, .ref hF)] := hl
  refine kQ (fun Q hQ => ?_)
  refine lv_aload_n hx hb dX2_size_0 rfl (lv_at hl 0 rfl) ?_
  refine va_get (D := (dC, dI)) (ci := 2) (v := .int (nI (ks))) (C := RX2) (T := TX2) (N := 8) hx hb hts (fun _ h => List.mem_cons_of_mem _ (List.mem_append_right _ h)) hown hK hP 0 rfl rfl 6 kc_l_6_8 (hts (.fieldLink RX2 31 "NotEnded$Folk" "size" "I") (List.mem_cons_of_mem _ (List.mem_append_left _ (List.mem_of_getElem? (i := 0) rfl)))) (fun _ h9 => h9) rfl dX2_size_1 ?_
  rw [hQ]
  exact W.iret (v := nI (ks)) hx hb hr (fun t ht hW => ⟨nI (ks), rfl, rfl, ht⟩) (fun _ h => nomatch h) dX2_size_4

theorem dX2_words_0 : decode cX2_words 0 = .ok (.aload_n 0, 1) := kDs0 kf_42 (by decide +kernel)
theorem dX2_words_1 : decode cX2_words 1 = .ok (.getfield 34, 3) := kDs2 kf_180 (by decide +kernel)
theorem dX2_words_4 : decode cX2_words 4 = .ok (.ireturn, 1) := kDs0 kf_172 (by decide +kernel)
def w_s_words2 : List Cond := .code yX2_words cX2_words 1 (some .int) :: ([.fieldLink RX2 34 "NotEnded$Folk" "words" "I"] ++ (wsX20))
theorem gw_s_words2 : (w_s_words2).all goodWord = true := kGc rfl (kGa (by decide +kernel) gw_wsX20)
theorem hd_X2_words : yX2_words.cls ≠ "java/lang/invoke/MethodHandle" ∧ yX2_words.cls ≠ "java/lang/invoke/VarHandle" ∧ (parseMethodDescriptor yX2_words.desc).map (fun d => d.parameters.length) = some 0 := by decide +kernel
set_option maxHeartbeats 4000000 in
set_option maxRecDepth 100000 in
theorem s_words2 (l : Launch) (dC : Nat → ClassId) (dI : Nat → Nat → Nat) (hF : Nat) (f0 : Nat) (f1 : Nat) (f2 : Nat) (f3 : Nat) (f4 : Nat) (z0 : ClassId) (z1 : ClassId) (z2 : ClassId) (z3 : ClassId) (z4 : ClassId) (g0 : Nat → Int32) (g1 : Nat → Int32) (g2 : Nat → Int32) (g3 : Nat → Int32) (g4 : Nat → Int32) (sn : Int32) (ks : Nat) (kw : Nat) (hks : ks ≤ 10) (hkw : kw ≤ 4) : Met l yX2_words w_s_words2 ({ frames := 1, cells := 0, slots := 0, locals := 60 }) (kR dC dI [.ref hF] [(hF, .inr (2, [.ref f0, .ref f1, .ref f2, .ref f3, .ref f4, .int sn, .int (nI (ks)), .int (nI (kw))])), (f0, .inl (z0, 10, .inl g0)), (f1, .inl (z1, 10, .inl g1)), (f2, .inl (z2, 10, .inl g2)), (f3, .inl (z3, 10, .inl g3)), (f4, .inl (z4, 4, .inl g4))] [(z0, .int), (z1, .int), (z2, .int), (z3, .int), (z4, .int)] kT) (vp_Si (fun r : Int32 => r = nI kw)) 0 0 (fun _ => False) := by
  refine Met.ofW (cc := cX2_words) (maxL := 1) (ret := (some .int)) (by decide) rfl ?_
  intro p e s m args below meth c s₁ B hml hv
  obtain ⟨rfl, hP, hK, hX⟩ := hv
  have hx := B.exec
  have hb := B.bytes
  have hr := B.returns
  have hts := atoms_spec (ws := w_s_words2) B.pre
  have hown : s.vm.findClass RX2 = some m.cls := findClass_of_methodNamed B.named
  have hlocks := B.notSynchronized
  have hP : va_P (dC, dI) vwCl [(hF, .inr (2, [.ref f0, .ref f1, .ref f2, .ref f3, .ref f4, .int sn, .int (nI (ks)), .int (nI (kw))])), (f0, .inl (z0, 10, .inl g0)), (f1, .inl (z1, 10, .inl g1)), (f2, .inl (z2, 10, .inl g2)), (f3, .inl (z3, 10, .inl g3)), (f4, .inl (z4, 4, .inl g4))] s.heap := hP
  have hl := lv_entry ([.ref hF]) (n := 1) (Nat.le_of_ble_eq_true rfl)
  rw [lg_entry_eq]
  generalize (lg_sl ([.ref hF]) ++ List.replicate (1 - (lg_sl ([.ref hF])).length) Slot.unset).toArray = ls at hl ⊢
  have hl : lv_has ls 1 [(0, .ref hF)] := hl
  refine kQ (fun Q hQ => ?_)
  refine lv_aload_n hx hb dX2_words_0 rfl (lv_at hl 0 rfl) ?_
  refine va_get (D := (dC, dI)) (ci := 2) (v := .int (nI (kw))) (C := RX2) (T := TX2) (N := 8) hx hb hts (fun _ h => List.mem_cons_of_mem _ (List.mem_append_right _ h)) hown hK hP 0 rfl rfl 7 kc_l_7_8 (hts (.fieldLink RX2 34 "NotEnded$Folk" "words" "I") (List.mem_cons_of_mem _ (List.mem_append_left _ (List.mem_of_getElem? (i := 0) rfl)))) (fun _ h9 => h9) rfl dX2_words_1 ?_
  rw [hQ]
  exact W.iret (v := nI (kw)) hx hb hr (fun t ht hW => ⟨nI (kw), rfl, rfl, ht⟩) (fun _ h => nomatch h) dX2_words_4

theorem dX2_everybody_0 : decode cX2_everybody 0 = .ok (.iconst 1, 1) := kDs0 kf_4 (by decide +kernel)
theorem dX2_everybody_1 : decode cX2_everybody 1 = .ok (.aload_n 0, 1) := kDs0 kf_42 (by decide +kernel)
theorem dX2_everybody_2 : decode cX2_everybody 2 = .ok (.getfield 31, 3) := kDs2 kf_180 (by decide +kernel)
theorem dX2_everybody_5 : decode cX2_everybody 5 = .ok (.ishl, 1) := kDs0 kf_120 (by decide +kernel)
theorem dX2_everybody_6 : decode cX2_everybody 6 = .ok (.iconst 1, 1) := kDs0 kf_4 (by decide +kernel)
theorem dX2_everybody_7 : decode cX2_everybody 7 = .ok (.isub, 1) := kDs0 kf_100 (by decide +kernel)
theorem dX2_everybody_8 : decode cX2_everybody 8 = .ok (.ireturn, 1) := kDs0 kf_172 (by decide +kernel)
def w_s_every2 : List Cond := .code yX2_everybody cX2_everybody 1 (some .int) :: ([.fieldLink RX2 31 "NotEnded$Folk" "size" "I"] ++ (wsX20))
theorem gw_s_every2 : (w_s_every2).all goodWord = true := kGc rfl (kGa (by decide +kernel) gw_wsX20)
theorem hd_X2_everybody : yX2_everybody.cls ≠ "java/lang/invoke/MethodHandle" ∧ yX2_everybody.cls ≠ "java/lang/invoke/VarHandle" ∧ (parseMethodDescriptor yX2_everybody.desc).map (fun d => d.parameters.length) = some 0 := by decide +kernel
set_option maxHeartbeats 4000000 in
set_option maxRecDepth 100000 in
theorem s_every2 (l : Launch) (dC : Nat → ClassId) (dI : Nat → Nat → Nat) (hF : Nat) (f0 : Nat) (f1 : Nat) (f2 : Nat) (f3 : Nat) (f4 : Nat) (z0 : ClassId) (z1 : ClassId) (z2 : ClassId) (z3 : ClassId) (z4 : ClassId) (g0 : Nat → Int32) (g1 : Nat → Int32) (g2 : Nat → Int32) (g3 : Nat → Int32) (g4 : Nat → Int32) (sn : Int32) (ks : Nat) (kw : Nat) (hks : ks ≤ 10) (hkw : kw ≤ 4) : Met l yX2_everybody w_s_every2 ({ frames := 1, cells := 0, slots := 0, locals := 60 }) (kR dC dI [.ref hF] [(hF, .inr (2, [.ref f0, .ref f1, .ref f2, .ref f3, .ref f4, .int sn, .int (nI (ks)), .int (nI (kw))])), (f0, .inl (z0, 10, .inl g0)), (f1, .inl (z1, 10, .inl g1)), (f2, .inl (z2, 10, .inl g2)), (f3, .inl (z3, 10, .inl g3)), (f4, .inl (z4, 4, .inl g4))] [(z0, .int), (z1, .int), (z2, .int), (z3, .int), (z4, .int)] kT) (vp_Si (fun r : Int32 => True)) 0 0 (fun _ => False) := by
  refine Met.ofW (cc := cX2_everybody) (maxL := 1) (ret := (some .int)) (by decide) rfl ?_
  intro p e s m args below meth c s₁ B hml hv
  obtain ⟨rfl, hP, hK, hX⟩ := hv
  have hx := B.exec
  have hb := B.bytes
  have hr := B.returns
  have hts := atoms_spec (ws := w_s_every2) B.pre
  have hown : s.vm.findClass RX2 = some m.cls := findClass_of_methodNamed B.named
  have hlocks := B.notSynchronized
  have hP : va_P (dC, dI) vwCl [(hF, .inr (2, [.ref f0, .ref f1, .ref f2, .ref f3, .ref f4, .int sn, .int (nI (ks)), .int (nI (kw))])), (f0, .inl (z0, 10, .inl g0)), (f1, .inl (z1, 10, .inl g1)), (f2, .inl (z2, 10, .inl g2)), (f3, .inl (z3, 10, .inl g3)), (f4, .inl (z4, 4, .inl g4))] s.heap := hP
  have hl := lv_entry ([.ref hF]) (n := 1) (Nat.le_of_ble_eq_true rfl)
  rw [lg_entry_eq]
  generalize (lg_sl ([.ref hF]) ++ List.replicate (1 - (lg_sl ([.ref hF])).length) Slot.unset).toArray = ls at hl ⊢
  have hl : lv_has ls 1 [(0, .ref hF)] := hl
  refine kQ (fun Q hQ => ?_)
  refine lv_iconst (v := 1) hx hb dX2_everybody_0 kc_i_1 ?_
  refine lv_aload_n hx hb dX2_everybody_1 rfl (lv_at hl 0 rfl) ?_
  refine va_get (D := (dC, dI)) (ci := 2) (v := .int (nI (ks))) (C := RX2) (T := TX2) (N := 8) hx hb hts (fun _ h => List.mem_cons_of_mem _ (List.mem_append_right _ h)) hown hK hP 0 rfl rfl 6 kc_l_6_8 (hts (.fieldLink RX2 31 "NotEnded$Folk" "size" "I") (List.mem_cons_of_mem _ (List.mem_append_left _ (List.mem_of_getElem? (i := 0) rfl)))) (fun _ h9 => h9) rfl dX2_everybody_2 ?_
  refine lv_ishl hx hb dX2_everybody_5 ?_
  refine lv_topi (fun x_1 ex_1 => ?_)
  refine lv_iconst (v := 1) hx hb dX2_everybody_6 kc_i_1 ?_
  refine lv_isub hx hb dX2_everybody_7 ?_
  refine lv_topi (fun x_2 ex_2 => ?_)
  rw [hQ]
  exact W.iret (v := x_2) hx hb hr (fun t ht hW => ⟨x_2, rfl, trivial, ht⟩) (fun _ h => nomatch h) dX2_everybody_8

theorem dX2_sentOnes_0 : decode cX2_sentOnes 0 = .ok (.aload_n 0, 1) := kDs0 kf_42 (by decide +kernel)
theorem dX2_sentOnes_1 : decode cX2_sentOnes 1 = .ok (.getfield 27, 3) := kDs2 kf_180 (by decide +kernel)
theorem dX2_sentOnes_4 : decode cX2_sentOnes 4 = .ok (.ireturn, 1) := kDs0 kf_172 (by decide +kernel)
def w_s_sent2 : List Cond := .code yX2_sentOnes cX2_sentOnes 1 (some .int) :: ([.fieldLink RX2 27 "NotEnded$Folk" "sent" "I"] ++ (wsX20))
theorem gw_s_sent2 : (w_s_sent2).all goodWord = true := kGc rfl (kGa (by decide +kernel) gw_wsX20)
theorem hd_X2_sentOnes : yX2_sentOnes.cls ≠ "java/lang/invoke/MethodHandle" ∧ yX2_sentOnes.cls ≠ "java/lang/invoke/VarHandle" ∧ (parseMethodDescriptor yX2_sentOnes.desc).map (fun d => d.parameters.length) = some 0 := by decide +kernel
set_option maxHeartbeats 4000000 in
set_option maxRecDepth 100000 in
theorem s_sent2 (l : Launch) (dC : Nat → ClassId) (dI : Nat → Nat → Nat) (hF : Nat) (f0 : Nat) (f1 : Nat) (f2 : Nat) (f3 : Nat) (f4 : Nat) (z0 : ClassId) (z1 : ClassId) (z2 : ClassId) (z3 : ClassId) (z4 : ClassId) (g0 : Nat → Int32) (g1 : Nat → Int32) (g2 : Nat → Int32) (g3 : Nat → Int32) (g4 : Nat → Int32) (sn : Int32) (ks : Nat) (kw : Nat) (hks : ks ≤ 10) (hkw : kw ≤ 4) : Met l yX2_sentOnes w_s_sent2 ({ frames := 1, cells := 0, slots := 0, locals := 60 }) (kR dC dI [.ref hF] [(hF, .inr (2, [.ref f0, .ref f1, .ref f2, .ref f3, .ref f4, .int sn, .int (nI (ks)), .int (nI (kw))])), (f0, .inl (z0, 10, .inl g0)), (f1, .inl (z1, 10, .inl g1)), (f2, .inl (z2, 10, .inl g2)), (f3, .inl (z3, 10, .inl g3)), (f4, .inl (z4, 4, .inl g4))] [(z0, .int), (z1, .int), (z2, .int), (z3, .int), (z4, .int)] kT) (vp_Si (fun r : Int32 => True)) 0 0 (fun _ => False) := by
  refine Met.ofW (cc := cX2_sentOnes) (maxL := 1) (ret := (some .int)) (by decide) rfl ?_
  intro p e s m args below meth c s₁ B hml hv
  obtain ⟨rfl, hP, hK, hX⟩ := hv
  have hx := B.exec
  have hb := B.bytes
  have hr := B.returns
  have hts := atoms_spec (ws := w_s_sent2) B.pre
  have hown : s.vm.findClass RX2 = some m.cls := findClass_of_methodNamed B.named
  have hlocks := B.notSynchronized
  have hP : va_P (dC, dI) vwCl [(hF, .inr (2, [.ref f0, .ref f1, .ref f2, .ref f3, .ref f4, .int sn, .int (nI (ks)), .int (nI (kw))])), (f0, .inl (z0, 10, .inl g0)), (f1, .inl (z1, 10, .inl g1)), (f2, .inl (z2, 10, .inl g2)), (f3, .inl (z3, 10, .inl g3)), (f4, .inl (z4, 4, .inl g4))] s.heap := hP
  have hl := lv_entry ([.ref hF]) (n := 1) (Nat.le_of_ble_eq_true rfl)
  rw [lg_entry_eq]
  generalize (lg_sl ([.ref hF]) ++ List.replicate (1 - (lg_sl ([.ref hF])).length) Slot.unset).toArray = ls at hl ⊢
  have hl : lv_has ls 1 [(0, .ref hF)] := hl
  refine kQ (fun Q hQ => ?_)
  refine lv_aload_n hx hb dX2_sentOnes_0 rfl (lv_at hl 0 rfl) ?_
  refine va_get (D := (dC, dI)) (ci := 2) (v := .int sn) (C := RX2) (T := TX2) (N := 8) hx hb hts (fun _ h => List.mem_cons_of_mem _ (List.mem_append_right _ h)) hown hK hP 0 rfl rfl 5 kc_l_5_8 (hts (.fieldLink RX2 27 "NotEnded$Folk" "sent" "I") (List.mem_cons_of_mem _ (List.mem_append_left _ (List.mem_of_getElem? (i := 0) rfl)))) (fun _ h9 => h9) rfl dX2_sentOnes_1 ?_
  rw [hQ]
  exact W.iret (v := sn) hx hb hr (fun t ht hW => ⟨sn, rfl, trivial, ht⟩) (fun _ h => nomatch h) dX2_sentOnes_4

theorem dX2_wordsPast_0 : decode cX2_wordsPast 0 = .ok (.iconst 0, 1) := kDs0 kf_3 (by decide +kernel)
theorem dX2_wordsPast_1 : decode cX2_wordsPast 1 = .ok (.istore_n 2, 1) := kDs0 kf_61 (by decide +kernel)
theorem dX2_wordsPast_2 : decode cX2_wordsPast 2 = .ok (.iconst 0, 1) := kDs0 kf_3 (by decide +kernel)
theorem dX2_wordsPast_3 : decode cX2_wordsPast 3 = .ok (.istore_n 3, 1) := kDs0 kf_62 (by decide +kernel)
theorem dX2_wordsPast_4 : decode cX2_wordsPast 4 = .ok (.iload_n 3, 1) := kDs0 kf_29 (by decide +kernel)
theorem dX2_wordsPast_5 : decode cX2_wordsPast 5 = .ok (.aload_n 0, 1) := kDs0 kf_42 (by decide +kernel)
theorem dX2_wordsPast_6 : decode cX2_wordsPast 6 = .ok (.getfield 34, 3) := kDs2 kf_180 (by decide +kernel)
theorem dX2_wordsPast_9 : decode cX2_wordsPast 9 = .ok (.if_icmp .ge 22, 3) := kDs4 kf_162 (by decide +kernel)
theorem dX2_wordsPast_31 : decode cX2_wordsPast 31 = .ok (.iload_n 2, 1) := kDs0 kf_28 (by decide +kernel)
theorem dX2_wordsPast_32 : decode cX2_wordsPast 32 = .ok (.ireturn, 1) := kDs0 kf_172 (by decide +kernel)
theorem dX2_wordsPast_12 : decode cX2_wordsPast 12 = .ok (.aload_n 0, 1) := kDs0 kf_42 (by decide +kernel)
theorem dX2_wordsPast_13 : decode cX2_wordsPast 13 = .ok (.getfield 24, 3) := kDs2 kf_180 (by decide +kernel)
theorem dX2_wordsPast_16 : decode cX2_wordsPast 16 = .ok (.iload_n 3, 1) := kDs0 kf_29 (by decide +kernel)
theorem dX2_wordsPast_17 : decode cX2_wordsPast 17 = .ok (.iaload, 1) := kDs0 kf_46 (by decide +kernel)
theorem dX2_wordsPast_18 : decode cX2_wordsPast 18 = .ok (.iload_n 1, 1) := kDs0 kf_27 (by decide +kernel)
theorem dX2_wordsPast_19 : decode cX2_wordsPast 19 = .ok (.if_icmp .gt 6, 3) := kDs4 kf_163 (by decide +kernel)
theorem dX2_wordsPast_25 : decode cX2_wordsPast 25 = .ok (.iinc 3 1, 3) := kDs5 kf_132 (by decide +kernel)
theorem dX2_wordsPast_28 : decode cX2_wordsPast 28 = .ok (.goto (-24), 3) := kDs4 kf_167 (by decide +kernel)
theorem dX2_wordsPast_22 : decode cX2_wordsPast 22 = .ok (.iinc 2 1, 3) := kDs5 kf_132 (by decide +kernel)
def w_s_wordsPast2 : List Cond := .code yX2_wordsPast cX2_wordsPast 4 (some .int) :: ([.fieldLink RX2 34 "NotEnded$Folk" "words" "I", .fieldLink RX2 24 "NotEnded$Folk" "hours" "[I"] ++ (wsX20))
theorem gw_s_wordsPast2 : (w_s_wordsPast2).all goodWord = true := kGc rfl (kGa (by decide +kernel) gw_wsX20)
theorem hd_X2_wordsPast : yX2_wordsPast.cls ≠ "java/lang/invoke/MethodHandle" ∧ yX2_wordsPast.cls ≠ "java/lang/invoke/VarHandle" ∧ (parseMethodDescriptor yX2_wordsPast.desc).map (fun d => d.parameters.length) = some 1 := by decide +kernel
set_option maxHeartbeats 4000000 in
set_option maxRecDepth 100000 in
theorem s_wordsPast2 (l : Launch) (dC : Nat → ClassId) (dI : Nat → Nat → Nat) (hF : Nat) (f0 : Nat) (f1 : Nat) (f2 : Nat) (f3 : Nat) (f4 : Nat) (z0 : ClassId) (z1 : ClassId) (z2 : ClassId) (z3 : ClassId) (z4 : ClassId) (g0 : Nat → Int32) (g1 : Nat → Int32) (g2 : Nat → Int32) (g3 : Nat → Int32) (g4 : Nat → Int32) (sn : Int32) (ks : Nat) (kw : Nat) (hks : ks ≤ 10) (hkw : kw ≤ 4) (p0 : Int32) : Met l yX2_wordsPast w_s_wordsPast2 ({ frames := 1, cells := 0, slots := 0, locals := 60 }) (kR dC dI [.ref hF, .int p0] [(hF, .inr (2, [.ref f0, .ref f1, .ref f2, .ref f3, .ref f4, .int sn, .int (nI (ks)), .int (nI (kw))])), (f0, .inl (z0, 10, .inl g0)), (f1, .inl (z1, 10, .inl g1)), (f2, .inl (z2, 10, .inl g2)), (f3, .inl (z3, 10, .inl g3)), (f4, .inl (z4, 4, .inl g4))] [(z0, .int), (z1, .int), (z2, .int), (z3, .int), (z4, .int)] kT) (vp_Si (fun r : Int32 => True)) 0 0 (fun _ => False) := by
  refine Met.ofW (cc := cX2_wordsPast) (maxL := 4) (ret := (some .int)) (by decide) rfl ?_
  intro p e s m args below meth c s₁ B hml hv
  obtain ⟨rfl, hP, hK, hX⟩ := hv
  have hx := B.exec
  have hb := B.bytes
  have hr := B.returns
  have hts := atoms_spec (ws := w_s_wordsPast2) B.pre
  have hown : s.vm.findClass RX2 = some m.cls := findClass_of_methodNamed B.named
  have hlocks := B.notSynchronized
  have hP : va_P (dC, dI) vwCl [(hF, .inr (2, [.ref f0, .ref f1, .ref f2, .ref f3, .ref f4, .int sn, .int (nI (ks)), .int (nI (kw))])), (f0, .inl (z0, 10, .inl g0)), (f1, .inl (z1, 10, .inl g1)), (f2, .inl (z2, 10, .inl g2)), (f3, .inl (z3, 10, .inl g3)), (f4, .inl (z4, 4, .inl g4))] s.heap := hP
  have hl := lv_entry ([.ref hF, .int p0]) (n := 4) (Nat.le_of_ble_eq_true rfl)
  rw [lg_entry_eq]
  generalize (lg_sl ([.ref hF, .int p0]) ++ List.replicate (4 - (lg_sl ([.ref hF, .int p0])).length) Slot.unset).toArray = ls at hl ⊢
  have hl : lv_has ls 4 [(0, .ref hF), (1, .int p0)] := hl
  refine kQ (fun Q hQ => ?_)
  refine lv_iconst (v := 0) hx hb dX2_wordsPast_0 kc_i_0 ?_
  refine lv_istore_n hx hb dX2_wordsPast_1 rfl hl kc_l_2_4 (kTo [(2, .int 0), (0, .ref hF), (1, .int p0)]) (fun ls hl => ?_)
  refine lv_iconst (v := 0) hx hb dX2_wordsPast_2 kc_i_0 ?_
  refine lv_istore_n hx hb dX2_wordsPast_3 rfl hl kc_l_3_4 (kTo [(3, .int 0), (2, .int 0), (0, .ref hF), (1, .int p0)]) (fun ls hl => ?_)
  have lp_k_1 : ∀ (n9 : Nat) (i : Nat) (x2 : Int32) (ivk_1_0 : i ≤ kw) (ls : Array Slot) (_ : lv_has ls 4 [(3, .int (nI (i))), (2, .int x2), (0, .ref hF), (1, .int p0)]) (_ : kw - i < n9), W p l e (headSpec w_s_wordsPast2 ({ frames := 1, cells := 0, slots := 0, locals := 60 })).room s m (#[.ref hF, .int p0] : Array Value) below meth c s.heap [] 0 0 Q (F0 m 4 ls []) := by
    intro n9
    induction n9 with
    | zero => intro i x2 ivk_1_0 ls hl hm9; exact absurd hm9 (Nat.not_lt_zero _)
    | succ n9 ih_k_1 =>
      intro i x2 ivk_1_0 ls hl hm9
      refine lv_iload_n hx hb dX2_wordsPast_4 rfl (lv_at hl 0 rfl) ?_
      refine lv_aload_n hx hb dX2_wordsPast_5 rfl (lv_at hl 2 rfl) ?_
      refine va_get (D := (dC, dI)) (ci := 2) (v := .int (nI (kw))) (C := RX2) (T := TX2) (N := 8) hx hb hts (fun _ h => List.mem_cons_of_mem _ (List.mem_append_right _ h)) hown hK hP 0 rfl rfl 7 kc_l_7_8 (hts (.fieldLink RX2 34 "NotEnded$Folk" "words" "I") (List.mem_cons_of_mem _ (List.mem_append_left _ (List.mem_of_getElem? (i := 0) rfl)))) (fun _ h9 => h9) rfl dX2_wordsPast_6 ?_
      refine lv_icmp_ge (tgt := 31) hx hb dX2_wordsPast_9 kc_t_9_22 (fun c_2 => ?_) (fun c_2 => ?_)
      · have bd_4 : kw < 2147483648 := by omega
        have bd_5 : i < 2147483648 := by omega
        have hn_3 := kle (a := kw) (b := i) bd_4 bd_5 c_2
        refine lv_iload_n hx hb dX2_wordsPast_31 rfl (lv_at hl 1 rfl) ?_
        rw [hQ]
        exact W.iret (v := x2) hx hb hr (fun t ht hW => ⟨x2, rfl, trivial, ht⟩) (fun _ h => nomatch h) dX2_wordsPast_32
      · have bd_7 : kw < 2147483648 := by omega
        have bd_8 : i < 2147483648 := by omega
        have hn_6 := knle (a := kw) (b := i) bd_7 bd_8 c_2
        refine lv_aload_n hx hb dX2_wordsPast_12 rfl (lv_at hl 2 rfl) ?_
        refine va_get (D := (dC, dI)) (ci := 2) (v := .ref f4) (C := RX2) (T := TX2) (N := 8) hx hb hts (fun _ h => List.mem_cons_of_mem _ (List.mem_append_right _ h)) hown hK hP 0 rfl rfl 4 kc_l_4_8 (hts (.fieldLink RX2 24 "NotEnded$Folk" "hours" "[I") (List.mem_cons_of_mem _ (List.mem_append_left _ (List.mem_of_getElem? (i := 1) rfl)))) (fun _ h9 => h9) rfl dX2_wordsPast_13 ?_
        refine lv_iload_n hx hb dX2_wordsPast_16 rfl (lv_at hl 0 rfl) ?_
        have bd_9 : i < 4 := by omega
        refine va_iald hx hb hK hP 5 4 rfl rfl (vp_in_nI (n := i) (N := 4) bd_9 kc_31_4) dX2_wordsPast_17 ?_
        refine lv_topi (fun x_10 ex_10 => ?_)
        refine lv_iload_n hx hb dX2_wordsPast_18 rfl (lv_at hl 3 rfl) ?_
        refine lv_icmp_gt (tgt := 25) hx hb dX2_wordsPast_19 kc_t_19_6 (fun c_11 => ?_) (fun c_11 => ?_)
        · refine lv_iinc (v := nI (i + 1)) hx hb dX2_wordsPast_25 hl (k := 0) rfl (kInc _ 1) kc_l_3_4 (kTo [(3, .int (nI (i + 1))), (2, .int x2), (0, .ref hF), (1, .int p0)]) (fun ls hl => ?_)
          refine lv_goto (tgt := 4) hx hb dX2_wordsPast_28 kc_t_28_m24 ?_
          exact ih_k_1 (i + 1) x2 (by omega) ls (lv_sub hl [0, 1, 2, 3] rfl) (by omega)
        · obtain ⟨x_12, ex_12⟩ : ∃ y : Int32, y = x2 + 1 := ⟨_, rfl⟩
          refine lv_iinc (v := x_12) hx hb dX2_wordsPast_22 hl (k := 1) rfl (by rw [ex_12]; rfl) kc_l_2_4 (kTo [(2, .int x_12), (3, .int (nI (i))), (0, .ref hF), (1, .int p0)]) (fun ls hl => ?_)
          refine lv_iinc (v := nI (i + 1)) hx hb dX2_wordsPast_25 hl (k := 1) rfl (kInc _ 1) kc_l_3_4 (kTo [(3, .int (nI (i + 1))), (2, .int x_12), (0, .ref hF), (1, .int p0)]) (fun ls hl => ?_)
          refine lv_goto (tgt := 4) hx hb dX2_wordsPast_28 kc_t_28_m24 ?_
          exact ih_k_1 (i + 1) x_12 (by omega) ls (lv_sub hl [0, 1, 2, 3] rfl) (by omega)
  exact lp_k_1 (kw - 0 + 1) 0 0 (by omega) ls (lv_sub hl [0, 1, 2, 3] rfl) (by omega)

theorem dX2_hoursSinceWord_0 : decode cX2_hoursSinceWord 0 = .ok (.iconst (-1), 1) := kDs0 kf_2 (by decide +kernel)
theorem dX2_hoursSinceWord_1 : decode cX2_hoursSinceWord 1 = .ok (.istore_n 2, 1) := kDs0 kf_61 (by decide +kernel)
theorem dX2_hoursSinceWord_2 : decode cX2_hoursSinceWord 2 = .ok (.iconst 0, 1) := kDs0 kf_3 (by decide +kernel)
theorem dX2_hoursSinceWord_3 : decode cX2_hoursSinceWord 3 = .ok (.istore_n 3, 1) := kDs0 kf_62 (by decide +kernel)
theorem dX2_hoursSinceWord_4 : decode cX2_hoursSinceWord 4 = .ok (.iload_n 3, 1) := kDs0 kf_29 (by decide +kernel)
theorem dX2_hoursSinceWord_5 : decode cX2_hoursSinceWord 5 = .ok (.aload_n 0, 1) := kDs0 kf_42 (by decide +kernel)
theorem dX2_hoursSinceWord_6 : decode cX2_hoursSinceWord 6 = .ok (.getfield 34, 3) := kDs2 kf_180 (by decide +kernel)
theorem dX2_hoursSinceWord_9 : decode cX2_hoursSinceWord 9 = .ok (.if_icmp .ge 30, 3) := kDs4 kf_162 (by decide +kernel)
theorem dX2_hoursSinceWord_39 : decode cX2_hoursSinceWord 39 = .ok (.iload_n 2, 1) := kDs0 kf_28 (by decide +kernel)
theorem dX2_hoursSinceWord_40 : decode cX2_hoursSinceWord 40 = .ok (.iconst (-1), 1) := kDs0 kf_2 (by decide +kernel)
theorem dX2_hoursSinceWord_41 : decode cX2_hoursSinceWord 41 = .ok (.if_icmp .ne 7, 3) := kDs4 kf_160 (by decide +kernel)
theorem dX2_hoursSinceWord_48 : decode cX2_hoursSinceWord 48 = .ok (.iload_n 1, 1) := kDs0 kf_27 (by decide +kernel)
theorem dX2_hoursSinceWord_49 : decode cX2_hoursSinceWord 49 = .ok (.iload_n 2, 1) := kDs0 kf_28 (by decide +kernel)
theorem dX2_hoursSinceWord_50 : decode cX2_hoursSinceWord 50 = .ok (.isub, 1) := kDs0 kf_100 (by decide +kernel)
theorem dX2_hoursSinceWord_51 : decode cX2_hoursSinceWord 51 = .ok (.ireturn, 1) := kDs0 kf_172 (by decide +kernel)
theorem dX2_hoursSinceWord_44 : decode cX2_hoursSinceWord 44 = .ok (.iconst 0, 1) := kDs0 kf_3 (by decide +kernel)
theorem dX2_hoursSinceWord_45 : decode cX2_hoursSinceWord 45 = .ok (.goto 6, 3) := kDs4 kf_167 (by decide +kernel)
theorem dX2_hoursSinceWord_12 : decode cX2_hoursSinceWord 12 = .ok (.aload_n 0, 1) := kDs0 kf_42 (by decide +kernel)
theorem dX2_hoursSinceWord_13 : decode cX2_hoursSinceWord 13 = .ok (.getfield 24, 3) := kDs2 kf_180 (by decide +kernel)
theorem dX2_hoursSinceWord_16 : decode cX2_hoursSinceWord 16 = .ok (.iload_n 3, 1) := kDs0 kf_29 (by decide +kernel)
theorem dX2_hoursSinceWord_17 : decode cX2_hoursSinceWord 17 = .ok (.iaload, 1) := kDs0 kf_46 (by decide +kernel)
theorem dX2_hoursSinceWord_18 : decode cX2_hoursSinceWord 18 = .ok (.iload_n 1, 1) := kDs0 kf_27 (by decide +kernel)
theorem dX2_hoursSinceWord_19 : decode cX2_hoursSinceWord 19 = .ok (.if_icmp .gt 14, 3) := kDs4 kf_163 (by decide +kernel)
theorem dX2_hoursSinceWord_33 : decode cX2_hoursSinceWord 33 = .ok (.iinc 3 1, 3) := kDs5 kf_132 (by decide +kernel)
theorem dX2_hoursSinceWord_36 : decode cX2_hoursSinceWord 36 = .ok (.goto (-32), 3) := kDs4 kf_167 (by decide +kernel)
theorem dX2_hoursSinceWord_22 : decode cX2_hoursSinceWord 22 = .ok (.iload_n 2, 1) := kDs0 kf_28 (by decide +kernel)
theorem dX2_hoursSinceWord_23 : decode cX2_hoursSinceWord 23 = .ok (.aload_n 0, 1) := kDs0 kf_42 (by decide +kernel)
theorem dX2_hoursSinceWord_24 : decode cX2_hoursSinceWord 24 = .ok (.getfield 24, 3) := kDs2 kf_180 (by decide +kernel)
theorem dX2_hoursSinceWord_27 : decode cX2_hoursSinceWord 27 = .ok (.iload_n 3, 1) := kDs0 kf_29 (by decide +kernel)
theorem dX2_hoursSinceWord_28 : decode cX2_hoursSinceWord 28 = .ok (.iaload, 1) := kDs0 kf_46 (by decide +kernel)
theorem dX2_hoursSinceWord_29 : decode cX2_hoursSinceWord 29 = .ok (.invokestatic 49, 3) := kDs2 kf_184 (by decide +kernel)
theorem dX2_hoursSinceWord_32 : decode cX2_hoursSinceWord 32 = .ok (.istore_n 2, 1) := kDs0 kf_61 (by decide +kernel)
def w_s_since2 : List Cond := .code yX2_hoursSinceWord cX2_hoursSinceWord 4 (some .int) :: ([.fieldLink RX2 34 "NotEnded$Folk" "words" "I", .fieldLink RX2 24 "NotEnded$Folk" "hours" "[I", .methodLink RX2 49 Lib.Math.max.name, .static Lib.Math.max.name, .initialized RJ9, .code Lib.Math.max.name Lib.Math.max.code 2 (some .int)] ++ (wsX20))
theorem gw_s_since2 : (w_s_since2).all goodWord = true := kGc rfl (kGa (by decide +kernel) gw_wsX20)
theorem hd_X2_hoursSinceWord : yX2_hoursSinceWord.cls ≠ "java/lang/invoke/MethodHandle" ∧ yX2_hoursSinceWord.cls ≠ "java/lang/invoke/VarHandle" ∧ (parseMethodDescriptor yX2_hoursSinceWord.desc).map (fun d => d.parameters.length) = some 1 := by decide +kernel
set_option maxHeartbeats 4000000 in
set_option maxRecDepth 100000 in
theorem s_since2 (l : Launch) (dC : Nat → ClassId) (dI : Nat → Nat → Nat) (hF : Nat) (f0 : Nat) (f1 : Nat) (f2 : Nat) (f3 : Nat) (f4 : Nat) (z0 : ClassId) (z1 : ClassId) (z2 : ClassId) (z3 : ClassId) (z4 : ClassId) (g0 : Nat → Int32) (g1 : Nat → Int32) (g2 : Nat → Int32) (g3 : Nat → Int32) (g4 : Nat → Int32) (sn : Int32) (ks : Nat) (kw : Nat) (hks : ks ≤ 10) (hkw : kw ≤ 4) (p0 : Int32) : Met l yX2_hoursSinceWord w_s_since2 ({ frames := 2, cells := 0, slots := 0, locals := 120 }) (kR dC dI [.ref hF, .int p0] [(hF, .inr (2, [.ref f0, .ref f1, .ref f2, .ref f3, .ref f4, .int sn, .int (nI (ks)), .int (nI (kw))])), (f0, .inl (z0, 10, .inl g0)), (f1, .inl (z1, 10, .inl g1)), (f2, .inl (z2, 10, .inl g2)), (f3, .inl (z3, 10, .inl g3)), (f4, .inl (z4, 4, .inl g4))] [(z0, .int), (z1, .int), (z2, .int), (z3, .int), (z4, .int)] kT) (vp_Si (fun r : Int32 => True)) 0 0 (fun _ => False) := by
  refine Met.ofW (cc := cX2_hoursSinceWord) (maxL := 4) (ret := (some .int)) (by decide) rfl ?_
  intro p e s m args below meth c s₁ B hml hv
  obtain ⟨rfl, hP, hK, hX⟩ := hv
  have hx := B.exec
  have hb := B.bytes
  have hr := B.returns
  have hts := atoms_spec (ws := w_s_since2) B.pre
  have hown : s.vm.findClass RX2 = some m.cls := findClass_of_methodNamed B.named
  have hlocks := B.notSynchronized
  have hP : va_P (dC, dI) vwCl [(hF, .inr (2, [.ref f0, .ref f1, .ref f2, .ref f3, .ref f4, .int sn, .int (nI (ks)), .int (nI (kw))])), (f0, .inl (z0, 10, .inl g0)), (f1, .inl (z1, 10, .inl g1)), (f2, .inl (z2, 10, .inl g2)), (f3, .inl (z3, 10, .inl g3)), (f4, .inl (z4, 4, .inl g4))] s.heap := hP
  have hl := lv_entry ([.ref hF, .int p0]) (n := 4) (Nat.le_of_ble_eq_true rfl)
  rw [lg_entry_eq]
  generalize (lg_sl ([.ref hF, .int p0]) ++ List.replicate (4 - (lg_sl ([.ref hF, .int p0])).length) Slot.unset).toArray = ls at hl ⊢
  have hl : lv_has ls 4 [(0, .ref hF), (1, .int p0)] := hl
  refine kQ (fun Q hQ => ?_)
  refine lv_iconst (v := (-1)) hx hb dX2_hoursSinceWord_0 kc_i_m1 ?_
  refine lv_istore_n hx hb dX2_hoursSinceWord_1 rfl hl kc_l_2_4 (kTo [(2, .int (-1)), (0, .ref hF), (1, .int p0)]) (fun ls hl => ?_)
  refine lv_iconst (v := 0) hx hb dX2_hoursSinceWord_2 kc_i_0 ?_
  refine lv_istore_n hx hb dX2_hoursSinceWord_3 rfl hl kc_l_3_4 (kTo [(3, .int 0), (2, .int (-1)), (0, .ref hF), (1, .int p0)]) (fun ls hl => ?_)
  have lp_k_1 : ∀ (n9 : Nat) (i : Nat) (x2 : Int32) (ivk_1_0 : i ≤ kw) (ls : Array Slot) (_ : lv_has ls 4 [(3, .int (nI (i))), (2, .int x2), (0, .ref hF), (1, .int p0)]) (_ : kw - i < n9), W p l e (headSpec w_s_since2 ({ frames := 2, cells := 0, slots := 0, locals := 120 })).room s m (#[.ref hF, .int p0] : Array Value) below meth c s.heap [] 0 0 Q (F0 m 4 ls []) := by
    intro n9
    induction n9 with
    | zero => intro i x2 ivk_1_0 ls hl hm9; exact absurd hm9 (Nat.not_lt_zero _)
    | succ n9 ih_k_1 =>
      intro i x2 ivk_1_0 ls hl hm9
      refine lv_iload_n hx hb dX2_hoursSinceWord_4 rfl (lv_at hl 0 rfl) ?_
      refine lv_aload_n hx hb dX2_hoursSinceWord_5 rfl (lv_at hl 2 rfl) ?_
      refine va_get (D := (dC, dI)) (ci := 2) (v := .int (nI (kw))) (C := RX2) (T := TX2) (N := 8) hx hb hts (fun _ h => List.mem_cons_of_mem _ (List.mem_append_right _ h)) hown hK hP 0 rfl rfl 7 kc_l_7_8 (hts (.fieldLink RX2 34 "NotEnded$Folk" "words" "I") (List.mem_cons_of_mem _ (List.mem_append_left _ (List.mem_of_getElem? (i := 0) rfl)))) (fun _ h9 => h9) rfl dX2_hoursSinceWord_6 ?_
      refine lv_icmp_ge (tgt := 39) hx hb dX2_hoursSinceWord_9 kc_t_9_30 (fun c_2 => ?_) (fun c_2 => ?_)
      · have bd_4 : kw < 2147483648 := by omega
        have bd_5 : i < 2147483648 := by omega
        have hn_3 := kle (a := kw) (b := i) bd_4 bd_5 c_2
        refine lv_iload_n hx hb dX2_hoursSinceWord_39 rfl (lv_at hl 1 rfl) ?_
        refine lv_iconst (v := (-1)) hx hb dX2_hoursSinceWord_40 kc_i_m1 ?_
        refine lv_icmp_ne (tgt := 48) hx hb dX2_hoursSinceWord_41 kc_t_41_7 (fun c_6 => ?_) (fun c_6 => ?_)
        · refine lv_iload_n hx hb dX2_hoursSinceWord_48 rfl (lv_at hl 3 rfl) ?_
          refine lv_iload_n hx hb dX2_hoursSinceWord_49 rfl (lv_at hl 1 rfl) ?_
          refine lv_isub hx hb dX2_hoursSinceWord_50 ?_
          refine lv_topi (fun x_7 ex_7 => ?_)
          rw [hQ]
          exact W.iret (v := x_7) hx hb hr (fun t ht hW => ⟨x_7, rfl, trivial, ht⟩) (fun _ h => nomatch h) dX2_hoursSinceWord_51
        · refine lv_iconst (v := 0) hx hb dX2_hoursSinceWord_44 kc_i_0 ?_
          refine lv_goto (tgt := 51) hx hb dX2_hoursSinceWord_45 kc_t_45_6 ?_
          rw [hQ]
          exact W.iret (v := 0) hx hb hr (fun t ht hW => ⟨0, rfl, trivial, ht⟩) (fun _ h => nomatch h) dX2_hoursSinceWord_51
      · have bd_9 : kw < 2147483648 := by omega
        have bd_10 : i < 2147483648 := by omega
        have hn_8 := knle (a := kw) (b := i) bd_9 bd_10 c_2
        refine lv_aload_n hx hb dX2_hoursSinceWord_12 rfl (lv_at hl 2 rfl) ?_
        refine va_get (D := (dC, dI)) (ci := 2) (v := .ref f4) (C := RX2) (T := TX2) (N := 8) hx hb hts (fun _ h => List.mem_cons_of_mem _ (List.mem_append_right _ h)) hown hK hP 0 rfl rfl 4 kc_l_4_8 (hts (.fieldLink RX2 24 "NotEnded$Folk" "hours" "[I") (List.mem_cons_of_mem _ (List.mem_append_left _ (List.mem_of_getElem? (i := 1) rfl)))) (fun _ h9 => h9) rfl dX2_hoursSinceWord_13 ?_
        refine lv_iload_n hx hb dX2_hoursSinceWord_16 rfl (lv_at hl 0 rfl) ?_
        have bd_11 : i < 4 := by omega
        refine va_iald hx hb hK hP 5 4 rfl rfl (vp_in_nI (n := i) (N := 4) bd_11 kc_31_4) dX2_hoursSinceWord_17 ?_
        refine lv_topi (fun x_12 ex_12 => ?_)
        refine lv_iload_n hx hb dX2_hoursSinceWord_18 rfl (lv_at hl 3 rfl) ?_
        refine lv_icmp_gt (tgt := 33) hx hb dX2_hoursSinceWord_19 kc_t_19_14 (fun c_13 => ?_) (fun c_13 => ?_)
        · refine lv_iinc (v := nI (i + 1)) hx hb dX2_hoursSinceWord_33 hl (k := 0) rfl (kInc _ 1) kc_l_3_4 (kTo [(3, .int (nI (i + 1))), (2, .int x2), (0, .ref hF), (1, .int p0)]) (fun ls hl => ?_)
          refine lv_goto (tgt := 4) hx hb dX2_hoursSinceWord_36 kc_t_36_m32 ?_
          exact ih_k_1 (i + 1) x2 (by omega) ls (lv_sub hl [0, 1, 2, 3] rfl) (by omega)
        · refine lv_iload_n hx hb dX2_hoursSinceWord_22 rfl (lv_at hl 1 rfl) ?_
          refine lv_aload_n hx hb dX2_hoursSinceWord_23 rfl (lv_at hl 2 rfl) ?_
          refine va_get (D := (dC, dI)) (ci := 2) (v := .ref f4) (C := RX2) (T := TX2) (N := 8) hx hb hts (fun _ h => List.mem_cons_of_mem _ (List.mem_append_right _ h)) hown hK hP 0 rfl rfl 4 kc_l_4_8 (hts (.fieldLink RX2 24 "NotEnded$Folk" "hours" "[I") (List.mem_cons_of_mem _ (List.mem_append_left _ (List.mem_of_getElem? (i := 1) rfl)))) (fun _ h9 => h9) rfl dX2_hoursSinceWord_24 ?_
          refine lv_iload_n hx hb dX2_hoursSinceWord_27 rfl (lv_at hl 0 rfl) ?_
          refine va_iald hx hb hK hP 5 4 rfl rfl (vp_in_nI (n := i) (N := 4) bd_11 kc_31_4) dX2_hoursSinceWord_28 ?_
          refine lv_topi (fun x_14 ex_14 => ?_)
          refine va_mmax hx hb (hml.trans hl.1.symm) hown (hts (.methodLink RX2 49 Lib.Math.max.name) (List.mem_cons_of_mem _ (List.mem_append_left _ (List.mem_of_getElem? (i := 2) rfl)))) (hts (.static Lib.Math.max.name) (List.mem_cons_of_mem _ (List.mem_append_left _ (List.mem_of_getElem? (i := 3) rfl)))) (hts (.initialized RJ9) (List.mem_cons_of_mem _ (List.mem_append_left _ (List.mem_of_getElem? (i := 4) rfl)))) (hts (.code Lib.Math.max.name Lib.Math.max.code 2 (some .int)) (List.mem_cons_of_mem _ (List.mem_append_left _ (List.mem_of_getElem? (i := 5) rfl)))) (Nat.le_of_ble_eq_true rfl) (Nat.le_of_ble_eq_true rfl) (Nat.le_of_ble_eq_true rfl) (Nat.le_of_ble_eq_true rfl) dX2_hoursSinceWord_29 ?_
          refine lv_topi (fun x_15 ex_15 => ?_)
          refine lv_istore_n hx hb dX2_hoursSinceWord_32 rfl hl kc_l_2_4 (kTo [(2, .int x_15), (3, .int (nI (i))), (0, .ref hF), (1, .int p0)]) (fun ls hl => ?_)
          refine lv_iinc (v := nI (i + 1)) hx hb dX2_hoursSinceWord_33 hl (k := 1) rfl (kInc _ 1) kc_l_3_4 (kTo [(3, .int (nI (i + 1))), (2, .int x_15), (0, .ref hF), (1, .int p0)]) (fun ls hl => ?_)
          refine lv_goto (tgt := 4) hx hb dX2_hoursSinceWord_36 kc_t_36_m32 ?_
          exact ih_k_1 (i + 1) x_15 (by omega) ls (lv_sub hl [0, 1, 2, 3] rfl) (by omega)
  exact lp_k_1 (kw - 0 + 1) 0 (-1) (by omega) ls (lv_sub hl [0, 1, 2, 3] rfl) (by omega)

theorem dX2_thoseAlone_0 : decode cX2_thoseAlone 0 = .ok (.aload_n 0, 1) := kDs0 kf_42 (by decide +kernel)
theorem dX2_thoseAlone_1 : decode cX2_thoseAlone 1 = .ok (.invokevirtual 41, 3) := kDs2 kf_182 (by decide +kernel)
theorem dX2_thoseAlone_4 : decode cX2_thoseAlone 4 = .ok (.istore_n 1, 1) := kDs0 kf_60 (by decide +kernel)
theorem dX2_thoseAlone_5 : decode cX2_thoseAlone 5 = .ok (.iconst 0, 1) := kDs0 kf_3 (by decide +kernel)
theorem dX2_thoseAlone_6 : decode cX2_thoseAlone 6 = .ok (.istore_n 2, 1) := kDs0 kf_61 (by decide +kernel)
theorem dX2_thoseAlone_7 : decode cX2_thoseAlone 7 = .ok (.iload_n 2, 1) := kDs0 kf_28 (by decide +kernel)
theorem dX2_thoseAlone_8 : decode cX2_thoseAlone 8 = .ok (.aload_n 0, 1) := kDs0 kf_42 (by decide +kernel)
theorem dX2_thoseAlone_9 : decode cX2_thoseAlone 9 = .ok (.getfield 31, 3) := kDs2 kf_180 (by decide +kernel)
theorem dX2_thoseAlone_12 : decode cX2_thoseAlone 12 = .ok (.if_icmp .ge 53, 3) := kDs4 kf_162 (by decide +kernel)
theorem dX2_thoseAlone_65 : decode cX2_thoseAlone 65 = .ok (.iload_n 1, 1) := kDs0 kf_27 (by decide +kernel)
theorem dX2_thoseAlone_66 : decode cX2_thoseAlone 66 = .ok (.ireturn, 1) := kDs0 kf_172 (by decide +kernel)
theorem dX2_thoseAlone_15 : decode cX2_thoseAlone 15 = .ok (.iconst 0, 1) := kDs0 kf_3 (by decide +kernel)
theorem dX2_thoseAlone_16 : decode cX2_thoseAlone 16 = .ok (.istore_n 3, 1) := kDs0 kf_62 (by decide +kernel)
theorem dX2_thoseAlone_17 : decode cX2_thoseAlone 17 = .ok (.iload_n 3, 1) := kDs0 kf_29 (by decide +kernel)
theorem dX2_thoseAlone_18 : decode cX2_thoseAlone 18 = .ok (.aload_n 0, 1) := kDs0 kf_42 (by decide +kernel)
theorem dX2_thoseAlone_19 : decode cX2_thoseAlone 19 = .ok (.getfield 31, 3) := kDs2 kf_180 (by decide +kernel)
theorem dX2_thoseAlone_22 : decode cX2_thoseAlone 22 = .ok (.if_icmp .ge 37, 3) := kDs4 kf_162 (by decide +kernel)
theorem dX2_thoseAlone_59 : decode cX2_thoseAlone 59 = .ok (.iinc 2 1, 3) := kDs5 kf_132 (by decide +kernel)
theorem dX2_thoseAlone_62 : decode cX2_thoseAlone 62 = .ok (.goto (-55), 3) := kDs4 kf_167 (by decide +kernel)
theorem dX2_thoseAlone_25 : decode cX2_thoseAlone 25 = .ok (.iload_n 2, 1) := kDs0 kf_28 (by decide +kernel)
theorem dX2_thoseAlone_26 : decode cX2_thoseAlone 26 = .ok (.iload_n 3, 1) := kDs0 kf_29 (by decide +kernel)
theorem dX2_thoseAlone_27 : decode cX2_thoseAlone 27 = .ok (.if_icmp .eq 26, 3) := kDs4 kf_159 (by decide +kernel)
theorem dX2_thoseAlone_53 : decode cX2_thoseAlone 53 = .ok (.iinc 3 1, 3) := kDs5 kf_132 (by decide +kernel)
theorem dX2_thoseAlone_56 : decode cX2_thoseAlone 56 = .ok (.goto (-39), 3) := kDs4 kf_167 (by decide +kernel)
theorem dX2_thoseAlone_30 : decode cX2_thoseAlone 30 = .ok (.aload_n 0, 1) := kDs0 kf_42 (by decide +kernel)
theorem dX2_thoseAlone_31 : decode cX2_thoseAlone 31 = .ok (.getfield 18, 3) := kDs2 kf_180 (by decide +kernel)
theorem dX2_thoseAlone_34 : decode cX2_thoseAlone 34 = .ok (.iload_n 2, 1) := kDs0 kf_28 (by decide +kernel)
theorem dX2_thoseAlone_35 : decode cX2_thoseAlone 35 = .ok (.iaload, 1) := kDs0 kf_46 (by decide +kernel)
theorem dX2_thoseAlone_36 : decode cX2_thoseAlone 36 = .ok (.aload_n 0, 1) := kDs0 kf_42 (by decide +kernel)
theorem dX2_thoseAlone_37 : decode cX2_thoseAlone 37 = .ok (.getfield 18, 3) := kDs2 kf_180 (by decide +kernel)
theorem dX2_thoseAlone_40 : decode cX2_thoseAlone 40 = .ok (.iload_n 3, 1) := kDs0 kf_29 (by decide +kernel)
theorem dX2_thoseAlone_41 : decode cX2_thoseAlone 41 = .ok (.iaload, 1) := kDs0 kf_46 (by decide +kernel)
theorem dX2_thoseAlone_42 : decode cX2_thoseAlone 42 = .ok (.if_icmp .ne 11, 3) := kDs4 kf_160 (by decide +kernel)
theorem dX2_thoseAlone_45 : decode cX2_thoseAlone 45 = .ok (.iload_n 1, 1) := kDs0 kf_27 (by decide +kernel)
theorem dX2_thoseAlone_46 : decode cX2_thoseAlone 46 = .ok (.iconst 1, 1) := kDs0 kf_4 (by decide +kernel)
theorem dX2_thoseAlone_47 : decode cX2_thoseAlone 47 = .ok (.iload_n 2, 1) := kDs0 kf_28 (by decide +kernel)
theorem dX2_thoseAlone_48 : decode cX2_thoseAlone 48 = .ok (.ishl, 1) := kDs0 kf_120 (by decide +kernel)
theorem dX2_thoseAlone_49 : decode cX2_thoseAlone 49 = .ok (.iconst (-1), 1) := kDs0 kf_2 (by decide +kernel)
theorem dX2_thoseAlone_50 : decode cX2_thoseAlone 50 = .ok (.ixor, 1) := kDs0 kf_130 (by decide +kernel)
theorem dX2_thoseAlone_51 : decode cX2_thoseAlone 51 = .ok (.iand, 1) := kDs0 kf_126 (by decide +kernel)
theorem dX2_thoseAlone_52 : decode cX2_thoseAlone 52 = .ok (.istore_n 1, 1) := kDs0 kf_60 (by decide +kernel)
def w_s_alone2 : List Cond := .code yX2_thoseAlone cX2_thoseAlone 4 (some .int) :: ([.initialized RX2, .selects RX2 yX2_everybody yX2_everybody, .instanceMethod yX2_everybody, .methodLink RX2 41 yX2_everybody, .fieldLink RX2 31 "NotEnded$Folk" "size" "I", .fieldLink RX2 18 "NotEnded$Folk" "houses" "[I"] ++ (w_s_every2 ++ (wsX20)))
theorem gw_s_alone2 : (w_s_alone2).all goodWord = true := kGc rfl (kGa (by decide +kernel) (kGa gw_s_every2 gw_wsX20))
theorem hd_X2_thoseAlone : yX2_thoseAlone.cls ≠ "java/lang/invoke/MethodHandle" ∧ yX2_thoseAlone.cls ≠ "java/lang/invoke/VarHandle" ∧ (parseMethodDescriptor yX2_thoseAlone.desc).map (fun d => d.parameters.length) = some 0 := by decide +kernel
set_option maxHeartbeats 4000000 in
set_option maxRecDepth 100000 in
theorem s_alone2 (l : Launch) (dC : Nat → ClassId) (dI : Nat → Nat → Nat) (hF : Nat) (f0 : Nat) (f1 : Nat) (f2 : Nat) (f3 : Nat) (f4 : Nat) (z0 : ClassId) (z1 : ClassId) (z2 : ClassId) (z3 : ClassId) (z4 : ClassId) (g0 : Nat → Int32) (g1 : Nat → Int32) (g2 : Nat → Int32) (g3 : Nat → Int32) (g4 : Nat → Int32) (sn : Int32) (ks : Nat) (kw : Nat) (hks : ks ≤ 10) (hkw : kw ≤ 4) : Met l yX2_thoseAlone w_s_alone2 ({ frames := 2, cells := 0, slots := 0, locals := 120 }) (kR dC dI [.ref hF] [(hF, .inr (2, [.ref f0, .ref f1, .ref f2, .ref f3, .ref f4, .int sn, .int (nI (ks)), .int (nI (kw))])), (f0, .inl (z0, 10, .inl g0)), (f1, .inl (z1, 10, .inl g1)), (f2, .inl (z2, 10, .inl g2)), (f3, .inl (z3, 10, .inl g3)), (f4, .inl (z4, 4, .inl g4))] [(z0, .int), (z1, .int), (z2, .int), (z3, .int), (z4, .int)] kT) (vp_Si (fun r : Int32 => True)) 0 0 (fun _ => False) := by
  refine Met.ofW (cc := cX2_thoseAlone) (maxL := 4) (ret := (some .int)) (by decide) rfl ?_
  intro p e s m args below meth c s₁ B hml hv
  obtain ⟨rfl, hP, hK, hX⟩ := hv
  have hx := B.exec
  have hb := B.bytes
  have hr := B.returns
  have hts := atoms_spec (ws := w_s_alone2) B.pre
  have hown : s.vm.findClass RX2 = some m.cls := findClass_of_methodNamed B.named
  have hlocks := B.notSynchronized
  have hP : va_P (dC, dI) vwCl [(hF, .inr (2, [.ref f0, .ref f1, .ref f2, .ref f3, .ref f4, .int sn, .int (nI (ks)), .int (nI (kw))])), (f0, .inl (z0, 10, .inl g0)), (f1, .inl (z1, 10, .inl g1)), (f2, .inl (z2, 10, .inl g2)), (f3, .inl (z3, 10, .inl g3)), (f4, .inl (z4, 4, .inl g4))] s.heap := hP
  have hl := lv_entry ([.ref hF]) (n := 4) (Nat.le_of_ble_eq_true rfl)
  rw [lg_entry_eq]
  generalize (lg_sl ([.ref hF]) ++ List.replicate (4 - (lg_sl ([.ref hF])).length) Slot.unset).toArray = ls at hl ⊢
  have hl : lv_has ls 4 [(0, .ref hF)] := hl
  refine kQ (fun Q hQ => ?_)
  refine lv_aload_n hx hb dX2_thoseAlone_0 rfl (lv_at hl 0 rfl) ?_
  have hPc := hP.sb (ws2 := [(hF, .inr (2, [.ref f0, .ref f1, .ref f2, .ref f3, .ref f4, .int sn, .int (nI (ks)), .int (nI (kw))])), (f0, .inl (z0, 10, .inl g0)), (f1, .inl (z1, 10, .inl g1)), (f2, .inl (z2, 10, .inl g2)), (f3, .inl (z3, 10, .inl g3)), (f4, .inl (z4, 4, .inl g4))]) [0, 1, 2, 3, 4, 5] rfl
  have hKc := hK.sb (tys2 := [(z0, .int), (z1, .int), (z2, .int), (z3, .int), (z4, .int)]) [0, 1, 2, 3, 4] rfl
  refine vp_callSi (va_runV (As := []) (rest := []) ⟨hx, hb, hml, hown, hts⟩ (s_every2 l dC dI hF f0 f1 f2 f3 f4 z0 z1 z2 z3 z4 g0 g1 g2 g3 g4 sn ks kw hks hkw) (cwV 0 hts (kG (List.forall_mem_cons.mpr ⟨(List.mem_cons_of_mem _ (List.mem_append_left _ (List.mem_of_getElem? (i := 3) rfl))), (List.forall_mem_cons.mpr ⟨(List.mem_cons_of_mem _ (List.mem_append_left _ (List.mem_of_getElem? (i := 2) rfl))), (List.forall_mem_cons.mpr ⟨(List.mem_cons_of_mem _ (List.mem_append_left _ (List.mem_of_getElem? (i := 1) rfl))), (List.forall_mem_cons.mpr ⟨(List.mem_cons_of_mem _ (List.mem_append_left _ (List.mem_of_getElem? (i := 0) rfl))), (fun _ h => absurd h List.not_mem_nil)⟩)⟩)⟩)⟩) (kGV _ _ _ _) (fun _ h => List.mem_cons_of_mem _ (List.mem_append_right _ (List.mem_append_left _ h))) gw_s_every2) rfl rfl rfl ⟨rfl, hd_X2_everybody⟩ ⟨(Nat.le_of_ble_eq_true rfl), (Nat.le_of_ble_eq_true rfl)⟩) (kR_V kT_blind kT_give (va_recv hKc hPc (ci := 2) (q0 := 0) rfl rfl) hPc hKc) rfl rfl hl.1 rfl (lv_room (Nat.le_of_ble_eq_true rfl)) dX2_thoseAlone_1 ⟨(Nat.le_of_ble_eq_true rfl), (Nat.le_of_ble_eq_true rfl)⟩).run (fun r_1 hw => ?_)
  refine lv_istore_n hx hb dX2_thoseAlone_4 rfl hl kc_l_1_4 (kTo [(1, .int r_1), (0, .ref hF)]) (fun ls hl => ?_)
  refine lv_iconst (v := 0) hx hb dX2_thoseAlone_5 kc_i_0 ?_
  refine lv_istore_n hx hb dX2_thoseAlone_6 rfl hl kc_l_2_4 (kTo [(2, .int 0), (1, .int r_1), (0, .ref hF)]) (fun ls hl => ?_)
  have lp_k_2 : ∀ (n9 : Nat) (i : Nat) (x1 : Int32) (ivk_2_0 : i ≤ ks) (ls : Array Slot) (_ : lv_has ls 4 [(2, .int (nI (i))), (1, .int x1), (0, .ref hF)]) (_ : ks - i < n9), W p l e (headSpec w_s_alone2 ({ frames := 2, cells := 0, slots := 0, locals := 120 })).room s m (#[.ref hF] : Array Value) below meth c s.heap [] 0 0 Q (F0 m 7 ls []) := by
    intro n9
    induction n9 with
    | zero => intro i x1 ivk_2_0 ls hl hm9; exact absurd hm9 (Nat.not_lt_zero _)
    | succ n9 ih_k_2 =>
      intro i x1 ivk_2_0 ls hl hm9
      refine lv_iload_n hx hb dX2_thoseAlone_7 rfl (lv_at hl 0 rfl) ?_
      refine lv_aload_n hx hb dX2_thoseAlone_8 rfl (lv_at hl 2 rfl) ?_
      refine va_get (D := (dC, dI)) (ci := 2) (v := .int (nI (ks))) (C := RX2) (T := TX2) (N := 8) hx hb hts (fun _ h => List.mem_cons_of_mem _ (List.mem_append_right _ (List.mem_append_right _ h))) hown hK hP 0 rfl rfl 6 kc_l_6_8 (hts (.fieldLink RX2 31 "NotEnded$Folk" "size" "I") (List.mem_cons_of_mem _ (List.mem_append_left _ (List.mem_of_getElem? (i := 4) rfl)))) (fun _ h9 => h9) rfl dX2_thoseAlone_9 ?_
      refine lv_icmp_ge (tgt := 65) hx hb dX2_thoseAlone_12 kc_t_12_53 (fun c_3 => ?_) (fun c_3 => ?_)
      · have bd_5 : ks < 2147483648 := by omega
        have bd_6 : i < 2147483648 := by omega
        have hn_4 := kle (a := ks) (b := i) bd_5 bd_6 c_3
        refine lv_iload_n hx hb dX2_thoseAlone_65 rfl (lv_at hl 1 rfl) ?_
        rw [hQ]
        exact W.iret (v := x1) hx hb hr (fun t ht hW => ⟨x1, rfl, trivial, ht⟩) (fun _ h => nomatch h) dX2_thoseAlone_66
      · have bd_8 : ks < 2147483648 := by omega
        have bd_9 : i < 2147483648 := by omega
        have hn_7 := knle (a := ks) (b := i) bd_8 bd_9 c_3
        refine lv_iconst (v := 0) hx hb dX2_thoseAlone_15 kc_i_0 ?_
        refine lv_istore_n hx hb dX2_thoseAlone_16 rfl hl kc_l_3_4 (kTo [(3, .int 0), (2, .int (nI (i))), (1, .int x1), (0, .ref hF)]) (fun ls hl => ?_)
        have lp_k_10 : ∀ (n9 : Nat) (j : Nat) (x1 : Int32) (ivk_10_0 : j ≤ ks) (ls : Array Slot) (_ : lv_has ls 4 [(3, .int (nI (j))), (2, .int (nI (i))), (1, .int x1), (0, .ref hF)]) (_ : ks - j < n9), W p l e (headSpec w_s_alone2 ({ frames := 2, cells := 0, slots := 0, locals := 120 })).room s m (#[.ref hF] : Array Value) below meth c s.heap [] 0 0 Q (F0 m 17 ls []) := by
          intro n9
          induction n9 with
          | zero => intro j x1 ivk_10_0 ls hl hm9; exact absurd hm9 (Nat.not_lt_zero _)
          | succ n9 ih_k_10 =>
            intro j x1 ivk_10_0 ls hl hm9
            refine lv_iload_n hx hb dX2_thoseAlone_17 rfl (lv_at hl 0 rfl) ?_
            refine lv_aload_n hx hb dX2_thoseAlone_18 rfl (lv_at hl 3 rfl) ?_
            refine va_get (D := (dC, dI)) (ci := 2) (v := .int (nI (ks))) (C := RX2) (T := TX2) (N := 8) hx hb hts (fun _ h => List.mem_cons_of_mem _ (List.mem_append_right _ (List.mem_append_right _ h))) hown hK hP 0 rfl rfl 6 kc_l_6_8 (hts (.fieldLink RX2 31 "NotEnded$Folk" "size" "I") (List.mem_cons_of_mem _ (List.mem_append_left _ (List.mem_of_getElem? (i := 4) rfl)))) (fun _ h9 => h9) rfl dX2_thoseAlone_19 ?_
            refine lv_icmp_ge (tgt := 59) hx hb dX2_thoseAlone_22 kc_t_22_37 (fun c_11 => ?_) (fun c_11 => ?_)
            · have bd_13 : j < 2147483648 := by omega
              have hn_12 := kle (a := ks) (b := j) bd_8 bd_13 c_11
              refine lv_iinc (v := nI (i + 1)) hx hb dX2_thoseAlone_59 hl (k := 1) rfl (kInc _ 1) kc_l_2_4 (kTo [(2, .int (nI (i + 1))), (3, .int (nI (j))), (1, .int x1), (0, .ref hF)]) (fun ls hl => ?_)
              refine lv_goto (tgt := 7) hx hb dX2_thoseAlone_62 kc_t_62_m55 ?_
              exact ih_k_2 (i + 1) x1 (by omega) ls (lv_sub hl [0, 2, 3] rfl) (by omega)
            · have bd_15 : j < 2147483648 := by omega
              have hn_14 := knle (a := ks) (b := j) bd_8 bd_15 c_11
              refine lv_iload_n hx hb dX2_thoseAlone_25 rfl (lv_at hl 1 rfl) ?_
              refine lv_iload_n hx hb dX2_thoseAlone_26 rfl (lv_at hl 0 rfl) ?_
              refine lv_icmp_eq (tgt := 53) hx hb dX2_thoseAlone_27 kc_t_27_26 (fun c_16 => ?_) (fun c_16 => ?_)
              · have hn_17 := keq (a := i) (b := j) bd_9 bd_15 c_16
                refine lv_iinc (v := nI (j + 1)) hx hb dX2_thoseAlone_53 hl (k := 0) rfl (kInc _ 1) kc_l_3_4 (kTo [(3, .int (nI (j + 1))), (2, .int (nI (i))), (1, .int x1), (0, .ref hF)]) (fun ls hl => ?_)
                refine lv_goto (tgt := 17) hx hb dX2_thoseAlone_56 kc_t_56_m39 ?_
                exact ih_k_10 (j + 1) x1 (by omega) ls (lv_sub hl [0, 1, 2, 3] rfl) (by omega)
              · have hn_18 := kneq (a := i) (b := j) bd_9 bd_15 c_16
                refine lv_aload_n hx hb dX2_thoseAlone_30 rfl (lv_at hl 3 rfl) ?_
                refine va_get (D := (dC, dI)) (ci := 2) (v := .ref f2) (C := RX2) (T := TX2) (N := 8) hx hb hts (fun _ h => List.mem_cons_of_mem _ (List.mem_append_right _ (List.mem_append_right _ h))) hown hK hP 0 rfl rfl 2 kc_l_2_8 (hts (.fieldLink RX2 18 "NotEnded$Folk" "houses" "[I") (List.mem_cons_of_mem _ (List.mem_append_left _ (List.mem_of_getElem? (i := 5) rfl)))) (fun _ h9 => h9) rfl dX2_thoseAlone_31 ?_
                refine lv_iload_n hx hb dX2_thoseAlone_34 rfl (lv_at hl 1 rfl) ?_
                have bd_19 : i < 10 := by omega
                refine va_iald hx hb hK hP 3 2 rfl rfl (vp_in_nI (n := i) (N := 10) bd_19 kc_31_10) dX2_thoseAlone_35 ?_
                refine lv_topi (fun x_20 ex_20 => ?_)
                refine lv_aload_n hx hb dX2_thoseAlone_36 rfl (lv_at hl 3 rfl) ?_
                refine va_get (D := (dC, dI)) (ci := 2) (v := .ref f2) (C := RX2) (T := TX2) (N := 8) hx hb hts (fun _ h => List.mem_cons_of_mem _ (List.mem_append_right _ (List.mem_append_right _ h))) hown hK hP 0 rfl rfl 2 kc_l_2_8 (hts (.fieldLink RX2 18 "NotEnded$Folk" "houses" "[I") (List.mem_cons_of_mem _ (List.mem_append_left _ (List.mem_of_getElem? (i := 5) rfl)))) (fun _ h9 => h9) rfl dX2_thoseAlone_37 ?_
                refine lv_iload_n hx hb dX2_thoseAlone_40 rfl (lv_at hl 0 rfl) ?_
                have bd_21 : j < 10 := by omega
                refine va_iald hx hb hK hP 3 2 rfl rfl (vp_in_nI (n := j) (N := 10) bd_21 kc_31_10) dX2_thoseAlone_41 ?_
                refine lv_topi (fun x_22 ex_22 => ?_)
                refine lv_icmp_ne (tgt := 53) hx hb dX2_thoseAlone_42 kc_t_42_11 (fun c_23 => ?_) (fun c_23 => ?_)
                · refine lv_iinc (v := nI (j + 1)) hx hb dX2_thoseAlone_53 hl (k := 0) rfl (kInc _ 1) kc_l_3_4 (kTo [(3, .int (nI (j + 1))), (2, .int (nI (i))), (1, .int x1), (0, .ref hF)]) (fun ls hl => ?_)
                  refine lv_goto (tgt := 17) hx hb dX2_thoseAlone_56 kc_t_56_m39 ?_
                  exact ih_k_10 (j + 1) x1 (by omega) ls (lv_sub hl [0, 1, 2, 3] rfl) (by omega)
                · refine lv_iload_n hx hb dX2_thoseAlone_45 rfl (lv_at hl 2 rfl) ?_
                  refine lv_iconst (v := 1) hx hb dX2_thoseAlone_46 kc_i_1 ?_
                  refine lv_iload_n hx hb dX2_thoseAlone_47 rfl (lv_at hl 1 rfl) ?_
                  refine lv_ishl hx hb dX2_thoseAlone_48 ?_
                  refine lv_topi (fun x_24 ex_24 => ?_)
                  refine lv_iconst (v := (-1)) hx hb dX2_thoseAlone_49 kc_i_m1 ?_
                  refine lv_ixor hx hb dX2_thoseAlone_50 ?_
                  refine lv_topi (fun x_25 ex_25 => ?_)
                  refine lv_iand hx hb dX2_thoseAlone_51 ?_
                  refine lv_topi (fun x_26 ex_26 => ?_)
                  refine lv_istore_n hx hb dX2_thoseAlone_52 rfl hl kc_l_1_4 (kTo [(1, .int x_26), (3, .int (nI (j))), (2, .int (nI (i))), (0, .ref hF)]) (fun ls hl => ?_)
                  refine lv_iinc (v := nI (j + 1)) hx hb dX2_thoseAlone_53 hl (k := 1) rfl (kInc _ 1) kc_l_3_4 (kTo [(3, .int (nI (j + 1))), (1, .int x_26), (2, .int (nI (i))), (0, .ref hF)]) (fun ls hl => ?_)
                  refine lv_goto (tgt := 17) hx hb dX2_thoseAlone_56 kc_t_56_m39 ?_
                  exact ih_k_10 (j + 1) x_26 (by omega) ls (lv_sub hl [0, 2, 1, 3] rfl) (by omega)
        exact lp_k_10 (ks - 0 + 1) 0 x1 (by omega) ls (lv_sub hl [0, 1, 2, 3] rfl) (by omega)
  exact lp_k_2 (ks - 0 + 1) 0 r_1 (by omega) ls (lv_sub hl [0, 1, 2] rfl) (by omega)

theorem dX2_hasAll_0 : decode cX2_hasAll 0 = .ok (.iload_n 1, 1) := kDs0 kf_27 (by decide +kernel)
theorem dX2_hasAll_1 : decode cX2_hasAll 1 = .ok (.aload_n 0, 1) := kDs0 kf_42 (by decide +kernel)
theorem dX2_hasAll_2 : decode cX2_hasAll 2 = .ok (.invokevirtual 41, 3) := kDs2 kf_182 (by decide +kernel)
theorem dX2_hasAll_5 : decode cX2_hasAll 5 = .ok (.iconst (-1), 1) := kDs0 kf_2 (by decide +kernel)
theorem dX2_hasAll_6 : decode cX2_hasAll 6 = .ok (.ixor, 1) := kDs0 kf_130 (by decide +kernel)
theorem dX2_hasAll_7 : decode cX2_hasAll 7 = .ok (.iand, 1) := kDs0 kf_126 (by decide +kernel)
theorem dX2_hasAll_8 : decode cX2_hasAll 8 = .ok (.ifCond .ne 7, 3) := kDs4 kf_154 (by decide +kernel)
theorem dX2_hasAll_15 : decode cX2_hasAll 15 = .ok (.iconst 0, 1) := kDs0 kf_3 (by decide +kernel)
theorem dX2_hasAll_16 : decode cX2_hasAll 16 = .ok (.ireturn, 1) := kDs0 kf_172 (by decide +kernel)
theorem dX2_hasAll_11 : decode cX2_hasAll 11 = .ok (.iconst 1, 1) := kDs0 kf_4 (by decide +kernel)
theorem dX2_hasAll_12 : decode cX2_hasAll 12 = .ok (.goto 4, 3) := kDs4 kf_167 (by decide +kernel)
def w_s_hasAll2 : List Cond := .code yX2_hasAll cX2_hasAll 2 (some .boolean) :: ([.initialized RX2, .selects RX2 yX2_everybody yX2_everybody, .instanceMethod yX2_everybody, .methodLink RX2 41 yX2_everybody] ++ (w_s_every2))
theorem gw_s_hasAll2 : (w_s_hasAll2).all goodWord = true := kGc rfl (kGa (by decide +kernel) gw_s_every2)
theorem hd_X2_hasAll : yX2_hasAll.cls ≠ "java/lang/invoke/MethodHandle" ∧ yX2_hasAll.cls ≠ "java/lang/invoke/VarHandle" ∧ (parseMethodDescriptor yX2_hasAll.desc).map (fun d => d.parameters.length) = some 1 := by decide +kernel
set_option maxHeartbeats 4000000 in
set_option maxRecDepth 100000 in
theorem s_hasAll2 (l : Launch) (dC : Nat → ClassId) (dI : Nat → Nat → Nat) (hF : Nat) (f0 : Nat) (f1 : Nat) (f2 : Nat) (f3 : Nat) (f4 : Nat) (z0 : ClassId) (z1 : ClassId) (z2 : ClassId) (z3 : ClassId) (z4 : ClassId) (g0 : Nat → Int32) (g1 : Nat → Int32) (g2 : Nat → Int32) (g3 : Nat → Int32) (g4 : Nat → Int32) (sn : Int32) (ks : Nat) (kw : Nat) (hks : ks ≤ 10) (hkw : kw ≤ 4) (p0 : Int32) : Met l yX2_hasAll w_s_hasAll2 ({ frames := 2, cells := 0, slots := 0, locals := 120 }) (kR dC dI [.ref hF, .int p0] [(hF, .inr (2, [.ref f0, .ref f1, .ref f2, .ref f3, .ref f4, .int sn, .int (nI (ks)), .int (nI (kw))])), (f0, .inl (z0, 10, .inl g0)), (f1, .inl (z1, 10, .inl g1)), (f2, .inl (z2, 10, .inl g2)), (f3, .inl (z3, 10, .inl g3)), (f4, .inl (z4, 4, .inl g4))] [(z0, .int), (z1, .int), (z2, .int), (z3, .int), (z4, .int)] kT) (vp_Si (fun r : Int32 => True)) 0 0 (fun _ => False) := by
  refine Met.ofW (cc := cX2_hasAll) (maxL := 2) (ret := (some .boolean)) (by decide) rfl ?_
  intro p e s m args below meth c s₁ B hml hv
  obtain ⟨rfl, hP, hK, hX⟩ := hv
  have hx := B.exec
  have hb := B.bytes
  have hr := B.returns
  have hts := atoms_spec (ws := w_s_hasAll2) B.pre
  have hown : s.vm.findClass RX2 = some m.cls := findClass_of_methodNamed B.named
  have hlocks := B.notSynchronized
  have hP : va_P (dC, dI) vwCl [(hF, .inr (2, [.ref f0, .ref f1, .ref f2, .ref f3, .ref f4, .int sn, .int (nI (ks)), .int (nI (kw))])), (f0, .inl (z0, 10, .inl g0)), (f1, .inl (z1, 10, .inl g1)), (f2, .inl (z2, 10, .inl g2)), (f3, .inl (z3, 10, .inl g3)), (f4, .inl (z4, 4, .inl g4))] s.heap := hP
  have hl := lv_entry ([.ref hF, .int p0]) (n := 2) (Nat.le_of_ble_eq_true rfl)
  rw [lg_entry_eq]
  generalize (lg_sl ([.ref hF, .int p0]) ++ List.replicate (2 - (lg_sl ([.ref hF, .int p0])).length) Slot.unset).toArray = ls at hl ⊢
  have hl : lv_has ls 2 [(0, .ref hF), (1, .int p0)] := hl
  refine kQ (fun Q hQ => ?_)
  refine lv_iload_n hx hb dX2_hasAll_0 rfl (lv_at hl 1 rfl) ?_
  refine lv_aload_n hx hb dX2_hasAll_1 rfl (lv_at hl 0 rfl) ?_
  have hPc := hP.sb (ws2 := [(hF, .inr (2, [.ref f0, .ref f1, .ref f2, .ref f3, .ref f4, .int sn, .int (nI (ks)), .int (nI (kw))])), (f0, .inl (z0, 10, .inl g0)), (f1, .inl (z1, 10, .inl g1)), (f2, .inl (z2, 10, .inl g2)), (f3, .inl (z3, 10, .inl g3)), (f4, .inl (z4, 4, .inl g4))]) [0, 1, 2, 3, 4, 5] rfl
  have hKc := hK.sb (tys2 := [(z0, .int), (z1, .int), (z2, .int), (z3, .int), (z4, .int)]) [0, 1, 2, 3, 4] rfl
  refine vp_callSi (va_runV (As := []) (rest := [.int p0]) ⟨hx, hb, hml, hown, hts⟩ (s_every2 l dC dI hF f0 f1 f2 f3 f4 z0 z1 z2 z3 z4 g0 g1 g2 g3 g4 sn ks kw hks hkw) (cwV 0 hts (kG (List.forall_mem_cons.mpr ⟨(List.mem_cons_of_mem _ (List.mem_append_left _ (List.mem_of_getElem? (i := 3) rfl))), (List.forall_mem_cons.mpr ⟨(List.mem_cons_of_mem _ (List.mem_append_left _ (List.mem_of_getElem? (i := 2) rfl))), (List.forall_mem_cons.mpr ⟨(List.mem_cons_of_mem _ (List.mem_append_left _ (List.mem_of_getElem? (i := 1) rfl))), (List.forall_mem_cons.mpr ⟨(List.mem_cons_of_mem _ (List.mem_append_left _ (List.mem_of_getElem? (i := 0) rfl))), (fun _ h => absurd h List.not_mem_nil)⟩)⟩)⟩)⟩) (kGV _ _ _ _) (fun _ h => List.mem_cons_of_mem _ (List.mem_append_right _ h)) gw_s_every2) rfl rfl rfl ⟨rfl, hd_X2_everybody⟩ ⟨(Nat.le_of_ble_eq_true rfl), (Nat.le_of_ble_eq_true rfl)⟩) (kR_V kT_blind kT_give (va_recv hKc hPc (ci := 2) (q0 := 0) rfl rfl) hPc hKc) rfl rfl hl.1 rfl (lv_room (Nat.le_of_ble_eq_true rfl)) dX2_hasAll_2 ⟨(Nat.le_of_ble_eq_true rfl), (Nat.le_of_ble_eq_true rfl)⟩).run (fun r_1 hw => ?_)
  refine lv_iconst (v := (-1)) hx hb dX2_hasAll_5 kc_i_m1 ?_
  refine lv_ixor hx hb dX2_hasAll_6 ?_
  refine lv_topi (fun x_2 ex_2 => ?_)
  refine lv_iand hx hb dX2_hasAll_7 ?_
  refine lv_topi (fun x_3 ex_3 => ?_)
  refine lv_if_ne (tgt := 15) hx hb dX2_hasAll_8 kc_t_8_7 (fun c_4 => ?_) (fun c_4 => ?_)
  · refine lv_iconst (v := 0) hx hb dX2_hasAll_15 kc_i_0 ?_
    rw [hQ]
    exact W.zret (v := 0) hx hb hr rfl (fun t ht hW => ⟨0, rfl, trivial, ht⟩) (fun _ h => nomatch h) dX2_hasAll_16
  · refine lv_iconst (v := 1) hx hb dX2_hasAll_11 kc_i_1 ?_
    refine lv_goto (tgt := 16) hx hb dX2_hasAll_12 kc_t_12_4 ?_
    rw [hQ]
    exact W.zret (v := 1) hx hb hr rfl (fun t ht hW => ⟨1, rfl, trivial, ht⟩) (fun _ h => nomatch h) dX2_hasAll_16

theorem dX9_isBit_0 : decode cX9_isBit 0 = .ok (.iload_n 0, 1) := kDs0 kf_26 (by decide +kernel)
theorem dX9_isBit_1 : decode cX9_isBit 1 = .ok (.iload_n 1, 1) := kDs0 kf_27 (by decide +kernel)
theorem dX9_isBit_2 : decode cX9_isBit 2 = .ok (.ishr, 1) := kDs0 kf_122 (by decide +kernel)
theorem dX9_isBit_3 : decode cX9_isBit 3 = .ok (.iconst 1, 1) := kDs0 kf_4 (by decide +kernel)
theorem dX9_isBit_4 : decode cX9_isBit 4 = .ok (.iand, 1) := kDs0 kf_126 (by decide +kernel)
theorem dX9_isBit_5 : decode cX9_isBit 5 = .ok (.ifCond .eq 7, 3) := kDs4 kf_153 (by decide +kernel)
theorem dX9_isBit_12 : decode cX9_isBit 12 = .ok (.iconst 0, 1) := kDs0 kf_3 (by decide +kernel)
theorem dX9_isBit_13 : decode cX9_isBit 13 = .ok (.ireturn, 1) := kDs0 kf_172 (by decide +kernel)
theorem dX9_isBit_8 : decode cX9_isBit 8 = .ok (.iconst 1, 1) := kDs0 kf_4 (by decide +kernel)
theorem dX9_isBit_9 : decode cX9_isBit 9 = .ok (.goto 4, 3) := kDs4 kf_167 (by decide +kernel)
def w_s_isBit9 : List Cond := .code yX9_isBit cX9_isBit 2 (some .boolean) :: ([])
theorem gw_s_isBit9 : (w_s_isBit9).all goodWord = true := kGc rfl kGn
theorem hd_X9_isBit : yX9_isBit.cls ≠ "java/lang/invoke/MethodHandle" ∧ yX9_isBit.cls ≠ "java/lang/invoke/VarHandle" ∧ (parseMethodDescriptor yX9_isBit.desc).map (fun d => d.parameters.length) = some 2 := by decide +kernel
set_option maxHeartbeats 4000000 in
set_option maxRecDepth 100000 in
theorem s_isBit9 (l : Launch) (dC : Nat → ClassId) (dI : Nat → Nat → Nat) (p0 : Int32) (p1 : Int32) : Met l yX9_isBit w_s_isBit9 ({ frames := 1, cells := 0, slots := 0, locals := 60 }) (kR dC dI [.int p0, .int p1] [] [] kT) (vp_Si (fun r : Int32 => (r = 0 ∨ r = 1))) 0 0 (fun _ => False) := by
  refine Met.ofW (cc := cX9_isBit) (maxL := 2) (ret := (some .boolean)) (by decide) rfl ?_
  intro p e s m args below meth c s₁ B hml hv
  obtain ⟨rfl, hP, hK, hX⟩ := hv
  have hx := B.exec
  have hb := B.bytes
  have hr := B.returns
  have hts := atoms_spec (ws := w_s_isBit9) B.pre
  have hown : s.vm.findClass RX9 = some m.cls := findClass_of_methodNamed B.named
  have hlocks := B.notSynchronized
  have hP : va_P (dC, dI) vwCl [] s.heap := hP
  have hl := lv_entry ([.int p0, .int p1]) (n := 2) (Nat.le_of_ble_eq_true rfl)
  rw [lg_entry_eq]
  generalize (lg_sl ([.int p0, .int p1]) ++ List.replicate (2 - (lg_sl ([.int p0, .int p1])).length) Slot.unset).toArray = ls at hl ⊢
  have hl : lv_has ls 2 [(0, .int p0), (1, .int p1)] := hl
  refine kQ (fun Q hQ => ?_)
  refine lv_iload_n hx hb dX9_isBit_0 rfl (lv_at hl 0 rfl) ?_
  refine lv_iload_n hx hb dX9_isBit_1 rfl (lv_at hl 1 rfl) ?_
  refine lv_ishr hx hb dX9_isBit_2 ?_
  refine lv_topi (fun x_1 ex_1 => ?_)
  refine lv_iconst (v := 1) hx hb dX9_isBit_3 kc_i_1 ?_
  refine lv_iand hx hb dX9_isBit_4 ?_
  refine lv_topi (fun x_2 ex_2 => ?_)
  refine lv_if_eq (tgt := 12) hx hb dX9_isBit_5 kc_t_5_7 (fun c_3 => ?_) (fun c_3 => ?_)
  · refine lv_iconst (v := 0) hx hb dX9_isBit_12 kc_i_0 ?_
    rw [hQ]
    exact W.zret (v := 0) hx hb hr rfl (fun t ht hW => ⟨0, rfl, (Or.inl rfl), ht⟩) (fun _ h => nomatch h) dX9_isBit_13
  · refine lv_iconst (v := 1) hx hb dX9_isBit_8 kc_i_1 ?_
    refine lv_goto (tgt := 13) hx hb dX9_isBit_9 kc_t_9_4 ?_
    rw [hQ]
    exact W.zret (v := 1) hx hb hr rfl (fun t ht hW => ⟨1, rfl, (Or.inr rfl), ht⟩) (fun _ h => nomatch h) dX9_isBit_13

theorem dX9_within_0 : decode cX9_within 0 = .ok (.iload_n 0, 1) := kDs0 kf_26 (by decide +kernel)
theorem dX9_within_1 : decode cX9_within 1 = .ok (.iload_n 1, 1) := kDs0 kf_27 (by decide +kernel)
theorem dX9_within_2 : decode cX9_within 2 = .ok (.if_icmp .ge 5, 3) := kDs4 kf_162 (by decide +kernel)
theorem dX9_within_7 : decode cX9_within 7 = .ok (.iload_n 0, 1) := kDs0 kf_26 (by decide +kernel)
theorem dX9_within_8 : decode cX9_within 8 = .ok (.iload_n 2, 1) := kDs0 kf_28 (by decide +kernel)
theorem dX9_within_9 : decode cX9_within 9 = .ok (.if_icmp .le 7, 3) := kDs4 kf_164 (by decide +kernel)
theorem dX9_within_16 : decode cX9_within 16 = .ok (.iload_n 0, 1) := kDs0 kf_26 (by decide +kernel)
theorem dX9_within_17 : decode cX9_within 17 = .ok (.ireturn, 1) := kDs0 kf_172 (by decide +kernel)
theorem dX9_within_12 : decode cX9_within 12 = .ok (.iload_n 2, 1) := kDs0 kf_28 (by decide +kernel)
theorem dX9_within_13 : decode cX9_within 13 = .ok (.goto 4, 3) := kDs4 kf_167 (by decide +kernel)
theorem dX9_within_5 : decode cX9_within 5 = .ok (.iload_n 1, 1) := kDs0 kf_27 (by decide +kernel)
theorem dX9_within_6 : decode cX9_within 6 = .ok (.ireturn, 1) := kDs0 kf_172 (by decide +kernel)
def w_s_within9 : List Cond := .code yX9_within cX9_within 3 (some .int) :: ([])
theorem gw_s_within9 : (w_s_within9).all goodWord = true := kGc rfl kGn
theorem hd_X9_within : yX9_within.cls ≠ "java/lang/invoke/MethodHandle" ∧ yX9_within.cls ≠ "java/lang/invoke/VarHandle" ∧ (parseMethodDescriptor yX9_within.desc).map (fun d => d.parameters.length) = some 3 := by decide +kernel
set_option maxHeartbeats 4000000 in
set_option maxRecDepth 100000 in
theorem s_within9 (l : Launch) (dC : Nat → ClassId) (dI : Nat → Nat → Nat) (p0 : Int32) (p1 : Int32) (p2 : Int32) : Met l yX9_within w_s_within9 ({ frames := 1, cells := 0, slots := 0, locals := 60 }) (kR dC dI [.int p0, .int p1, .int p2] [] [] kT) (vp_Si (fun r : Int32 => True)) 0 0 (fun _ => False) := by
  refine Met.ofW (cc := cX9_within) (maxL := 3) (ret := (some .int)) (by decide) rfl ?_
  intro p e s m args below meth c s₁ B hml hv
  obtain ⟨rfl, hP, hK, hX⟩ := hv
  have hx := B.exec
  have hb := B.bytes
  have hr := B.returns
  have hts := atoms_spec (ws := w_s_within9) B.pre
  have hown : s.vm.findClass RX9 = some m.cls := findClass_of_methodNamed B.named
  have hlocks := B.notSynchronized
  have hP : va_P (dC, dI) vwCl [] s.heap := hP
  have hl := lv_entry ([.int p0, .int p1, .int p2]) (n := 3) (Nat.le_of_ble_eq_true rfl)
  rw [lg_entry_eq]
  generalize (lg_sl ([.int p0, .int p1, .int p2]) ++ List.replicate (3 - (lg_sl ([.int p0, .int p1, .int p2])).length) Slot.unset).toArray = ls at hl ⊢
  have hl : lv_has ls 3 [(0, .int p0), (1, .int p1), (2, .int p2)] := hl
  refine kQ (fun Q hQ => ?_)
  refine lv_iload_n hx hb dX9_within_0 rfl (lv_at hl 0 rfl) ?_
  refine lv_iload_n hx hb dX9_within_1 rfl (lv_at hl 1 rfl) ?_
  refine lv_icmp_ge (tgt := 7) hx hb dX9_within_2 kc_t_2_5 (fun c_1 => ?_) (fun c_1 => ?_)
  · refine lv_iload_n hx hb dX9_within_7 rfl (lv_at hl 0 rfl) ?_
    refine lv_iload_n hx hb dX9_within_8 rfl (lv_at hl 2 rfl) ?_
    refine lv_icmp_le (tgt := 16) hx hb dX9_within_9 kc_t_9_7 (fun c_2 => ?_) (fun c_2 => ?_)
    · refine lv_iload_n hx hb dX9_within_16 rfl (lv_at hl 0 rfl) ?_
      rw [hQ]
      exact W.iret (v := p0) hx hb hr (fun t ht hW => ⟨p0, rfl, trivial, ht⟩) (fun _ h => nomatch h) dX9_within_17
    · refine lv_iload_n hx hb dX9_within_12 rfl (lv_at hl 2 rfl) ?_
      refine lv_goto (tgt := 17) hx hb dX9_within_13 kc_t_13_4 ?_
      rw [hQ]
      exact W.iret (v := p2) hx hb hr (fun t ht hW => ⟨p2, rfl, trivial, ht⟩) (fun _ h => nomatch h) dX9_within_17
  · refine lv_iload_n hx hb dX9_within_5 rfl (lv_at hl 1 rfl) ?_
    rw [hQ]
    exact W.iret (v := p1) hx hb hr (fun t ht hW => ⟨p1, rfl, trivial, ht⟩) (fun _ h => nomatch h) dX9_within_6

theorem dX9_isLowerFirst_0 : decode cX9_isLowerFirst 0 = .ok (.iload_n 0, 1) := kDs0 kf_26 (by decide +kernel)
theorem dX9_isLowerFirst_1 : decode cX9_isLowerFirst 1 = .ok (.iload_n 1, 1) := kDs0 kf_27 (by decide +kernel)
theorem dX9_isLowerFirst_2 : decode cX9_isLowerFirst 2 = .ok (.ixor, 1) := kDs0 kf_130 (by decide +kernel)
theorem dX9_isLowerFirst_3 : decode cX9_isLowerFirst 3 = .ok (.istore_n 2, 1) := kDs0 kf_61 (by decide +kernel)
theorem dX9_isLowerFirst_4 : decode cX9_isLowerFirst 4 = .ok (.iload_n 0, 1) := kDs0 kf_26 (by decide +kernel)
theorem dX9_isLowerFirst_5 : decode cX9_isLowerFirst 5 = .ok (.iload_n 2, 1) := kDs0 kf_28 (by decide +kernel)
theorem dX9_isLowerFirst_6 : decode cX9_isLowerFirst 6 = .ok (.iand, 1) := kDs0 kf_126 (by decide +kernel)
theorem dX9_isLowerFirst_7 : decode cX9_isLowerFirst 7 = .ok (.iload_n 2, 1) := kDs0 kf_28 (by decide +kernel)
theorem dX9_isLowerFirst_8 : decode cX9_isLowerFirst 8 = .ok (.ineg, 1) := kDs0 kf_116 (by decide +kernel)
theorem dX9_isLowerFirst_9 : decode cX9_isLowerFirst 9 = .ok (.iand, 1) := kDs0 kf_126 (by decide +kernel)
theorem dX9_isLowerFirst_10 : decode cX9_isLowerFirst 10 = .ok (.ifCond .eq 7, 3) := kDs4 kf_153 (by decide +kernel)
theorem dX9_isLowerFirst_17 : decode cX9_isLowerFirst 17 = .ok (.iconst 0, 1) := kDs0 kf_3 (by decide +kernel)
theorem dX9_isLowerFirst_18 : decode cX9_isLowerFirst 18 = .ok (.ireturn, 1) := kDs0 kf_172 (by decide +kernel)
theorem dX9_isLowerFirst_13 : decode cX9_isLowerFirst 13 = .ok (.iconst 1, 1) := kDs0 kf_4 (by decide +kernel)
theorem dX9_isLowerFirst_14 : decode cX9_isLowerFirst 14 = .ok (.goto 4, 3) := kDs4 kf_167 (by decide +kernel)
def w_s_lower9 : List Cond := .code yX9_isLowerFirst cX9_isLowerFirst 3 (some .boolean) :: ([])
theorem gw_s_lower9 : (w_s_lower9).all goodWord = true := kGc rfl kGn
theorem hd_X9_isLowerFirst : yX9_isLowerFirst.cls ≠ "java/lang/invoke/MethodHandle" ∧ yX9_isLowerFirst.cls ≠ "java/lang/invoke/VarHandle" ∧ (parseMethodDescriptor yX9_isLowerFirst.desc).map (fun d => d.parameters.length) = some 2 := by decide +kernel
set_option maxHeartbeats 4000000 in
set_option maxRecDepth 100000 in
theorem s_lower9 (l : Launch) (dC : Nat → ClassId) (dI : Nat → Nat → Nat) (p0 : Int32) (p1 : Int32) : Met l yX9_isLowerFirst w_s_lower9 ({ frames := 1, cells := 0, slots := 0, locals := 60 }) (kR dC dI [.int p0, .int p1] [] [] kT) (vp_Si (fun r : Int32 => (r = 0 ∨ r = 1))) 0 0 (fun _ => False) := by
  refine Met.ofW (cc := cX9_isLowerFirst) (maxL := 3) (ret := (some .boolean)) (by decide) rfl ?_
  intro p e s m args below meth c s₁ B hml hv
  obtain ⟨rfl, hP, hK, hX⟩ := hv
  have hx := B.exec
  have hb := B.bytes
  have hr := B.returns
  have hts := atoms_spec (ws := w_s_lower9) B.pre
  have hown : s.vm.findClass RX9 = some m.cls := findClass_of_methodNamed B.named
  have hlocks := B.notSynchronized
  have hP : va_P (dC, dI) vwCl [] s.heap := hP
  have hl := lv_entry ([.int p0, .int p1]) (n := 3) (Nat.le_of_ble_eq_true rfl)
  rw [lg_entry_eq]
  generalize (lg_sl ([.int p0, .int p1]) ++ List.replicate (3 - (lg_sl ([.int p0, .int p1])).length) Slot.unset).toArray = ls at hl ⊢
  have hl : lv_has ls 3 [(0, .int p0), (1, .int p1)] := hl
  refine kQ (fun Q hQ => ?_)
  refine lv_iload_n hx hb dX9_isLowerFirst_0 rfl (lv_at hl 0 rfl) ?_
  refine lv_iload_n hx hb dX9_isLowerFirst_1 rfl (lv_at hl 1 rfl) ?_
  refine lv_ixor hx hb dX9_isLowerFirst_2 ?_
  refine lv_topi (fun x_1 ex_1 => ?_)
  refine lv_istore_n hx hb dX9_isLowerFirst_3 rfl hl kc_l_2_3 (kTo [(2, .int x_1), (0, .int p0), (1, .int p1)]) (fun ls hl => ?_)
  refine lv_iload_n hx hb dX9_isLowerFirst_4 rfl (lv_at hl 1 rfl) ?_
  refine lv_iload_n hx hb dX9_isLowerFirst_5 rfl (lv_at hl 0 rfl) ?_
  refine lv_iand hx hb dX9_isLowerFirst_6 ?_
  refine lv_topi (fun x_2 ex_2 => ?_)
  refine lv_iload_n hx hb dX9_isLowerFirst_7 rfl (lv_at hl 0 rfl) ?_
  refine lv_ineg hx hb dX9_isLowerFirst_8 ?_
  refine lv_topi (fun x_3 ex_3 => ?_)
  refine lv_iand hx hb dX9_isLowerFirst_9 ?_
  refine lv_topi (fun x_4 ex_4 => ?_)
  refine lv_if_eq (tgt := 17) hx hb dX9_isLowerFirst_10 kc_t_10_7 (fun c_5 => ?_) (fun c_5 => ?_)
  · refine lv_iconst (v := 0) hx hb dX9_isLowerFirst_17 kc_i_0 ?_
    rw [hQ]
    exact W.zret (v := 0) hx hb hr rfl (fun t ht hW => ⟨0, rfl, (Or.inl rfl), ht⟩) (fun _ h => nomatch h) dX9_isLowerFirst_18
  · refine lv_iconst (v := 1) hx hb dX9_isLowerFirst_13 kc_i_1 ?_
    refine lv_goto (tgt := 18) hx hb dX9_isLowerFirst_14 kc_t_14_4 ?_
    rw [hQ]
    exact W.zret (v := 1) hx hb hr rfl (fun t ht hW => ⟨1, rfl, (Or.inr rfl), ht⟩) (fun _ h => nomatch h) dX9_isLowerFirst_18

theorem dX9_isIn_0 : decode cX9_isIn 0 = .ok (.iload_n 0, 1) := kDs0 kf_26 (by decide +kernel)
theorem dX9_isIn_1 : decode cX9_isIn 1 = .ok (.iload_n 1, 1) := kDs0 kf_27 (by decide +kernel)
theorem dX9_isIn_2 : decode cX9_isIn 2 = .ok (.if_icmp .lt 12, 3) := kDs4 kf_161 (by decide +kernel)
theorem dX9_isIn_14 : decode cX9_isIn 14 = .ok (.iconst 0, 1) := kDs0 kf_3 (by decide +kernel)
theorem dX9_isIn_15 : decode cX9_isIn 15 = .ok (.ireturn, 1) := kDs0 kf_172 (by decide +kernel)
theorem dX9_isIn_5 : decode cX9_isIn 5 = .ok (.iload_n 0, 1) := kDs0 kf_26 (by decide +kernel)
theorem dX9_isIn_6 : decode cX9_isIn 6 = .ok (.iload_n 2, 1) := kDs0 kf_28 (by decide +kernel)
theorem dX9_isIn_7 : decode cX9_isIn 7 = .ok (.if_icmp .gt 7, 3) := kDs4 kf_163 (by decide +kernel)
theorem dX9_isIn_10 : decode cX9_isIn 10 = .ok (.iconst 1, 1) := kDs0 kf_4 (by decide +kernel)
theorem dX9_isIn_11 : decode cX9_isIn 11 = .ok (.goto 4, 3) := kDs4 kf_167 (by decide +kernel)
def w_s_isIn9 : List Cond := .code yX9_isIn cX9_isIn 3 (some .boolean) :: ([])
theorem gw_s_isIn9 : (w_s_isIn9).all goodWord = true := kGc rfl kGn
theorem hd_X9_isIn : yX9_isIn.cls ≠ "java/lang/invoke/MethodHandle" ∧ yX9_isIn.cls ≠ "java/lang/invoke/VarHandle" ∧ (parseMethodDescriptor yX9_isIn.desc).map (fun d => d.parameters.length) = some 3 := by decide +kernel
set_option maxHeartbeats 4000000 in
set_option maxRecDepth 100000 in
theorem s_isIn9 (l : Launch) (dC : Nat → ClassId) (dI : Nat → Nat → Nat) (p0 : Int32) (p1 : Int32) (p2 : Int32) : Met l yX9_isIn w_s_isIn9 ({ frames := 1, cells := 0, slots := 0, locals := 60 }) (kR dC dI [.int p0, .int p1, .int p2] [] [] kT) (vp_Si (fun r : Int32 => r = kIn p0 p1 p2)) 0 0 (fun _ => False) := by
  refine Met.ofW (cc := cX9_isIn) (maxL := 3) (ret := (some .boolean)) (by decide) rfl ?_
  intro p e s m args below meth c s₁ B hml hv
  obtain ⟨rfl, hP, hK, hX⟩ := hv
  have hx := B.exec
  have hb := B.bytes
  have hr := B.returns
  have hts := atoms_spec (ws := w_s_isIn9) B.pre
  have hown : s.vm.findClass RX9 = some m.cls := findClass_of_methodNamed B.named
  have hlocks := B.notSynchronized
  have hP : va_P (dC, dI) vwCl [] s.heap := hP
  have hl := lv_entry ([.int p0, .int p1, .int p2]) (n := 3) (Nat.le_of_ble_eq_true rfl)
  rw [lg_entry_eq]
  generalize (lg_sl ([.int p0, .int p1, .int p2]) ++ List.replicate (3 - (lg_sl ([.int p0, .int p1, .int p2])).length) Slot.unset).toArray = ls at hl ⊢
  have hl : lv_has ls 3 [(0, .int p0), (1, .int p1), (2, .int p2)] := hl
  refine kQ (fun Q hQ => ?_)
  refine lv_iload_n hx hb dX9_isIn_0 rfl (lv_at hl 0 rfl) ?_
  refine lv_iload_n hx hb dX9_isIn_1 rfl (lv_at hl 1 rfl) ?_
  refine lv_icmp_lt (tgt := 14) hx hb dX9_isIn_2 kc_t_2_12 (fun c_1 => ?_) (fun c_1 => ?_)
  · refine lv_iconst (v := 0) hx hb dX9_isIn_14 kc_i_0 ?_
    rw [hQ]
    exact W.zret (v := 0) hx hb hr rfl (fun t ht hW => ⟨0, rfl, (by simp [kIn, c_1]), ht⟩) (fun _ h => nomatch h) dX9_isIn_15
  · refine lv_iload_n hx hb dX9_isIn_5 rfl (lv_at hl 0 rfl) ?_
    refine lv_iload_n hx hb dX9_isIn_6 rfl (lv_at hl 2 rfl) ?_
    refine lv_icmp_gt (tgt := 14) hx hb dX9_isIn_7 kc_t_7_7 (fun c_2 => ?_) (fun c_2 => ?_)
    · refine lv_iconst (v := 0) hx hb dX9_isIn_14 kc_i_0 ?_
      rw [hQ]
      exact W.zret (v := 0) hx hb hr rfl (fun t ht hW => ⟨0, rfl, (by simp [kIn, c_1, c_2]), ht⟩) (fun _ h => nomatch h) dX9_isIn_15
    · refine lv_iconst (v := 1) hx hb dX9_isIn_10 kc_i_1 ?_
      refine lv_goto (tgt := 15) hx hb dX9_isIn_11 kc_t_11_4 ?_
      rw [hQ]
      exact W.zret (v := 1) hx hb hr rfl (fun t ht hW => ⟨1, rfl, (by simp [kIn, c_1, c_2]), ht⟩) (fun _ h => nomatch h) dX9_isIn_15

theorem dX9_isHouse_0 : decode cX9_isHouse 0 = .ok (.iload_n 0, 1) := kDs0 kf_26 (by decide +kernel)
theorem dX9_isHouse_1 : decode cX9_isHouse 1 = .ok (.iconst 0, 1) := kDs0 kf_3 (by decide +kernel)
theorem dX9_isHouse_2 : decode cX9_isHouse 2 = .ok (.iconst 3, 1) := kDs0 kf_6 (by decide +kernel)
theorem dX9_isHouse_3 : decode cX9_isHouse 3 = .ok (.invokestatic 117, 3) := kDs2 kf_184 (by decide +kernel)
theorem dX9_isHouse_6 : decode cX9_isHouse 6 = .ok (.ireturn, 1) := kDs0 kf_172 (by decide +kernel)
def w_s_isHouse9 : List Cond := .code yX9_isHouse cX9_isHouse 1 (some .boolean) :: ([.initialized RX9, .static yX9_isIn, .methodLink RX9 117 yX9_isIn] ++ (w_s_isIn9))
theorem gw_s_isHouse9 : (w_s_isHouse9).all goodWord = true := kGc rfl (kGa (by decide +kernel) gw_s_isIn9)
theorem hd_X9_isHouse : yX9_isHouse.cls ≠ "java/lang/invoke/MethodHandle" ∧ yX9_isHouse.cls ≠ "java/lang/invoke/VarHandle" ∧ (parseMethodDescriptor yX9_isHouse.desc).map (fun d => d.parameters.length) = some 1 := by decide +kernel
set_option maxHeartbeats 4000000 in
set_option maxRecDepth 100000 in
theorem s_isHouse9 (l : Launch) (dC : Nat → ClassId) (dI : Nat → Nat → Nat) (p0 : Int32) : Met l yX9_isHouse w_s_isHouse9 ({ frames := 2, cells := 0, slots := 0, locals := 120 }) (kR dC dI [.int p0] [] [] kT) (vp_Si (fun r : Int32 => (¬ r = 0 → ∃ j : Nat, j < 4 ∧ p0 = nI j))) 0 0 (fun _ => False) := by
  refine Met.ofW (cc := cX9_isHouse) (maxL := 1) (ret := (some .boolean)) (by decide) rfl ?_
  intro p e s m args below meth c s₁ B hml hv
  obtain ⟨rfl, hP, hK, hX⟩ := hv
  have hx := B.exec
  have hb := B.bytes
  have hr := B.returns
  have hts := atoms_spec (ws := w_s_isHouse9) B.pre
  have hown : s.vm.findClass RX9 = some m.cls := findClass_of_methodNamed B.named
  have hlocks := B.notSynchronized
  have hP : va_P (dC, dI) vwCl [] s.heap := hP
  have hl := lv_entry ([.int p0]) (n := 1) (Nat.le_of_ble_eq_true rfl)
  rw [lg_entry_eq]
  generalize (lg_sl ([.int p0]) ++ List.replicate (1 - (lg_sl ([.int p0])).length) Slot.unset).toArray = ls at hl ⊢
  have hl : lv_has ls 1 [(0, .int p0)] := hl
  refine kQ (fun Q hQ => ?_)
  refine lv_iload_n hx hb dX9_isHouse_0 rfl (lv_at hl 0 rfl) ?_
  refine lv_iconst (v := 0) hx hb dX9_isHouse_1 kc_i_0 ?_
  refine lv_iconst (v := 3) hx hb dX9_isHouse_2 kc_i_3 ?_
  have hPc := hP.sb (ws2 := []) [] rfl
  have hKc := hK.sb (tys2 := []) [] rfl
  refine vp_callSi (va_runS (As := [.int p0, .int 0, .int 3]) (rest := []) ⟨hx, hb, hml, hown, hts⟩ (s_isIn9 l dC dI p0 0 3) (va_cwS 3 hts (kG (List.forall_mem_cons.mpr ⟨(List.mem_cons_of_mem _ (List.mem_append_left _ (List.mem_of_getElem? (i := 2) rfl))), (List.forall_mem_cons.mpr ⟨(List.mem_cons_of_mem _ (List.mem_append_left _ (List.mem_of_getElem? (i := 1) rfl))), (List.forall_mem_cons.mpr ⟨(List.mem_cons_of_mem _ (List.mem_append_left _ (List.mem_of_getElem? (i := 0) rfl))), (fun _ h => absurd h List.not_mem_nil)⟩)⟩)⟩) (kGS _ _ _) (fun _ h => List.mem_cons_of_mem _ (List.mem_append_right _ h)) gw_s_isIn9) rfl rfl rfl hd_X9_isIn ⟨(Nat.le_of_ble_eq_true rfl), (Nat.le_of_ble_eq_true rfl)⟩) (kR_S kT_blind kT_give hPc hKc) rfl rfl hl.1 rfl (lv_room (Nat.le_of_ble_eq_true rfl)) dX9_isHouse_3 ⟨(Nat.le_of_ble_eq_true rfl), (Nat.le_of_ble_eq_true rfl)⟩).run (fun r_1 hw => ?_)
  have hw_2 := hw
  rw [hQ]
  exact W.zret (v := r_1) hx hb hr (by rw [hw_2]; exact kIn_nar _ _ _) (fun t ht hW => ⟨r_1, rfl, (fun z => kIn_ix (by decide) (fun y => z (hw_2.trans y))), ht⟩) (fun _ h => nomatch h) dX9_isHouse_6

theorem dX2_has_0 : decode cX2_has 0 = .ok (.iload_n 1, 1) := kDs0 kf_27 (by decide +kernel)
theorem dX2_has_1 : decode cX2_has 1 = .ok (.ifCond .lt 21, 3) := kDs4 kf_155 (by decide +kernel)
theorem dX2_has_22 : decode cX2_has 22 = .ok (.iconst 0, 1) := kDs0 kf_3 (by decide +kernel)
theorem dX2_has_23 : decode cX2_has 23 = .ok (.ireturn, 1) := kDs0 kf_172 (by decide +kernel)
theorem dX2_has_4 : decode cX2_has 4 = .ok (.iload_n 1, 1) := kDs0 kf_27 (by decide +kernel)
theorem dX2_has_5 : decode cX2_has 5 = .ok (.aload_n 0, 1) := kDs0 kf_42 (by decide +kernel)
theorem dX2_has_6 : decode cX2_has 6 = .ok (.getfield 31, 3) := kDs2 kf_180 (by decide +kernel)
theorem dX2_has_9 : decode cX2_has 9 = .ok (.if_icmp .ge 13, 3) := kDs4 kf_162 (by decide +kernel)
theorem dX2_has_12 : decode cX2_has 12 = .ok (.iload_n 1, 1) := kDs0 kf_27 (by decide +kernel)
theorem dX2_has_13 : decode cX2_has 13 = .ok (.bipush 10, 2) := kDs3 kf_16 (by decide +kernel)
theorem dX2_has_15 : decode cX2_has 15 = .ok (.if_icmp .ge 7, 3) := kDs4 kf_162 (by decide +kernel)
theorem dX2_has_18 : decode cX2_has 18 = .ok (.iconst 1, 1) := kDs0 kf_4 (by decide +kernel)
theorem dX2_has_19 : decode cX2_has 19 = .ok (.goto 4, 3) := kDs4 kf_167 (by decide +kernel)
def w_s_has2 : List Cond := .code yX2_has cX2_has 2 (some .boolean) :: ([.fieldLink RX2 31 "NotEnded$Folk" "size" "I"] ++ (wsX20))
theorem gw_s_has2 : (w_s_has2).all goodWord = true := kGc rfl (kGa (by decide +kernel) gw_wsX20)
theorem hd_X2_has : yX2_has.cls ≠ "java/lang/invoke/MethodHandle" ∧ yX2_has.cls ≠ "java/lang/invoke/VarHandle" ∧ (parseMethodDescriptor yX2_has.desc).map (fun d => d.parameters.length) = some 1 := by decide +kernel
set_option maxHeartbeats 4000000 in
set_option maxRecDepth 100000 in
theorem s_has2 (l : Launch) (dC : Nat → ClassId) (dI : Nat → Nat → Nat) (hF : Nat) (f0 : Nat) (f1 : Nat) (f2 : Nat) (f3 : Nat) (f4 : Nat) (z0 : ClassId) (z1 : ClassId) (z2 : ClassId) (z3 : ClassId) (z4 : ClassId) (g0 : Nat → Int32) (g1 : Nat → Int32) (g2 : Nat → Int32) (g3 : Nat → Int32) (g4 : Nat → Int32) (sn : Int32) (ks : Nat) (kw : Nat) (hks : ks ≤ 10) (hkw : kw ≤ 4) (p0 : Int32) : Met l yX2_has w_s_has2 ({ frames := 1, cells := 0, slots := 0, locals := 60 }) (kR dC dI [.ref hF, .int p0] [(hF, .inr (2, [.ref f0, .ref f1, .ref f2, .ref f3, .ref f4, .int sn, .int (nI (ks)), .int (nI (kw))])), (f0, .inl (z0, 10, .inl g0)), (f1, .inl (z1, 10, .inl g1)), (f2, .inl (z2, 10, .inl g2)), (f3, .inl (z3, 10, .inl g3)), (f4, .inl (z4, 4, .inl g4))] [(z0, .int), (z1, .int), (z2, .int), (z3, .int), (z4, .int)] kT) (vp_Si (fun r : Int32 => (¬ r = 0 → ∃ j : Nat, j < ks ∧ p0 = nI j))) 0 0 (fun _ => False) := by
  refine Met.ofW (cc := cX2_has) (maxL := 2) (ret := (some .boolean)) (by decide) rfl ?_
  intro p e s m args below meth c s₁ B hml hv
  obtain ⟨rfl, hP, hK, hX⟩ := hv
  have hx := B.exec
  have hb := B.bytes
  have hr := B.returns
  have hts := atoms_spec (ws := w_s_has2) B.pre
  have hown : s.vm.findClass RX2 = some m.cls := findClass_of_methodNamed B.named
  have hlocks := B.notSynchronized
  have hP : va_P (dC, dI) vwCl [(hF, .inr (2, [.ref f0, .ref f1, .ref f2, .ref f3, .ref f4, .int sn, .int (nI (ks)), .int (nI (kw))])), (f0, .inl (z0, 10, .inl g0)), (f1, .inl (z1, 10, .inl g1)), (f2, .inl (z2, 10, .inl g2)), (f3, .inl (z3, 10, .inl g3)), (f4, .inl (z4, 4, .inl g4))] s.heap := hP
  have hl := lv_entry ([.ref hF, .int p0]) (n := 2) (Nat.le_of_ble_eq_true rfl)
  rw [lg_entry_eq]
  generalize (lg_sl ([.ref hF, .int p0]) ++ List.replicate (2 - (lg_sl ([.ref hF, .int p0])).length) Slot.unset).toArray = ls at hl ⊢
  have hl : lv_has ls 2 [(0, .ref hF), (1, .int p0)] := hl
  refine kQ (fun Q hQ => ?_)
  refine lv_iload_n hx hb dX2_has_0 rfl (lv_at hl 1 rfl) ?_
  refine lv_if_lt (tgt := 22) hx hb dX2_has_1 kc_t_1_21 (fun c_1 => ?_) (fun c_1 => ?_)
  · refine lv_iconst (v := 0) hx hb dX2_has_22 kc_i_0 ?_
    rw [hQ]
    exact W.zret (v := 0) hx hb hr rfl (fun t ht hW => ⟨0, rfl, (fun z => absurd rfl z), ht⟩) (fun _ h => nomatch h) dX2_has_23
  · obtain ⟨j_2, hj_2, ej_2⟩ := nI_of c_1
    subst ej_2
    refine lv_iload_n hx hb dX2_has_4 rfl (lv_at hl 1 rfl) ?_
    refine lv_aload_n hx hb dX2_has_5 rfl (lv_at hl 0 rfl) ?_
    refine va_get (D := (dC, dI)) (ci := 2) (v := .int (nI (ks))) (C := RX2) (T := TX2) (N := 8) hx hb hts (fun _ h => List.mem_cons_of_mem _ (List.mem_append_right _ h)) hown hK hP 0 rfl rfl 6 kc_l_6_8 (hts (.fieldLink RX2 31 "NotEnded$Folk" "size" "I") (List.mem_cons_of_mem _ (List.mem_append_left _ (List.mem_of_getElem? (i := 0) rfl)))) (fun _ h9 => h9) rfl dX2_has_6 ?_
    refine lv_icmp_ge (tgt := 22) hx hb dX2_has_9 kc_t_9_13 (fun c_3 => ?_) (fun c_3 => ?_)
    · have bd_5 : ks < 2147483648 := by omega
      have bd_6 : j_2 < 2147483648 := by omega
      have hn_4 := kle (a := ks) (b := j_2) bd_5 bd_6 c_3
      refine lv_iconst (v := 0) hx hb dX2_has_22 kc_i_0 ?_
      rw [hQ]
      exact W.zret (v := 0) hx hb hr rfl (fun t ht hW => ⟨0, rfl, (fun z => absurd rfl z), ht⟩) (fun _ h => nomatch h) dX2_has_23
    · have bd_8 : ks < 2147483648 := by omega
      have bd_9 : j_2 < 2147483648 := by omega
      have hn_7 := knle (a := ks) (b := j_2) bd_8 bd_9 c_3
      refine lv_iload_n hx hb dX2_has_12 rfl (lv_at hl 1 rfl) ?_
      refine lv_bipush (v := 10) hx hb dX2_has_13 kc_b_10 ?_
      refine lv_icmp_ge (tgt := 22) hx hb dX2_has_15 kc_t_15_7 (fun c_10 => ?_) (fun c_10 => ?_)
      · have hn_11 := kle (a := 10) (b := j_2) kc_31_10 bd_9 c_10
        refine lv_iconst (v := 0) hx hb dX2_has_22 kc_i_0 ?_
        rw [hQ]
        exact W.zret (v := 0) hx hb hr rfl (fun t ht hW => ⟨0, rfl, (fun z => absurd rfl z), ht⟩) (fun _ h => nomatch h) dX2_has_23
      · have hn_12 := knle (a := 10) (b := j_2) kc_31_10 bd_9 c_10
        refine lv_iconst (v := 1) hx hb dX2_has_18 kc_i_1 ?_
        refine lv_goto (tgt := 23) hx hb dX2_has_19 kc_t_19_4 ?_
        rw [hQ]
        exact W.zret (v := 1) hx hb hr rfl (fun t ht hW => ⟨1, rfl, (fun _ => ⟨_, by omega, rfl⟩), ht⟩) (fun _ h => nomatch h) dX2_has_23

theorem dX2_isSent_0 : decode cX2_isSent 0 = .ok (.aload_n 0, 1) := kDs0 kf_42 (by decide +kernel)
theorem dX2_isSent_1 : decode cX2_isSent 1 = .ok (.getfield 27, 3) := kDs2 kf_180 (by decide +kernel)
theorem dX2_isSent_4 : decode cX2_isSent 4 = .ok (.iload_n 1, 1) := kDs0 kf_27 (by decide +kernel)
theorem dX2_isSent_5 : decode cX2_isSent 5 = .ok (.invokestatic 45, 3) := kDs2 kf_184 (by decide +kernel)
theorem dX2_isSent_8 : decode cX2_isSent 8 = .ok (.ireturn, 1) := kDs0 kf_172 (by decide +kernel)
def w_s_isSent2 : List Cond := .code yX2_isSent cX2_isSent 2 (some .boolean) :: ([.fieldLink RX2 27 "NotEnded$Folk" "sent" "I", .initialized RX9, .static yX9_isBit] ++ (wsX20 ++ (w_s_isBit9)))
theorem gw_s_isSent2 : (w_s_isSent2).all goodWord = true := kGc rfl (kGa (by decide +kernel) (kGa gw_wsX20 gw_s_isBit9))
theorem hd_X2_isSent : yX2_isSent.cls ≠ "java/lang/invoke/MethodHandle" ∧ yX2_isSent.cls ≠ "java/lang/invoke/VarHandle" ∧ (parseMethodDescriptor yX2_isSent.desc).map (fun d => d.parameters.length) = some 1 := by decide +kernel
set_option maxHeartbeats 4000000 in
set_option maxRecDepth 100000 in
theorem s_isSent2 (l : Launch) (dC : Nat → ClassId) (dI : Nat → Nat → Nat) (hF : Nat) (f0 : Nat) (f1 : Nat) (f2 : Nat) (f3 : Nat) (f4 : Nat) (z0 : ClassId) (z1 : ClassId) (z2 : ClassId) (z3 : ClassId) (z4 : ClassId) (g0 : Nat → Int32) (g1 : Nat → Int32) (g2 : Nat → Int32) (g3 : Nat → Int32) (g4 : Nat → Int32) (sn : Int32) (ks : Nat) (kw : Nat) (hks : ks ≤ 10) (hkw : kw ≤ 4) (p0 : Int32) : Met l yX2_isSent w_s_isSent2 ({ frames := 2, cells := 0, slots := 0, locals := 120 }) (kR dC dI [.ref hF, .int p0] [(hF, .inr (2, [.ref f0, .ref f1, .ref f2, .ref f3, .ref f4, .int sn, .int (nI (ks)), .int (nI (kw))])), (f0, .inl (z0, 10, .inl g0)), (f1, .inl (z1, 10, .inl g1)), (f2, .inl (z2, 10, .inl g2)), (f3, .inl (z3, 10, .inl g3)), (f4, .inl (z4, 4, .inl g4))] [(z0, .int), (z1, .int), (z2, .int), (z3, .int), (z4, .int)] kNL) (vp_Si (fun r : Int32 => (r = 0 ∨ r = 1))) 0 0 (fun _ => False) := by
  refine Met.ofW (cc := cX2_isSent) (maxL := 2) (ret := (some .boolean)) (by decide) rfl ?_
  intro p e s m args below meth c s₁ B hml hv
  obtain ⟨rfl, hP, hK, hX⟩ := hv
  have hx := B.exec
  have hb := B.bytes
  have hr := B.returns
  have hts := atoms_spec (ws := w_s_isSent2) B.pre
  have hown : s.vm.findClass RX2 = some m.cls := findClass_of_methodNamed B.named
  have hlocks := B.notSynchronized
  have hP : va_P (dC, dI) vwCl [(hF, .inr (2, [.ref f0, .ref f1, .ref f2, .ref f3, .ref f4, .int sn, .int (nI (ks)), .int (nI (kw))])), (f0, .inl (z0, 10, .inl g0)), (f1, .inl (z1, 10, .inl g1)), (f2, .inl (z2, 10, .inl g2)), (f3, .inl (z3, 10, .inl g3)), (f4, .inl (z4, 4, .inl g4))] s.heap := hP
  have hl := lv_entry ([.ref hF, .int p0]) (n := 2) (Nat.le_of_ble_eq_true rfl)
  rw [lg_entry_eq]
  generalize (lg_sl ([.ref hF, .int p0]) ++ List.replicate (2 - (lg_sl ([.ref hF, .int p0])).length) Slot.unset).toArray = ls at hl ⊢
  have hl : lv_has ls 2 [(0, .ref hF), (1, .int p0)] := hl
  refine kQ (fun Q hQ => ?_)
  refine lv_aload_n hx hb dX2_isSent_0 rfl (lv_at hl 0 rfl) ?_
  refine va_get (D := (dC, dI)) (ci := 2) (v := .int sn) (C := RX2) (T := TX2) (N := 8) hx hb hts (fun _ h => List.mem_cons_of_mem _ (List.mem_append_right _ (List.mem_append_left _ h))) hown hK hP 0 rfl rfl 5 kc_l_5_8 (hts (.fieldLink RX2 27 "NotEnded$Folk" "sent" "I") (List.mem_cons_of_mem _ (List.mem_append_left _ (List.mem_of_getElem? (i := 0) rfl)))) (fun _ h9 => h9) rfl dX2_isSent_1 ?_
  refine lv_iload_n hx hb dX2_isSent_4 rfl (lv_at hl 1 rfl) ?_
  have hPc := hP.sb (ws2 := []) [] rfl
  have hKc := hK.sb (tys2 := []) [] rfl
  refine vp_callSi (va_runSN (As := [.int sn, .int p0]) (rest := []) ⟨hx, hb, hml, hown, hts⟩ (s_isBit9 l dC dI sn p0) (⟨va_cnB 2 hts (goodIn_sub (fun _ h => List.mem_cons_of_mem _ (List.mem_append_right _ (List.mem_append_right _ h))) gw_s_isBit9) rfl rfl rfl (hX _ (List.mem_of_getElem? (i := 14) rfl)) (hts (.initialized RX9) (List.mem_cons_of_mem _ (List.mem_append_left _ (List.mem_of_getElem? (i := 1) rfl)))) hd_X9_isBit ⟨(Nat.le_of_ble_eq_true rfl), (Nat.le_of_ble_eq_true rfl)⟩, (hts (.static yX9_isBit) (List.mem_cons_of_mem _ (List.mem_append_left _ (List.mem_of_getElem? (i := 2) rfl)))), trivial⟩) (kR_S kT_blind kT_give hPc hKc) rfl rfl hl.1 rfl (lv_room (Nat.le_of_ble_eq_true rfl)) dX2_isSent_5 ⟨(Nat.le_of_ble_eq_true rfl), (Nat.le_of_ble_eq_true rfl)⟩).run (fun r_1 hw => ?_)
  have hw_2 := hw
  rw [hQ]
  exact W.zret (v := r_1) hx hb hr (kB01 hw_2) (fun t ht hW => ⟨r_1, rfl, hw_2, ht⟩) (fun _ h => nomatch h) dX2_isSent_8
