theorem dJ0_isLatin1_aae02_0 : decode cJ0_isLatin1_aae02 0 = .ok (.getstatic 38, 3) := kDs2 kf_178 (by decide +kernel)
theorem dJ0_isLatin1_aae02_3 : decode cJ0_isLatin1_aae02 3 = .ok (.ifCond .eq 14, 3) := kDs4 kf_153 (by decide +kernel)
theorem dJ0_isLatin1_aae02_6 : decode cJ0_isLatin1_aae02 6 = .ok (.aload_n 0, 1) := kDs0 kf_42 (by decide +kernel)
theorem dJ0_isLatin1_aae02_7 : decode cJ0_isLatin1_aae02 7 = .ok (.getfield 15, 3) := kDs2 kf_180 (by decide +kernel)
theorem dJ0_isLatin1_aae02_10 : decode cJ0_isLatin1_aae02 10 = .ok (.ifCond .ne 7, 3) := kDs4 kf_154 (by decide +kernel)
theorem dJ0_isLatin1_aae02_13 : decode cJ0_isLatin1_aae02 13 = .ok (.iconst 1, 1) := kDs0 kf_4 (by decide +kernel)
theorem dJ0_isLatin1_aae02_14 : decode cJ0_isLatin1_aae02 14 = .ok (.goto 4, 3) := kDs4 kf_167 (by decide +kernel)
theorem dJ0_isLatin1_aae02_18 : decode cJ0_isLatin1_aae02 18 = .ok (.ireturn, 1) := kDs0 kf_172 (by decide +kernel)
def w_s_t_latin : List Cond := .code yJ0_isLatin1_aae02 cJ0_isLatin1_aae02 1 (some .boolean) :: ([.fieldLink RJ0 38 "java/lang/String" "COMPACT_STRINGS" "Z", .fieldLink RJ0 15 "java/lang/String" "coder" "B"] ++ [])
theorem gw_s_t_latin : (w_s_t_latin).all goodWord = true := kGc rfl (kGa (by decide +kernel) kGn)
theorem hd_J0_isLatin1_aae02 : yJ0_isLatin1_aae02.cls ≠ "java/lang/invoke/MethodHandle" ∧ yJ0_isLatin1_aae02.cls ≠ "java/lang/invoke/VarHandle" ∧ (parseMethodDescriptor yJ0_isLatin1_aae02.desc).map (fun d => d.parameters.length) = some 0 := by decide +kernel
set_option maxHeartbeats 4000000 in
set_option maxRecDepth 100000 in
theorem s_t_latin (l : Launch) (dC : Nat → ClassId) (dI : Nat → Nat → Nat) (q : Nat) (b : Nat) (n : Nat) (g : Nat → Int32) (hn : n ≤ 8) (A : Nat → Prop) : Met l yJ0_isLatin1_aae02 w_s_t_latin ({ frames := 1, cells := 0, slots := 0, locals := 60 }) (kR dC dI [.ref q] [] [] (kSt q b n g A)) (vp_Si (fun r : Int32 => r = 1)) 0 0 (fun _ => False) := by
  refine Met.ofW (cc := cJ0_isLatin1_aae02) (maxL := 1) (ret := (some .boolean)) (by decide) rfl ?_
  intro p e s m args below meth c s₁ B hml hv
  obtain ⟨rfl, hP, hK, hX⟩ := hv
  have hx := B.exec
  have hb := B.bytes
  have hr := B.returns
  have hts := atoms_spec (ws := w_s_t_latin) B.pre
  have hown : s.vm.findClass RJ0 = some m.cls := findClass_of_methodNamed B.named
  have hlocks := B.notSynchronized
  have hS : va_S A s.heap s.heap [] := va_S.rf
  have hP : va_P (dC, dI) vwCl [] s.heap := hP
  have hl := lv_entry ([.ref q]) (n := 1) (Nat.le_of_ble_eq_true rfl)
  rw [lg_entry_eq]
  generalize (lg_sl ([.ref q]) ++ List.replicate (1 - (lg_sl ([.ref q])).length) Slot.unset).toArray = ls at hl ⊢
  have hl : lv_has ls 1 [(0, .ref q)] := hl
  refine kQ (fun Q hQ => ?_)
  refine va_gets hx hb hX.2.2.2.2.1 hS hown (hts (.fieldLink RJ0 38 "java/lang/String" "COMPACT_STRINGS" "Z") (List.mem_cons_of_mem _ (List.mem_append_left _ (List.mem_of_getElem? (i := 0) rfl)))) (fun _ h9 => h9) dJ0_isLatin1_aae02_0 ?_
  refine lv_if_eq (tgt := 17) hx hb dJ0_isLatin1_aae02_3 kc_t_3_14 (fun c_1 => absurd c_1 (by decide)) (fun c_1 => ?_)
  refine lv_aload_n hx hb dJ0_isLatin1_aae02_6 rfl (lv_at hl 0 rfl) ?_
  refine vk_getf hx hb hX.2.1 hS hown (hts (.fieldLink RJ0 15 "java/lang/String" "coder" "B") (List.mem_cons_of_mem _ (List.mem_append_left _ (List.mem_of_getElem? (i := 1) rfl)))) (fun _ h9 => h9) dJ0_isLatin1_aae02_7 ?_
  refine lv_if_ne (tgt := 17) hx hb dJ0_isLatin1_aae02_10 kc_t_10_7 (fun c_2 => absurd (by decide) c_2) (fun c_2 => ?_)
  refine lv_iconst (v := 1) hx hb dJ0_isLatin1_aae02_13 kc_i_1 ?_
  refine lv_goto (tgt := 18) hx hb dJ0_isLatin1_aae02_14 kc_t_14_4 ?_
  rw [hQ]
  exact W.zret (v := 1) hx hb hr rfl (fun t ht hW => ⟨1, rfl, rfl, ht⟩) (fun _ h => nomatch h) dJ0_isLatin1_aae02_18

theorem dJ0_coder_7d493_0 : decode cJ0_coder_7d493 0 = .ok (.getstatic 38, 3) := kDs2 kf_178 (by decide +kernel)
theorem dJ0_coder_7d493_3 : decode cJ0_coder_7d493 3 = .ok (.ifCond .eq 10, 3) := kDs4 kf_153 (by decide +kernel)
theorem dJ0_coder_7d493_6 : decode cJ0_coder_7d493 6 = .ok (.aload_n 0, 1) := kDs0 kf_42 (by decide +kernel)
theorem dJ0_coder_7d493_7 : decode cJ0_coder_7d493 7 = .ok (.getfield 15, 3) := kDs2 kf_180 (by decide +kernel)
theorem dJ0_coder_7d493_10 : decode cJ0_coder_7d493 10 = .ok (.goto 4, 3) := kDs4 kf_167 (by decide +kernel)
theorem dJ0_coder_7d493_14 : decode cJ0_coder_7d493 14 = .ok (.ireturn, 1) := kDs0 kf_172 (by decide +kernel)
def w_s_t_coder : List Cond := .code yJ0_coder_7d493 cJ0_coder_7d493 1 (some .byte) :: ([.fieldLink RJ0 38 "java/lang/String" "COMPACT_STRINGS" "Z", .fieldLink RJ0 15 "java/lang/String" "coder" "B"] ++ [])
theorem gw_s_t_coder : (w_s_t_coder).all goodWord = true := kGc rfl (kGa (by decide +kernel) kGn)
theorem hd_J0_coder_7d493 : yJ0_coder_7d493.cls ≠ "java/lang/invoke/MethodHandle" ∧ yJ0_coder_7d493.cls ≠ "java/lang/invoke/VarHandle" ∧ (parseMethodDescriptor yJ0_coder_7d493.desc).map (fun d => d.parameters.length) = some 0 := by decide +kernel
set_option maxHeartbeats 4000000 in
set_option maxRecDepth 100000 in
theorem s_t_coder (l : Launch) (dC : Nat → ClassId) (dI : Nat → Nat → Nat) (q : Nat) (b : Nat) (n : Nat) (g : Nat → Int32) (hn : n ≤ 8) (A : Nat → Prop) : Met l yJ0_coder_7d493 w_s_t_coder ({ frames := 1, cells := 0, slots := 0, locals := 60 }) (kR dC dI [.ref q] [] [] (kSt q b n g A)) (vp_Si (fun r : Int32 => r = 0)) 0 0 (fun _ => False) := by
  refine Met.ofW (cc := cJ0_coder_7d493) (maxL := 1) (ret := (some .byte)) (by decide) rfl ?_
  intro p e s m args below meth c s₁ B hml hv
  obtain ⟨rfl, hP, hK, hX⟩ := hv
  have hx := B.exec
  have hb := B.bytes
  have hr := B.returns
  have hts := atoms_spec (ws := w_s_t_coder) B.pre
  have hown : s.vm.findClass RJ0 = some m.cls := findClass_of_methodNamed B.named
  have hlocks := B.notSynchronized
  have hS : va_S A s.heap s.heap [] := va_S.rf
  have hP : va_P (dC, dI) vwCl [] s.heap := hP
  have hl := lv_entry ([.ref q]) (n := 1) (Nat.le_of_ble_eq_true rfl)
  rw [lg_entry_eq]
  generalize (lg_sl ([.ref q]) ++ List.replicate (1 - (lg_sl ([.ref q])).length) Slot.unset).toArray = ls at hl ⊢
  have hl : lv_has ls 1 [(0, .ref q)] := hl
  refine kQ (fun Q hQ => ?_)
  refine va_gets hx hb hX.2.2.2.2.1 hS hown (hts (.fieldLink RJ0 38 "java/lang/String" "COMPACT_STRINGS" "Z") (List.mem_cons_of_mem _ (List.mem_append_left _ (List.mem_of_getElem? (i := 0) rfl)))) (fun _ h9 => h9) dJ0_coder_7d493_0 ?_
  refine lv_if_eq (tgt := 13) hx hb dJ0_coder_7d493_3 kc_t_3_10 (fun c_1 => absurd c_1 (by decide)) (fun c_1 => ?_)
  refine lv_aload_n hx hb dJ0_coder_7d493_6 rfl (lv_at hl 0 rfl) ?_
  refine vk_getf hx hb hX.2.1 hS hown (hts (.fieldLink RJ0 15 "java/lang/String" "coder" "B") (List.mem_cons_of_mem _ (List.mem_append_left _ (List.mem_of_getElem? (i := 1) rfl)))) (fun _ h9 => h9) dJ0_coder_7d493_7 ?_
  refine lv_goto (tgt := 14) hx hb dJ0_coder_7d493_10 kc_t_10_4 ?_
  rw [hQ]
  exact W.zret (v := 0) hx hb hr rfl (fun t ht hW => ⟨0, rfl, rfl, ht⟩) (fun _ h => nomatch h) dJ0_coder_7d493_14

theorem dJ0_length_8abf5_0 : decode cJ0_length_8abf5 0 = .ok (.aload_n 0, 1) := kDs0 kf_42 (by decide +kernel)
theorem dJ0_length_8abf5_1 : decode cJ0_length_8abf5 1 = .ok (.getfield 9, 3) := kDs2 kf_180 (by decide +kernel)
theorem dJ0_length_8abf5_4 : decode cJ0_length_8abf5 4 = .ok (.arraylength, 1) := kDs0 kf_190 (by decide +kernel)
theorem dJ0_length_8abf5_5 : decode cJ0_length_8abf5 5 = .ok (.aload_n 0, 1) := kDs0 kf_42 (by decide +kernel)
theorem dJ0_length_8abf5_6 : decode cJ0_length_8abf5 6 = .ok (.invokevirtual 335, 3) := kDs2 kf_182 (by decide +kernel)
theorem dJ0_length_8abf5_9 : decode cJ0_length_8abf5 9 = .ok (.ishr, 1) := kDs0 kf_122 (by decide +kernel)
theorem dJ0_length_8abf5_10 : decode cJ0_length_8abf5 10 = .ok (.ireturn, 1) := kDs0 kf_172 (by decide +kernel)
def w_s_t_length : List Cond := .code yJ0_length_8abf5 cJ0_length_8abf5 1 (some .int) :: ([.fieldLink RJ0 9 "java/lang/String" "value" "[B", .initialized RJ0, .selects RJ0 yJ0_coder_7d493 yJ0_coder_7d493, .instanceMethod yJ0_coder_7d493, .methodLink RJ0 335 yJ0_coder_7d493] ++ (w_s_t_coder))
theorem gw_s_t_length : (w_s_t_length).all goodWord = true := kGc rfl (kGa (by decide +kernel) gw_s_t_coder)
theorem hd_J0_length_8abf5 : yJ0_length_8abf5.cls ≠ "java/lang/invoke/MethodHandle" ∧ yJ0_length_8abf5.cls ≠ "java/lang/invoke/VarHandle" ∧ (parseMethodDescriptor yJ0_length_8abf5.desc).map (fun d => d.parameters.length) = some 0 := by decide +kernel
set_option maxHeartbeats 4000000 in
set_option maxRecDepth 100000 in
theorem s_t_length (l : Launch) (dC : Nat → ClassId) (dI : Nat → Nat → Nat) (q : Nat) (b : Nat) (n : Nat) (g : Nat → Int32) (hn : n ≤ 8) (A : Nat → Prop) : Met l yJ0_length_8abf5 w_s_t_length ({ frames := 2, cells := 0, slots := 0, locals := 120 }) (kR dC dI [.ref q] [] [] (kSt q b n g A)) (vp_Si (fun r : Int32 => r = nI n)) 0 0 (fun _ => False) := by
  refine Met.ofW (cc := cJ0_length_8abf5) (maxL := 1) (ret := (some .int)) (by decide) rfl ?_
  intro p e s m args below meth c s₁ B hml hv
  obtain ⟨rfl, hP, hK, hX⟩ := hv
  have hx := B.exec
  have hb := B.bytes
  have hr := B.returns
  have hts := atoms_spec (ws := w_s_t_length) B.pre
  have hown : s.vm.findClass RJ0 = some m.cls := findClass_of_methodNamed B.named
  have hlocks := B.notSynchronized
  have hS : va_S A s.heap s.heap [] := va_S.rf
  have hP : va_P (dC, dI) vwCl [] s.heap := hP
  have hl := lv_entry ([.ref q]) (n := 1) (Nat.le_of_ble_eq_true rfl)
  rw [lg_entry_eq]
  generalize (lg_sl ([.ref q]) ++ List.replicate (1 - (lg_sl ([.ref q])).length) Slot.unset).toArray = ls at hl ⊢
  have hl : lv_has ls 1 [(0, .ref q)] := hl
  refine kQ (fun Q hQ => ?_)
  refine lv_aload_n hx hb dJ0_length_8abf5_0 rfl (lv_at hl 0 rfl) ?_
  refine vk_getf hx hb hX.2.2.1 hS hown (hts (.fieldLink RJ0 9 "java/lang/String" "value" "[B") (List.mem_cons_of_mem _ (List.mem_append_left _ (List.mem_of_getElem? (i := 0) rfl)))) (fun _ h9 => h9) dJ0_length_8abf5_1 ?_
  refine va_tlen hx hb hX.2.2.2.1 hS (v := nI (n)) rfl dJ0_length_8abf5_4 ?_
  refine lv_aload_n hx hb dJ0_length_8abf5_5 rfl (lv_at hl 0 rfl) ?_
  have hPc := hP.sb (ws2 := []) [] rfl
  have hKc := hK.sb (tys2 := []) [] rfl
  refine vp_callSi (va_runV (As := []) (rest := [.int (nI (n))]) ⟨hx, hb, hml, hown, hts⟩ (s_t_coder l dC dI q b n g hn A) (cwV 0 hts (kG (List.forall_mem_cons.mpr ⟨(List.mem_cons_of_mem _ (List.mem_append_left _ (List.mem_of_getElem? (i := 4) rfl))), (List.forall_mem_cons.mpr ⟨(List.mem_cons_of_mem _ (List.mem_append_left _ (List.mem_of_getElem? (i := 3) rfl))), (List.forall_mem_cons.mpr ⟨(List.mem_cons_of_mem _ (List.mem_append_left _ (List.mem_of_getElem? (i := 2) rfl))), (List.forall_mem_cons.mpr ⟨(List.mem_cons_of_mem _ (List.mem_append_left _ (List.mem_of_getElem? (i := 1) rfl))), (fun _ h => absurd h List.not_mem_nil)⟩)⟩)⟩)⟩) (kGV _ _ _ _) (fun _ h => List.mem_cons_of_mem _ (List.mem_append_right _ h)) gw_s_t_coder) rfl rfl rfl ⟨rfl, hd_J0_coder_7d493⟩ ⟨(Nat.le_of_ble_eq_true rfl), (Nat.le_of_ble_eq_true rfl)⟩) (kR_V kSt_blind (kSt_give hX hS) (kSt_recv hX hS) hPc hKc) rfl rfl hl.1 rfl (lv_room (Nat.le_of_ble_eq_true rfl)) dJ0_length_8abf5_6 ⟨(Nat.le_of_ble_eq_true rfl), (Nat.le_of_ble_eq_true rfl)⟩).run (fun r_1 hw => ?_)
  obtain rfl : r_1 = 0 := hw
  refine lv_ishr hx hb dJ0_length_8abf5_9 ?_
  refine lv_topi (fun y_2 ey_2 => ?_)
  obtain rfl : y_2 = nI (n) := ey_2.trans (sc_shr0 (by omega))
  rw [hQ]
  exact W.iret (v := nI (n)) hx hb hr (fun t ht hW => ⟨nI (n), rfl, rfl, ht⟩) (fun _ h => nomatch h) dJ0_length_8abf5_10

theorem dJ1_indexOfChar_4cfef_0 : decode cJ1_indexOfChar_4cfef 0 = .ok (.iload_n 1, 1) := kDs0 kf_27 (by decide +kernel)
theorem dJ1_indexOfChar_4cfef_1 : decode cJ1_indexOfChar_4cfef 1 = .ok (.i2b, 1) := kDs0 kf_145 (by decide +kernel)
theorem dJ1_indexOfChar_4cfef_2 : decode cJ1_indexOfChar_4cfef 2 = .ok (.istore 4, 2) := kDs1 kf_54 (by decide +kernel)
theorem dJ1_indexOfChar_4cfef_4 : decode cJ1_indexOfChar_4cfef 4 = .ok (.iload_n 2, 1) := kDs0 kf_28 (by decide +kernel)
theorem dJ1_indexOfChar_4cfef_5 : decode cJ1_indexOfChar_4cfef 5 = .ok (.istore 5, 2) := kDs1 kf_54 (by decide +kernel)
theorem dJ1_indexOfChar_4cfef_7 : decode cJ1_indexOfChar_4cfef 7 = .ok (.iload 5, 2) := kDs1 kf_21 (by decide +kernel)
theorem dJ1_indexOfChar_4cfef_9 : decode cJ1_indexOfChar_4cfef 9 = .ok (.iload_n 3, 1) := kDs0 kf_29 (by decide +kernel)
theorem dJ1_indexOfChar_4cfef_10 : decode cJ1_indexOfChar_4cfef 10 = .ok (.if_icmp .ge 21, 3) := kDs4 kf_162 (by decide +kernel)
theorem dJ1_indexOfChar_4cfef_31 : decode cJ1_indexOfChar_4cfef 31 = .ok (.iconst (-1), 1) := kDs0 kf_2 (by decide +kernel)
theorem dJ1_indexOfChar_4cfef_32 : decode cJ1_indexOfChar_4cfef 32 = .ok (.ireturn, 1) := kDs0 kf_172 (by decide +kernel)
theorem dJ1_indexOfChar_4cfef_13 : decode cJ1_indexOfChar_4cfef 13 = .ok (.aload_n 0, 1) := kDs0 kf_42 (by decide +kernel)
theorem dJ1_indexOfChar_4cfef_14 : decode cJ1_indexOfChar_4cfef 14 = .ok (.iload 5, 2) := kDs1 kf_21 (by decide +kernel)
theorem dJ1_indexOfChar_4cfef_16 : decode cJ1_indexOfChar_4cfef 16 = .ok (.baload, 1) := kDs0 kf_51 (by decide +kernel)
theorem dJ1_indexOfChar_4cfef_17 : decode cJ1_indexOfChar_4cfef 17 = .ok (.iload 4, 2) := kDs1 kf_21 (by decide +kernel)
theorem dJ1_indexOfChar_4cfef_19 : decode cJ1_indexOfChar_4cfef 19 = .ok (.if_icmp .ne 6, 3) := kDs4 kf_160 (by decide +kernel)
theorem dJ1_indexOfChar_4cfef_25 : decode cJ1_indexOfChar_4cfef 25 = .ok (.iinc 5 1, 3) := kDs5 kf_132 (by decide +kernel)
theorem dJ1_indexOfChar_4cfef_28 : decode cJ1_indexOfChar_4cfef 28 = .ok (.goto (-21), 3) := kDs4 kf_167 (by decide +kernel)
theorem dJ1_indexOfChar_4cfef_22 : decode cJ1_indexOfChar_4cfef 22 = .ok (.iload 5, 2) := kDs1 kf_21 (by decide +kernel)
theorem dJ1_indexOfChar_4cfef_24 : decode cJ1_indexOfChar_4cfef 24 = .ok (.ireturn, 1) := kDs0 kf_172 (by decide +kernel)
def w_s_t_ixc : List Cond := .code yJ1_indexOfChar_4cfef cJ1_indexOfChar_4cfef 6 (some .int) :: ([])
theorem gw_s_t_ixc : (w_s_t_ixc).all goodWord = true := kGc rfl kGn
theorem hd_J1_indexOfChar_4cfef : yJ1_indexOfChar_4cfef.cls ≠ "java/lang/invoke/MethodHandle" ∧ yJ1_indexOfChar_4cfef.cls ≠ "java/lang/invoke/VarHandle" ∧ (parseMethodDescriptor yJ1_indexOfChar_4cfef.desc).map (fun d => d.parameters.length) = some 4 := by decide +kernel
set_option maxHeartbeats 4000000 in
set_option maxRecDepth 100000 in
theorem s_t_ixc (l : Launch) (dC : Nat → ClassId) (dI : Nat → Nat → Nat) (q : Nat) (b : Nat) (n : Nat) (g : Nat → Int32) (hn : n ≤ 8) (A : Nat → Prop) (p1 : Int32) : Met l yJ1_indexOfChar_4cfef w_s_t_ixc ({ frames := 1, cells := 0, slots := 0, locals := 60 }) (kR dC dI [.ref b, .int p1, .int 0, .int (nI (n))] [] [] (kSt q b n g A)) (vp_Si (fun r : Int32 => True)) 0 0 (fun _ => False) := by
  refine Met.ofW (cc := cJ1_indexOfChar_4cfef) (maxL := 6) (ret := (some .int)) (by decide) rfl ?_
  intro p e s m args below meth c s₁ B hml hv
  obtain ⟨rfl, hP, hK, hX⟩ := hv
  have hx := B.exec
  have hb := B.bytes
  have hr := B.returns
  have hts := atoms_spec (ws := w_s_t_ixc) B.pre
  have hown : s.vm.findClass RJ1 = some m.cls := findClass_of_methodNamed B.named
  have hlocks := B.notSynchronized
  have hS : va_S A s.heap s.heap [] := va_S.rf
  have hP : va_P (dC, dI) vwCl [] s.heap := hP
  have hl := lv_entry ([.ref b, .int p1, .int 0, .int (nI (n))]) (n := 6) (Nat.le_of_ble_eq_true rfl)
  rw [lg_entry_eq]
  generalize (lg_sl ([.ref b, .int p1, .int 0, .int (nI (n))]) ++ List.replicate (6 - (lg_sl ([.ref b, .int p1, .int 0, .int (nI (n))])).length) Slot.unset).toArray = ls at hl ⊢
  have hl : lv_has ls 6 [(0, .ref b), (1, .int p1), (2, .int 0), (3, .int (nI (n)))] := hl
  refine kQ (fun Q hQ => ?_)
  refine lv_iload_n hx hb dJ1_indexOfChar_4cfef_0 rfl (lv_at hl 1 rfl) ?_
  obtain ⟨x_1, ex_1⟩ : ∃ z : Int32, z = (Int32.toInt8 p1).toInt32 := ⟨_, rfl⟩
  refine lv_i2b (v := x_1) hx hb dJ1_indexOfChar_4cfef_1 ex_1.symm ?_
  refine lv_istore hx hb dJ1_indexOfChar_4cfef_2 hl kc_l_4_6 (kTo [(4, .int x_1), (0, .ref b), (1, .int p1), (2, .int 0), (3, .int (nI (n)))]) (fun ls hl => ?_)
  refine lv_iload_n hx hb dJ1_indexOfChar_4cfef_4 rfl (lv_at hl 3 rfl) ?_
  refine lv_istore hx hb dJ1_indexOfChar_4cfef_5 hl kc_l_5_6 (kTo [(5, .int 0), (4, .int x_1), (0, .ref b), (1, .int p1), (2, .int 0), (3, .int (nI (n)))]) (fun ls hl => ?_)
  have lp_k_2 : ∀ (n9 : Nat) (i : Nat) (ivk_2_0 : i ≤ n) (ls : Array Slot) (_ : lv_has ls 6 [(5, .int (nI (i))), (4, .int x_1), (0, .ref b), (1, .int p1), (2, .int 0), (3, .int (nI (n)))]) (_ : n - i < n9), W p l e (headSpec w_s_t_ixc ({ frames := 1, cells := 0, slots := 0, locals := 60 })).room s m (#[.ref b, .int p1, .int 0, .int (nI (n))] : Array Value) below meth c s.heap [] 0 0 Q (F0 m 7 ls []) := by
    intro n9
    induction n9 with
    | zero => intro i ivk_2_0 ls hl hm9; exact absurd hm9 (Nat.not_lt_zero _)
    | succ n9 ih_k_2 =>
      intro i ivk_2_0 ls hl hm9
      refine lv_iload hx hb dJ1_indexOfChar_4cfef_7 (lv_at hl 0 rfl) ?_
      refine lv_iload_n hx hb dJ1_indexOfChar_4cfef_9 rfl (lv_at hl 5 rfl) ?_
      refine lv_icmp_ge (tgt := 31) hx hb dJ1_indexOfChar_4cfef_10 kc_t_10_21 (fun c_3 => ?_) (fun c_3 => ?_)
      · have bd_5 : n < 2147483648 := by omega
        have bd_6 : i < 2147483648 := by omega
        have hn_4 := kle (a := n) (b := i) bd_5 bd_6 c_3
        refine lv_iconst (v := (-1)) hx hb dJ1_indexOfChar_4cfef_31 kc_i_m1 ?_
        rw [hQ]
        exact W.iret (v := (-1)) hx hb hr (fun t ht hW => ⟨(-1), rfl, trivial, ht⟩) (fun _ h => nomatch h) dJ1_indexOfChar_4cfef_32
      · have bd_8 : n < 2147483648 := by omega
        have bd_9 : i < 2147483648 := by omega
        have hn_7 := knle (a := n) (b := i) bd_8 bd_9 c_3
        refine lv_aload_n hx hb dJ1_indexOfChar_4cfef_13 rfl (lv_at hl 2 rfl) ?_
        refine lv_iload hx hb dJ1_indexOfChar_4cfef_14 (lv_at hl 0 rfl) ?_
        refine va_tb hx hb hX.2.2.2.1 hS (vp_in_nI (n := i) (N := n) (by omega) (by omega)) (v := .int (g (Int32.toNatClampNeg (nI (i))))) rfl dJ1_indexOfChar_4cfef_16 ?_
        refine lv_topi (fun x_10 ex_10 => ?_)
        refine lv_iload hx hb dJ1_indexOfChar_4cfef_17 (lv_at hl 1 rfl) ?_
        refine lv_icmp_ne (tgt := 25) hx hb dJ1_indexOfChar_4cfef_19 kc_t_19_6 (fun c_11 => ?_) (fun c_11 => ?_)
        · refine lv_iinc (v := nI (i + 1)) hx hb dJ1_indexOfChar_4cfef_25 hl (k := 0) rfl (kInc _ 1) kc_l_5_6 (kTo [(5, .int (nI (i + 1))), (4, .int x_1), (0, .ref b), (1, .int p1), (2, .int 0), (3, .int (nI (n)))]) (fun ls hl => ?_)
          refine lv_goto (tgt := 7) hx hb dJ1_indexOfChar_4cfef_28 kc_t_28_m21 ?_
          exact ih_k_2 (i + 1) (by omega) ls (lv_sub hl [0, 1, 2, 3, 4, 5] rfl) (by omega)
        · refine lv_iload hx hb dJ1_indexOfChar_4cfef_22 (lv_at hl 0 rfl) ?_
          rw [hQ]
          exact W.iret (v := nI (i)) hx hb hr (fun t ht hW => ⟨nI (i), rfl, trivial, ht⟩) (fun _ h => nomatch h) dJ1_indexOfChar_4cfef_24
  exact lp_k_2 (n - 0 + 1) 0 (by omega) ls (lv_sub hl [0, 1, 2, 3, 4, 5] rfl) (by omega)

theorem dJ1_canEncode_9a6ad_0 : decode cJ1_canEncode_9a6ad 0 = .ok (.iload_n 0, 1) := kDs0 kf_26 (by decide +kernel)
theorem dJ1_canEncode_9a6ad_1 : decode cJ1_canEncode_9a6ad 1 = .ok (.ifCond .lt 14, 3) := kDs4 kf_155 (by decide +kernel)
theorem dJ1_canEncode_9a6ad_15 : decode cJ1_canEncode_9a6ad 15 = .ok (.iconst 0, 1) := kDs0 kf_3 (by decide +kernel)
theorem dJ1_canEncode_9a6ad_16 : decode cJ1_canEncode_9a6ad 16 = .ok (.ireturn, 1) := kDs0 kf_172 (by decide +kernel)
theorem dJ1_canEncode_9a6ad_4 : decode cJ1_canEncode_9a6ad 4 = .ok (.iload_n 0, 1) := kDs0 kf_26 (by decide +kernel)
theorem dJ1_canEncode_9a6ad_5 : decode cJ1_canEncode_9a6ad 5 = .ok (.sipush 255, 3) := kDs4 kf_17 (by decide +kernel)
theorem dJ1_canEncode_9a6ad_8 : decode cJ1_canEncode_9a6ad 8 = .ok (.if_icmp .gt 7, 3) := kDs4 kf_163 (by decide +kernel)
theorem dJ1_canEncode_9a6ad_11 : decode cJ1_canEncode_9a6ad 11 = .ok (.iconst 1, 1) := kDs0 kf_4 (by decide +kernel)
theorem dJ1_canEncode_9a6ad_12 : decode cJ1_canEncode_9a6ad 12 = .ok (.goto 4, 3) := kDs4 kf_167 (by decide +kernel)
def w_s_can1 : List Cond := .code yJ1_canEncode_9a6ad cJ1_canEncode_9a6ad 1 (some .boolean) :: ([])
theorem gw_s_can1 : (w_s_can1).all goodWord = true := kGc rfl kGn
theorem hd_J1_canEncode_9a6ad : yJ1_canEncode_9a6ad.cls ≠ "java/lang/invoke/MethodHandle" ∧ yJ1_canEncode_9a6ad.cls ≠ "java/lang/invoke/VarHandle" ∧ (parseMethodDescriptor yJ1_canEncode_9a6ad.desc).map (fun d => d.parameters.length) = some 1 := by decide +kernel
set_option maxHeartbeats 4000000 in
set_option maxRecDepth 100000 in
theorem s_can1 (l : Launch) (dC : Nat → ClassId) (dI : Nat → Nat → Nat) (p0 : Int32) : Met l yJ1_canEncode_9a6ad w_s_can1 ({ frames := 1, cells := 0, slots := 0, locals := 60 }) (kR dC dI [.int p0] [] [] kT) (vp_Si (fun r : Int32 => (r = 0 ∨ r = 1))) 0 0 (fun _ => False) := by
  refine Met.ofW (cc := cJ1_canEncode_9a6ad) (maxL := 1) (ret := (some .boolean)) (by decide) rfl ?_
  intro p e s m args below meth c s₁ B hml hv
  obtain ⟨rfl, hP, hK, hX⟩ := hv
  have hx := B.exec
  have hb := B.bytes
  have hr := B.returns
  have hts := atoms_spec (ws := w_s_can1) B.pre
  have hown : s.vm.findClass RJ1 = some m.cls := findClass_of_methodNamed B.named
  have hlocks := B.notSynchronized
  have hP : va_P (dC, dI) vwCl [] s.heap := hP
  have hl := lv_entry ([.int p0]) (n := 1) (Nat.le_of_ble_eq_true rfl)
  rw [lg_entry_eq]
  generalize (lg_sl ([.int p0]) ++ List.replicate (1 - (lg_sl ([.int p0])).length) Slot.unset).toArray = ls at hl ⊢
  have hl : lv_has ls 1 [(0, .int p0)] := hl
  refine kQ (fun Q hQ => ?_)
  refine lv_iload_n hx hb dJ1_canEncode_9a6ad_0 rfl (lv_at hl 0 rfl) ?_
  refine lv_if_lt (tgt := 15) hx hb dJ1_canEncode_9a6ad_1 kc_t_1_14 (fun c_1 => ?_) (fun c_1 => ?_)
  · refine lv_iconst (v := 0) hx hb dJ1_canEncode_9a6ad_15 kc_i_0 ?_
    rw [hQ]
    exact W.zret (v := 0) hx hb hr rfl (fun t ht hW => ⟨0, rfl, (Or.inl rfl), ht⟩) (fun _ h => nomatch h) dJ1_canEncode_9a6ad_16
  · refine lv_iload_n hx hb dJ1_canEncode_9a6ad_4 rfl (lv_at hl 0 rfl) ?_
    refine lv_sipush (v := 255) hx hb dJ1_canEncode_9a6ad_5 kc_s_255 ?_
    refine lv_icmp_gt (tgt := 15) hx hb dJ1_canEncode_9a6ad_8 kc_t_8_7 (fun c_2 => ?_) (fun c_2 => ?_)
    · refine lv_iconst (v := 0) hx hb dJ1_canEncode_9a6ad_15 kc_i_0 ?_
      rw [hQ]
      exact W.zret (v := 0) hx hb hr rfl (fun t ht hW => ⟨0, rfl, (Or.inl rfl), ht⟩) (fun _ h => nomatch h) dJ1_canEncode_9a6ad_16
    · refine lv_iconst (v := 1) hx hb dJ1_canEncode_9a6ad_11 kc_i_1 ?_
      refine lv_goto (tgt := 16) hx hb dJ1_canEncode_9a6ad_12 kc_t_12_4 ?_
      rw [hQ]
      exact W.zret (v := 1) hx hb hr rfl (fun t ht hW => ⟨1, rfl, (Or.inr rfl), ht⟩) (fun _ h => nomatch h) dJ1_canEncode_9a6ad_16

theorem dJ1_indexOf_4cfef_0 : decode cJ1_indexOf_4cfef 0 = .ok (.iload_n 1, 1) := kDs0 kf_27 (by decide +kernel)
theorem dJ1_indexOf_4cfef_1 : decode cJ1_indexOf_4cfef 1 = .ok (.invokestatic 88, 3) := kDs2 kf_184 (by decide +kernel)
theorem dJ1_indexOf_4cfef_4 : decode cJ1_indexOf_4cfef 4 = .ok (.ifCond .ne 5, 3) := kDs4 kf_154 (by decide +kernel)
theorem dJ1_indexOf_4cfef_9 : decode cJ1_indexOf_4cfef 9 = .ok (.iload_n 2, 1) := kDs0 kf_28 (by decide +kernel)
theorem dJ1_indexOf_4cfef_10 : decode cJ1_indexOf_4cfef 10 = .ok (.iconst 0, 1) := kDs0 kf_3 (by decide +kernel)
theorem dJ1_indexOf_4cfef_11 : decode cJ1_indexOf_4cfef 11 = .ok (.invokestatic 92, 3) := kDs2 kf_184 (by decide +kernel)
theorem dJ1_indexOf_4cfef_14 : decode cJ1_indexOf_4cfef 14 = .ok (.istore_n 2, 1) := kDs0 kf_61 (by decide +kernel)
theorem dJ1_indexOf_4cfef_15 : decode cJ1_indexOf_4cfef 15 = .ok (.iload_n 3, 1) := kDs0 kf_29 (by decide +kernel)
theorem dJ1_indexOf_4cfef_16 : decode cJ1_indexOf_4cfef 16 = .ok (.aload_n 0, 1) := kDs0 kf_42 (by decide +kernel)
theorem dJ1_indexOf_4cfef_17 : decode cJ1_indexOf_4cfef 17 = .ok (.arraylength, 1) := kDs0 kf_190 (by decide +kernel)
theorem dJ1_indexOf_4cfef_18 : decode cJ1_indexOf_4cfef 18 = .ok (.invokestatic 38, 3) := kDs2 kf_184 (by decide +kernel)
theorem dJ1_indexOf_4cfef_21 : decode cJ1_indexOf_4cfef 21 = .ok (.istore_n 3, 1) := kDs0 kf_62 (by decide +kernel)
theorem dJ1_indexOf_4cfef_22 : decode cJ1_indexOf_4cfef 22 = .ok (.iload_n 2, 1) := kDs0 kf_28 (by decide +kernel)
theorem dJ1_indexOf_4cfef_23 : decode cJ1_indexOf_4cfef 23 = .ok (.iload_n 3, 1) := kDs0 kf_29 (by decide +kernel)
theorem dJ1_indexOf_4cfef_24 : decode cJ1_indexOf_4cfef 24 = .ok (.if_icmp .lt 5, 3) := kDs4 kf_161 (by decide +kernel)
theorem dJ1_indexOf_4cfef_29 : decode cJ1_indexOf_4cfef 29 = .ok (.aload_n 0, 1) := kDs0 kf_42 (by decide +kernel)
theorem dJ1_indexOf_4cfef_30 : decode cJ1_indexOf_4cfef 30 = .ok (.iload_n 1, 1) := kDs0 kf_27 (by decide +kernel)
theorem dJ1_indexOf_4cfef_31 : decode cJ1_indexOf_4cfef 31 = .ok (.iload_n 2, 1) := kDs0 kf_28 (by decide +kernel)
theorem dJ1_indexOf_4cfef_32 : decode cJ1_indexOf_4cfef 32 = .ok (.iload_n 3, 1) := kDs0 kf_29 (by decide +kernel)
theorem dJ1_indexOf_4cfef_33 : decode cJ1_indexOf_4cfef 33 = .ok (.invokestatic 95, 3) := kDs2 kf_184 (by decide +kernel)
theorem dJ1_indexOf_4cfef_36 : decode cJ1_indexOf_4cfef 36 = .ok (.ireturn, 1) := kDs0 kf_172 (by decide +kernel)
theorem dJ1_indexOf_4cfef_27 : decode cJ1_indexOf_4cfef 27 = .ok (.iconst (-1), 1) := kDs0 kf_2 (by decide +kernel)
theorem dJ1_indexOf_4cfef_28 : decode cJ1_indexOf_4cfef 28 = .ok (.ireturn, 1) := kDs0 kf_172 (by decide +kernel)
theorem dJ1_indexOf_4cfef_7 : decode cJ1_indexOf_4cfef 7 = .ok (.iconst (-1), 1) := kDs0 kf_2 (by decide +kernel)
theorem dJ1_indexOf_4cfef_8 : decode cJ1_indexOf_4cfef 8 = .ok (.ireturn, 1) := kDs0 kf_172 (by decide +kernel)
def w_s_t_ix1 : List Cond := .code yJ1_indexOf_4cfef cJ1_indexOf_4cfef 4 (some .int) :: ([.initialized RJ1, .static yJ1_canEncode_9a6ad, .methodLink RJ1 88 yJ1_canEncode_9a6ad, .methodLink RJ1 92 Lib.Math.max.name, .static Lib.Math.max.name, .initialized RJ9, .code Lib.Math.max.name Lib.Math.max.code 2 (some .int), .methodLink RJ1 38 Lib.Math.min.name, .static Lib.Math.min.name, .code Lib.Math.min.name Lib.Math.min.code 2 (some .int), .static yJ1_indexOfChar_4cfef, .methodLink RJ1 95 yJ1_indexOfChar_4cfef] ++ (w_s_can1 ++ (w_s_t_ixc)))
theorem gw_s_t_ix1 : (w_s_t_ix1).all goodWord = true := kGc rfl (kGa (by decide +kernel) (kGa gw_s_can1 gw_s_t_ixc))
theorem hd_J1_indexOf_4cfef : yJ1_indexOf_4cfef.cls ≠ "java/lang/invoke/MethodHandle" ∧ yJ1_indexOf_4cfef.cls ≠ "java/lang/invoke/VarHandle" ∧ (parseMethodDescriptor yJ1_indexOf_4cfef.desc).map (fun d => d.parameters.length) = some 4 := by decide +kernel
set_option maxHeartbeats 4000000 in
set_option maxRecDepth 100000 in
theorem s_t_ix1 (l : Launch) (dC : Nat → ClassId) (dI : Nat → Nat → Nat) (q : Nat) (b : Nat) (n : Nat) (g : Nat → Int32) (hn : n ≤ 8) (A : Nat → Prop) (p1 : Int32) : Met l yJ1_indexOf_4cfef w_s_t_ix1 ({ frames := 2, cells := 0, slots := 0, locals := 120 }) (kR dC dI [.ref b, .int p1, .int 0, .int (nI (n))] [] [] (kSt q b n g A)) (vp_Si (fun r : Int32 => True)) 0 0 (fun _ => False) := by
  refine Met.ofW (cc := cJ1_indexOf_4cfef) (maxL := 4) (ret := (some .int)) (by decide) rfl ?_
  intro p e s m args below meth c s₁ B hml hv
  obtain ⟨rfl, hP, hK, hX⟩ := hv
  have hx := B.exec
  have hb := B.bytes
  have hr := B.returns
  have hts := atoms_spec (ws := w_s_t_ix1) B.pre
  have hown : s.vm.findClass RJ1 = some m.cls := findClass_of_methodNamed B.named
  have hlocks := B.notSynchronized
  have hS : va_S A s.heap s.heap [] := va_S.rf
  have hP : va_P (dC, dI) vwCl [] s.heap := hP
  have hl := lv_entry ([.ref b, .int p1, .int 0, .int (nI (n))]) (n := 4) (Nat.le_of_ble_eq_true rfl)
  rw [lg_entry_eq]
  generalize (lg_sl ([.ref b, .int p1, .int 0, .int (nI (n))]) ++ List.replicate (4 - (lg_sl ([.ref b, .int p1, .int 0, .int (nI (n))])).length) Slot.unset).toArray = ls at hl ⊢
  have hl : lv_has ls 4 [(0, .ref b), (1, .int p1), (2, .int 0), (3, .int (nI (n)))] := hl
  refine kQ (fun Q hQ => ?_)
  refine lv_iload_n hx hb dJ1_indexOf_4cfef_0 rfl (lv_at hl 1 rfl) ?_
  have hPc := hP.sb (ws2 := []) [] rfl
  have hKc := hK.sb (tys2 := []) [] rfl
  refine vp_callSi (va_runS (As := [.int p1]) (rest := []) ⟨hx, hb, hml, hown, hts⟩ (s_can1 l dC dI p1) (va_cwS 1 hts (kG (List.forall_mem_cons.mpr ⟨(List.mem_cons_of_mem _ (List.mem_append_left _ (List.mem_of_getElem? (i := 2) rfl))), (List.forall_mem_cons.mpr ⟨(List.mem_cons_of_mem _ (List.mem_append_left _ (List.mem_of_getElem? (i := 1) rfl))), (List.forall_mem_cons.mpr ⟨(List.mem_cons_of_mem _ (List.mem_append_left _ (List.mem_of_getElem? (i := 0) rfl))), (fun _ h => absurd h List.not_mem_nil)⟩)⟩)⟩) (kGS _ _ _) (fun _ h => List.mem_cons_of_mem _ (List.mem_append_right _ (List.mem_append_left _ h))) gw_s_can1) rfl rfl rfl hd_J1_canEncode_9a6ad ⟨(Nat.le_of_ble_eq_true rfl), (Nat.le_of_ble_eq_true rfl)⟩) (kR_S kT_blind kT_give hPc hKc) rfl rfl hl.1 rfl (lv_room (Nat.le_of_ble_eq_true rfl)) dJ1_indexOf_4cfef_1 ⟨(Nat.le_of_ble_eq_true rfl), (Nat.le_of_ble_eq_true rfl)⟩).run (fun r_1 hw => ?_)
  have hw_2 := hw
  refine lv_if_ne (tgt := 9) hx hb dJ1_indexOf_4cfef_4 kc_t_4_5 (fun c_3 => ?_) (fun c_3 => ?_)
  · refine lv_iload_n hx hb dJ1_indexOf_4cfef_9 rfl (lv_at hl 2 rfl) ?_
    refine lv_iconst (v := 0) hx hb dJ1_indexOf_4cfef_10 kc_i_0 ?_
    refine va_mmax hx hb (hml.trans hl.1.symm) hown (hts (.methodLink RJ1 92 Lib.Math.max.name) (List.mem_cons_of_mem _ (List.mem_append_left _ (List.mem_of_getElem? (i := 3) rfl)))) (hts (.static Lib.Math.max.name) (List.mem_cons_of_mem _ (List.mem_append_left _ (List.mem_of_getElem? (i := 4) rfl)))) (hts (.initialized RJ9) (List.mem_cons_of_mem _ (List.mem_append_left _ (List.mem_of_getElem? (i := 5) rfl)))) (hts (.code Lib.Math.max.name Lib.Math.max.code 2 (some .int)) (List.mem_cons_of_mem _ (List.mem_append_left _ (List.mem_of_getElem? (i := 6) rfl)))) (Nat.le_of_ble_eq_true rfl) (Nat.le_of_ble_eq_true rfl) (Nat.le_of_ble_eq_true rfl) (Nat.le_of_ble_eq_true rfl) dJ1_indexOf_4cfef_11 ?_
    refine lv_topi (fun x_4 ex_4 => ?_)
    obtain rfl : x_4 = 0 := ex_4.trans (by decide)
    refine lv_istore_n hx hb dJ1_indexOf_4cfef_14 rfl hl kc_l_2_4 (kTo [(2, .int 0), (0, .ref b), (1, .int p1), (3, .int (nI (n)))]) (fun ls hl => ?_)
    refine lv_iload_n hx hb dJ1_indexOf_4cfef_15 rfl (lv_at hl 3 rfl) ?_
    refine lv_aload_n hx hb dJ1_indexOf_4cfef_16 rfl (lv_at hl 1 rfl) ?_
    refine va_tlen hx hb hX.2.2.2.1 hS (v := nI (n)) rfl dJ1_indexOf_4cfef_17 ?_
    refine va_mmin hx hb (hml.trans hl.1.symm) hown (hts (.methodLink RJ1 38 Lib.Math.min.name) (List.mem_cons_of_mem _ (List.mem_append_left _ (List.mem_of_getElem? (i := 7) rfl)))) (hts (.static Lib.Math.min.name) (List.mem_cons_of_mem _ (List.mem_append_left _ (List.mem_of_getElem? (i := 8) rfl)))) (hts (.initialized RJ9) (List.mem_cons_of_mem _ (List.mem_append_left _ (List.mem_of_getElem? (i := 5) rfl)))) (hts (.code Lib.Math.min.name Lib.Math.min.code 2 (some .int)) (List.mem_cons_of_mem _ (List.mem_append_left _ (List.mem_of_getElem? (i := 9) rfl)))) (Nat.le_of_ble_eq_true rfl) (Nat.le_of_ble_eq_true rfl) (Nat.le_of_ble_eq_true rfl) (Nat.le_of_ble_eq_true rfl) dJ1_indexOf_4cfef_18 ?_
    refine lv_topi (fun x_5 ex_5 => ?_)
    obtain rfl : x_5 = nI (n) := ex_5.trans (by split <;> rfl)
    refine lv_istore_n hx hb dJ1_indexOf_4cfef_21 rfl hl kc_l_3_4 (kTo [(3, .int (nI (n))), (2, .int 0), (0, .ref b), (1, .int p1)]) (fun ls hl => ?_)
    refine lv_iload_n hx hb dJ1_indexOf_4cfef_22 rfl (lv_at hl 1 rfl) ?_
    refine lv_iload_n hx hb dJ1_indexOf_4cfef_23 rfl (lv_at hl 0 rfl) ?_
    refine lv_icmp_lt (tgt := 29) hx hb dJ1_indexOf_4cfef_24 kc_t_24_5 (fun c_6 => ?_) (fun c_6 => ?_)
    · have bd_8 : n < 2147483648 := by omega
      have hn_7 := klt (a := 0) (b := n) kc_31_0 bd_8 c_6
      refine lv_aload_n hx hb dJ1_indexOf_4cfef_29 rfl (lv_at hl 2 rfl) ?_
      refine lv_iload_n hx hb dJ1_indexOf_4cfef_30 rfl (lv_at hl 3 rfl) ?_
      refine lv_iload_n hx hb dJ1_indexOf_4cfef_31 rfl (lv_at hl 1 rfl) ?_
      refine lv_iload_n hx hb dJ1_indexOf_4cfef_32 rfl (lv_at hl 0 rfl) ?_
      have hPc := hP.sb (ws2 := []) [] rfl
      have hKc := hK.sb (tys2 := []) [] rfl
      refine vp_callSi (va_runS (As := [.ref b, .int p1, .int 0, .int (nI (n))]) (rest := []) ⟨hx, hb, hml, hown, hts⟩ (s_t_ixc l dC dI q b n g hn A p1) (va_cwS 4 hts (kG (List.forall_mem_cons.mpr ⟨(List.mem_cons_of_mem _ (List.mem_append_left _ (List.mem_of_getElem? (i := 11) rfl))), (List.forall_mem_cons.mpr ⟨(List.mem_cons_of_mem _ (List.mem_append_left _ (List.mem_of_getElem? (i := 10) rfl))), (List.forall_mem_cons.mpr ⟨(List.mem_cons_of_mem _ (List.mem_append_left _ (List.mem_of_getElem? (i := 0) rfl))), (fun _ h => absurd h List.not_mem_nil)⟩)⟩)⟩) (kGS _ _ _) (fun _ h => List.mem_cons_of_mem _ (List.mem_append_right _ (List.mem_append_right _ h))) gw_s_t_ixc) rfl rfl rfl hd_J1_indexOfChar_4cfef ⟨(Nat.le_of_ble_eq_true rfl), (Nat.le_of_ble_eq_true rfl)⟩) (kR_S kSt_blind (kSt_give hX hS) hPc hKc) rfl rfl hl.1 rfl (lv_room (Nat.le_of_ble_eq_true rfl)) dJ1_indexOf_4cfef_33 ⟨(Nat.le_of_ble_eq_true rfl), (Nat.le_of_ble_eq_true rfl)⟩).run (fun r_9 hw => ?_)
      rw [hQ]
      exact W.iret (v := r_9) hx hb hr (fun t ht hW => ⟨r_9, rfl, trivial, ht⟩) (fun _ h => nomatch h) dJ1_indexOf_4cfef_36
    · have bd_11 : n < 2147483648 := by omega
      have hn_10 := knlt (a := 0) (b := n) kc_31_0 bd_11 c_6
      refine lv_iconst (v := (-1)) hx hb dJ1_indexOf_4cfef_27 kc_i_m1 ?_
      rw [hQ]
      exact W.iret (v := (-1)) hx hb hr (fun t ht hW => ⟨(-1), rfl, trivial, ht⟩) (fun _ h => nomatch h) dJ1_indexOf_4cfef_28
  · refine lv_iconst (v := (-1)) hx hb dJ1_indexOf_4cfef_7 kc_i_m1 ?_
    rw [hQ]
    exact W.iret (v := (-1)) hx hb hr (fun t ht hW => ⟨(-1), rfl, trivial, ht⟩) (fun _ h => nomatch h) dJ1_indexOf_4cfef_8

theorem dJ0_indexOf_7cf53_0 : decode cJ0_indexOf_7cf53 0 = .ok (.aload_n 0, 1) := kDs0 kf_42 (by decide +kernel)
theorem dJ0_indexOf_7cf53_1 : decode cJ0_indexOf_7cf53 1 = .ok (.invokevirtual 492, 3) := kDs2 kf_182 (by decide +kernel)
theorem dJ0_indexOf_7cf53_4 : decode cJ0_indexOf_7cf53 4 = .ok (.ifCond .eq 19, 3) := kDs4 kf_153 (by decide +kernel)
theorem dJ0_indexOf_7cf53_7 : decode cJ0_indexOf_7cf53 7 = .ok (.aload_n 0, 1) := kDs0 kf_42 (by decide +kernel)
theorem dJ0_indexOf_7cf53_8 : decode cJ0_indexOf_7cf53 8 = .ok (.getfield 9, 3) := kDs2 kf_180 (by decide +kernel)
theorem dJ0_indexOf_7cf53_11 : decode cJ0_indexOf_7cf53 11 = .ok (.iload_n 1, 1) := kDs0 kf_27 (by decide +kernel)
theorem dJ0_indexOf_7cf53_12 : decode cJ0_indexOf_7cf53 12 = .ok (.iload_n 2, 1) := kDs0 kf_28 (by decide +kernel)
theorem dJ0_indexOf_7cf53_13 : decode cJ0_indexOf_7cf53 13 = .ok (.aload_n 0, 1) := kDs0 kf_42 (by decide +kernel)
theorem dJ0_indexOf_7cf53_14 : decode cJ0_indexOf_7cf53 14 = .ok (.invokevirtual 505, 3) := kDs2 kf_182 (by decide +kernel)
theorem dJ0_indexOf_7cf53_17 : decode cJ0_indexOf_7cf53 17 = .ok (.invokestatic 637, 3) := kDs2 kf_184 (by decide +kernel)
theorem dJ0_indexOf_7cf53_20 : decode cJ0_indexOf_7cf53 20 = .ok (.goto 16, 3) := kDs4 kf_167 (by decide +kernel)
theorem dJ0_indexOf_7cf53_36 : decode cJ0_indexOf_7cf53 36 = .ok (.ireturn, 1) := kDs0 kf_172 (by decide +kernel)
def w_s_t_ix2 : List Cond := .code yJ0_indexOf_7cf53 cJ0_indexOf_7cf53 3 (some .int) :: ([.initialized RJ0, .selects RJ0 yJ0_isLatin1_aae02 yJ0_isLatin1_aae02, .instanceMethod yJ0_isLatin1_aae02, .methodLink RJ0 492 yJ0_isLatin1_aae02, .fieldLink RJ0 9 "java/lang/String" "value" "[B", .selects RJ0 yJ0_length_8abf5 yJ0_length_8abf5, .instanceMethod yJ0_length_8abf5, .methodLink RJ0 505 yJ0_length_8abf5, .initialized RJ1, .static yJ1_indexOf_4cfef, .methodLink RJ0 637 yJ1_indexOf_4cfef] ++ (w_s_t_latin ++ (w_s_t_length ++ (w_s_t_ix1))))
theorem gw_s_t_ix2 : (w_s_t_ix2).all goodWord = true := kGc rfl (kGa (by decide +kernel) (kGa gw_s_t_latin (kGa gw_s_t_length gw_s_t_ix1)))
theorem hd_J0_indexOf_7cf53 : yJ0_indexOf_7cf53.cls ≠ "java/lang/invoke/MethodHandle" ∧ yJ0_indexOf_7cf53.cls ≠ "java/lang/invoke/VarHandle" ∧ (parseMethodDescriptor yJ0_indexOf_7cf53.desc).map (fun d => d.parameters.length) = some 2 := by decide +kernel
set_option maxHeartbeats 4000000 in
set_option maxRecDepth 100000 in
theorem s_t_ix2 (l : Launch) (dC : Nat → ClassId) (dI : Nat → Nat → Nat) (q : Nat) (b : Nat) (n : Nat) (g : Nat → Int32) (hn : n ≤ 8) (A : Nat → Prop) (p1 : Int32) : Met l yJ0_indexOf_7cf53 w_s_t_ix2 ({ frames := 3, cells := 0, slots := 0, locals := 180 }) (kR dC dI [.ref q, .int p1, .int 0] [] [] (kSt q b n g A)) (vp_Si (fun r : Int32 => True)) 0 0 (fun _ => False) := by
  refine Met.ofW (cc := cJ0_indexOf_7cf53) (maxL := 3) (ret := (some .int)) (by decide) rfl ?_
  intro p e s m args below meth c s₁ B hml hv
  obtain ⟨rfl, hP, hK, hX⟩ := hv
  have hx := B.exec
  have hb := B.bytes
  have hr := B.returns
  have hts := atoms_spec (ws := w_s_t_ix2) B.pre
  have hown : s.vm.findClass RJ0 = some m.cls := findClass_of_methodNamed B.named
  have hlocks := B.notSynchronized
  have hS : va_S A s.heap s.heap [] := va_S.rf
  have hP : va_P (dC, dI) vwCl [] s.heap := hP
  have hl := lv_entry ([.ref q, .int p1, .int 0]) (n := 3) (Nat.le_of_ble_eq_true rfl)
  rw [lg_entry_eq]
  generalize (lg_sl ([.ref q, .int p1, .int 0]) ++ List.replicate (3 - (lg_sl ([.ref q, .int p1, .int 0])).length) Slot.unset).toArray = ls at hl ⊢
  have hl : lv_has ls 3 [(0, .ref q), (1, .int p1), (2, .int 0)] := hl
  refine kQ (fun Q hQ => ?_)
  refine lv_aload_n hx hb dJ0_indexOf_7cf53_0 rfl (lv_at hl 0 rfl) ?_
  have hPc := hP.sb (ws2 := []) [] rfl
  have hKc := hK.sb (tys2 := []) [] rfl
  refine vp_callSi (va_runV (As := []) (rest := []) ⟨hx, hb, hml, hown, hts⟩ (s_t_latin l dC dI q b n g hn A) (cwV 0 hts (kG (List.forall_mem_cons.mpr ⟨(List.mem_cons_of_mem _ (List.mem_append_left _ (List.mem_of_getElem? (i := 3) rfl))), (List.forall_mem_cons.mpr ⟨(List.mem_cons_of_mem _ (List.mem_append_left _ (List.mem_of_getElem? (i := 2) rfl))), (List.forall_mem_cons.mpr ⟨(List.mem_cons_of_mem _ (List.mem_append_left _ (List.mem_of_getElem? (i := 1) rfl))), (List.forall_mem_cons.mpr ⟨(List.mem_cons_of_mem _ (List.mem_append_left _ (List.mem_of_getElem? (i := 0) rfl))), (fun _ h => absurd h List.not_mem_nil)⟩)⟩)⟩)⟩) (kGV _ _ _ _) (fun _ h => List.mem_cons_of_mem _ (List.mem_append_right _ (List.mem_append_left _ h))) gw_s_t_latin) rfl rfl rfl ⟨rfl, hd_J0_isLatin1_aae02⟩ ⟨(Nat.le_of_ble_eq_true rfl), (Nat.le_of_ble_eq_true rfl)⟩) (kR_V kSt_blind (kSt_give hX hS) (kSt_recv hX hS) hPc hKc) rfl rfl hl.1 rfl (lv_room (Nat.le_of_ble_eq_true rfl)) dJ0_indexOf_7cf53_1 ⟨(Nat.le_of_ble_eq_true rfl), (Nat.le_of_ble_eq_true rfl)⟩).run (fun r_1 hw => ?_)
  obtain rfl : r_1 = 1 := hw
  refine lv_if_eq (tgt := 23) hx hb dJ0_indexOf_7cf53_4 kc_t_4_19 (fun c_2 => absurd c_2 (by decide)) (fun c_2 => ?_)
  refine lv_aload_n hx hb dJ0_indexOf_7cf53_7 rfl (lv_at hl 0 rfl) ?_
  refine vk_getf hx hb hX.2.2.1 hS hown (hts (.fieldLink RJ0 9 "java/lang/String" "value" "[B") (List.mem_cons_of_mem _ (List.mem_append_left _ (List.mem_of_getElem? (i := 4) rfl)))) (fun _ h9 => h9) dJ0_indexOf_7cf53_8 ?_
  refine lv_iload_n hx hb dJ0_indexOf_7cf53_11 rfl (lv_at hl 1 rfl) ?_
  refine lv_iload_n hx hb dJ0_indexOf_7cf53_12 rfl (lv_at hl 2 rfl) ?_
  refine lv_aload_n hx hb dJ0_indexOf_7cf53_13 rfl (lv_at hl 0 rfl) ?_
  have hPc := hP.sb (ws2 := []) [] rfl
  have hKc := hK.sb (tys2 := []) [] rfl
  refine vp_callSi (va_runV (As := []) (rest := [.int 0, .int p1, .ref b]) ⟨hx, hb, hml, hown, hts⟩ (s_t_length l dC dI q b n g hn A) (cwV 0 hts (kG (List.forall_mem_cons.mpr ⟨(List.mem_cons_of_mem _ (List.mem_append_left _ (List.mem_of_getElem? (i := 7) rfl))), (List.forall_mem_cons.mpr ⟨(List.mem_cons_of_mem _ (List.mem_append_left _ (List.mem_of_getElem? (i := 6) rfl))), (List.forall_mem_cons.mpr ⟨(List.mem_cons_of_mem _ (List.mem_append_left _ (List.mem_of_getElem? (i := 5) rfl))), (List.forall_mem_cons.mpr ⟨(List.mem_cons_of_mem _ (List.mem_append_left _ (List.mem_of_getElem? (i := 0) rfl))), (fun _ h => absurd h List.not_mem_nil)⟩)⟩)⟩)⟩) (kGV _ _ _ _) (fun _ h => List.mem_cons_of_mem _ (List.mem_append_right _ (List.mem_append_right _ (List.mem_append_left _ h)))) gw_s_t_length) rfl rfl rfl ⟨rfl, hd_J0_length_8abf5⟩ ⟨(Nat.le_of_ble_eq_true rfl), (Nat.le_of_ble_eq_true rfl)⟩) (kR_V kSt_blind (kSt_give hX hS) (kSt_recv hX hS) hPc hKc) rfl rfl hl.1 rfl (lv_room (Nat.le_of_ble_eq_true rfl)) dJ0_indexOf_7cf53_14 ⟨(Nat.le_of_ble_eq_true rfl), (Nat.le_of_ble_eq_true rfl)⟩).run (fun r_3 hw => ?_)
  obtain rfl : r_3 = nI (n) := hw
  have hPc := hP.sb (ws2 := []) [] rfl
  have hKc := hK.sb (tys2 := []) [] rfl
  refine vp_callSi (va_runS (As := [.ref b, .int p1, .int 0, .int (nI (n))]) (rest := []) ⟨hx, hb, hml, hown, hts⟩ (s_t_ix1 l dC dI q b n g hn A p1) (va_cwS 4 hts (kG (List.forall_mem_cons.mpr ⟨(List.mem_cons_of_mem _ (List.mem_append_left _ (List.mem_of_getElem? (i := 10) rfl))), (List.forall_mem_cons.mpr ⟨(List.mem_cons_of_mem _ (List.mem_append_left _ (List.mem_of_getElem? (i := 9) rfl))), (List.forall_mem_cons.mpr ⟨(List.mem_cons_of_mem _ (List.mem_append_left _ (List.mem_of_getElem? (i := 8) rfl))), (fun _ h => absurd h List.not_mem_nil)⟩)⟩)⟩) (kGS _ _ _) (fun _ h => List.mem_cons_of_mem _ (List.mem_append_right _ (List.mem_append_right _ (List.mem_append_right _ h)))) gw_s_t_ix1) rfl rfl rfl hd_J1_indexOf_4cfef ⟨(Nat.le_of_ble_eq_true rfl), (Nat.le_of_ble_eq_true rfl)⟩) (kR_S kSt_blind (kSt_give hX hS) hPc hKc) rfl rfl hl.1 rfl (lv_room (Nat.le_of_ble_eq_true rfl)) dJ0_indexOf_7cf53_17 ⟨(Nat.le_of_ble_eq_true rfl), (Nat.le_of_ble_eq_true rfl)⟩).run (fun r_4 hw => ?_)
  refine lv_goto (tgt := 36) hx hb dJ0_indexOf_7cf53_20 kc_t_20_16 ?_
  rw [hQ]
  exact W.iret (v := r_4) hx hb hr (fun t ht hW => ⟨r_4, rfl, trivial, ht⟩) (fun _ h => nomatch h) dJ0_indexOf_7cf53_36

theorem dJ0_indexOf_0f7a4_0 : decode cJ0_indexOf_0f7a4 0 = .ok (.aload_n 0, 1) := kDs0 kf_42 (by decide +kernel)
theorem dJ0_indexOf_0f7a4_1 : decode cJ0_indexOf_0f7a4 1 = .ok (.iload_n 1, 1) := kDs0 kf_27 (by decide +kernel)
theorem dJ0_indexOf_0f7a4_2 : decode cJ0_indexOf_0f7a4 2 = .ok (.iconst 0, 1) := kDs0 kf_3 (by decide +kernel)
theorem dJ0_indexOf_0f7a4_3 : decode cJ0_indexOf_0f7a4 3 = .ok (.invokevirtual 633, 3) := kDs2 kf_182 (by decide +kernel)
theorem dJ0_indexOf_0f7a4_6 : decode cJ0_indexOf_0f7a4 6 = .ok (.ireturn, 1) := kDs0 kf_172 (by decide +kernel)
def w_s_t_ix : List Cond := .code yJ0_indexOf_0f7a4 cJ0_indexOf_0f7a4 2 (some .int) :: ([.initialized RJ0, .selects RJ0 yJ0_indexOf_7cf53 yJ0_indexOf_7cf53, .instanceMethod yJ0_indexOf_7cf53, .methodLink RJ0 633 yJ0_indexOf_7cf53] ++ (w_s_t_ix2))
theorem gw_s_t_ix : (w_s_t_ix).all goodWord = true := kGc rfl (kGa (by decide +kernel) gw_s_t_ix2)
theorem hd_J0_indexOf_0f7a4 : yJ0_indexOf_0f7a4.cls ≠ "java/lang/invoke/MethodHandle" ∧ yJ0_indexOf_0f7a4.cls ≠ "java/lang/invoke/VarHandle" ∧ (parseMethodDescriptor yJ0_indexOf_0f7a4.desc).map (fun d => d.parameters.length) = some 1 := by decide +kernel
set_option maxHeartbeats 4000000 in
set_option maxRecDepth 100000 in
theorem s_t_ix (l : Launch) (dC : Nat → ClassId) (dI : Nat → Nat → Nat) (q : Nat) (b : Nat) (n : Nat) (g : Nat → Int32) (hn : n ≤ 8) (A : Nat → Prop) (p1 : Int32) : Met l yJ0_indexOf_0f7a4 w_s_t_ix ({ frames := 4, cells := 0, slots := 0, locals := 240 }) (kR dC dI [.ref q, .int p1] [] [] (kSt q b n g A)) (vp_Si (fun r : Int32 => True)) 0 0 (fun _ => False) := by
  refine Met.ofW (cc := cJ0_indexOf_0f7a4) (maxL := 2) (ret := (some .int)) (by decide) rfl ?_
  intro p e s m args below meth c s₁ B hml hv
  obtain ⟨rfl, hP, hK, hX⟩ := hv
  have hx := B.exec
  have hb := B.bytes
  have hr := B.returns
  have hts := atoms_spec (ws := w_s_t_ix) B.pre
  have hown : s.vm.findClass RJ0 = some m.cls := findClass_of_methodNamed B.named
  have hlocks := B.notSynchronized
  have hS : va_S A s.heap s.heap [] := va_S.rf
  have hP : va_P (dC, dI) vwCl [] s.heap := hP
  have hl := lv_entry ([.ref q, .int p1]) (n := 2) (Nat.le_of_ble_eq_true rfl)
  rw [lg_entry_eq]
  generalize (lg_sl ([.ref q, .int p1]) ++ List.replicate (2 - (lg_sl ([.ref q, .int p1])).length) Slot.unset).toArray = ls at hl ⊢
  have hl : lv_has ls 2 [(0, .ref q), (1, .int p1)] := hl
  refine kQ (fun Q hQ => ?_)
  refine lv_aload_n hx hb dJ0_indexOf_0f7a4_0 rfl (lv_at hl 0 rfl) ?_
  refine lv_iload_n hx hb dJ0_indexOf_0f7a4_1 rfl (lv_at hl 1 rfl) ?_
  refine lv_iconst (v := 0) hx hb dJ0_indexOf_0f7a4_2 kc_i_0 ?_
  have hPc := hP.sb (ws2 := []) [] rfl
  have hKc := hK.sb (tys2 := []) [] rfl
  refine vp_callSi (va_runV (As := [.int p1, .int 0]) (rest := []) ⟨hx, hb, hml, hown, hts⟩ (s_t_ix2 l dC dI q b n g hn A p1) (cwV 2 hts (kG (List.forall_mem_cons.mpr ⟨(List.mem_cons_of_mem _ (List.mem_append_left _ (List.mem_of_getElem? (i := 3) rfl))), (List.forall_mem_cons.mpr ⟨(List.mem_cons_of_mem _ (List.mem_append_left _ (List.mem_of_getElem? (i := 2) rfl))), (List.forall_mem_cons.mpr ⟨(List.mem_cons_of_mem _ (List.mem_append_left _ (List.mem_of_getElem? (i := 1) rfl))), (List.forall_mem_cons.mpr ⟨(List.mem_cons_of_mem _ (List.mem_append_left _ (List.mem_of_getElem? (i := 0) rfl))), (fun _ h => absurd h List.not_mem_nil)⟩)⟩)⟩)⟩) (kGV _ _ _ _) (fun _ h => List.mem_cons_of_mem _ (List.mem_append_right _ h)) gw_s_t_ix2) rfl rfl rfl ⟨rfl, hd_J0_indexOf_7cf53⟩ ⟨(Nat.le_of_ble_eq_true rfl), (Nat.le_of_ble_eq_true rfl)⟩) (kR_V kSt_blind (kSt_give hX hS) (kSt_recv hX hS) hPc hKc) rfl rfl hl.1 rfl (lv_room (Nat.le_of_ble_eq_true rfl)) dJ0_indexOf_0f7a4_3 ⟨(Nat.le_of_ble_eq_true rfl), (Nat.le_of_ble_eq_true rfl)⟩).run (fun r_1 hw => ?_)
  rw [hQ]
  exact W.iret (v := r_1) hx hb hr (fun t ht hW => ⟨r_1, rfl, trivial, ht⟩) (fun _ h => nomatch h) dJ0_indexOf_0f7a4_6
