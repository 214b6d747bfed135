theorem dX8_length_0 : decode cX8_length 0 = .ok (.aload_n 0, 1) := kDs0 kf_42 (by decide +kernel)
theorem dX8_length_1 : decode cX8_length 1 = .ok (.getfield 15, 3) := kDs2 kf_180 (by decide +kernel)
theorem dX8_length_4 : decode cX8_length 4 = .ok (.ireturn, 1) := kDs0 kf_172 (by decide +kernel)
def w_s_length8 : List Cond := .code yX8_length cX8_length 1 (some .int) :: ([.fieldLink RX8 15 "NotEnded$Tape" "length" "I"] ++ (wsX80))
theorem gw_s_length8 : (w_s_length8).all goodWord = true := kGc rfl (kGa (by decide +kernel) gw_wsX80)
theorem hd_X8_length : yX8_length.cls ≠ "java/lang/invoke/MethodHandle" ∧ yX8_length.cls ≠ "java/lang/invoke/VarHandle" ∧ (parseMethodDescriptor yX8_length.desc).map (fun d => d.parameters.length) = some 0 := by decide +kernel
set_option maxHeartbeats 4000000 in
set_option maxRecDepth 100000 in
theorem s_length8 (l : Launch) (dC : Nat → ClassId) (dI : Nat → Nat → Nat) (jT : Nat) (t0 : Nat) (cC : ClassId) (gT : Nat → Int32) (kt : Nat) (hkt : kt ≤ 120) (hgT : ∀ j : Nat, narrow .char (.int (gT j)) = .int (gT j)) : Met l yX8_length w_s_length8 ({ frames := 1, cells := 0, slots := 0, locals := 60 }) (kR dC dI [.ref jT] [(jT, .inr (8, [.ref t0, .int (nI (kt))])), (t0, .inl (cC, 120, .inl gT))] [(cC, .char)] kT) (vp_Si (fun r : Int32 => r = nI kt)) 0 0 (fun _ => False) := by
  refine Met.ofW (cc := cX8_length) (maxL := 1) (ret := (some .int)) (by decide) rfl ?_
  intro p e s m args below meth c s₁ B hml hv
  obtain ⟨rfl, hP, hK, hX⟩ := hv
  have hx := B.exec
  have hb := B.bytes
  have hr := B.returns
  have hts := atoms_spec (ws := w_s_length8) B.pre
  have hown : s.vm.findClass RX8 = some m.cls := findClass_of_methodNamed B.named
  have hlocks := B.notSynchronized
  have hP : va_P (dC, dI) vwCl [(jT, .inr (8, [.ref t0, .int (nI (kt))])), (t0, .inl (cC, 120, .inl gT))] s.heap := hP
  have hl := lv_entry ([.ref jT]) (n := 1) (Nat.le_of_ble_eq_true rfl)
  rw [lg_entry_eq]
  generalize (lg_sl ([.ref jT]) ++ List.replicate (1 - (lg_sl ([.ref jT])).length) Slot.unset).toArray = ls at hl ⊢
  have hl : lv_has ls 1 [(0, .ref jT)] := hl
  refine kQ (fun Q hQ => ?_)
  refine lv_aload_n hx hb dX8_length_0 rfl (lv_at hl 0 rfl) ?_
  refine va_get (D := (dC, dI)) (ci := 8) (v := .int (nI (kt))) (C := RX8) (T := TX8) (N := 2) hx hb hts (fun _ h => List.mem_cons_of_mem _ (List.mem_append_right _ h)) hown hK hP 0 rfl rfl 1 kc_l_1_2 (hts (.fieldLink RX8 15 "NotEnded$Tape" "length" "I") (List.mem_cons_of_mem _ (List.mem_append_left _ (List.mem_of_getElem? (i := 0) rfl)))) (fun _ h9 => h9) rfl dX8_length_1 ?_
  rw [hQ]
  exact W.iret (v := nI (kt)) hx hb hr (fun t ht hW => ⟨nI (kt), rfl, rfl, ht⟩) (fun _ h => nomatch h) dX8_length_4

theorem dX8_at_0 : decode cX8_at 0 = .ok (.iload_n 1, 1) := kDs0 kf_27 (by decide +kernel)
theorem dX8_at_1 : decode cX8_at 1 = .ok (.ifCond .lt 29, 3) := kDs4 kf_155 (by decide +kernel)
theorem dX8_at_30 : decode cX8_at 30 = .ok (.iconst 0, 1) := kDs0 kf_3 (by decide +kernel)
theorem dX8_at_31 : decode cX8_at 31 = .ok (.ireturn, 1) := kDs0 kf_172 (by decide +kernel)
theorem dX8_at_4 : decode cX8_at 4 = .ok (.iload_n 1, 1) := kDs0 kf_27 (by decide +kernel)
theorem dX8_at_5 : decode cX8_at 5 = .ok (.aload_n 0, 1) := kDs0 kf_42 (by decide +kernel)
theorem dX8_at_6 : decode cX8_at 6 = .ok (.getfield 15, 3) := kDs2 kf_180 (by decide +kernel)
theorem dX8_at_9 : decode cX8_at 9 = .ok (.if_icmp .ge 21, 3) := kDs4 kf_162 (by decide +kernel)
theorem dX8_at_12 : decode cX8_at 12 = .ok (.iload_n 1, 1) := kDs0 kf_27 (by decide +kernel)
theorem dX8_at_13 : decode cX8_at 13 = .ok (.aload_n 0, 1) := kDs0 kf_42 (by decide +kernel)
theorem dX8_at_14 : decode cX8_at 14 = .ok (.getfield 9, 3) := kDs2 kf_180 (by decide +kernel)
theorem dX8_at_17 : decode cX8_at 17 = .ok (.arraylength, 1) := kDs0 kf_190 (by decide +kernel)
theorem dX8_at_18 : decode cX8_at 18 = .ok (.if_icmp .ge 12, 3) := kDs4 kf_162 (by decide +kernel)
theorem dX8_at_21 : decode cX8_at 21 = .ok (.aload_n 0, 1) := kDs0 kf_42 (by decide +kernel)
theorem dX8_at_22 : decode cX8_at 22 = .ok (.getfield 9, 3) := kDs2 kf_180 (by decide +kernel)
theorem dX8_at_25 : decode cX8_at 25 = .ok (.iload_n 1, 1) := kDs0 kf_27 (by decide +kernel)
theorem dX8_at_26 : decode cX8_at 26 = .ok (.caload, 1) := kDs0 kf_52 (by decide +kernel)
theorem dX8_at_27 : decode cX8_at 27 = .ok (.goto 4, 3) := kDs4 kf_167 (by decide +kernel)
def w_s_at8 : List Cond := .code yX8_at cX8_at 2 (some .char) :: ([.fieldLink RX8 15 "NotEnded$Tape" "length" "I", .fieldLink RX8 9 "NotEnded$Tape" "signs" "[C"] ++ (wsX80))
theorem gw_s_at8 : (w_s_at8).all goodWord = true := kGc rfl (kGa (by decide +kernel) gw_wsX80)
theorem hd_X8_at : yX8_at.cls ≠ "java/lang/invoke/MethodHandle" ∧ yX8_at.cls ≠ "java/lang/invoke/VarHandle" ∧ (parseMethodDescriptor yX8_at.desc).map (fun d => d.parameters.length) = some 1 := by decide +kernel
set_option maxHeartbeats 4000000 in
set_option maxRecDepth 100000 in
theorem s_at8 (l : Launch) (dC : Nat → ClassId) (dI : Nat → Nat → Nat) (jT : Nat) (t0 : Nat) (cC : ClassId) (gT : Nat → Int32) (kt : Nat) (hkt : kt ≤ 120) (hgT : ∀ j : Nat, narrow .char (.int (gT j)) = .int (gT j)) (p0 : Int32) : Met l yX8_at w_s_at8 ({ frames := 1, cells := 0, slots := 0, locals := 60 }) (kR dC dI [.ref jT, .int p0] [(jT, .inr (8, [.ref t0, .int (nI (kt))])), (t0, .inl (cC, 120, .inl gT))] [(cC, .char)] kT) (vp_Si (fun r : Int32 => (narrow .char (.int r) = .int r))) 0 0 (fun _ => False) := by
  refine Met.ofW (cc := cX8_at) (maxL := 2) (ret := (some .char)) (by decide) rfl ?_
  intro p e s m args below meth c s₁ B hml hv
  obtain ⟨rfl, hP, hK, hX⟩ := hv
  have hx := B.exec
  have hb := B.bytes
  have hr := B.returns
  have hts := atoms_spec (ws := w_s_at8) B.pre
  have hown : s.vm.findClass RX8 = some m.cls := findClass_of_methodNamed B.named
  have hlocks := B.notSynchronized
  have hP : va_P (dC, dI) vwCl [(jT, .inr (8, [.ref t0, .int (nI (kt))])), (t0, .inl (cC, 120, .inl gT))] s.heap := hP
  have hl := lv_entry ([.ref jT, .int p0]) (n := 2) (Nat.le_of_ble_eq_true rfl)
  rw [lg_entry_eq]
  generalize (lg_sl ([.ref jT, .int p0]) ++ List.replicate (2 - (lg_sl ([.ref jT, .int p0])).length) Slot.unset).toArray = ls at hl ⊢
  have hl : lv_has ls 2 [(0, .ref jT), (1, .int p0)] := hl
  refine kQ (fun Q hQ => ?_)
  refine lv_iload_n hx hb dX8_at_0 rfl (lv_at hl 1 rfl) ?_
  refine lv_if_lt (tgt := 30) hx hb dX8_at_1 kc_t_1_29 (fun c_1 => ?_) (fun c_1 => ?_)
  · refine lv_iconst (v := 0) hx hb dX8_at_30 kc_i_0 ?_
    rw [hQ]
    exact W.zret (v := 0) hx hb hr rfl (fun t ht hW => ⟨0, rfl, rfl, ht⟩) (fun _ h => nomatch h) dX8_at_31
  · obtain ⟨j_2, hj_2, ej_2⟩ := nI_of c_1
    subst ej_2
    refine lv_iload_n hx hb dX8_at_4 rfl (lv_at hl 1 rfl) ?_
    refine lv_aload_n hx hb dX8_at_5 rfl (lv_at hl 0 rfl) ?_
    refine va_get (D := (dC, dI)) (ci := 8) (v := .int (nI (kt))) (C := RX8) (T := TX8) (N := 2) hx hb hts (fun _ h => List.mem_cons_of_mem _ (List.mem_append_right _ h)) hown hK hP 0 rfl rfl 1 kc_l_1_2 (hts (.fieldLink RX8 15 "NotEnded$Tape" "length" "I") (List.mem_cons_of_mem _ (List.mem_append_left _ (List.mem_of_getElem? (i := 0) rfl)))) (fun _ h9 => h9) rfl dX8_at_6 ?_
    refine lv_icmp_ge (tgt := 30) hx hb dX8_at_9 kc_t_9_21 (fun c_3 => ?_) (fun c_3 => ?_)
    · have bd_5 : kt < 2147483648 := by omega
      have bd_6 : j_2 < 2147483648 := by omega
      have hn_4 := kle (a := kt) (b := j_2) bd_5 bd_6 c_3
      refine lv_iconst (v := 0) hx hb dX8_at_30 kc_i_0 ?_
      rw [hQ]
      exact W.zret (v := 0) hx hb hr rfl (fun t ht hW => ⟨0, rfl, rfl, ht⟩) (fun _ h => nomatch h) dX8_at_31
    · have bd_8 : kt < 2147483648 := by omega
      have bd_9 : j_2 < 2147483648 := by omega
      have hn_7 := knle (a := kt) (b := j_2) bd_8 bd_9 c_3
      refine lv_iload_n hx hb dX8_at_12 rfl (lv_at hl 1 rfl) ?_
      refine lv_aload_n hx hb dX8_at_13 rfl (lv_at hl 0 rfl) ?_
      refine va_get (D := (dC, dI)) (ci := 8) (v := .ref t0) (C := RX8) (T := TX8) (N := 2) hx hb hts (fun _ h => List.mem_cons_of_mem _ (List.mem_append_right _ h)) hown hK hP 0 rfl rfl 0 kc_l_0_2 (hts (.fieldLink RX8 9 "NotEnded$Tape" "signs" "[C") (List.mem_cons_of_mem _ (List.mem_append_left _ (List.mem_of_getElem? (i := 1) rfl)))) (fun _ h9 => h9) rfl dX8_at_14 ?_
      refine va_alen hx hb hK hP 1 0 rfl rfl (v := 120) rfl dX8_at_17 ?_
      refine lv_icmp_ge (tgt := 30) hx hb dX8_at_18 kc_t_18_12 (fun c_10 => ?_) (fun c_10 => ?_)
      · have hn_11 := kle (a := 120) (b := j_2) kc_31_120 bd_9 c_10
        refine lv_iconst (v := 0) hx hb dX8_at_30 kc_i_0 ?_
        rw [hQ]
        exact W.zret (v := 0) hx hb hr rfl (fun t ht hW => ⟨0, rfl, rfl, ht⟩) (fun _ h => nomatch h) dX8_at_31
      · have hn_12 := knle (a := 120) (b := j_2) kc_31_120 bd_9 c_10
        refine lv_aload_n hx hb dX8_at_21 rfl (lv_at hl 0 rfl) ?_
        refine va_get (D := (dC, dI)) (ci := 8) (v := .ref t0) (C := RX8) (T := TX8) (N := 2) hx hb hts (fun _ h => List.mem_cons_of_mem _ (List.mem_append_right _ h)) hown hK hP 0 rfl rfl 0 kc_l_0_2 (hts (.fieldLink RX8 9 "NotEnded$Tape" "signs" "[C") (List.mem_cons_of_mem _ (List.mem_append_left _ (List.mem_of_getElem? (i := 1) rfl)))) (fun _ h9 => h9) rfl dX8_at_22 ?_
        refine lv_iload_n hx hb dX8_at_25 rfl (lv_at hl 1 rfl) ?_
        have bd_13 : j_2 < 120 := by omega
        refine va_cald hx hb hK hP 1 0 rfl rfl (vp_in_nI (n := j_2) (N := 120) bd_13 kc_31_120) dX8_at_26 ?_
        refine lv_topi (fun x_14 ex_14 => ?_)
        refine lv_goto (tgt := 31) hx hb dX8_at_27 kc_t_27_4 ?_
        rw [hQ]
        exact W.zret (v := x_14) hx hb hr (by rw [ex_14]; exact hgT _) (fun t ht hW => ⟨x_14, rfl, (by rw [ex_14]; exact hgT _), ht⟩) (fun _ h => nomatch h) dX8_at_31

theorem dX8_bytesIn_0 : decode cX8_bytesIn 0 = .ok (.iconst 0, 1) := kDs0 kf_3 (by decide +kernel)
theorem dX8_bytesIn_1 : decode cX8_bytesIn 1 = .ok (.istore_n 1, 1) := kDs0 kf_60 (by decide +kernel)
theorem dX8_bytesIn_2 : decode cX8_bytesIn 2 = .ok (.bipush 24, 2) := kDs3 kf_16 (by decide +kernel)
theorem dX8_bytesIn_4 : decode cX8_bytesIn 4 = .ok (.istore_n 2, 1) := kDs0 kf_61 (by decide +kernel)
theorem dX8_bytesIn_5 : decode cX8_bytesIn 5 = .ok (.iload_n 2, 1) := kDs0 kf_28 (by decide +kernel)
theorem dX8_bytesIn_6 : decode cX8_bytesIn 6 = .ok (.ifCond .lt 22, 3) := kDs4 kf_155 (by decide +kernel)
theorem dX8_bytesIn_9 : decode cX8_bytesIn 9 = .ok (.iload_n 0, 1) := kDs0 kf_26 (by decide +kernel)
theorem dX8_bytesIn_10 : decode cX8_bytesIn 10 = .ok (.iload_n 2, 1) := kDs0 kf_28 (by decide +kernel)
theorem dX8_bytesIn_11 : decode cX8_bytesIn 11 = .ok (.iushr, 1) := kDs0 kf_124 (by decide +kernel)
theorem dX8_bytesIn_12 : decode cX8_bytesIn 12 = .ok (.sipush 255, 3) := kDs4 kf_17 (by decide +kernel)
theorem dX8_bytesIn_15 : decode cX8_bytesIn 15 = .ok (.iand, 1) := kDs0 kf_126 (by decide +kernel)
theorem dX8_bytesIn_16 : decode cX8_bytesIn 16 = .ok (.ifCond .eq 6, 3) := kDs4 kf_153 (by decide +kernel)
theorem dX8_bytesIn_22 : decode cX8_bytesIn 22 = .ok (.iinc 2 (-8), 3) := kDs5 kf_132 (by decide +kernel)
theorem dX8_bytesIn_25 : decode cX8_bytesIn 25 = .ok (.goto (-20), 3) := kDs4 kf_167 (by decide +kernel)
theorem dX8_bytesIn_28 : decode cX8_bytesIn 28 = .ok (.iload_n 1, 1) := kDs0 kf_27 (by decide +kernel)
theorem dX8_bytesIn_29 : decode cX8_bytesIn 29 = .ok (.ireturn, 1) := kDs0 kf_172 (by decide +kernel)
theorem dX8_bytesIn_19 : decode cX8_bytesIn 19 = .ok (.iinc 1 1, 3) := kDs5 kf_132 (by decide +kernel)
def w_s_bytes8 : List Cond := .code yX8_bytesIn cX8_bytesIn 3 (some .int) :: ([])
theorem gw_s_bytes8 : (w_s_bytes8).all goodWord = true := kGc rfl kGn
theorem hd_X8_bytesIn : yX8_bytesIn.cls ≠ "java/lang/invoke/MethodHandle" ∧ yX8_bytesIn.cls ≠ "java/lang/invoke/VarHandle" ∧ (parseMethodDescriptor yX8_bytesIn.desc).map (fun d => d.parameters.length) = some 1 := by decide +kernel
set_option maxHeartbeats 4000000 in
set_option maxRecDepth 100000 in
theorem s_bytes8 (l : Launch) (dC : Nat → ClassId) (dI : Nat → Nat → Nat) (p0 : Int32) : Met l yX8_bytesIn w_s_bytes8 ({ frames := 1, cells := 0, slots := 0, locals := 60 }) (kR dC dI [.int p0] [] [] kT) (vp_Si (fun r : Int32 => True)) 0 0 (fun _ => False) := by
  refine Met.ofW (cc := cX8_bytesIn) (maxL := 3) (ret := (some .int)) (by decide) rfl ?_
  intro p e s m args below meth c s₁ B hml hv
  obtain ⟨rfl, hP, hK, hX⟩ := hv
  have hx := B.exec
  have hb := B.bytes
  have hr := B.returns
  have hts := atoms_spec (ws := w_s_bytes8) B.pre
  have hown : s.vm.findClass RX8 = some m.cls := findClass_of_methodNamed B.named
  have hlocks := B.notSynchronized
  have hP : va_P (dC, dI) vwCl [] s.heap := hP
  have hl := lv_entry ([.int p0]) (n := 3) (Nat.le_of_ble_eq_true rfl)
  rw [lg_entry_eq]
  generalize (lg_sl ([.int p0]) ++ List.replicate (3 - (lg_sl ([.int p0])).length) Slot.unset).toArray = ls at hl ⊢
  have hl : lv_has ls 3 [(0, .int p0)] := hl
  refine kQ (fun Q hQ => ?_)
  refine lv_iconst (v := 0) hx hb dX8_bytesIn_0 kc_i_0 ?_
  refine lv_istore_n hx hb dX8_bytesIn_1 rfl hl kc_l_1_3 (kTo [(1, .int 0), (0, .int p0)]) (fun ls hl => ?_)
  refine lv_bipush (v := 24) hx hb dX8_bytesIn_2 kc_b_24 ?_
  refine lv_istore_n hx hb dX8_bytesIn_4 rfl hl kc_l_2_3 (kTo [(2, .int 24), (1, .int 0), (0, .int p0)]) (fun ls hl => ?_)
  refine lv_iload_n hx hb dX8_bytesIn_5 rfl (lv_at hl 0 rfl) ?_
  refine lv_if_lt (tgt := 28) hx hb dX8_bytesIn_6 kc_t_6_22 (fun c_1 => absurd c_1 (by decide)) (fun c_1 => ?_)
  refine lv_iload_n hx hb dX8_bytesIn_9 rfl (lv_at hl 2 rfl) ?_
  refine lv_iload_n hx hb dX8_bytesIn_10 rfl (lv_at hl 0 rfl) ?_
  obtain ⟨x_2, ex_2⟩ : ∃ z : Int32, z = (Int32.toUInt32 p0 >>> (Int32.toUInt32 24 &&& Int32.toUInt32 31)).toInt32 := ⟨_, rfl⟩
  refine lv_iushr (v := x_2) hx hb dX8_bytesIn_11 ex_2.symm ?_
  refine lv_sipush (v := 255) hx hb dX8_bytesIn_12 kc_s_255 ?_
  refine lv_iand hx hb dX8_bytesIn_15 ?_
  refine lv_topi (fun x_3 ex_3 => ?_)
  refine lv_if_eq (tgt := 22) hx hb dX8_bytesIn_16 kc_t_16_6 (fun c_4 => ?_) (fun c_4 => ?_)
  · refine lv_iinc (v := 16) hx hb dX8_bytesIn_22 hl (k := 0) rfl (by decide) kc_l_2_3 (kTo [(2, .int 16), (1, .int 0), (0, .int p0)]) (fun ls hl => ?_)
    refine lv_goto (tgt := 5) hx hb dX8_bytesIn_25 kc_t_25_m20 ?_
    refine lv_iload_n hx hb dX8_bytesIn_5 rfl (lv_at hl 0 rfl) ?_
    refine lv_if_lt (tgt := 28) hx hb dX8_bytesIn_6 kc_t_6_22 (fun c_5 => absurd c_5 (by decide)) (fun c_5 => ?_)
    refine lv_iload_n hx hb dX8_bytesIn_9 rfl (lv_at hl 2 rfl) ?_
    refine lv_iload_n hx hb dX8_bytesIn_10 rfl (lv_at hl 0 rfl) ?_
    obtain ⟨x_6, ex_6⟩ : ∃ z : Int32, z = (Int32.toUInt32 p0 >>> (Int32.toUInt32 16 &&& Int32.toUInt32 31)).toInt32 := ⟨_, rfl⟩
    refine lv_iushr (v := x_6) hx hb dX8_bytesIn_11 ex_6.symm ?_
    refine lv_sipush (v := 255) hx hb dX8_bytesIn_12 kc_s_255 ?_
    refine lv_iand hx hb dX8_bytesIn_15 ?_
    refine lv_topi (fun x_7 ex_7 => ?_)
    refine lv_if_eq (tgt := 22) hx hb dX8_bytesIn_16 kc_t_16_6 (fun c_8 => ?_) (fun c_8 => ?_)
    · refine lv_iinc (v := 8) hx hb dX8_bytesIn_22 hl (k := 0) rfl (by decide) kc_l_2_3 (kTo [(2, .int 8), (1, .int 0), (0, .int p0)]) (fun ls hl => ?_)
      refine lv_goto (tgt := 5) hx hb dX8_bytesIn_25 kc_t_25_m20 ?_
      refine lv_iload_n hx hb dX8_bytesIn_5 rfl (lv_at hl 0 rfl) ?_
      refine lv_if_lt (tgt := 28) hx hb dX8_bytesIn_6 kc_t_6_22 (fun c_9 => absurd c_9 (by decide)) (fun c_9 => ?_)
      refine lv_iload_n hx hb dX8_bytesIn_9 rfl (lv_at hl 2 rfl) ?_
      refine lv_iload_n hx hb dX8_bytesIn_10 rfl (lv_at hl 0 rfl) ?_
      obtain ⟨x_10, ex_10⟩ : ∃ z : Int32, z = (Int32.toUInt32 p0 >>> (Int32.toUInt32 8 &&& Int32.toUInt32 31)).toInt32 := ⟨_, rfl⟩
      refine lv_iushr (v := x_10) hx hb dX8_bytesIn_11 ex_10.symm ?_
      refine lv_sipush (v := 255) hx hb dX8_bytesIn_12 kc_s_255 ?_
      refine lv_iand hx hb dX8_bytesIn_15 ?_
      refine lv_topi (fun x_11 ex_11 => ?_)
      refine lv_if_eq (tgt := 22) hx hb dX8_bytesIn_16 kc_t_16_6 (fun c_12 => ?_) (fun c_12 => ?_)
      · refine lv_iinc (v := 0) hx hb dX8_bytesIn_22 hl (k := 0) rfl (by decide) kc_l_2_3 (kTo [(2, .int 0), (1, .int 0), (0, .int p0)]) (fun ls hl => ?_)
        refine lv_goto (tgt := 5) hx hb dX8_bytesIn_25 kc_t_25_m20 ?_
        refine lv_iload_n hx hb dX8_bytesIn_5 rfl (lv_at hl 0 rfl) ?_
        refine lv_if_lt (tgt := 28) hx hb dX8_bytesIn_6 kc_t_6_22 (fun c_13 => absurd c_13 (by decide)) (fun c_13 => ?_)
        refine lv_iload_n hx hb dX8_bytesIn_9 rfl (lv_at hl 2 rfl) ?_
        refine lv_iload_n hx hb dX8_bytesIn_10 rfl (lv_at hl 0 rfl) ?_
        obtain ⟨x_14, ex_14⟩ : ∃ z : Int32, z = (Int32.toUInt32 p0 >>> (Int32.toUInt32 0 &&& Int32.toUInt32 31)).toInt32 := ⟨_, rfl⟩
        refine lv_iushr (v := x_14) hx hb dX8_bytesIn_11 ex_14.symm ?_
        refine lv_sipush (v := 255) hx hb dX8_bytesIn_12 kc_s_255 ?_
        refine lv_iand hx hb dX8_bytesIn_15 ?_
        refine lv_topi (fun x_15 ex_15 => ?_)
        refine lv_if_eq (tgt := 22) hx hb dX8_bytesIn_16 kc_t_16_6 (fun c_16 => ?_) (fun c_16 => ?_)
        · refine lv_iinc (v := (-8)) hx hb dX8_bytesIn_22 hl (k := 0) rfl (by decide) kc_l_2_3 (kTo [(2, .int (-8)), (1, .int 0), (0, .int p0)]) (fun ls hl => ?_)
          refine lv_goto (tgt := 5) hx hb dX8_bytesIn_25 kc_t_25_m20 ?_
          refine lv_iload_n hx hb dX8_bytesIn_5 rfl (lv_at hl 0 rfl) ?_
          refine lv_if_lt (tgt := 28) hx hb dX8_bytesIn_6 kc_t_6_22 (fun c_17 => ?_) (fun c_17 => absurd (by decide) c_17)
          refine lv_iload_n hx hb dX8_bytesIn_28 rfl (lv_at hl 1 rfl) ?_
          rw [hQ]
          exact W.iret (v := 0) hx hb hr (fun t ht hW => ⟨0, rfl, trivial, ht⟩) (fun _ h => nomatch h) dX8_bytesIn_29
        · refine lv_iinc (v := 1) hx hb dX8_bytesIn_19 hl (k := 1) rfl (by decide) kc_l_1_3 (kTo [(1, .int 1), (2, .int 0), (0, .int p0)]) (fun ls hl => ?_)
          refine lv_iinc (v := (-8)) hx hb dX8_bytesIn_22 hl (k := 1) rfl (by decide) kc_l_2_3 (kTo [(2, .int (-8)), (1, .int 1), (0, .int p0)]) (fun ls hl => ?_)
          refine lv_goto (tgt := 5) hx hb dX8_bytesIn_25 kc_t_25_m20 ?_
          refine lv_iload_n hx hb dX8_bytesIn_5 rfl (lv_at hl 0 rfl) ?_
          refine lv_if_lt (tgt := 28) hx hb dX8_bytesIn_6 kc_t_6_22 (fun c_18 => ?_) (fun c_18 => absurd (by decide) c_18)
          refine lv_iload_n hx hb dX8_bytesIn_28 rfl (lv_at hl 1 rfl) ?_
          rw [hQ]
          exact W.iret (v := 1) hx hb hr (fun t ht hW => ⟨1, rfl, trivial, ht⟩) (fun _ h => nomatch h) dX8_bytesIn_29
      · refine lv_iinc (v := 1) hx hb dX8_bytesIn_19 hl (k := 1) rfl (by decide) kc_l_1_3 (kTo [(1, .int 1), (2, .int 8), (0, .int p0)]) (fun ls hl => ?_)
        refine lv_iinc (v := 0) hx hb dX8_bytesIn_22 hl (k := 1) rfl (by decide) kc_l_2_3 (kTo [(2, .int 0), (1, .int 1), (0, .int p0)]) (fun ls hl => ?_)
        refine lv_goto (tgt := 5) hx hb dX8_bytesIn_25 kc_t_25_m20 ?_
        refine lv_iload_n hx hb dX8_bytesIn_5 rfl (lv_at hl 0 rfl) ?_
        refine lv_if_lt (tgt := 28) hx hb dX8_bytesIn_6 kc_t_6_22 (fun c_19 => absurd c_19 (by decide)) (fun c_19 => ?_)
        refine lv_iload_n hx hb dX8_bytesIn_9 rfl (lv_at hl 2 rfl) ?_
        refine lv_iload_n hx hb dX8_bytesIn_10 rfl (lv_at hl 0 rfl) ?_
        obtain ⟨x_20, ex_20⟩ : ∃ z : Int32, z = (Int32.toUInt32 p0 >>> (Int32.toUInt32 0 &&& Int32.toUInt32 31)).toInt32 := ⟨_, rfl⟩
        refine lv_iushr (v := x_20) hx hb dX8_bytesIn_11 ex_20.symm ?_
        refine lv_sipush (v := 255) hx hb dX8_bytesIn_12 kc_s_255 ?_
        refine lv_iand hx hb dX8_bytesIn_15 ?_
        refine lv_topi (fun x_21 ex_21 => ?_)
        refine lv_if_eq (tgt := 22) hx hb dX8_bytesIn_16 kc_t_16_6 (fun c_22 => ?_) (fun c_22 => ?_)
        · refine lv_iinc (v := (-8)) hx hb dX8_bytesIn_22 hl (k := 0) rfl (by decide) kc_l_2_3 (kTo [(2, .int (-8)), (1, .int 1), (0, .int p0)]) (fun ls hl => ?_)
          refine lv_goto (tgt := 5) hx hb dX8_bytesIn_25 kc_t_25_m20 ?_
          refine lv_iload_n hx hb dX8_bytesIn_5 rfl (lv_at hl 0 rfl) ?_
          refine lv_if_lt (tgt := 28) hx hb dX8_bytesIn_6 kc_t_6_22 (fun c_23 => ?_) (fun c_23 => absurd (by decide) c_23)
          refine lv_iload_n hx hb dX8_bytesIn_28 rfl (lv_at hl 1 rfl) ?_
          rw [hQ]
          exact W.iret (v := 1) hx hb hr (fun t ht hW => ⟨1, rfl, trivial, ht⟩) (fun _ h => nomatch h) dX8_bytesIn_29
        · refine lv_iinc (v := 2) hx hb dX8_bytesIn_19 hl (k := 1) rfl (by decide) kc_l_1_3 (kTo [(1, .int 2), (2, .int 0), (0, .int p0)]) (fun ls hl => ?_)
          refine lv_iinc (v := (-8)) hx hb dX8_bytesIn_22 hl (k := 1) rfl (by decide) kc_l_2_3 (kTo [(2, .int (-8)), (1, .int 2), (0, .int p0)]) (fun ls hl => ?_)
          refine lv_goto (tgt := 5) hx hb dX8_bytesIn_25 kc_t_25_m20 ?_
          refine lv_iload_n hx hb dX8_bytesIn_5 rfl (lv_at hl 0 rfl) ?_
          refine lv_if_lt (tgt := 28) hx hb dX8_bytesIn_6 kc_t_6_22 (fun c_24 => ?_) (fun c_24 => absurd (by decide) c_24)
          refine lv_iload_n hx hb dX8_bytesIn_28 rfl (lv_at hl 1 rfl) ?_
          rw [hQ]
          exact W.iret (v := 2) hx hb hr (fun t ht hW => ⟨2, rfl, trivial, ht⟩) (fun _ h => nomatch h) dX8_bytesIn_29
    · refine lv_iinc (v := 1) hx hb dX8_bytesIn_19 hl (k := 1) rfl (by decide) kc_l_1_3 (kTo [(1, .int 1), (2, .int 16), (0, .int p0)]) (fun ls hl => ?_)
      refine lv_iinc (v := 8) hx hb dX8_bytesIn_22 hl (k := 1) rfl (by decide) kc_l_2_3 (kTo [(2, .int 8), (1, .int 1), (0, .int p0)]) (fun ls hl => ?_)
      refine lv_goto (tgt := 5) hx hb dX8_bytesIn_25 kc_t_25_m20 ?_
      refine lv_iload_n hx hb dX8_bytesIn_5 rfl (lv_at hl 0 rfl) ?_
      refine lv_if_lt (tgt := 28) hx hb dX8_bytesIn_6 kc_t_6_22 (fun c_25 => absurd c_25 (by decide)) (fun c_25 => ?_)
      refine lv_iload_n hx hb dX8_bytesIn_9 rfl (lv_at hl 2 rfl) ?_
      refine lv_iload_n hx hb dX8_bytesIn_10 rfl (lv_at hl 0 rfl) ?_
      obtain ⟨x_26, ex_26⟩ : ∃ z : Int32, z = (Int32.toUInt32 p0 >>> (Int32.toUInt32 8 &&& Int32.toUInt32 31)).toInt32 := ⟨_, rfl⟩
      refine lv_iushr (v := x_26) hx hb dX8_bytesIn_11 ex_26.symm ?_
      refine lv_sipush (v := 255) hx hb dX8_bytesIn_12 kc_s_255 ?_
      refine lv_iand hx hb dX8_bytesIn_15 ?_
      refine lv_topi (fun x_27 ex_27 => ?_)
      refine lv_if_eq (tgt := 22) hx hb dX8_bytesIn_16 kc_t_16_6 (fun c_28 => ?_) (fun c_28 => ?_)
      · refine lv_iinc (v := 0) hx hb dX8_bytesIn_22 hl (k := 0) rfl (by decide) kc_l_2_3 (kTo [(2, .int 0), (1, .int 1), (0, .int p0)]) (fun ls hl => ?_)
        refine lv_goto (tgt := 5) hx hb dX8_bytesIn_25 kc_t_25_m20 ?_
        refine lv_iload_n hx hb dX8_bytesIn_5 rfl (lv_at hl 0 rfl) ?_
        refine lv_if_lt (tgt := 28) hx hb dX8_bytesIn_6 kc_t_6_22 (fun c_29 => absurd c_29 (by decide)) (fun c_29 => ?_)
        refine lv_iload_n hx hb dX8_bytesIn_9 rfl (lv_at hl 2 rfl) ?_
        refine lv_iload_n hx hb dX8_bytesIn_10 rfl (lv_at hl 0 rfl) ?_
        obtain ⟨x_30, ex_30⟩ : ∃ z : Int32, z = (Int32.toUInt32 p0 >>> (Int32.toUInt32 0 &&& Int32.toUInt32 31)).toInt32 := ⟨_, rfl⟩
        refine lv_iushr (v := x_30) hx hb dX8_bytesIn_11 ex_30.symm ?_
        refine lv_sipush (v := 255) hx hb dX8_bytesIn_12 kc_s_255 ?_
        refine lv_iand hx hb dX8_bytesIn_15 ?_
        refine lv_topi (fun x_31 ex_31 => ?_)
        refine lv_if_eq (tgt := 22) hx hb dX8_bytesIn_16 kc_t_16_6 (fun c_32 => ?_) (fun c_32 => ?_)
        · refine lv_iinc (v := (-8)) hx hb dX8_bytesIn_22 hl (k := 0) rfl (by decide) kc_l_2_3 (kTo [(2, .int (-8)), (1, .int 1), (0, .int p0)]) (fun ls hl => ?_)
          refine lv_goto (tgt := 5) hx hb dX8_bytesIn_25 kc_t_25_m20 ?_
          refine lv_iload_n hx hb dX8_bytesIn_5 rfl (lv_at hl 0 rfl) ?_
          refine lv_if_lt (tgt := 28) hx hb dX8_bytesIn_6 kc_t_6_22 (fun c_33 => ?_) (fun c_33 => absurd (by decide) c_33)
          refine lv_iload_n hx hb dX8_bytesIn_28 rfl (lv_at hl 1 rfl) ?_
          rw [hQ]
          exact W.iret (v := 1) hx hb hr (fun t ht hW => ⟨1, rfl, trivial, ht⟩) (fun _ h => nomatch h) dX8_bytesIn_29
        · refine lv_iinc (v := 2) hx hb dX8_bytesIn_19 hl (k := 1) rfl (by decide) kc_l_1_3 (kTo [(1, .int 2), (2, .int 0), (0, .int p0)]) (fun ls hl => ?_)
          refine lv_iinc (v := (-8)) hx hb dX8_bytesIn_22 hl (k := 1) rfl (by decide) kc_l_2_3 (kTo [(2, .int (-8)), (1, .int 2), (0, .int p0)]) (fun ls hl => ?_)
          refine lv_goto (tgt := 5) hx hb dX8_bytesIn_25 kc_t_25_m20 ?_
          refine lv_iload_n hx hb dX8_bytesIn_5 rfl (lv_at hl 0 rfl) ?_
          refine lv_if_lt (tgt := 28) hx hb dX8_bytesIn_6 kc_t_6_22 (fun c_34 => ?_) (fun c_34 => absurd (by decide) c_34)
          refine lv_iload_n hx hb dX8_bytesIn_28 rfl (lv_at hl 1 rfl) ?_
          rw [hQ]
          exact W.iret (v := 2) hx hb hr (fun t ht hW => ⟨2, rfl, trivial, ht⟩) (fun _ h => nomatch h) dX8_bytesIn_29
      · refine lv_iinc (v := 2) hx hb dX8_bytesIn_19 hl (k := 1) rfl (by decide) kc_l_1_3 (kTo [(1, .int 2), (2, .int 8), (0, .int p0)]) (fun ls hl => ?_)
        refine lv_iinc (v := 0) hx hb dX8_bytesIn_22 hl (k := 1) rfl (by decide) kc_l_2_3 (kTo [(2, .int 0), (1, .int 2), (0, .int p0)]) (fun ls hl => ?_)
        refine lv_goto (tgt := 5) hx hb dX8_bytesIn_25 kc_t_25_m20 ?_
        refine lv_iload_n hx hb dX8_bytesIn_5 rfl (lv_at hl 0 rfl) ?_
        refine lv_if_lt (tgt := 28) hx hb dX8_bytesIn_6 kc_t_6_22 (fun c_35 => absurd c_35 (by decide)) (fun c_35 => ?_)
        refine lv_iload_n hx hb dX8_bytesIn_9 rfl (lv_at hl 2 rfl) ?_
        refine lv_iload_n hx hb dX8_bytesIn_10 rfl (lv_at hl 0 rfl) ?_
        obtain ⟨x_36, ex_36⟩ : ∃ z : Int32, z = (Int32.toUInt32 p0 >>> (Int32.toUInt32 0 &&& Int32.toUInt32 31)).toInt32 := ⟨_, rfl⟩
        refine lv_iushr (v := x_36) hx hb dX8_bytesIn_11 ex_36.symm ?_
        refine lv_sipush (v := 255) hx hb dX8_bytesIn_12 kc_s_255 ?_
        refine lv_iand hx hb dX8_bytesIn_15 ?_
        refine lv_topi (fun x_37 ex_37 => ?_)
        refine lv_if_eq (tgt := 22) hx hb dX8_bytesIn_16 kc_t_16_6 (fun c_38 => ?_) (fun c_38 => ?_)
        · refine lv_iinc (v := (-8)) hx hb dX8_bytesIn_22 hl (k := 0) rfl (by decide) kc_l_2_3 (kTo [(2, .int (-8)), (1, .int 2), (0, .int p0)]) (fun ls hl => ?_)
          refine lv_goto (tgt := 5) hx hb dX8_bytesIn_25 kc_t_25_m20 ?_
          refine lv_iload_n hx hb dX8_bytesIn_5 rfl (lv_at hl 0 rfl) ?_
          refine lv_if_lt (tgt := 28) hx hb dX8_bytesIn_6 kc_t_6_22 (fun c_39 => ?_) (fun c_39 => absurd (by decide) c_39)
          refine lv_iload_n hx hb dX8_bytesIn_28 rfl (lv_at hl 1 rfl) ?_
          rw [hQ]
          exact W.iret (v := 2) hx hb hr (fun t ht hW => ⟨2, rfl, trivial, ht⟩) (fun _ h => nomatch h) dX8_bytesIn_29
        · refine lv_iinc (v := 3) hx hb dX8_bytesIn_19 hl (k := 1) rfl (by decide) kc_l_1_3 (kTo [(1, .int 3), (2, .int 0), (0, .int p0)]) (fun ls hl => ?_)
          refine lv_iinc (v := (-8)) hx hb dX8_bytesIn_22 hl (k := 1) rfl (by decide) kc_l_2_3 (kTo [(2, .int (-8)), (1, .int 3), (0, .int p0)]) (fun ls hl => ?_)
          refine lv_goto (tgt := 5) hx hb dX8_bytesIn_25 kc_t_25_m20 ?_
          refine lv_iload_n hx hb dX8_bytesIn_5 rfl (lv_at hl 0 rfl) ?_
          refine lv_if_lt (tgt := 28) hx hb dX8_bytesIn_6 kc_t_6_22 (fun c_40 => ?_) (fun c_40 => absurd (by decide) c_40)
          refine lv_iload_n hx hb dX8_bytesIn_28 rfl (lv_at hl 1 rfl) ?_
          rw [hQ]
          exact W.iret (v := 3) hx hb hr (fun t ht hW => ⟨3, rfl, trivial, ht⟩) (fun _ h => nomatch h) dX8_bytesIn_29
  · refine lv_iinc (v := 1) hx hb dX8_bytesIn_19 hl (k := 1) rfl (by decide) kc_l_1_3 (kTo [(1, .int 1), (2, .int 24), (0, .int p0)]) (fun ls hl => ?_)
    refine lv_iinc (v := 16) hx hb dX8_bytesIn_22 hl (k := 1) rfl (by decide) kc_l_2_3 (kTo [(2, .int 16), (1, .int 1), (0, .int p0)]) (fun ls hl => ?_)
    refine lv_goto (tgt := 5) hx hb dX8_bytesIn_25 kc_t_25_m20 ?_
    refine lv_iload_n hx hb dX8_bytesIn_5 rfl (lv_at hl 0 rfl) ?_
    refine lv_if_lt (tgt := 28) hx hb dX8_bytesIn_6 kc_t_6_22 (fun c_41 => absurd c_41 (by decide)) (fun c_41 => ?_)
    refine lv_iload_n hx hb dX8_bytesIn_9 rfl (lv_at hl 2 rfl) ?_
    refine lv_iload_n hx hb dX8_bytesIn_10 rfl (lv_at hl 0 rfl) ?_
    obtain ⟨x_42, ex_42⟩ : ∃ z : Int32, z = (Int32.toUInt32 p0 >>> (Int32.toUInt32 16 &&& Int32.toUInt32 31)).toInt32 := ⟨_, rfl⟩
    refine lv_iushr (v := x_42) hx hb dX8_bytesIn_11 ex_42.symm ?_
    refine lv_sipush (v := 255) hx hb dX8_bytesIn_12 kc_s_255 ?_
    refine lv_iand hx hb dX8_bytesIn_15 ?_
    refine lv_topi (fun x_43 ex_43 => ?_)
    refine lv_if_eq (tgt := 22) hx hb dX8_bytesIn_16 kc_t_16_6 (fun c_44 => ?_) (fun c_44 => ?_)
    · refine lv_iinc (v := 8) hx hb dX8_bytesIn_22 hl (k := 0) rfl (by decide) kc_l_2_3 (kTo [(2, .int 8), (1, .int 1), (0, .int p0)]) (fun ls hl => ?_)
      refine lv_goto (tgt := 5) hx hb dX8_bytesIn_25 kc_t_25_m20 ?_
      refine lv_iload_n hx hb dX8_bytesIn_5 rfl (lv_at hl 0 rfl) ?_
      refine lv_if_lt (tgt := 28) hx hb dX8_bytesIn_6 kc_t_6_22 (fun c_45 => absurd c_45 (by decide)) (fun c_45 => ?_)
      refine lv_iload_n hx hb dX8_bytesIn_9 rfl (lv_at hl 2 rfl) ?_
      refine lv_iload_n hx hb dX8_bytesIn_10 rfl (lv_at hl 0 rfl) ?_
      obtain ⟨x_46, ex_46⟩ : ∃ z : Int32, z = (Int32.toUInt32 p0 >>> (Int32.toUInt32 8 &&& Int32.toUInt32 31)).toInt32 := ⟨_, rfl⟩
      refine lv_iushr (v := x_46) hx hb dX8_bytesIn_11 ex_46.symm ?_
      refine lv_sipush (v := 255) hx hb dX8_bytesIn_12 kc_s_255 ?_
      refine lv_iand hx hb dX8_bytesIn_15 ?_
      refine lv_topi (fun x_47 ex_47 => ?_)
      refine lv_if_eq (tgt := 22) hx hb dX8_bytesIn_16 kc_t_16_6 (fun c_48 => ?_) (fun c_48 => ?_)
      · refine lv_iinc (v := 0) hx hb dX8_bytesIn_22 hl (k := 0) rfl (by decide) kc_l_2_3 (kTo [(2, .int 0), (1, .int 1), (0, .int p0)]) (fun ls hl => ?_)
        refine lv_goto (tgt := 5) hx hb dX8_bytesIn_25 kc_t_25_m20 ?_
        refine lv_iload_n hx hb dX8_bytesIn_5 rfl (lv_at hl 0 rfl) ?_
        refine lv_if_lt (tgt := 28) hx hb dX8_bytesIn_6 kc_t_6_22 (fun c_49 => absurd c_49 (by decide)) (fun c_49 => ?_)
        refine lv_iload_n hx hb dX8_bytesIn_9 rfl (lv_at hl 2 rfl) ?_
        refine lv_iload_n hx hb dX8_bytesIn_10 rfl (lv_at hl 0 rfl) ?_
        obtain ⟨x_50, ex_50⟩ : ∃ z : Int32, z = (Int32.toUInt32 p0 >>> (Int32.toUInt32 0 &&& Int32.toUInt32 31)).toInt32 := ⟨_, rfl⟩
        refine lv_iushr (v := x_50) hx hb dX8_bytesIn_11 ex_50.symm ?_
        refine lv_sipush (v := 255) hx hb dX8_bytesIn_12 kc_s_255 ?_
        refine lv_iand hx hb dX8_bytesIn_15 ?_
        refine lv_topi (fun x_51 ex_51 => ?_)
        refine lv_if_eq (tgt := 22) hx hb dX8_bytesIn_16 kc_t_16_6 (fun c_52 => ?_) (fun c_52 => ?_)
        · refine lv_iinc (v := (-8)) hx hb dX8_bytesIn_22 hl (k := 0) rfl (by decide) kc_l_2_3 (kTo [(2, .int (-8)), (1, .int 1), (0, .int p0)]) (fun ls hl => ?_)
          refine lv_goto (tgt := 5) hx hb dX8_bytesIn_25 kc_t_25_m20 ?_
          refine lv_iload_n hx hb dX8_bytesIn_5 rfl (lv_at hl 0 rfl) ?_
          refine lv_if_lt (tgt := 28) hx hb dX8_bytesIn_6 kc_t_6_22 (fun c_53 => ?_) (fun c_53 => absurd (by decide) c_53)
          refine lv_iload_n hx hb dX8_bytesIn_28 rfl (lv_at hl 1 rfl) ?_
          rw [hQ]
          exact W.iret (v := 1) hx hb hr (fun t ht hW => ⟨1, rfl, trivial, ht⟩) (fun _ h => nomatch h) dX8_bytesIn_29
        · refine lv_iinc (v := 2) hx hb dX8_bytesIn_19 hl (k := 1) rfl (by decide) kc_l_1_3 (kTo [(1, .int 2), (2, .int 0), (0, .int p0)]) (fun ls hl => ?_)
          refine lv_iinc (v := (-8)) hx hb dX8_bytesIn_22 hl (k := 1) rfl (by decide) kc_l_2_3 (kTo [(2, .int (-8)), (1, .int 2), (0, .int p0)]) (fun ls hl => ?_)
          refine lv_goto (tgt := 5) hx hb dX8_bytesIn_25 kc_t_25_m20 ?_
          refine lv_iload_n hx hb dX8_bytesIn_5 rfl (lv_at hl 0 rfl) ?_
          refine lv_if_lt (tgt := 28) hx hb dX8_bytesIn_6 kc_t_6_22 (fun c_54 => ?_) (fun c_54 => absurd (by decide) c_54)
          refine lv_iload_n hx hb dX8_bytesIn_28 rfl (lv_at hl 1 rfl) ?_
          rw [hQ]
          exact W.iret (v := 2) hx hb hr (fun t ht hW => ⟨2, rfl, trivial, ht⟩) (fun _ h => nomatch h) dX8_bytesIn_29
      · refine lv_iinc (v := 2) hx hb dX8_bytesIn_19 hl (k := 1) rfl (by decide) kc_l_1_3 (kTo [(1, .int 2), (2, .int 8), (0, .int p0)]) (fun ls hl => ?_)
        refine lv_iinc (v := 0) hx hb dX8_bytesIn_22 hl (k := 1) rfl (by decide) kc_l_2_3 (kTo [(2, .int 0), (1, .int 2), (0, .int p0)]) (fun ls hl => ?_)
        refine lv_goto (tgt := 5) hx hb dX8_bytesIn_25 kc_t_25_m20 ?_
        refine lv_iload_n hx hb dX8_bytesIn_5 rfl (lv_at hl 0 rfl) ?_
        refine lv_if_lt (tgt := 28) hx hb dX8_bytesIn_6 kc_t_6_22 (fun c_55 => absurd c_55 (by decide)) (fun c_55 => ?_)
        refine lv_iload_n hx hb dX8_bytesIn_9 rfl (lv_at hl 2 rfl) ?_
        refine lv_iload_n hx hb dX8_bytesIn_10 rfl (lv_at hl 0 rfl) ?_
        obtain ⟨x_56, ex_56⟩ : ∃ z : Int32, z = (Int32.toUInt32 p0 >>> (Int32.toUInt32 0 &&& Int32.toUInt32 31)).toInt32 := ⟨_, rfl⟩
        refine lv_iushr (v := x_56) hx hb dX8_bytesIn_11 ex_56.symm ?_
        refine lv_sipush (v := 255) hx hb dX8_bytesIn_12 kc_s_255 ?_
        refine lv_iand hx hb dX8_bytesIn_15 ?_
        refine lv_topi (fun x_57 ex_57 => ?_)
        refine lv_if_eq (tgt := 22) hx hb dX8_bytesIn_16 kc_t_16_6 (fun c_58 => ?_) (fun c_58 => ?_)
        · refine lv_iinc (v := (-8)) hx hb dX8_bytesIn_22 hl (k := 0) rfl (by decide) kc_l_2_3 (kTo [(2, .int (-8)), (1, .int 2), (0, .int p0)]) (fun ls hl => ?_)
          refine lv_goto (tgt := 5) hx hb dX8_bytesIn_25 kc_t_25_m20 ?_
          refine lv_iload_n hx hb dX8_bytesIn_5 rfl (lv_at hl 0 rfl) ?_
          refine lv_if_lt (tgt := 28) hx hb dX8_bytesIn_6 kc_t_6_22 (fun c_59 => ?_) (fun c_59 => absurd (by decide) c_59)
          refine lv_iload_n hx hb dX8_bytesIn_28 rfl (lv_at hl 1 rfl) ?_
          rw [hQ]
          exact W.iret (v := 2) hx hb hr (fun t ht hW => ⟨2, rfl, trivial, ht⟩) (fun _ h => nomatch h) dX8_bytesIn_29
        · refine lv_iinc (v := 3) hx hb dX8_bytesIn_19 hl (k := 1) rfl (by decide) kc_l_1_3 (kTo [(1, .int 3), (2, .int 0), (0, .int p0)]) (fun ls hl => ?_)
          refine lv_iinc (v := (-8)) hx hb dX8_bytesIn_22 hl (k := 1) rfl (by decide) kc_l_2_3 (kTo [(2, .int (-8)), (1, .int 3), (0, .int p0)]) (fun ls hl => ?_)
          refine lv_goto (tgt := 5) hx hb dX8_bytesIn_25 kc_t_25_m20 ?_
          refine lv_iload_n hx hb dX8_bytesIn_5 rfl (lv_at hl 0 rfl) ?_
          refine lv_if_lt (tgt := 28) hx hb dX8_bytesIn_6 kc_t_6_22 (fun c_60 => ?_) (fun c_60 => absurd (by decide) c_60)
          refine lv_iload_n hx hb dX8_bytesIn_28 rfl (lv_at hl 1 rfl) ?_
          rw [hQ]
          exact W.iret (v := 3) hx hb hr (fun t ht hW => ⟨3, rfl, trivial, ht⟩) (fun _ h => nomatch h) dX8_bytesIn_29
    · refine lv_iinc (v := 2) hx hb dX8_bytesIn_19 hl (k := 1) rfl (by decide) kc_l_1_3 (kTo [(1, .int 2), (2, .int 16), (0, .int p0)]) (fun ls hl => ?_)
      refine lv_iinc (v := 8) hx hb dX8_bytesIn_22 hl (k := 1) rfl (by decide) kc_l_2_3 (kTo [(2, .int 8), (1, .int 2), (0, .int p0)]) (fun ls hl => ?_)
      refine lv_goto (tgt := 5) hx hb dX8_bytesIn_25 kc_t_25_m20 ?_
      refine lv_iload_n hx hb dX8_bytesIn_5 rfl (lv_at hl 0 rfl) ?_
      refine lv_if_lt (tgt := 28) hx hb dX8_bytesIn_6 kc_t_6_22 (fun c_61 => absurd c_61 (by decide)) (fun c_61 => ?_)
      refine lv_iload_n hx hb dX8_bytesIn_9 rfl (lv_at hl 2 rfl) ?_
      refine lv_iload_n hx hb dX8_bytesIn_10 rfl (lv_at hl 0 rfl) ?_
      obtain ⟨x_62, ex_62⟩ : ∃ z : Int32, z = (Int32.toUInt32 p0 >>> (Int32.toUInt32 8 &&& Int32.toUInt32 31)).toInt32 := ⟨_, rfl⟩
      refine lv_iushr (v := x_62) hx hb dX8_bytesIn_11 ex_62.symm ?_
      refine lv_sipush (v := 255) hx hb dX8_bytesIn_12 kc_s_255 ?_
      refine lv_iand hx hb dX8_bytesIn_15 ?_
      refine lv_topi (fun x_63 ex_63 => ?_)
      refine lv_if_eq (tgt := 22) hx hb dX8_bytesIn_16 kc_t_16_6 (fun c_64 => ?_) (fun c_64 => ?_)
      · refine lv_iinc (v := 0) hx hb dX8_bytesIn_22 hl (k := 0) rfl (by decide) kc_l_2_3 (kTo [(2, .int 0), (1, .int 2), (0, .int p0)]) (fun ls hl => ?_)
        refine lv_goto (tgt := 5) hx hb dX8_bytesIn_25 kc_t_25_m20 ?_
        refine lv_iload_n hx hb dX8_bytesIn_5 rfl (lv_at hl 0 rfl) ?_
        refine lv_if_lt (tgt := 28) hx hb dX8_bytesIn_6 kc_t_6_22 (fun c_65 => absurd c_65 (by decide)) (fun c_65 => ?_)
        refine lv_iload_n hx hb dX8_bytesIn_9 rfl (lv_at hl 2 rfl) ?_
        refine lv_iload_n hx hb dX8_bytesIn_10 rfl (lv_at hl 0 rfl) ?_
        obtain ⟨x_66, ex_66⟩ : ∃ z : Int32, z = (Int32.toUInt32 p0 >>> (Int32.toUInt32 0 &&& Int32.toUInt32 31)).toInt32 := ⟨_, rfl⟩
        refine lv_iushr (v := x_66) hx hb dX8_bytesIn_11 ex_66.symm ?_
        refine lv_sipush (v := 255) hx hb dX8_bytesIn_12 kc_s_255 ?_
        refine lv_iand hx hb dX8_bytesIn_15 ?_
        refine lv_topi (fun x_67 ex_67 => ?_)
        refine lv_if_eq (tgt := 22) hx hb dX8_bytesIn_16 kc_t_16_6 (fun c_68 => ?_) (fun c_68 => ?_)
        · refine lv_iinc (v := (-8)) hx hb dX8_bytesIn_22 hl (k := 0) rfl (by decide) kc_l_2_3 (kTo [(2, .int (-8)), (1, .int 2), (0, .int p0)]) (fun ls hl => ?_)
          refine lv_goto (tgt := 5) hx hb dX8_bytesIn_25 kc_t_25_m20 ?_
          refine lv_iload_n hx hb dX8_bytesIn_5 rfl (lv_at hl 0 rfl) ?_
          refine lv_if_lt (tgt := 28) hx hb dX8_bytesIn_6 kc_t_6_22 (fun c_69 => ?_) (fun c_69 => absurd (by decide) c_69)
          refine lv_iload_n hx hb dX8_bytesIn_28 rfl (lv_at hl 1 rfl) ?_
          rw [hQ]
          exact W.iret (v := 2) hx hb hr (fun t ht hW => ⟨2, rfl, trivial, ht⟩) (fun _ h => nomatch h) dX8_bytesIn_29
        · refine lv_iinc (v := 3) hx hb dX8_bytesIn_19 hl (k := 1) rfl (by decide) kc_l_1_3 (kTo [(1, .int 3), (2, .int 0), (0, .int p0)]) (fun ls hl => ?_)
          refine lv_iinc (v := (-8)) hx hb dX8_bytesIn_22 hl (k := 1) rfl (by decide) kc_l_2_3 (kTo [(2, .int (-8)), (1, .int 3), (0, .int p0)]) (fun ls hl => ?_)
          refine lv_goto (tgt := 5) hx hb dX8_bytesIn_25 kc_t_25_m20 ?_
          refine lv_iload_n hx hb dX8_bytesIn_5 rfl (lv_at hl 0 rfl) ?_
          refine lv_if_lt (tgt := 28) hx hb dX8_bytesIn_6 kc_t_6_22 (fun c_70 => ?_) (fun c_70 => absurd (by decide) c_70)
          refine lv_iload_n hx hb dX8_bytesIn_28 rfl (lv_at hl 1 rfl) ?_
          rw [hQ]
          exact W.iret (v := 3) hx hb hr (fun t ht hW => ⟨3, rfl, trivial, ht⟩) (fun _ h => nomatch h) dX8_bytesIn_29
      · refine lv_iinc (v := 3) hx hb dX8_bytesIn_19 hl (k := 1) rfl (by decide) kc_l_1_3 (kTo [(1, .int 3), (2, .int 8), (0, .int p0)]) (fun ls hl => ?_)
        refine lv_iinc (v := 0) hx hb dX8_bytesIn_22 hl (k := 1) rfl (by decide) kc_l_2_3 (kTo [(2, .int 0), (1, .int 3), (0, .int p0)]) (fun ls hl => ?_)
        refine lv_goto (tgt := 5) hx hb dX8_bytesIn_25 kc_t_25_m20 ?_
        refine lv_iload_n hx hb dX8_bytesIn_5 rfl (lv_at hl 0 rfl) ?_
        refine lv_if_lt (tgt := 28) hx hb dX8_bytesIn_6 kc_t_6_22 (fun c_71 => absurd c_71 (by decide)) (fun c_71 => ?_)
        refine lv_iload_n hx hb dX8_bytesIn_9 rfl (lv_at hl 2 rfl) ?_
        refine lv_iload_n hx hb dX8_bytesIn_10 rfl (lv_at hl 0 rfl) ?_
        obtain ⟨x_72, ex_72⟩ : ∃ z : Int32, z = (Int32.toUInt32 p0 >>> (Int32.toUInt32 0 &&& Int32.toUInt32 31)).toInt32 := ⟨_, rfl⟩
        refine lv_iushr (v := x_72) hx hb dX8_bytesIn_11 ex_72.symm ?_
        refine lv_sipush (v := 255) hx hb dX8_bytesIn_12 kc_s_255 ?_
        refine lv_iand hx hb dX8_bytesIn_15 ?_
        refine lv_topi (fun x_73 ex_73 => ?_)
        refine lv_if_eq (tgt := 22) hx hb dX8_bytesIn_16 kc_t_16_6 (fun c_74 => ?_) (fun c_74 => ?_)
        · refine lv_iinc (v := (-8)) hx hb dX8_bytesIn_22 hl (k := 0) rfl (by decide) kc_l_2_3 (kTo [(2, .int (-8)), (1, .int 3), (0, .int p0)]) (fun ls hl => ?_)
          refine lv_goto (tgt := 5) hx hb dX8_bytesIn_25 kc_t_25_m20 ?_
          refine lv_iload_n hx hb dX8_bytesIn_5 rfl (lv_at hl 0 rfl) ?_
          refine lv_if_lt (tgt := 28) hx hb dX8_bytesIn_6 kc_t_6_22 (fun c_75 => ?_) (fun c_75 => absurd (by decide) c_75)
          refine lv_iload_n hx hb dX8_bytesIn_28 rfl (lv_at hl 1 rfl) ?_
          rw [hQ]
          exact W.iret (v := 3) hx hb hr (fun t ht hW => ⟨3, rfl, trivial, ht⟩) (fun _ h => nomatch h) dX8_bytesIn_29
        · refine lv_iinc (v := 4) hx hb dX8_bytesIn_19 hl (k := 1) rfl (by decide) kc_l_1_3 (kTo [(1, .int 4), (2, .int 0), (0, .int p0)]) (fun ls hl => ?_)
          refine lv_iinc (v := (-8)) hx hb dX8_bytesIn_22 hl (k := 1) rfl (by decide) kc_l_2_3 (kTo [(2, .int (-8)), (1, .int 4), (0, .int p0)]) (fun ls hl => ?_)
          refine lv_goto (tgt := 5) hx hb dX8_bytesIn_25 kc_t_25_m20 ?_
          refine lv_iload_n hx hb dX8_bytesIn_5 rfl (lv_at hl 0 rfl) ?_
          refine lv_if_lt (tgt := 28) hx hb dX8_bytesIn_6 kc_t_6_22 (fun c_76 => ?_) (fun c_76 => absurd (by decide) c_76)
          refine lv_iload_n hx hb dX8_bytesIn_28 rfl (lv_at hl 1 rfl) ?_
          rw [hQ]
          exact W.iret (v := 4) hx hb hr (fun t ht hW => ⟨4, rfl, trivial, ht⟩) (fun _ h => nomatch h) dX8_bytesIn_29

theorem dX8_append_0 : decode cX8_append 0 = .ok (.bipush 24, 2) := kDs3 kf_16 (by decide +kernel)
theorem dX8_append_2 : decode cX8_append 2 = .ok (.istore_n 2, 1) := kDs0 kf_61 (by decide +kernel)
theorem dX8_append_3 : decode cX8_append 3 = .ok (.iload_n 2, 1) := kDs0 kf_28 (by decide +kernel)
theorem dX8_append_4 : decode cX8_append 4 = .ok (.ifCond .lt 54, 3) := kDs4 kf_155 (by decide +kernel)
theorem dX8_append_7 : decode cX8_append 7 = .ok (.iload_n 1, 1) := kDs0 kf_27 (by decide +kernel)
theorem dX8_append_8 : decode cX8_append 8 = .ok (.iload_n 2, 1) := kDs0 kf_28 (by decide +kernel)
theorem dX8_append_9 : decode cX8_append 9 = .ok (.iushr, 1) := kDs0 kf_124 (by decide +kernel)
theorem dX8_append_10 : decode cX8_append 10 = .ok (.sipush 255, 3) := kDs4 kf_17 (by decide +kernel)
theorem dX8_append_13 : decode cX8_append 13 = .ok (.iand, 1) := kDs0 kf_126 (by decide +kernel)
theorem dX8_append_14 : decode cX8_append 14 = .ok (.istore_n 3, 1) := kDs0 kf_62 (by decide +kernel)
theorem dX8_append_15 : decode cX8_append 15 = .ok (.iload_n 3, 1) := kDs0 kf_29 (by decide +kernel)
theorem dX8_append_16 : decode cX8_append 16 = .ok (.ifCond .eq 36, 3) := kDs4 kf_153 (by decide +kernel)
theorem dX8_append_52 : decode cX8_append 52 = .ok (.iinc 2 (-8), 3) := kDs5 kf_132 (by decide +kernel)
theorem dX8_append_55 : decode cX8_append 55 = .ok (.goto (-52), 3) := kDs4 kf_167 (by decide +kernel)
theorem dX8_append_58 : decode cX8_append 58 = .ok (.return_, 1) := kDs0 kf_177 (by decide +kernel)
theorem dX8_append_19 : decode cX8_append 19 = .ok (.aload_n 0, 1) := kDs0 kf_42 (by decide +kernel)
theorem dX8_append_20 : decode cX8_append 20 = .ok (.getfield 15, 3) := kDs2 kf_180 (by decide +kernel)
theorem dX8_append_23 : decode cX8_append 23 = .ok (.aload_n 0, 1) := kDs0 kf_42 (by decide +kernel)
theorem dX8_append_24 : decode cX8_append 24 = .ok (.getfield 9, 3) := kDs2 kf_180 (by decide +kernel)
theorem dX8_append_27 : decode cX8_append 27 = .ok (.arraylength, 1) := kDs0 kf_190 (by decide +kernel)
theorem dX8_append_28 : decode cX8_append 28 = .ok (.if_icmp .ge 24, 3) := kDs4 kf_162 (by decide +kernel)
theorem dX8_append_31 : decode cX8_append 31 = .ok (.aload_n 0, 1) := kDs0 kf_42 (by decide +kernel)
theorem dX8_append_32 : decode cX8_append 32 = .ok (.getfield 9, 3) := kDs2 kf_180 (by decide +kernel)
theorem dX8_append_35 : decode cX8_append 35 = .ok (.aload_n 0, 1) := kDs0 kf_42 (by decide +kernel)
theorem dX8_append_36 : decode cX8_append 36 = .ok (.getfield 15, 3) := kDs2 kf_180 (by decide +kernel)
theorem dX8_append_39 : decode cX8_append 39 = .ok (.iload_n 3, 1) := kDs0 kf_29 (by decide +kernel)
theorem dX8_append_40 : decode cX8_append 40 = .ok (.i2c, 1) := kDs0 kf_146 (by decide +kernel)
theorem dX8_append_41 : decode cX8_append 41 = .ok (.castore, 1) := kDs0 kf_85 (by decide +kernel)
theorem dX8_append_42 : decode cX8_append 42 = .ok (.aload_n 0, 1) := kDs0 kf_42 (by decide +kernel)
theorem dX8_append_43 : decode cX8_append 43 = .ok (.dup, 1) := kDs0 kf_89 (by decide +kernel)
theorem dX8_append_44 : decode cX8_append 44 = .ok (.getfield 15, 3) := kDs2 kf_180 (by decide +kernel)
theorem dX8_append_47 : decode cX8_append 47 = .ok (.iconst 1, 1) := kDs0 kf_4 (by decide +kernel)
theorem dX8_append_48 : decode cX8_append 48 = .ok (.iadd, 1) := kDs0 kf_96 (by decide +kernel)
theorem dX8_append_49 : decode cX8_append 49 = .ok (.putfield 15, 3) := kDs2 kf_181 (by decide +kernel)
def w_s_append8 : List Cond := .code yX8_append cX8_append 4 none :: ([.fieldLink RX8 15 "NotEnded$Tape" "length" "I", .fieldLink RX8 9 "NotEnded$Tape" "signs" "[C"] ++ (wsX80))
theorem gw_s_append8 : (w_s_append8).all goodWord = true := kGc rfl (kGa (by decide +kernel) gw_wsX80)
theorem hd_X8_append : yX8_append.cls ≠ "java/lang/invoke/MethodHandle" ∧ yX8_append.cls ≠ "java/lang/invoke/VarHandle" ∧ (parseMethodDescriptor yX8_append.desc).map (fun d => d.parameters.length) = some 1 := by decide +kernel
set_option maxHeartbeats 4000000 in
set_option maxRecDepth 100000 in
theorem s_append8 (l : Launch) (dC : Nat → ClassId) (dI : Nat → Nat → Nat) (jT : Nat) (t0 : Nat) (cC : ClassId) (gT : Nat → Int32) (kt : Nat) (hkt : kt ≤ 120) (hgT : ∀ j : Nat, narrow .char (.int (gT j)) = .int (gT j)) (p0 : Int32) (sz : Nat) : Met l yX8_append w_s_append8 ({ frames := 1, cells := 0, slots := 0, locals := 60 }) (kW dC dI [.ref jT, .int p0] [(jT, .inr (8, [.ref t0, .int (nI (kt))])), (t0, .inl (cC, 120, .inl gT))] [(cC, .char)] kT sz) (va_Qv (fun (u : (Nat → Int32) × Nat) => match u with | (gU, ku) => (ku ≤ 120 ∧ ∀ j : Nat, narrow .char (.int (gU j)) = .int (gU j))) (fun (u : (Nat → Int32) × Nat) => match u with | (gU, ku) => fun t : State => kB dC dI [(jT, .inr (8, [.ref t0, .int (nI (ku))])), (t0, .inl (cC, 120, .inl gU))] [(cC, .char)] (va_A [(jT, .inr (8, [.ref t0, .int (nI (kt))])), (t0, .inl (cC, 120, .inl gT))] sz) t) (va_A [(jT, .inr (8, [.ref t0, .int (nI (kt))])), (t0, .inl (cC, 120, .inl gT))] sz)) 0 0 (va_A [(jT, .inr (8, [.ref t0, .int (nI (kt))])), (t0, .inl (cC, 120, .inl gT))] sz) := by
  refine Met.ofW (cc := cX8_append) (maxL := 4) (ret := none) (by decide) rfl ?_
  intro p e s m args below meth c s₁ B hml hv
  obtain ⟨rfl, hsz, hP, hK, hD0, hX⟩ := hv
  have hx := B.exec
  have hb := B.bytes
  have hr := B.returns
  have hts := atoms_spec (ws := w_s_append8) B.pre
  have hown : s.vm.findClass RX8 = some m.cls := findClass_of_methodNamed B.named
  have hlocks := B.notSynchronized
  subst hsz
  have hD := hD0.self (sz := s.heap.size)
  generalize hAe : va_A [(jT, .inr (8, [.ref t0, .int (nI (kt))])), (t0, .inl (cC, 120, .inl gT))] s.heap.size = A at hD ⊢
  have hA : ∀ q : Nat, s.heap.size ≤ q → A q := fun q h => by rw [← hAe]; exact Or.inr h
  have hS : va_S A s.heap s.heap [] := va_S.rf
  have hP : va_P (dC, dI) vwCl [(jT, .inr (8, [.ref t0, .int (nI (kt))])), (t0, .inl (cC, 120, .inl gT))] s.heap := hP
  have hl := lv_entry ([.ref jT, .int p0]) (n := 4) (Nat.le_of_ble_eq_true rfl)
  rw [lg_entry_eq]
  generalize (lg_sl ([.ref jT, .int p0]) ++ List.replicate (4 - (lg_sl ([.ref jT, .int p0])).length) Slot.unset).toArray = ls at hl ⊢
  have hl : lv_has ls 4 [(0, .ref jT), (1, .int p0)] := hl
  refine kQ (fun Q hQ => ?_)
  refine lv_bipush (v := 24) hx hb dX8_append_0 kc_b_24 ?_
  refine lv_istore_n hx hb dX8_append_2 rfl hl kc_l_2_4 (kTo [(2, .int 24), (0, .ref jT), (1, .int p0)]) (fun ls hl => ?_)
  refine lv_iload_n hx hb dX8_append_3 rfl (lv_at hl 0 rfl) ?_
  refine lv_if_lt (tgt := 58) hx hb dX8_append_4 kc_t_4_54 (fun c_1 => absurd c_1 (by decide)) (fun c_1 => ?_)
  refine lv_iload_n hx hb dX8_append_7 rfl (lv_at hl 2 rfl) ?_
  refine lv_iload_n hx hb dX8_append_8 rfl (lv_at hl 0 rfl) ?_
  obtain ⟨x_2, ex_2⟩ : ∃ z : Int32, z = (Int32.toUInt32 p0 >>> (Int32.toUInt32 24 &&& Int32.toUInt32 31)).toInt32 := ⟨_, rfl⟩
  refine lv_iushr (v := x_2) hx hb dX8_append_9 ex_2.symm ?_
  refine lv_sipush (v := 255) hx hb dX8_append_10 kc_s_255 ?_
  refine lv_iand hx hb dX8_append_13 ?_
  refine lv_topi (fun x_3 ex_3 => ?_)
  refine lv_istore_n hx hb dX8_append_14 rfl hl kc_l_3_4 (kTo [(3, .int x_3), (2, .int 24), (0, .ref jT), (1, .int p0)]) (fun ls hl => ?_)
  refine lv_iload_n hx hb dX8_append_15 rfl (lv_at hl 0 rfl) ?_
  refine lv_if_eq (tgt := 52) hx hb dX8_append_16 kc_t_16_36 (fun c_4 => ?_) (fun c_4 => ?_)
  · refine lv_iinc (v := 16) hx hb dX8_append_52 hl (k := 1) rfl (by decide) kc_l_2_4 (kTo [(2, .int 16), (3, .int x_3), (0, .ref jT), (1, .int p0)]) (fun ls hl => ?_)
    refine lv_goto (tgt := 3) hx hb dX8_append_55 kc_t_55_m52 ?_
    refine lv_iload_n hx hb dX8_append_3 rfl (lv_at hl 0 rfl) ?_
    refine lv_if_lt (tgt := 58) hx hb dX8_append_4 kc_t_4_54 (fun c_5 => absurd c_5 (by decide)) (fun c_5 => ?_)
    refine lv_iload_n hx hb dX8_append_7 rfl (lv_at hl 3 rfl) ?_
    refine lv_iload_n hx hb dX8_append_8 rfl (lv_at hl 0 rfl) ?_
    obtain ⟨x_6, ex_6⟩ : ∃ z : Int32, z = (Int32.toUInt32 p0 >>> (Int32.toUInt32 16 &&& Int32.toUInt32 31)).toInt32 := ⟨_, rfl⟩
    refine lv_iushr (v := x_6) hx hb dX8_append_9 ex_6.symm ?_
    refine lv_sipush (v := 255) hx hb dX8_append_10 kc_s_255 ?_
    refine lv_iand hx hb dX8_append_13 ?_
    refine lv_topi (fun x_7 ex_7 => ?_)
    refine lv_istore_n hx hb dX8_append_14 rfl hl kc_l_3_4 (kTo [(3, .int x_7), (2, .int 16), (0, .ref jT), (1, .int p0)]) (fun ls hl => ?_)
    refine lv_iload_n hx hb dX8_append_15 rfl (lv_at hl 0 rfl) ?_
    refine lv_if_eq (tgt := 52) hx hb dX8_append_16 kc_t_16_36 (fun c_8 => ?_) (fun c_8 => ?_)
    · refine lv_iinc (v := 8) hx hb dX8_append_52 hl (k := 1) rfl (by decide) kc_l_2_4 (kTo [(2, .int 8), (3, .int x_7), (0, .ref jT), (1, .int p0)]) (fun ls hl => ?_)
      refine lv_goto (tgt := 3) hx hb dX8_append_55 kc_t_55_m52 ?_
      refine lv_iload_n hx hb dX8_append_3 rfl (lv_at hl 0 rfl) ?_
      refine lv_if_lt (tgt := 58) hx hb dX8_append_4 kc_t_4_54 (fun c_9 => absurd c_9 (by decide)) (fun c_9 => ?_)
      refine lv_iload_n hx hb dX8_append_7 rfl (lv_at hl 3 rfl) ?_
      refine lv_iload_n hx hb dX8_append_8 rfl (lv_at hl 0 rfl) ?_
      obtain ⟨x_10, ex_10⟩ : ∃ z : Int32, z = (Int32.toUInt32 p0 >>> (Int32.toUInt32 8 &&& Int32.toUInt32 31)).toInt32 := ⟨_, rfl⟩
      refine lv_iushr (v := x_10) hx hb dX8_append_9 ex_10.symm ?_
      refine lv_sipush (v := 255) hx hb dX8_append_10 kc_s_255 ?_
      refine lv_iand hx hb dX8_append_13 ?_
      refine lv_topi (fun x_11 ex_11 => ?_)
      refine lv_istore_n hx hb dX8_append_14 rfl hl kc_l_3_4 (kTo [(3, .int x_11), (2, .int 8), (0, .ref jT), (1, .int p0)]) (fun ls hl => ?_)
      refine lv_iload_n hx hb dX8_append_15 rfl (lv_at hl 0 rfl) ?_
      refine lv_if_eq (tgt := 52) hx hb dX8_append_16 kc_t_16_36 (fun c_12 => ?_) (fun c_12 => ?_)
      · refine lv_iinc (v := 0) hx hb dX8_append_52 hl (k := 1) rfl (by decide) kc_l_2_4 (kTo [(2, .int 0), (3, .int x_11), (0, .ref jT), (1, .int p0)]) (fun ls hl => ?_)
        refine lv_goto (tgt := 3) hx hb dX8_append_55 kc_t_55_m52 ?_
        refine lv_iload_n hx hb dX8_append_3 rfl (lv_at hl 0 rfl) ?_
        refine lv_if_lt (tgt := 58) hx hb dX8_append_4 kc_t_4_54 (fun c_13 => absurd c_13 (by decide)) (fun c_13 => ?_)
        refine lv_iload_n hx hb dX8_append_7 rfl (lv_at hl 3 rfl) ?_
        refine lv_iload_n hx hb dX8_append_8 rfl (lv_at hl 0 rfl) ?_
        obtain ⟨x_14, ex_14⟩ : ∃ z : Int32, z = (Int32.toUInt32 p0 >>> (Int32.toUInt32 0 &&& Int32.toUInt32 31)).toInt32 := ⟨_, rfl⟩
        refine lv_iushr (v := x_14) hx hb dX8_append_9 ex_14.symm ?_
        refine lv_sipush (v := 255) hx hb dX8_append_10 kc_s_255 ?_
        refine lv_iand hx hb dX8_append_13 ?_
        refine lv_topi (fun x_15 ex_15 => ?_)
        refine lv_istore_n hx hb dX8_append_14 rfl hl kc_l_3_4 (kTo [(3, .int x_15), (2, .int 0), (0, .ref jT), (1, .int p0)]) (fun ls hl => ?_)
        refine lv_iload_n hx hb dX8_append_15 rfl (lv_at hl 0 rfl) ?_
        refine lv_if_eq (tgt := 52) hx hb dX8_append_16 kc_t_16_36 (fun c_16 => ?_) (fun c_16 => ?_)
        · refine lv_iinc (v := (-8)) hx hb dX8_append_52 hl (k := 1) rfl (by decide) kc_l_2_4 (kTo [(2, .int (-8)), (3, .int x_15), (0, .ref jT), (1, .int p0)]) (fun ls hl => ?_)
          refine lv_goto (tgt := 3) hx hb dX8_append_55 kc_t_55_m52 ?_
          refine lv_iload_n hx hb dX8_append_3 rfl (lv_at hl 0 rfl) ?_
          refine lv_if_lt (tgt := 58) hx hb dX8_append_4 kc_t_4_54 (fun c_17 => ?_) (fun c_17 => absurd (by decide) c_17)
          have hP9 := hP
          have hD9 := hD
          have hK9 := hK
          rw [hQ]
          exact W.vret hx hb hr (fun t ht hW => ⟨⟨(gT, kt), rfl, ⟨by omega, hgT⟩,  by rw [ht]; exact hP9, va_K.moved hW.alike hK9, hD9⟩, hS.F ht⟩) hS.2.2 dX8_append_58
        · refine lv_aload_n hx hb dX8_append_19 rfl (lv_at hl 2 rfl) ?_
          refine va_get (D := (dC, dI)) (ci := 8) (v := .int (nI (kt))) (C := RX8) (T := TX8) (N := 2) hx hb hts (fun _ h => List.mem_cons_of_mem _ (List.mem_append_right _ h)) hown hK hP 0 rfl rfl 1 kc_l_1_2 (hts (.fieldLink RX8 15 "NotEnded$Tape" "length" "I") (List.mem_cons_of_mem _ (List.mem_append_left _ (List.mem_of_getElem? (i := 0) rfl)))) (fun _ h9 => h9) rfl dX8_append_20 ?_
          refine lv_aload_n hx hb dX8_append_23 rfl (lv_at hl 2 rfl) ?_
          refine va_get (D := (dC, dI)) (ci := 8) (v := .ref t0) (C := RX8) (T := TX8) (N := 2) hx hb hts (fun _ h => List.mem_cons_of_mem _ (List.mem_append_right _ h)) hown hK hP 0 rfl rfl 0 kc_l_0_2 (hts (.fieldLink RX8 9 "NotEnded$Tape" "signs" "[C") (List.mem_cons_of_mem _ (List.mem_append_left _ (List.mem_of_getElem? (i := 1) rfl)))) (fun _ h9 => h9) rfl dX8_append_24 ?_
          refine va_alen hx hb hK hP 1 0 rfl rfl (v := 120) rfl dX8_append_27 ?_
          refine lv_icmp_ge (tgt := 52) hx hb dX8_append_28 kc_t_28_24 (fun c_18 => ?_) (fun c_18 => ?_)
          · have bd_20 : kt < 2147483648 := by omega
            have hn_19 := kle (a := 120) (b := kt) kc_31_120 bd_20 c_18
            refine lv_iinc (v := (-8)) hx hb dX8_append_52 hl (k := 1) rfl (by decide) kc_l_2_4 (kTo [(2, .int (-8)), (3, .int x_15), (0, .ref jT), (1, .int p0)]) (fun ls hl => ?_)
            refine lv_goto (tgt := 3) hx hb dX8_append_55 kc_t_55_m52 ?_
            refine lv_iload_n hx hb dX8_append_3 rfl (lv_at hl 0 rfl) ?_
            refine lv_if_lt (tgt := 58) hx hb dX8_append_4 kc_t_4_54 (fun c_21 => ?_) (fun c_21 => absurd (by decide) c_21)
            have hP9 := hP
            have hD9 := hD
            have hK9 := hK
            rw [hQ]
            exact W.vret hx hb hr (fun t ht hW => ⟨⟨(gT, kt), rfl, ⟨by omega, hgT⟩,  by rw [ht]; exact hP9, va_K.moved hW.alike hK9, hD9⟩, hS.F ht⟩) hS.2.2 dX8_append_58
          · have bd_23 : kt < 2147483648 := by omega
            have hn_22 := knle (a := 120) (b := kt) kc_31_120 bd_23 c_18
            refine lv_aload_n hx hb dX8_append_31 rfl (lv_at hl 2 rfl) ?_
            refine va_get (D := (dC, dI)) (ci := 8) (v := .ref t0) (C := RX8) (T := TX8) (N := 2) hx hb hts (fun _ h => List.mem_cons_of_mem _ (List.mem_append_right _ h)) hown hK hP 0 rfl rfl 0 kc_l_0_2 (hts (.fieldLink RX8 9 "NotEnded$Tape" "signs" "[C") (List.mem_cons_of_mem _ (List.mem_append_left _ (List.mem_of_getElem? (i := 1) rfl)))) (fun _ h9 => h9) rfl dX8_append_32 ?_
            refine lv_aload_n hx hb dX8_append_35 rfl (lv_at hl 2 rfl) ?_
            refine va_get (D := (dC, dI)) (ci := 8) (v := .int (nI (kt))) (C := RX8) (T := TX8) (N := 2) hx hb hts (fun _ h => List.mem_cons_of_mem _ (List.mem_append_right _ h)) hown hK hP 0 rfl rfl 1 kc_l_1_2 (hts (.fieldLink RX8 15 "NotEnded$Tape" "length" "I") (List.mem_cons_of_mem _ (List.mem_append_left _ (List.mem_of_getElem? (i := 0) rfl)))) (fun _ h9 => h9) rfl dX8_append_36 ?_
            refine lv_iload_n hx hb dX8_append_39 rfl (lv_at hl 0 rfl) ?_
            obtain ⟨x_24, ex_24⟩ : ∃ z : Int32, z = (Int32.toUInt32 x_15 % 65536).toInt32 := ⟨_, rfl⟩
            refine lv_i2c (v := x_24) hx hb dX8_append_40 ex_24.symm ?_
            have bd_26 : kt < 120 := by omega
            refine va_cast hx hb hK hP hD hS 1 0 rfl rfl (vp_in_nI (n := kt) (N := 120) bd_26 kc_31_120) dX8_append_41 (fun H locs hP hD hS => ?_)
            obtain ⟨f_25, ef_25⟩ : ∃ gg9 : Nat → Int32, gg9 = upd gT (Int32.toNatClampNeg (nI (kt))) (vp_nar .char x_24) := ⟨_, rfl⟩
            have hPD : kPD dC dI A [(jT, .inr (8, [.ref t0, .int (nI (kt))])), (t0, .inl (cC, 120, .inl f_25))] H := by rw [ef_25]; exact ⟨hP, hD⟩
            have hP := hPD.1
            have hD := hPD.2
            refine lv_aload_n hx hb dX8_append_42 rfl (lv_at hl 2 rfl) ?_
            refine lv_dup hx hb dX8_append_43 rfl ?_
            refine va_get (D := (dC, dI)) (ci := 8) (v := .int (nI (kt))) (C := RX8) (T := TX8) (N := 2) hx hb hts (fun _ h => List.mem_cons_of_mem _ (List.mem_append_right _ h)) hown hK hP 0 rfl rfl 1 kc_l_1_2 (hts (.fieldLink RX8 15 "NotEnded$Tape" "length" "I") (List.mem_cons_of_mem _ (List.mem_append_left _ (List.mem_of_getElem? (i := 0) rfl)))) (fun _ h9 => h9) rfl dX8_append_44 ?_
            refine lv_iconst (v := 1) hx hb dX8_append_47 kc_i_1 ?_
            refine lv_iadd hx hb dX8_append_48 ?_
            refine lv_topi (fun y_27 ey_27 => ?_)
            obtain rfl : y_27 = nI (kt + 1) := ey_27.trans (nI_add (kt) (1))
            refine va_put (D := (dC, dI)) (ci := 8) (v := .int (nI (kt + 1))) (ty := tyX8 1) (C := RX8) (T := TX8) (N := 2) hx hb hts (fun _ h => List.mem_cons_of_mem _ (List.mem_append_right _ h)) tyX8 tyX8_ok nmX8 hown hK hP hD hS 0 rfl rfl 1 kc_l_1_2 (hts (.fieldLink RX8 15 "NotEnded$Tape" "length" "I") (List.mem_cons_of_mem _ (List.mem_append_left _ (List.mem_of_getElem? (i := 0) rfl)))) (fun _ h9 => h9) rfl (tyX8_ok 1 kc_l_1_2) rfl rfl (Nat.le_of_ble_eq_true rfl) dX8_append_49 (fun H locs hP hD hS => ?_)
            have hPD : kPD dC dI A [(jT, .inr (8, [.ref t0, .int (nI (kt + 1))])), (t0, .inl (cC, 120, .inl f_25))] H := ⟨hP, hD⟩
            have hP := hPD.1
            have hD := hPD.2
            refine lv_iinc (v := (-8)) hx hb dX8_append_52 hl (k := 1) rfl (by decide) kc_l_2_4 (kTo [(2, .int (-8)), (3, .int x_15), (0, .ref jT), (1, .int p0)]) (fun ls hl => ?_)
            refine lv_goto (tgt := 3) hx hb dX8_append_55 kc_t_55_m52 ?_
            refine lv_iload_n hx hb dX8_append_3 rfl (lv_at hl 0 rfl) ?_
            refine lv_if_lt (tgt := 58) hx hb dX8_append_4 kc_t_4_54 (fun c_28 => ?_) (fun c_28 => absurd (by decide) c_28)
            have hP9 := hP
            have hD9 := hD
            have hK9 := hK
            rw [hQ]
            exact W.vret hx hb hr (fun t ht hW => ⟨⟨(f_25, (kt + 1)), rfl, ⟨by omega, (kNarU ef_25 hgT)⟩,  by rw [ht]; exact hP9, va_K.moved hW.alike hK9, hD9⟩, hS.F ht⟩) hS.2.2 dX8_append_58
      · refine lv_aload_n hx hb dX8_append_19 rfl (lv_at hl 2 rfl) ?_
        refine va_get (D := (dC, dI)) (ci := 8) (v := .int (nI (kt))) (C := RX8) (T := TX8) (N := 2) hx hb hts (fun _ h => List.mem_cons_of_mem _ (List.mem_append_right _ h)) hown hK hP 0 rfl rfl 1 kc_l_1_2 (hts (.fieldLink RX8 15 "NotEnded$Tape" "length" "I") (List.mem_cons_of_mem _ (List.mem_append_left _ (List.mem_of_getElem? (i := 0) rfl)))) (fun _ h9 => h9) rfl dX8_append_20 ?_
        refine lv_aload_n hx hb dX8_append_23 rfl (lv_at hl 2 rfl) ?_
        refine va_get (D := (dC, dI)) (ci := 8) (v := .ref t0) (C := RX8) (T := TX8) (N := 2) hx hb hts (fun _ h => List.mem_cons_of_mem _ (List.mem_append_right _ h)) hown hK hP 0 rfl rfl 0 kc_l_0_2 (hts (.fieldLink RX8 9 "NotEnded$Tape" "signs" "[C") (List.mem_cons_of_mem _ (List.mem_append_left _ (List.mem_of_getElem? (i := 1) rfl)))) (fun _ h9 => h9) rfl dX8_append_24 ?_
        refine va_alen hx hb hK hP 1 0 rfl rfl (v := 120) rfl dX8_append_27 ?_
        refine lv_icmp_ge (tgt := 52) hx hb dX8_append_28 kc_t_28_24 (fun c_29 => ?_) (fun c_29 => ?_)
        · have bd_31 : kt < 2147483648 := by omega
          have hn_30 := kle (a := 120) (b := kt) kc_31_120 bd_31 c_29
          refine lv_iinc (v := 0) hx hb dX8_append_52 hl (k := 1) rfl (by decide) kc_l_2_4 (kTo [(2, .int 0), (3, .int x_11), (0, .ref jT), (1, .int p0)]) (fun ls hl => ?_)
          refine lv_goto (tgt := 3) hx hb dX8_append_55 kc_t_55_m52 ?_
          refine lv_iload_n hx hb dX8_append_3 rfl (lv_at hl 0 rfl) ?_
          refine lv_if_lt (tgt := 58) hx hb dX8_append_4 kc_t_4_54 (fun c_32 => absurd c_32 (by decide)) (fun c_32 => ?_)
          refine lv_iload_n hx hb dX8_append_7 rfl (lv_at hl 3 rfl) ?_
          refine lv_iload_n hx hb dX8_append_8 rfl (lv_at hl 0 rfl) ?_
          obtain ⟨x_33, ex_33⟩ : ∃ z : Int32, z = (Int32.toUInt32 p0 >>> (Int32.toUInt32 0 &&& Int32.toUInt32 31)).toInt32 := ⟨_, rfl⟩
          refine lv_iushr (v := x_33) hx hb dX8_append_9 ex_33.symm ?_
          refine lv_sipush (v := 255) hx hb dX8_append_10 kc_s_255 ?_
          refine lv_iand hx hb dX8_append_13 ?_
          refine lv_topi (fun x_34 ex_34 => ?_)
          refine lv_istore_n hx hb dX8_append_14 rfl hl kc_l_3_4 (kTo [(3, .int x_34), (2, .int 0), (0, .ref jT), (1, .int p0)]) (fun ls hl => ?_)
          refine lv_iload_n hx hb dX8_append_15 rfl (lv_at hl 0 rfl) ?_
          refine lv_if_eq (tgt := 52) hx hb dX8_append_16 kc_t_16_36 (fun c_35 => ?_) (fun c_35 => ?_)
          · refine lv_iinc (v := (-8)) hx hb dX8_append_52 hl (k := 1) rfl (by decide) kc_l_2_4 (kTo [(2, .int (-8)), (3, .int x_34), (0, .ref jT), (1, .int p0)]) (fun ls hl => ?_)
            refine lv_goto (tgt := 3) hx hb dX8_append_55 kc_t_55_m52 ?_
            refine lv_iload_n hx hb dX8_append_3 rfl (lv_at hl 0 rfl) ?_
            refine lv_if_lt (tgt := 58) hx hb dX8_append_4 kc_t_4_54 (fun c_36 => ?_) (fun c_36 => absurd (by decide) c_36)
            have hP9 := hP
            have hD9 := hD
            have hK9 := hK
            rw [hQ]
            exact W.vret hx hb hr (fun t ht hW => ⟨⟨(gT, kt), rfl, ⟨by omega, hgT⟩,  by rw [ht]; exact hP9, va_K.moved hW.alike hK9, hD9⟩, hS.F ht⟩) hS.2.2 dX8_append_58
          · refine lv_aload_n hx hb dX8_append_19 rfl (lv_at hl 2 rfl) ?_
            refine va_get (D := (dC, dI)) (ci := 8) (v := .int (nI (kt))) (C := RX8) (T := TX8) (N := 2) hx hb hts (fun _ h => List.mem_cons_of_mem _ (List.mem_append_right _ h)) hown hK hP 0 rfl rfl 1 kc_l_1_2 (hts (.fieldLink RX8 15 "NotEnded$Tape" "length" "I") (List.mem_cons_of_mem _ (List.mem_append_left _ (List.mem_of_getElem? (i := 0) rfl)))) (fun _ h9 => h9) rfl dX8_append_20 ?_
            refine lv_aload_n hx hb dX8_append_23 rfl (lv_at hl 2 rfl) ?_
            refine va_get (D := (dC, dI)) (ci := 8) (v := .ref t0) (C := RX8) (T := TX8) (N := 2) hx hb hts (fun _ h => List.mem_cons_of_mem _ (List.mem_append_right _ h)) hown hK hP 0 rfl rfl 0 kc_l_0_2 (hts (.fieldLink RX8 9 "NotEnded$Tape" "signs" "[C") (List.mem_cons_of_mem _ (List.mem_append_left _ (List.mem_of_getElem? (i := 1) rfl)))) (fun _ h9 => h9) rfl dX8_append_24 ?_
            refine va_alen hx hb hK hP 1 0 rfl rfl (v := 120) rfl dX8_append_27 ?_
            refine lv_icmp_ge (tgt := 52) hx hb dX8_append_28 kc_t_28_24 (fun c_37 => ?_) (fun c_37 => ?_)
            · have hn_38 := kle (a := 120) (b := kt) kc_31_120 bd_31 c_37
              refine lv_iinc (v := (-8)) hx hb dX8_append_52 hl (k := 1) rfl (by decide) kc_l_2_4 (kTo [(2, .int (-8)), (3, .int x_34), (0, .ref jT), (1, .int p0)]) (fun ls hl => ?_)
              refine lv_goto (tgt := 3) hx hb dX8_append_55 kc_t_55_m52 ?_
              refine lv_iload_n hx hb dX8_append_3 rfl (lv_at hl 0 rfl) ?_
              refine lv_if_lt (tgt := 58) hx hb dX8_append_4 kc_t_4_54 (fun c_39 => ?_) (fun c_39 => absurd (by decide) c_39)
              have hP9 := hP
              have hD9 := hD
              have hK9 := hK
              rw [hQ]
              exact W.vret hx hb hr (fun t ht hW => ⟨⟨(gT, kt), rfl, ⟨by omega, hgT⟩,  by rw [ht]; exact hP9, va_K.moved hW.alike hK9, hD9⟩, hS.F ht⟩) hS.2.2 dX8_append_58
            · have hn_40 := knle (a := 120) (b := kt) kc_31_120 bd_31 c_37
              refine lv_aload_n hx hb dX8_append_31 rfl (lv_at hl 2 rfl) ?_
              refine va_get (D := (dC, dI)) (ci := 8) (v := .ref t0) (C := RX8) (T := TX8) (N := 2) hx hb hts (fun _ h => List.mem_cons_of_mem _ (List.mem_append_right _ h)) hown hK hP 0 rfl rfl 0 kc_l_0_2 (hts (.fieldLink RX8 9 "NotEnded$Tape" "signs" "[C") (List.mem_cons_of_mem _ (List.mem_append_left _ (List.mem_of_getElem? (i := 1) rfl)))) (fun _ h9 => h9) rfl dX8_append_32 ?_
              refine lv_aload_n hx hb dX8_append_35 rfl (lv_at hl 2 rfl) ?_
              refine va_get (D := (dC, dI)) (ci := 8) (v := .int (nI (kt))) (C := RX8) (T := TX8) (N := 2) hx hb hts (fun _ h => List.mem_cons_of_mem _ (List.mem_append_right _ h)) hown hK hP 0 rfl rfl 1 kc_l_1_2 (hts (.fieldLink RX8 15 "NotEnded$Tape" "length" "I") (List.mem_cons_of_mem _ (List.mem_append_left _ (List.mem_of_getElem? (i := 0) rfl)))) (fun _ h9 => h9) rfl dX8_append_36 ?_
              refine lv_iload_n hx hb dX8_append_39 rfl (lv_at hl 0 rfl) ?_
              obtain ⟨x_41, ex_41⟩ : ∃ z : Int32, z = (Int32.toUInt32 x_34 % 65536).toInt32 := ⟨_, rfl⟩
              refine lv_i2c (v := x_41) hx hb dX8_append_40 ex_41.symm ?_
              have bd_43 : kt < 120 := by omega
              refine va_cast hx hb hK hP hD hS 1 0 rfl rfl (vp_in_nI (n := kt) (N := 120) bd_43 kc_31_120) dX8_append_41 (fun H locs hP hD hS => ?_)
              obtain ⟨f_42, ef_42⟩ : ∃ gg9 : Nat → Int32, gg9 = upd gT (Int32.toNatClampNeg (nI (kt))) (vp_nar .char x_41) := ⟨_, rfl⟩
              have hPD : kPD dC dI A [(jT, .inr (8, [.ref t0, .int (nI (kt))])), (t0, .inl (cC, 120, .inl f_42))] H := by rw [ef_42]; exact ⟨hP, hD⟩
              have hP := hPD.1
              have hD := hPD.2
              refine lv_aload_n hx hb dX8_append_42 rfl (lv_at hl 2 rfl) ?_
              refine lv_dup hx hb dX8_append_43 rfl ?_
              refine va_get (D := (dC, dI)) (ci := 8) (v := .int (nI (kt))) (C := RX8) (T := TX8) (N := 2) hx hb hts (fun _ h => List.mem_cons_of_mem _ (List.mem_append_right _ h)) hown hK hP 0 rfl rfl 1 kc_l_1_2 (hts (.fieldLink RX8 15 "NotEnded$Tape" "length" "I") (List.mem_cons_of_mem _ (List.mem_append_left _ (List.mem_of_getElem? (i := 0) rfl)))) (fun _ h9 => h9) rfl dX8_append_44 ?_
              refine lv_iconst (v := 1) hx hb dX8_append_47 kc_i_1 ?_
              refine lv_iadd hx hb dX8_append_48 ?_
              refine lv_topi (fun y_44 ey_44 => ?_)
              obtain rfl : y_44 = nI (kt + 1) := ey_44.trans (nI_add (kt) (1))
              refine va_put (D := (dC, dI)) (ci := 8) (v := .int (nI (kt + 1))) (ty := tyX8 1) (C := RX8) (T := TX8) (N := 2) hx hb hts (fun _ h => List.mem_cons_of_mem _ (List.mem_append_right _ h)) tyX8 tyX8_ok nmX8 hown hK hP hD hS 0 rfl rfl 1 kc_l_1_2 (hts (.fieldLink RX8 15 "NotEnded$Tape" "length" "I") (List.mem_cons_of_mem _ (List.mem_append_left _ (List.mem_of_getElem? (i := 0) rfl)))) (fun _ h9 => h9) rfl (tyX8_ok 1 kc_l_1_2) rfl rfl (Nat.le_of_ble_eq_true rfl) dX8_append_49 (fun H locs hP hD hS => ?_)
              have hPD : kPD dC dI A [(jT, .inr (8, [.ref t0, .int (nI (kt + 1))])), (t0, .inl (cC, 120, .inl f_42))] H := ⟨hP, hD⟩
              have hP := hPD.1
              have hD := hPD.2
              refine lv_iinc (v := (-8)) hx hb dX8_append_52 hl (k := 1) rfl (by decide) kc_l_2_4 (kTo [(2, .int (-8)), (3, .int x_34), (0, .ref jT), (1, .int p0)]) (fun ls hl => ?_)
              refine lv_goto (tgt := 3) hx hb dX8_append_55 kc_t_55_m52 ?_
              refine lv_iload_n hx hb dX8_append_3 rfl (lv_at hl 0 rfl) ?_
              refine lv_if_lt (tgt := 58) hx hb dX8_append_4 kc_t_4_54 (fun c_45 => ?_) (fun c_45 => absurd (by decide) c_45)
              have hP9 := hP
              have hD9 := hD
              have hK9 := hK
              rw [hQ]
              exact W.vret hx hb hr (fun t ht hW => ⟨⟨(f_42, (kt + 1)), rfl, ⟨by omega, (kNarU ef_42 hgT)⟩,  by rw [ht]; exact hP9, va_K.moved hW.alike hK9, hD9⟩, hS.F ht⟩) hS.2.2 dX8_append_58
        · have bd_47 : kt < 2147483648 := by omega
          have hn_46 := knle (a := 120) (b := kt) kc_31_120 bd_47 c_29
          refine lv_aload_n hx hb dX8_append_31 rfl (lv_at hl 2 rfl) ?_
          refine va_get (D := (dC, dI)) (ci := 8) (v := .ref t0) (C := RX8) (T := TX8) (N := 2) hx hb hts (fun _ h => List.mem_cons_of_mem _ (List.mem_append_right _ h)) hown hK hP 0 rfl rfl 0 kc_l_0_2 (hts (.fieldLink RX8 9 "NotEnded$Tape" "signs" "[C") (List.mem_cons_of_mem _ (List.mem_append_left _ (List.mem_of_getElem? (i := 1) rfl)))) (fun _ h9 => h9) rfl dX8_append_32 ?_
          refine lv_aload_n hx hb dX8_append_35 rfl (lv_at hl 2 rfl) ?_
          refine va_get (D := (dC, dI)) (ci := 8) (v := .int (nI (kt))) (C := RX8) (T := TX8) (N := 2) hx hb hts (fun _ h => List.mem_cons_of_mem _ (List.mem_append_right _ h)) hown hK hP 0 rfl rfl 1 kc_l_1_2 (hts (.fieldLink RX8 15 "NotEnded$Tape" "length" "I") (List.mem_cons_of_mem _ (List.mem_append_left _ (List.mem_of_getElem? (i := 0) rfl)))) (fun _ h9 => h9) rfl dX8_append_36 ?_
          refine lv_iload_n hx hb dX8_append_39 rfl (lv_at hl 0 rfl) ?_
          obtain ⟨x_48, ex_48⟩ : ∃ z : Int32, z = (Int32.toUInt32 x_11 % 65536).toInt32 := ⟨_, rfl⟩
          refine lv_i2c (v := x_48) hx hb dX8_append_40 ex_48.symm ?_
          have bd_50 : kt < 120 := by omega
          refine va_cast hx hb hK hP hD hS 1 0 rfl rfl (vp_in_nI (n := kt) (N := 120) bd_50 kc_31_120) dX8_append_41 (fun H locs hP hD hS => ?_)
          obtain ⟨f_49, ef_49⟩ : ∃ gg9 : Nat → Int32, gg9 = upd gT (Int32.toNatClampNeg (nI (kt))) (vp_nar .char x_48) := ⟨_, rfl⟩
          have hPD : kPD dC dI A [(jT, .inr (8, [.ref t0, .int (nI (kt))])), (t0, .inl (cC, 120, .inl f_49))] H := by rw [ef_49]; exact ⟨hP, hD⟩
          have hP := hPD.1
          have hD := hPD.2
          refine lv_aload_n hx hb dX8_append_42 rfl (lv_at hl 2 rfl) ?_
          refine lv_dup hx hb dX8_append_43 rfl ?_
          refine va_get (D := (dC, dI)) (ci := 8) (v := .int (nI (kt))) (C := RX8) (T := TX8) (N := 2) hx hb hts (fun _ h => List.mem_cons_of_mem _ (List.mem_append_right _ h)) hown hK hP 0 rfl rfl 1 kc_l_1_2 (hts (.fieldLink RX8 15 "NotEnded$Tape" "length" "I") (List.mem_cons_of_mem _ (List.mem_append_left _ (List.mem_of_getElem? (i := 0) rfl)))) (fun _ h9 => h9) rfl dX8_append_44 ?_
          refine lv_iconst (v := 1) hx hb dX8_append_47 kc_i_1 ?_
          refine lv_iadd hx hb dX8_append_48 ?_
          refine lv_topi (fun y_51 ey_51 => ?_)
          obtain rfl : y_51 = nI (kt + 1) := ey_51.trans (nI_add (kt) (1))
          refine va_put (D := (dC, dI)) (ci := 8) (v := .int (nI (kt + 1))) (ty := tyX8 1) (C := RX8) (T := TX8) (N := 2) hx hb hts (fun _ h => List.mem_cons_of_mem _ (List.mem_append_right _ h)) tyX8 tyX8_ok nmX8 hown hK hP hD hS 0 rfl rfl 1 kc_l_1_2 (hts (.fieldLink RX8 15 "NotEnded$Tape" "length" "I") (List.mem_cons_of_mem _ (List.mem_append_left _ (List.mem_of_getElem? (i := 0) rfl)))) (fun _ h9 => h9) rfl (tyX8_ok 1 kc_l_1_2) rfl rfl (Nat.le_of_ble_eq_true rfl) dX8_append_49 (fun H locs hP hD hS => ?_)
          have hPD : kPD dC dI A [(jT, .inr (8, [.ref t0, .int (nI (kt + 1))])), (t0, .inl (cC, 120, .inl f_49))] H := ⟨hP, hD⟩
          have hP := hPD.1
          have hD := hPD.2
          refine lv_iinc (v := 0) hx hb dX8_append_52 hl (k := 1) rfl (by decide) kc_l_2_4 (kTo [(2, .int 0), (3, .int x_11), (0, .ref jT), (1, .int p0)]) (fun ls hl => ?_)
          refine lv_goto (tgt := 3) hx hb dX8_append_55 kc_t_55_m52 ?_
          refine lv_iload_n hx hb dX8_append_3 rfl (lv_at hl 0 rfl) ?_
          refine lv_if_lt (tgt := 58) hx hb dX8_append_4 kc_t_4_54 (fun c_52 => absurd c_52 (by decide)) (fun c_52 => ?_)
          refine lv_iload_n hx hb dX8_append_7 rfl (lv_at hl 3 rfl) ?_
          refine lv_iload_n hx hb dX8_append_8 rfl (lv_at hl 0 rfl) ?_
          obtain ⟨x_53, ex_53⟩ : ∃ z : Int32, z = (Int32.toUInt32 p0 >>> (Int32.toUInt32 0 &&& Int32.toUInt32 31)).toInt32 := ⟨_, rfl⟩
          refine lv_iushr (v := x_53) hx hb dX8_append_9 ex_53.symm ?_
          refine lv_sipush (v := 255) hx hb dX8_append_10 kc_s_255 ?_
          refine lv_iand hx hb dX8_append_13 ?_
          refine lv_topi (fun x_54 ex_54 => ?_)
          refine lv_istore_n hx hb dX8_append_14 rfl hl kc_l_3_4 (kTo [(3, .int x_54), (2, .int 0), (0, .ref jT), (1, .int p0)]) (fun ls hl => ?_)
          refine lv_iload_n hx hb dX8_append_15 rfl (lv_at hl 0 rfl) ?_
          refine lv_if_eq (tgt := 52) hx hb dX8_append_16 kc_t_16_36 (fun c_55 => ?_) (fun c_55 => ?_)
          · refine lv_iinc (v := (-8)) hx hb dX8_append_52 hl (k := 1) rfl (by decide) kc_l_2_4 (kTo [(2, .int (-8)), (3, .int x_54), (0, .ref jT), (1, .int p0)]) (fun ls hl => ?_)
            refine lv_goto (tgt := 3) hx hb dX8_append_55 kc_t_55_m52 ?_
            refine lv_iload_n hx hb dX8_append_3 rfl (lv_at hl 0 rfl) ?_
            refine lv_if_lt (tgt := 58) hx hb dX8_append_4 kc_t_4_54 (fun c_56 => ?_) (fun c_56 => absurd (by decide) c_56)
            have hP9 := hP
            have hD9 := hD
            have hK9 := hK
            rw [hQ]
            exact W.vret hx hb hr (fun t ht hW => ⟨⟨(f_49, (kt + 1)), rfl, ⟨by omega, (kNarU ef_49 hgT)⟩,  by rw [ht]; exact hP9, va_K.moved hW.alike hK9, hD9⟩, hS.F ht⟩) hS.2.2 dX8_append_58
          · refine lv_aload_n hx hb dX8_append_19 rfl (lv_at hl 2 rfl) ?_
            refine va_get (D := (dC, dI)) (ci := 8) (v := .int (nI (kt + 1))) (C := RX8) (T := TX8) (N := 2) hx hb hts (fun _ h => List.mem_cons_of_mem _ (List.mem_append_right _ h)) hown hK hP 0 rfl rfl 1 kc_l_1_2 (hts (.fieldLink RX8 15 "NotEnded$Tape" "length" "I") (List.mem_cons_of_mem _ (List.mem_append_left _ (List.mem_of_getElem? (i := 0) rfl)))) (fun _ h9 => h9) rfl dX8_append_20 ?_
            refine lv_aload_n hx hb dX8_append_23 rfl (lv_at hl 2 rfl) ?_
            refine va_get (D := (dC, dI)) (ci := 8) (v := .ref t0) (C := RX8) (T := TX8) (N := 2) hx hb hts (fun _ h => List.mem_cons_of_mem _ (List.mem_append_right _ h)) hown hK hP 0 rfl rfl 0 kc_l_0_2 (hts (.fieldLink RX8 9 "NotEnded$Tape" "signs" "[C") (List.mem_cons_of_mem _ (List.mem_append_left _ (List.mem_of_getElem? (i := 1) rfl)))) (fun _ h9 => h9) rfl dX8_append_24 ?_
            refine va_alen hx hb hK hP 1 0 rfl rfl (v := 120) rfl dX8_append_27 ?_
            refine lv_icmp_ge (tgt := 52) hx hb dX8_append_28 kc_t_28_24 (fun c_57 => ?_) (fun c_57 => ?_)
            · have bd_59 : kt + 1 < 2147483648 := by omega
              have hn_58 := kle (a := 120) (b := kt + 1) kc_31_120 bd_59 c_57
              refine lv_iinc (v := (-8)) hx hb dX8_append_52 hl (k := 1) rfl (by decide) kc_l_2_4 (kTo [(2, .int (-8)), (3, .int x_54), (0, .ref jT), (1, .int p0)]) (fun ls hl => ?_)
              refine lv_goto (tgt := 3) hx hb dX8_append_55 kc_t_55_m52 ?_
              refine lv_iload_n hx hb dX8_append_3 rfl (lv_at hl 0 rfl) ?_
              refine lv_if_lt (tgt := 58) hx hb dX8_append_4 kc_t_4_54 (fun c_60 => ?_) (fun c_60 => absurd (by decide) c_60)
              have hP9 := hP
              have hD9 := hD
              have hK9 := hK
              rw [hQ]
              exact W.vret hx hb hr (fun t ht hW => ⟨⟨(f_49, (kt + 1)), rfl, ⟨by omega, (kNarU ef_49 hgT)⟩,  by rw [ht]; exact hP9, va_K.moved hW.alike hK9, hD9⟩, hS.F ht⟩) hS.2.2 dX8_append_58
            · have bd_62 : kt + 1 < 2147483648 := by omega
              have hn_61 := knle (a := 120) (b := kt + 1) kc_31_120 bd_62 c_57
              refine lv_aload_n hx hb dX8_append_31 rfl (lv_at hl 2 rfl) ?_
              refine va_get (D := (dC, dI)) (ci := 8) (v := .ref t0) (C := RX8) (T := TX8) (N := 2) hx hb hts (fun _ h => List.mem_cons_of_mem _ (List.mem_append_right _ h)) hown hK hP 0 rfl rfl 0 kc_l_0_2 (hts (.fieldLink RX8 9 "NotEnded$Tape" "signs" "[C") (List.mem_cons_of_mem _ (List.mem_append_left _ (List.mem_of_getElem? (i := 1) rfl)))) (fun _ h9 => h9) rfl dX8_append_32 ?_
              refine lv_aload_n hx hb dX8_append_35 rfl (lv_at hl 2 rfl) ?_
              refine va_get (D := (dC, dI)) (ci := 8) (v := .int (nI (kt + 1))) (C := RX8) (T := TX8) (N := 2) hx hb hts (fun _ h => List.mem_cons_of_mem _ (List.mem_append_right _ h)) hown hK hP 0 rfl rfl 1 kc_l_1_2 (hts (.fieldLink RX8 15 "NotEnded$Tape" "length" "I") (List.mem_cons_of_mem _ (List.mem_append_left _ (List.mem_of_getElem? (i := 0) rfl)))) (fun _ h9 => h9) rfl dX8_append_36 ?_
              refine lv_iload_n hx hb dX8_append_39 rfl (lv_at hl 0 rfl) ?_
              obtain ⟨x_63, ex_63⟩ : ∃ z : Int32, z = (Int32.toUInt32 x_54 % 65536).toInt32 := ⟨_, rfl⟩
              refine lv_i2c (v := x_63) hx hb dX8_append_40 ex_63.symm ?_
              have bd_65 : kt + 1 < 120 := by omega
              refine va_cast hx hb hK hP hD hS 1 0 rfl rfl (vp_in_nI (n := kt + 1) (N := 120) bd_65 kc_31_120) dX8_append_41 (fun H locs hP hD hS => ?_)
              obtain ⟨f_64, ef_64⟩ : ∃ gg9 : Nat → Int32, gg9 = upd f_49 (Int32.toNatClampNeg (nI (kt + 1))) (vp_nar .char x_63) := ⟨_, rfl⟩
              have hPD : kPD dC dI A [(jT, .inr (8, [.ref t0, .int (nI (kt + 1))])), (t0, .inl (cC, 120, .inl f_64))] H := by rw [ef_64]; exact ⟨hP, hD⟩
              have hP := hPD.1
              have hD := hPD.2
              refine lv_aload_n hx hb dX8_append_42 rfl (lv_at hl 2 rfl) ?_
              refine lv_dup hx hb dX8_append_43 rfl ?_
              refine va_get (D := (dC, dI)) (ci := 8) (v := .int (nI (kt + 1))) (C := RX8) (T := TX8) (N := 2) hx hb hts (fun _ h => List.mem_cons_of_mem _ (List.mem_append_right _ h)) hown hK hP 0 rfl rfl 1 kc_l_1_2 (hts (.fieldLink RX8 15 "NotEnded$Tape" "length" "I") (List.mem_cons_of_mem _ (List.mem_append_left _ (List.mem_of_getElem? (i := 0) rfl)))) (fun _ h9 => h9) rfl dX8_append_44 ?_
              refine lv_iconst (v := 1) hx hb dX8_append_47 kc_i_1 ?_
              refine lv_iadd hx hb dX8_append_48 ?_
              refine lv_topi (fun y_66 ey_66 => ?_)
              obtain rfl : y_66 = nI (kt + 1 + 1) := ey_66.trans (nI_add (kt + 1) (1))
              refine va_put (D := (dC, dI)) (ci := 8) (v := .int (nI (kt + 1 + 1))) (ty := tyX8 1) (C := RX8) (T := TX8) (N := 2) hx hb hts (fun _ h => List.mem_cons_of_mem _ (List.mem_append_right _ h)) tyX8 tyX8_ok nmX8 hown hK hP hD hS 0 rfl rfl 1 kc_l_1_2 (hts (.fieldLink RX8 15 "NotEnded$Tape" "length" "I") (List.mem_cons_of_mem _ (List.mem_append_left _ (List.mem_of_getElem? (i := 0) rfl)))) (fun _ h9 => h9) rfl (tyX8_ok 1 kc_l_1_2) rfl rfl (Nat.le_of_ble_eq_true rfl) dX8_append_49 (fun H locs hP hD hS => ?_)
              have hPD : kPD dC dI A [(jT, .inr (8, [.ref t0, .int (nI (kt + 1 + 1))])), (t0, .inl (cC, 120, .inl f_64))] H := ⟨hP, hD⟩
              have hP := hPD.1
              have hD := hPD.2
              refine lv_iinc (v := (-8)) hx hb dX8_append_52 hl (k := 1) rfl (by decide) kc_l_2_4 (kTo [(2, .int (-8)), (3, .int x_54), (0, .ref jT), (1, .int p0)]) (fun ls hl => ?_)
              refine lv_goto (tgt := 3) hx hb dX8_append_55 kc_t_55_m52 ?_
              refine lv_iload_n hx hb dX8_append_3 rfl (lv_at hl 0 rfl) ?_
              refine lv_if_lt (tgt := 58) hx hb dX8_append_4 kc_t_4_54 (fun c_67 => ?_) (fun c_67 => absurd (by decide) c_67)
              have hP9 := hP
              have hD9 := hD
              have hK9 := hK
              rw [hQ]
              exact W.vret hx hb hr (fun t ht hW => ⟨⟨(f_64, (kt + 1 + 1)), rfl, ⟨by omega, (kNarU ef_64 (kNarU ef_49 hgT))⟩,  by rw [ht]; exact hP9, va_K.moved hW.alike hK9, hD9⟩, hS.F ht⟩) hS.2.2 dX8_append_58
    · refine lv_aload_n hx hb dX8_append_19 rfl (lv_at hl 2 rfl) ?_
      refine va_get (D := (dC, dI)) (ci := 8) (v := .int (nI (kt))) (C := RX8) (T := TX8) (N := 2) hx hb hts (fun _ h => List.mem_cons_of_mem _ (List.mem_append_right _ h)) hown hK hP 0 rfl rfl 1 kc_l_1_2 (hts (.fieldLink RX8 15 "NotEnded$Tape" "length" "I") (List.mem_cons_of_mem _ (List.mem_append_left _ (List.mem_of_getElem? (i := 0) rfl)))) (fun _ h9 => h9) rfl dX8_append_20 ?_
      refine lv_aload_n hx hb dX8_append_23 rfl (lv_at hl 2 rfl) ?_
      refine va_get (D := (dC, dI)) (ci := 8) (v := .ref t0) (C := RX8) (T := TX8) (N := 2) hx hb hts (fun _ h => List.mem_cons_of_mem _ (List.mem_append_right _ h)) hown hK hP 0 rfl rfl 0 kc_l_0_2 (hts (.fieldLink RX8 9 "NotEnded$Tape" "signs" "[C") (List.mem_cons_of_mem _ (List.mem_append_left _ (List.mem_of_getElem? (i := 1) rfl)))) (fun _ h9 => h9) rfl dX8_append_24 ?_
      refine va_alen hx hb hK hP 1 0 rfl rfl (v := 120) rfl dX8_append_27 ?_
      refine lv_icmp_ge (tgt := 52) hx hb dX8_append_28 kc_t_28_24 (fun c_68 => ?_) (fun c_68 => ?_)
      · have bd_70 : kt < 2147483648 := by omega
        have hn_69 := kle (a := 120) (b := kt) kc_31_120 bd_70 c_68
        refine lv_iinc (v := 8) hx hb dX8_append_52 hl (k := 1) rfl (by decide) kc_l_2_4 (kTo [(2, .int 8), (3, .int x_7), (0, .ref jT), (1, .int p0)]) (fun ls hl => ?_)
        refine lv_goto (tgt := 3) hx hb dX8_append_55 kc_t_55_m52 ?_
        refine lv_iload_n hx hb dX8_append_3 rfl (lv_at hl 0 rfl) ?_
        refine lv_if_lt (tgt := 58) hx hb dX8_append_4 kc_t_4_54 (fun c_71 => absurd c_71 (by decide)) (fun c_71 => ?_)
        refine lv_iload_n hx hb dX8_append_7 rfl (lv_at hl 3 rfl) ?_
        refine lv_iload_n hx hb dX8_append_8 rfl (lv_at hl 0 rfl) ?_
        obtain ⟨x_72, ex_72⟩ : ∃ z : Int32, z = (Int32.toUInt32 p0 >>> (Int32.toUInt32 8 &&& Int32.toUInt32 31)).toInt32 := ⟨_, rfl⟩
        refine lv_iushr (v := x_72) hx hb dX8_append_9 ex_72.symm ?_
        refine lv_sipush (v := 255) hx hb dX8_append_10 kc_s_255 ?_
        refine lv_iand hx hb dX8_append_13 ?_
        refine lv_topi (fun x_73 ex_73 => ?_)
        refine lv_istore_n hx hb dX8_append_14 rfl hl kc_l_3_4 (kTo [(3, .int x_73), (2, .int 8), (0, .ref jT), (1, .int p0)]) (fun ls hl => ?_)
        refine lv_iload_n hx hb dX8_append_15 rfl (lv_at hl 0 rfl) ?_
        refine lv_if_eq (tgt := 52) hx hb dX8_append_16 kc_t_16_36 (fun c_74 => ?_) (fun c_74 => ?_)
        · refine lv_iinc (v := 0) hx hb dX8_append_52 hl (k := 1) rfl (by decide) kc_l_2_4 (kTo [(2, .int 0), (3, .int x_73), (0, .ref jT), (1, .int p0)]) (fun ls hl => ?_)
          refine lv_goto (tgt := 3) hx hb dX8_append_55 kc_t_55_m52 ?_
          refine lv_iload_n hx hb dX8_append_3 rfl (lv_at hl 0 rfl) ?_
          refine lv_if_lt (tgt := 58) hx hb dX8_append_4 kc_t_4_54 (fun c_75 => absurd c_75 (by decide)) (fun c_75 => ?_)
          refine lv_iload_n hx hb dX8_append_7 rfl (lv_at hl 3 rfl) ?_
          refine lv_iload_n hx hb dX8_append_8 rfl (lv_at hl 0 rfl) ?_
          obtain ⟨x_76, ex_76⟩ : ∃ z : Int32, z = (Int32.toUInt32 p0 >>> (Int32.toUInt32 0 &&& Int32.toUInt32 31)).toInt32 := ⟨_, rfl⟩
          refine lv_iushr (v := x_76) hx hb dX8_append_9 ex_76.symm ?_
          refine lv_sipush (v := 255) hx hb dX8_append_10 kc_s_255 ?_
          refine lv_iand hx hb dX8_append_13 ?_
          refine lv_topi (fun x_77 ex_77 => ?_)
          refine lv_istore_n hx hb dX8_append_14 rfl hl kc_l_3_4 (kTo [(3, .int x_77), (2, .int 0), (0, .ref jT), (1, .int p0)]) (fun ls hl => ?_)
          refine lv_iload_n hx hb dX8_append_15 rfl (lv_at hl 0 rfl) ?_
          refine lv_if_eq (tgt := 52) hx hb dX8_append_16 kc_t_16_36 (fun c_78 => ?_) (fun c_78 => ?_)
          · refine lv_iinc (v := (-8)) hx hb dX8_append_52 hl (k := 1) rfl (by decide) kc_l_2_4 (kTo [(2, .int (-8)), (3, .int x_77), (0, .ref jT), (1, .int p0)]) (fun ls hl => ?_)
            refine lv_goto (tgt := 3) hx hb dX8_append_55 kc_t_55_m52 ?_
            refine lv_iload_n hx hb dX8_append_3 rfl (lv_at hl 0 rfl) ?_
            refine lv_if_lt (tgt := 58) hx hb dX8_append_4 kc_t_4_54 (fun c_79 => ?_) (fun c_79 => absurd (by decide) c_79)
            have hP9 := hP
            have hD9 := hD
            have hK9 := hK
            rw [hQ]
            exact W.vret hx hb hr (fun t ht hW => ⟨⟨(gT, kt), rfl, ⟨by omega, hgT⟩,  by rw [ht]; exact hP9, va_K.moved hW.alike hK9, hD9⟩, hS.F ht⟩) hS.2.2 dX8_append_58
          · refine lv_aload_n hx hb dX8_append_19 rfl (lv_at hl 2 rfl) ?_
            refine va_get (D := (dC, dI)) (ci := 8) (v := .int (nI (kt))) (C := RX8) (T := TX8) (N := 2) hx hb hts (fun _ h => List.mem_cons_of_mem _ (List.mem_append_right _ h)) hown hK hP 0 rfl rfl 1 kc_l_1_2 (hts (.fieldLink RX8 15 "NotEnded$Tape" "length" "I") (List.mem_cons_of_mem _ (List.mem_append_left _ (List.mem_of_getElem? (i := 0) rfl)))) (fun _ h9 => h9) rfl dX8_append_20 ?_
            refine lv_aload_n hx hb dX8_append_23 rfl (lv_at hl 2 rfl) ?_
            refine va_get (D := (dC, dI)) (ci := 8) (v := .ref t0) (C := RX8) (T := TX8) (N := 2) hx hb hts (fun _ h => List.mem_cons_of_mem _ (List.mem_append_right _ h)) hown hK hP 0 rfl rfl 0 kc_l_0_2 (hts (.fieldLink RX8 9 "NotEnded$Tape" "signs" "[C") (List.mem_cons_of_mem _ (List.mem_append_left _ (List.mem_of_getElem? (i := 1) rfl)))) (fun _ h9 => h9) rfl dX8_append_24 ?_
            refine va_alen hx hb hK hP 1 0 rfl rfl (v := 120) rfl dX8_append_27 ?_
            refine lv_icmp_ge (tgt := 52) hx hb dX8_append_28 kc_t_28_24 (fun c_80 => ?_) (fun c_80 => ?_)
            · have hn_81 := kle (a := 120) (b := kt) kc_31_120 bd_70 c_80
              refine lv_iinc (v := (-8)) hx hb dX8_append_52 hl (k := 1) rfl (by decide) kc_l_2_4 (kTo [(2, .int (-8)), (3, .int x_77), (0, .ref jT), (1, .int p0)]) (fun ls hl => ?_)
              refine lv_goto (tgt := 3) hx hb dX8_append_55 kc_t_55_m52 ?_
              refine lv_iload_n hx hb dX8_append_3 rfl (lv_at hl 0 rfl) ?_
              refine lv_if_lt (tgt := 58) hx hb dX8_append_4 kc_t_4_54 (fun c_82 => ?_) (fun c_82 => absurd (by decide) c_82)
              have hP9 := hP
              have hD9 := hD
              have hK9 := hK
              rw [hQ]
              exact W.vret hx hb hr (fun t ht hW => ⟨⟨(gT, kt), rfl, ⟨by omega, hgT⟩,  by rw [ht]; exact hP9, va_K.moved hW.alike hK9, hD9⟩, hS.F ht⟩) hS.2.2 dX8_append_58
            · have hn_83 := knle (a := 120) (b := kt) kc_31_120 bd_70 c_80
              refine lv_aload_n hx hb dX8_append_31 rfl (lv_at hl 2 rfl) ?_
              refine va_get (D := (dC, dI)) (ci := 8) (v := .ref t0) (C := RX8) (T := TX8) (N := 2) hx hb hts (fun _ h => List.mem_cons_of_mem _ (List.mem_append_right _ h)) hown hK hP 0 rfl rfl 0 kc_l_0_2 (hts (.fieldLink RX8 9 "NotEnded$Tape" "signs" "[C") (List.mem_cons_of_mem _ (List.mem_append_left _ (List.mem_of_getElem? (i := 1) rfl)))) (fun _ h9 => h9) rfl dX8_append_32 ?_
              refine lv_aload_n hx hb dX8_append_35 rfl (lv_at hl 2 rfl) ?_
              refine va_get (D := (dC, dI)) (ci := 8) (v := .int (nI (kt))) (C := RX8) (T := TX8) (N := 2) hx hb hts (fun _ h => List.mem_cons_of_mem _ (List.mem_append_right _ h)) hown hK hP 0 rfl rfl 1 kc_l_1_2 (hts (.fieldLink RX8 15 "NotEnded$Tape" "length" "I") (List.mem_cons_of_mem _ (List.mem_append_left _ (List.mem_of_getElem? (i := 0) rfl)))) (fun _ h9 => h9) rfl dX8_append_36 ?_
              refine lv_iload_n hx hb dX8_append_39 rfl (lv_at hl 0 rfl) ?_
              obtain ⟨x_84, ex_84⟩ : ∃ z : Int32, z = (Int32.toUInt32 x_77 % 65536).toInt32 := ⟨_, rfl⟩
              refine lv_i2c (v := x_84) hx hb dX8_append_40 ex_84.symm ?_
              have bd_86 : kt < 120 := by omega
              refine va_cast hx hb hK hP hD hS 1 0 rfl rfl (vp_in_nI (n := kt) (N := 120) bd_86 kc_31_120) dX8_append_41 (fun H locs hP hD hS => ?_)
              obtain ⟨f_85, ef_85⟩ : ∃ gg9 : Nat → Int32, gg9 = upd gT (Int32.toNatClampNeg (nI (kt))) (vp_nar .char x_84) := ⟨_, rfl⟩
              have hPD : kPD dC dI A [(jT, .inr (8, [.ref t0, .int (nI (kt))])), (t0, .inl (cC, 120, .inl f_85))] H := by rw [ef_85]; exact ⟨hP, hD⟩
              have hP := hPD.1
              have hD := hPD.2
              refine lv_aload_n hx hb dX8_append_42 rfl (lv_at hl 2 rfl) ?_
              refine lv_dup hx hb dX8_append_43 rfl ?_
              refine va_get (D := (dC, dI)) (ci := 8) (v := .int (nI (kt))) (C := RX8) (T := TX8) (N := 2) hx hb hts (fun _ h => List.mem_cons_of_mem _ (List.mem_append_right _ h)) hown hK hP 0 rfl rfl 1 kc_l_1_2 (hts (.fieldLink RX8 15 "NotEnded$Tape" "length" "I") (List.mem_cons_of_mem _ (List.mem_append_left _ (List.mem_of_getElem? (i := 0) rfl)))) (fun _ h9 => h9) rfl dX8_append_44 ?_
              refine lv_iconst (v := 1) hx hb dX8_append_47 kc_i_1 ?_
              refine lv_iadd hx hb dX8_append_48 ?_
              refine lv_topi (fun y_87 ey_87 => ?_)
              obtain rfl : y_87 = nI (kt + 1) := ey_87.trans (nI_add (kt) (1))
              refine va_put (D := (dC, dI)) (ci := 8) (v := .int (nI (kt + 1))) (ty := tyX8 1) (C := RX8) (T := TX8) (N := 2) hx hb hts (fun _ h => List.mem_cons_of_mem _ (List.mem_append_right _ h)) tyX8 tyX8_ok nmX8 hown hK hP hD hS 0 rfl rfl 1 kc_l_1_2 (hts (.fieldLink RX8 15 "NotEnded$Tape" "length" "I") (List.mem_cons_of_mem _ (List.mem_append_left _ (List.mem_of_getElem? (i := 0) rfl)))) (fun _ h9 => h9) rfl (tyX8_ok 1 kc_l_1_2) rfl rfl (Nat.le_of_ble_eq_true rfl) dX8_append_49 (fun H locs hP hD hS => ?_)
              have hPD : kPD dC dI A [(jT, .inr (8, [.ref t0, .int (nI (kt + 1))])), (t0, .inl (cC, 120, .inl f_85))] H := ⟨hP, hD⟩
              have hP := hPD.1
              have hD := hPD.2
              refine lv_iinc (v := (-8)) hx hb dX8_append_52 hl (k := 1) rfl (by decide) kc_l_2_4 (kTo [(2, .int (-8)), (3, .int x_77), (0, .ref jT), (1, .int p0)]) (fun ls hl => ?_)
              refine lv_goto (tgt := 3) hx hb dX8_append_55 kc_t_55_m52 ?_
              refine lv_iload_n hx hb dX8_append_3 rfl (lv_at hl 0 rfl) ?_
              refine lv_if_lt (tgt := 58) hx hb dX8_append_4 kc_t_4_54 (fun c_88 => ?_) (fun c_88 => absurd (by decide) c_88)
              have hP9 := hP
              have hD9 := hD
              have hK9 := hK
              rw [hQ]
              exact W.vret hx hb hr (fun t ht hW => ⟨⟨(f_85, (kt + 1)), rfl, ⟨by omega, (kNarU ef_85 hgT)⟩,  by rw [ht]; exact hP9, va_K.moved hW.alike hK9, hD9⟩, hS.F ht⟩) hS.2.2 dX8_append_58
        · refine lv_aload_n hx hb dX8_append_19 rfl (lv_at hl 2 rfl) ?_
          refine va_get (D := (dC, dI)) (ci := 8) (v := .int (nI (kt))) (C := RX8) (T := TX8) (N := 2) hx hb hts (fun _ h => List.mem_cons_of_mem _ (List.mem_append_right _ h)) hown hK hP 0 rfl rfl 1 kc_l_1_2 (hts (.fieldLink RX8 15 "NotEnded$Tape" "length" "I") (List.mem_cons_of_mem _ (List.mem_append_left _ (List.mem_of_getElem? (i := 0) rfl)))) (fun _ h9 => h9) rfl dX8_append_20 ?_
          refine lv_aload_n hx hb dX8_append_23 rfl (lv_at hl 2 rfl) ?_
          refine va_get (D := (dC, dI)) (ci := 8) (v := .ref t0) (C := RX8) (T := TX8) (N := 2) hx hb hts (fun _ h => List.mem_cons_of_mem _ (List.mem_append_right _ h)) hown hK hP 0 rfl rfl 0 kc_l_0_2 (hts (.fieldLink RX8 9 "NotEnded$Tape" "signs" "[C") (List.mem_cons_of_mem _ (List.mem_append_left _ (List.mem_of_getElem? (i := 1) rfl)))) (fun _ h9 => h9) rfl dX8_append_24 ?_
          refine va_alen hx hb hK hP 1 0 rfl rfl (v := 120) rfl dX8_append_27 ?_
          refine lv_icmp_ge (tgt := 52) hx hb dX8_append_28 kc_t_28_24 (fun c_89 => ?_) (fun c_89 => ?_)
          · have hn_90 := kle (a := 120) (b := kt) kc_31_120 bd_70 c_89
            refine lv_iinc (v := 0) hx hb dX8_append_52 hl (k := 1) rfl (by decide) kc_l_2_4 (kTo [(2, .int 0), (3, .int x_73), (0, .ref jT), (1, .int p0)]) (fun ls hl => ?_)
            refine lv_goto (tgt := 3) hx hb dX8_append_55 kc_t_55_m52 ?_
            refine lv_iload_n hx hb dX8_append_3 rfl (lv_at hl 0 rfl) ?_
            refine lv_if_lt (tgt := 58) hx hb dX8_append_4 kc_t_4_54 (fun c_91 => absurd c_91 (by decide)) (fun c_91 => ?_)
            refine lv_iload_n hx hb dX8_append_7 rfl (lv_at hl 3 rfl) ?_
            refine lv_iload_n hx hb dX8_append_8 rfl (lv_at hl 0 rfl) ?_
            obtain ⟨x_92, ex_92⟩ : ∃ z : Int32, z = (Int32.toUInt32 p0 >>> (Int32.toUInt32 0 &&& Int32.toUInt32 31)).toInt32 := ⟨_, rfl⟩
            refine lv_iushr (v := x_92) hx hb dX8_append_9 ex_92.symm ?_
            refine lv_sipush (v := 255) hx hb dX8_append_10 kc_s_255 ?_
            refine lv_iand hx hb dX8_append_13 ?_
            refine lv_topi (fun x_93 ex_93 => ?_)
            refine lv_istore_n hx hb dX8_append_14 rfl hl kc_l_3_4 (kTo [(3, .int x_93), (2, .int 0), (0, .ref jT), (1, .int p0)]) (fun ls hl => ?_)
            refine lv_iload_n hx hb dX8_append_15 rfl (lv_at hl 0 rfl) ?_
            refine lv_if_eq (tgt := 52) hx hb dX8_append_16 kc_t_16_36 (fun c_94 => ?_) (fun c_94 => ?_)
            · refine lv_iinc (v := (-8)) hx hb dX8_append_52 hl (k := 1) rfl (by decide) kc_l_2_4 (kTo [(2, .int (-8)), (3, .int x_93), (0, .ref jT), (1, .int p0)]) (fun ls hl => ?_)
              refine lv_goto (tgt := 3) hx hb dX8_append_55 kc_t_55_m52 ?_
              refine lv_iload_n hx hb dX8_append_3 rfl (lv_at hl 0 rfl) ?_
              refine lv_if_lt (tgt := 58) hx hb dX8_append_4 kc_t_4_54 (fun c_95 => ?_) (fun c_95 => absurd (by decide) c_95)
              have hP9 := hP
              have hD9 := hD
              have hK9 := hK
              rw [hQ]
              exact W.vret hx hb hr (fun t ht hW => ⟨⟨(gT, kt), rfl, ⟨by omega, hgT⟩,  by rw [ht]; exact hP9, va_K.moved hW.alike hK9, hD9⟩, hS.F ht⟩) hS.2.2 dX8_append_58
            · refine lv_aload_n hx hb dX8_append_19 rfl (lv_at hl 2 rfl) ?_
              refine va_get (D := (dC, dI)) (ci := 8) (v := .int (nI (kt))) (C := RX8) (T := TX8) (N := 2) hx hb hts (fun _ h => List.mem_cons_of_mem _ (List.mem_append_right _ h)) hown hK hP 0 rfl rfl 1 kc_l_1_2 (hts (.fieldLink RX8 15 "NotEnded$Tape" "length" "I") (List.mem_cons_of_mem _ (List.mem_append_left _ (List.mem_of_getElem? (i := 0) rfl)))) (fun _ h9 => h9) rfl dX8_append_20 ?_
              refine lv_aload_n hx hb dX8_append_23 rfl (lv_at hl 2 rfl) ?_
              refine va_get (D := (dC, dI)) (ci := 8) (v := .ref t0) (C := RX8) (T := TX8) (N := 2) hx hb hts (fun _ h => List.mem_cons_of_mem _ (List.mem_append_right _ h)) hown hK hP 0 rfl rfl 0 kc_l_0_2 (hts (.fieldLink RX8 9 "NotEnded$Tape" "signs" "[C") (List.mem_cons_of_mem _ (List.mem_append_left _ (List.mem_of_getElem? (i := 1) rfl)))) (fun _ h9 => h9) rfl dX8_append_24 ?_
              refine va_alen hx hb hK hP 1 0 rfl rfl (v := 120) rfl dX8_append_27 ?_
              refine lv_icmp_ge (tgt := 52) hx hb dX8_append_28 kc_t_28_24 (fun c_96 => ?_) (fun c_96 => ?_)
              · have hn_97 := kle (a := 120) (b := kt) kc_31_120 bd_70 c_96
                refine lv_iinc (v := (-8)) hx hb dX8_append_52 hl (k := 1) rfl (by decide) kc_l_2_4 (kTo [(2, .int (-8)), (3, .int x_93), (0, .ref jT), (1, .int p0)]) (fun ls hl => ?_)
                refine lv_goto (tgt := 3) hx hb dX8_append_55 kc_t_55_m52 ?_
                refine lv_iload_n hx hb dX8_append_3 rfl (lv_at hl 0 rfl) ?_
                refine lv_if_lt (tgt := 58) hx hb dX8_append_4 kc_t_4_54 (fun c_98 => ?_) (fun c_98 => absurd (by decide) c_98)
                have hP9 := hP
                have hD9 := hD
                have hK9 := hK
                rw [hQ]
                exact W.vret hx hb hr (fun t ht hW => ⟨⟨(gT, kt), rfl, ⟨by omega, hgT⟩,  by rw [ht]; exact hP9, va_K.moved hW.alike hK9, hD9⟩, hS.F ht⟩) hS.2.2 dX8_append_58
              · have hn_99 := knle (a := 120) (b := kt) kc_31_120 bd_70 c_96
                refine lv_aload_n hx hb dX8_append_31 rfl (lv_at hl 2 rfl) ?_
                refine va_get (D := (dC, dI)) (ci := 8) (v := .ref t0) (C := RX8) (T := TX8) (N := 2) hx hb hts (fun _ h => List.mem_cons_of_mem _ (List.mem_append_right _ h)) hown hK hP 0 rfl rfl 0 kc_l_0_2 (hts (.fieldLink RX8 9 "NotEnded$Tape" "signs" "[C") (List.mem_cons_of_mem _ (List.mem_append_left _ (List.mem_of_getElem? (i := 1) rfl)))) (fun _ h9 => h9) rfl dX8_append_32 ?_
                refine lv_aload_n hx hb dX8_append_35 rfl (lv_at hl 2 rfl) ?_
                refine va_get (D := (dC, dI)) (ci := 8) (v := .int (nI (kt))) (C := RX8) (T := TX8) (N := 2) hx hb hts (fun _ h => List.mem_cons_of_mem _ (List.mem_append_right _ h)) hown hK hP 0 rfl rfl 1 kc_l_1_2 (hts (.fieldLink RX8 15 "NotEnded$Tape" "length" "I") (List.mem_cons_of_mem _ (List.mem_append_left _ (List.mem_of_getElem? (i := 0) rfl)))) (fun _ h9 => h9) rfl dX8_append_36 ?_
                refine lv_iload_n hx hb dX8_append_39 rfl (lv_at hl 0 rfl) ?_
                obtain ⟨x_100, ex_100⟩ : ∃ z : Int32, z = (Int32.toUInt32 x_93 % 65536).toInt32 := ⟨_, rfl⟩
                refine lv_i2c (v := x_100) hx hb dX8_append_40 ex_100.symm ?_
                have bd_102 : kt < 120 := by omega
                refine va_cast hx hb hK hP hD hS 1 0 rfl rfl (vp_in_nI (n := kt) (N := 120) bd_102 kc_31_120) dX8_append_41 (fun H locs hP hD hS => ?_)
                obtain ⟨f_101, ef_101⟩ : ∃ gg9 : Nat → Int32, gg9 = upd gT (Int32.toNatClampNeg (nI (kt))) (vp_nar .char x_100) := ⟨_, rfl⟩
                have hPD : kPD dC dI A [(jT, .inr (8, [.ref t0, .int (nI (kt))])), (t0, .inl (cC, 120, .inl f_101))] H := by rw [ef_101]; exact ⟨hP, hD⟩
                have hP := hPD.1
                have hD := hPD.2
                refine lv_aload_n hx hb dX8_append_42 rfl (lv_at hl 2 rfl) ?_
                refine lv_dup hx hb dX8_append_43 rfl ?_
                refine va_get (D := (dC, dI)) (ci := 8) (v := .int (nI (kt))) (C := RX8) (T := TX8) (N := 2) hx hb hts (fun _ h => List.mem_cons_of_mem _ (List.mem_append_right _ h)) hown hK hP 0 rfl rfl 1 kc_l_1_2 (hts (.fieldLink RX8 15 "NotEnded$Tape" "length" "I") (List.mem_cons_of_mem _ (List.mem_append_left _ (List.mem_of_getElem? (i := 0) rfl)))) (fun _ h9 => h9) rfl dX8_append_44 ?_
                refine lv_iconst (v := 1) hx hb dX8_append_47 kc_i_1 ?_
                refine lv_iadd hx hb dX8_append_48 ?_
                refine lv_topi (fun y_103 ey_103 => ?_)
                obtain rfl : y_103 = nI (kt + 1) := ey_103.trans (nI_add (kt) (1))
                refine va_put (D := (dC, dI)) (ci := 8) (v := .int (nI (kt + 1))) (ty := tyX8 1) (C := RX8) (T := TX8) (N := 2) hx hb hts (fun _ h => List.mem_cons_of_mem _ (List.mem_append_right _ h)) tyX8 tyX8_ok nmX8 hown hK hP hD hS 0 rfl rfl 1 kc_l_1_2 (hts (.fieldLink RX8 15 "NotEnded$Tape" "length" "I") (List.mem_cons_of_mem _ (List.mem_append_left _ (List.mem_of_getElem? (i := 0) rfl)))) (fun _ h9 => h9) rfl (tyX8_ok 1 kc_l_1_2) rfl rfl (Nat.le_of_ble_eq_true rfl) dX8_append_49 (fun H locs hP hD hS => ?_)
                have hPD : kPD dC dI A [(jT, .inr (8, [.ref t0, .int (nI (kt + 1))])), (t0, .inl (cC, 120, .inl f_101))] H := ⟨hP, hD⟩
                have hP := hPD.1
                have hD := hPD.2
                refine lv_iinc (v := (-8)) hx hb dX8_append_52 hl (k := 1) rfl (by decide) kc_l_2_4 (kTo [(2, .int (-8)), (3, .int x_93), (0, .ref jT), (1, .int p0)]) (fun ls hl => ?_)
                refine lv_goto (tgt := 3) hx hb dX8_append_55 kc_t_55_m52 ?_
                refine lv_iload_n hx hb dX8_append_3 rfl (lv_at hl 0 rfl) ?_
                refine lv_if_lt (tgt := 58) hx hb dX8_append_4 kc_t_4_54 (fun c_104 => ?_) (fun c_104 => absurd (by decide) c_104)
                have hP9 := hP
                have hD9 := hD
                have hK9 := hK
                rw [hQ]
                exact W.vret hx hb hr (fun t ht hW => ⟨⟨(f_101, (kt + 1)), rfl, ⟨by omega, (kNarU ef_101 hgT)⟩,  by rw [ht]; exact hP9, va_K.moved hW.alike hK9, hD9⟩, hS.F ht⟩) hS.2.2 dX8_append_58
          · have hn_105 := knle (a := 120) (b := kt) kc_31_120 bd_70 c_89
            refine lv_aload_n hx hb dX8_append_31 rfl (lv_at hl 2 rfl) ?_
            refine va_get (D := (dC, dI)) (ci := 8) (v := .ref t0) (C := RX8) (T := TX8) (N := 2) hx hb hts (fun _ h => List.mem_cons_of_mem _ (List.mem_append_right _ h)) hown hK hP 0 rfl rfl 0 kc_l_0_2 (hts (.fieldLink RX8 9 "NotEnded$Tape" "signs" "[C") (List.mem_cons_of_mem _ (List.mem_append_left _ (List.mem_of_getElem? (i := 1) rfl)))) (fun _ h9 => h9) rfl dX8_append_32 ?_
            refine lv_aload_n hx hb dX8_append_35 rfl (lv_at hl 2 rfl) ?_
            refine va_get (D := (dC, dI)) (ci := 8) (v := .int (nI (kt))) (C := RX8) (T := TX8) (N := 2) hx hb hts (fun _ h => List.mem_cons_of_mem _ (List.mem_append_right _ h)) hown hK hP 0 rfl rfl 1 kc_l_1_2 (hts (.fieldLink RX8 15 "NotEnded$Tape" "length" "I") (List.mem_cons_of_mem _ (List.mem_append_left _ (List.mem_of_getElem? (i := 0) rfl)))) (fun _ h9 => h9) rfl dX8_append_36 ?_
            refine lv_iload_n hx hb dX8_append_39 rfl (lv_at hl 0 rfl) ?_
            obtain ⟨x_106, ex_106⟩ : ∃ z : Int32, z = (Int32.toUInt32 x_73 % 65536).toInt32 := ⟨_, rfl⟩
            refine lv_i2c (v := x_106) hx hb dX8_append_40 ex_106.symm ?_
            have bd_108 : kt < 120 := by omega
            refine va_cast hx hb hK hP hD hS 1 0 rfl rfl (vp_in_nI (n := kt) (N := 120) bd_108 kc_31_120) dX8_append_41 (fun H locs hP hD hS => ?_)
            obtain ⟨f_107, ef_107⟩ : ∃ gg9 : Nat → Int32, gg9 = upd gT (Int32.toNatClampNeg (nI (kt))) (vp_nar .char x_106) := ⟨_, rfl⟩
            have hPD : kPD dC dI A [(jT, .inr (8, [.ref t0, .int (nI (kt))])), (t0, .inl (cC, 120, .inl f_107))] H := by rw [ef_107]; exact ⟨hP, hD⟩
            have hP := hPD.1
            have hD := hPD.2
            refine lv_aload_n hx hb dX8_append_42 rfl (lv_at hl 2 rfl) ?_
            refine lv_dup hx hb dX8_append_43 rfl ?_
            refine va_get (D := (dC, dI)) (ci := 8) (v := .int (nI (kt))) (C := RX8) (T := TX8) (N := 2) hx hb hts (fun _ h => List.mem_cons_of_mem _ (List.mem_append_right _ h)) hown hK hP 0 rfl rfl 1 kc_l_1_2 (hts (.fieldLink RX8 15 "NotEnded$Tape" "length" "I") (List.mem_cons_of_mem _ (List.mem_append_left _ (List.mem_of_getElem? (i := 0) rfl)))) (fun _ h9 => h9) rfl dX8_append_44 ?_
            refine lv_iconst (v := 1) hx hb dX8_append_47 kc_i_1 ?_
            refine lv_iadd hx hb dX8_append_48 ?_
            refine lv_topi (fun y_109 ey_109 => ?_)
            obtain rfl : y_109 = nI (kt + 1) := ey_109.trans (nI_add (kt) (1))
            refine va_put (D := (dC, dI)) (ci := 8) (v := .int (nI (kt + 1))) (ty := tyX8 1) (C := RX8) (T := TX8) (N := 2) hx hb hts (fun _ h => List.mem_cons_of_mem _ (List.mem_append_right _ h)) tyX8 tyX8_ok nmX8 hown hK hP hD hS 0 rfl rfl 1 kc_l_1_2 (hts (.fieldLink RX8 15 "NotEnded$Tape" "length" "I") (List.mem_cons_of_mem _ (List.mem_append_left _ (List.mem_of_getElem? (i := 0) rfl)))) (fun _ h9 => h9) rfl (tyX8_ok 1 kc_l_1_2) rfl rfl (Nat.le_of_ble_eq_true rfl) dX8_append_49 (fun H locs hP hD hS => ?_)
            have hPD : kPD dC dI A [(jT, .inr (8, [.ref t0, .int (nI (kt + 1))])), (t0, .inl (cC, 120, .inl f_107))] H := ⟨hP, hD⟩
            have hP := hPD.1
            have hD := hPD.2
            refine lv_iinc (v := 0) hx hb dX8_append_52 hl (k := 1) rfl (by decide) kc_l_2_4 (kTo [(2, .int 0), (3, .int x_73), (0, .ref jT), (1, .int p0)]) (fun ls hl => ?_)
            refine lv_goto (tgt := 3) hx hb dX8_append_55 kc_t_55_m52 ?_
            refine lv_iload_n hx hb dX8_append_3 rfl (lv_at hl 0 rfl) ?_
            refine lv_if_lt (tgt := 58) hx hb dX8_append_4 kc_t_4_54 (fun c_110 => absurd c_110 (by decide)) (fun c_110 => ?_)
            refine lv_iload_n hx hb dX8_append_7 rfl (lv_at hl 3 rfl) ?_
            refine lv_iload_n hx hb dX8_append_8 rfl (lv_at hl 0 rfl) ?_
            obtain ⟨x_111, ex_111⟩ : ∃ z : Int32, z = (Int32.toUInt32 p0 >>> (Int32.toUInt32 0 &&& Int32.toUInt32 31)).toInt32 := ⟨_, rfl⟩
            refine lv_iushr (v := x_111) hx hb dX8_append_9 ex_111.symm ?_
            refine lv_sipush (v := 255) hx hb dX8_append_10 kc_s_255 ?_
            refine lv_iand hx hb dX8_append_13 ?_
            refine lv_topi (fun x_112 ex_112 => ?_)
            refine lv_istore_n hx hb dX8_append_14 rfl hl kc_l_3_4 (kTo [(3, .int x_112), (2, .int 0), (0, .ref jT), (1, .int p0)]) (fun ls hl => ?_)
            refine lv_iload_n hx hb dX8_append_15 rfl (lv_at hl 0 rfl) ?_
            refine lv_if_eq (tgt := 52) hx hb dX8_append_16 kc_t_16_36 (fun c_113 => ?_) (fun c_113 => ?_)
            · refine lv_iinc (v := (-8)) hx hb dX8_append_52 hl (k := 1) rfl (by decide) kc_l_2_4 (kTo [(2, .int (-8)), (3, .int x_112), (0, .ref jT), (1, .int p0)]) (fun ls hl => ?_)
              refine lv_goto (tgt := 3) hx hb dX8_append_55 kc_t_55_m52 ?_
              refine lv_iload_n hx hb dX8_append_3 rfl (lv_at hl 0 rfl) ?_
              refine lv_if_lt (tgt := 58) hx hb dX8_append_4 kc_t_4_54 (fun c_114 => ?_) (fun c_114 => absurd (by decide) c_114)
              have hP9 := hP
              have hD9 := hD
              have hK9 := hK
              rw [hQ]
              exact W.vret hx hb hr (fun t ht hW => ⟨⟨(f_107, (kt + 1)), rfl, ⟨by omega, (kNarU ef_107 hgT)⟩,  by rw [ht]; exact hP9, va_K.moved hW.alike hK9, hD9⟩, hS.F ht⟩) hS.2.2 dX8_append_58
            · refine lv_aload_n hx hb dX8_append_19 rfl (lv_at hl 2 rfl) ?_
              refine va_get (D := (dC, dI)) (ci := 8) (v := .int (nI (kt + 1))) (C := RX8) (T := TX8) (N := 2) hx hb hts (fun _ h => List.mem_cons_of_mem _ (List.mem_append_right _ h)) hown hK hP 0 rfl rfl 1 kc_l_1_2 (hts (.fieldLink RX8 15 "NotEnded$Tape" "length" "I") (List.mem_cons_of_mem _ (List.mem_append_left _ (List.mem_of_getElem? (i := 0) rfl)))) (fun _ h9 => h9) rfl dX8_append_20 ?_
              refine lv_aload_n hx hb dX8_append_23 rfl (lv_at hl 2 rfl) ?_
              refine va_get (D := (dC, dI)) (ci := 8) (v := .ref t0) (C := RX8) (T := TX8) (N := 2) hx hb hts (fun _ h => List.mem_cons_of_mem _ (List.mem_append_right _ h)) hown hK hP 0 rfl rfl 0 kc_l_0_2 (hts (.fieldLink RX8 9 "NotEnded$Tape" "signs" "[C") (List.mem_cons_of_mem _ (List.mem_append_left _ (List.mem_of_getElem? (i := 1) rfl)))) (fun _ h9 => h9) rfl dX8_append_24 ?_
              refine va_alen hx hb hK hP 1 0 rfl rfl (v := 120) rfl dX8_append_27 ?_
              refine lv_icmp_ge (tgt := 52) hx hb dX8_append_28 kc_t_28_24 (fun c_115 => ?_) (fun c_115 => ?_)
              · have bd_117 : kt + 1 < 2147483648 := by omega
                have hn_116 := kle (a := 120) (b := kt + 1) kc_31_120 bd_117 c_115
                refine lv_iinc (v := (-8)) hx hb dX8_append_52 hl (k := 1) rfl (by decide) kc_l_2_4 (kTo [(2, .int (-8)), (3, .int x_112), (0, .ref jT), (1, .int p0)]) (fun ls hl => ?_)
                refine lv_goto (tgt := 3) hx hb dX8_append_55 kc_t_55_m52 ?_
                refine lv_iload_n hx hb dX8_append_3 rfl (lv_at hl 0 rfl) ?_
                refine lv_if_lt (tgt := 58) hx hb dX8_append_4 kc_t_4_54 (fun c_118 => ?_) (fun c_118 => absurd (by decide) c_118)
                have hP9 := hP
                have hD9 := hD
                have hK9 := hK
                rw [hQ]
                exact W.vret hx hb hr (fun t ht hW => ⟨⟨(f_107, (kt + 1)), rfl, ⟨by omega, (kNarU ef_107 hgT)⟩,  by rw [ht]; exact hP9, va_K.moved hW.alike hK9, hD9⟩, hS.F ht⟩) hS.2.2 dX8_append_58
              · have bd_120 : kt + 1 < 2147483648 := by omega
                have hn_119 := knle (a := 120) (b := kt + 1) kc_31_120 bd_120 c_115
                refine lv_aload_n hx hb dX8_append_31 rfl (lv_at hl 2 rfl) ?_
                refine va_get (D := (dC, dI)) (ci := 8) (v := .ref t0) (C := RX8) (T := TX8) (N := 2) hx hb hts (fun _ h => List.mem_cons_of_mem _ (List.mem_append_right _ h)) hown hK hP 0 rfl rfl 0 kc_l_0_2 (hts (.fieldLink RX8 9 "NotEnded$Tape" "signs" "[C") (List.mem_cons_of_mem _ (List.mem_append_left _ (List.mem_of_getElem? (i := 1) rfl)))) (fun _ h9 => h9) rfl dX8_append_32 ?_
                refine lv_aload_n hx hb dX8_append_35 rfl (lv_at hl 2 rfl) ?_
                refine va_get (D := (dC, dI)) (ci := 8) (v := .int (nI (kt + 1))) (C := RX8) (T := TX8) (N := 2) hx hb hts (fun _ h => List.mem_cons_of_mem _ (List.mem_append_right _ h)) hown hK hP 0 rfl rfl 1 kc_l_1_2 (hts (.fieldLink RX8 15 "NotEnded$Tape" "length" "I") (List.mem_cons_of_mem _ (List.mem_append_left _ (List.mem_of_getElem? (i := 0) rfl)))) (fun _ h9 => h9) rfl dX8_append_36 ?_
                refine lv_iload_n hx hb dX8_append_39 rfl (lv_at hl 0 rfl) ?_
                obtain ⟨x_121, ex_121⟩ : ∃ z : Int32, z = (Int32.toUInt32 x_112 % 65536).toInt32 := ⟨_, rfl⟩
                refine lv_i2c (v := x_121) hx hb dX8_append_40 ex_121.symm ?_
                have bd_123 : kt + 1 < 120 := by omega
                refine va_cast hx hb hK hP hD hS 1 0 rfl rfl (vp_in_nI (n := kt + 1) (N := 120) bd_123 kc_31_120) dX8_append_41 (fun H locs hP hD hS => ?_)
                obtain ⟨f_122, ef_122⟩ : ∃ gg9 : Nat → Int32, gg9 = upd f_107 (Int32.toNatClampNeg (nI (kt + 1))) (vp_nar .char x_121) := ⟨_, rfl⟩
                have hPD : kPD dC dI A [(jT, .inr (8, [.ref t0, .int (nI (kt + 1))])), (t0, .inl (cC, 120, .inl f_122))] H := by rw [ef_122]; exact ⟨hP, hD⟩
                have hP := hPD.1
                have hD := hPD.2
                refine lv_aload_n hx hb dX8_append_42 rfl (lv_at hl 2 rfl) ?_
                refine lv_dup hx hb dX8_append_43 rfl ?_
                refine va_get (D := (dC, dI)) (ci := 8) (v := .int (nI (kt + 1))) (C := RX8) (T := TX8) (N := 2) hx hb hts (fun _ h => List.mem_cons_of_mem _ (List.mem_append_right _ h)) hown hK hP 0 rfl rfl 1 kc_l_1_2 (hts (.fieldLink RX8 15 "NotEnded$Tape" "length" "I") (List.mem_cons_of_mem _ (List.mem_append_left _ (List.mem_of_getElem? (i := 0) rfl)))) (fun _ h9 => h9) rfl dX8_append_44 ?_
                refine lv_iconst (v := 1) hx hb dX8_append_47 kc_i_1 ?_
                refine lv_iadd hx hb dX8_append_48 ?_
                refine lv_topi (fun y_124 ey_124 => ?_)
                obtain rfl : y_124 = nI (kt + 1 + 1) := ey_124.trans (nI_add (kt + 1) (1))
                refine va_put (D := (dC, dI)) (ci := 8) (v := .int (nI (kt + 1 + 1))) (ty := tyX8 1) (C := RX8) (T := TX8) (N := 2) hx hb hts (fun _ h => List.mem_cons_of_mem _ (List.mem_append_right _ h)) tyX8 tyX8_ok nmX8 hown hK hP hD hS 0 rfl rfl 1 kc_l_1_2 (hts (.fieldLink RX8 15 "NotEnded$Tape" "length" "I") (List.mem_cons_of_mem _ (List.mem_append_left _ (List.mem_of_getElem? (i := 0) rfl)))) (fun _ h9 => h9) rfl (tyX8_ok 1 kc_l_1_2) rfl rfl (Nat.le_of_ble_eq_true rfl) dX8_append_49 (fun H locs hP hD hS => ?_)
                have hPD : kPD dC dI A [(jT, .inr (8, [.ref t0, .int (nI (kt + 1 + 1))])), (t0, .inl (cC, 120, .inl f_122))] H := ⟨hP, hD⟩
                have hP := hPD.1
                have hD := hPD.2
                refine lv_iinc (v := (-8)) hx hb dX8_append_52 hl (k := 1) rfl (by decide) kc_l_2_4 (kTo [(2, .int (-8)), (3, .int x_112), (0, .ref jT), (1, .int p0)]) (fun ls hl => ?_)
                refine lv_goto (tgt := 3) hx hb dX8_append_55 kc_t_55_m52 ?_
                refine lv_iload_n hx hb dX8_append_3 rfl (lv_at hl 0 rfl) ?_
                refine lv_if_lt (tgt := 58) hx hb dX8_append_4 kc_t_4_54 (fun c_125 => ?_) (fun c_125 => absurd (by decide) c_125)
                have hP9 := hP
                have hD9 := hD
                have hK9 := hK
                rw [hQ]
                exact W.vret hx hb hr (fun t ht hW => ⟨⟨(f_122, (kt + 1 + 1)), rfl, ⟨by omega, (kNarU ef_122 (kNarU ef_107 hgT))⟩,  by rw [ht]; exact hP9, va_K.moved hW.alike hK9, hD9⟩, hS.F ht⟩) hS.2.2 dX8_append_58
      · have bd_127 : kt < 2147483648 := by omega
        have hn_126 := knle (a := 120) (b := kt) kc_31_120 bd_127 c_68
        refine lv_aload_n hx hb dX8_append_31 rfl (lv_at hl 2 rfl) ?_
        refine va_get (D := (dC, dI)) (ci := 8) (v := .ref t0) (C := RX8) (T := TX8) (N := 2) hx hb hts (fun _ h => List.mem_cons_of_mem _ (List.mem_append_right _ h)) hown hK hP 0 rfl rfl 0 kc_l_0_2 (hts (.fieldLink RX8 9 "NotEnded$Tape" "signs" "[C") (List.mem_cons_of_mem _ (List.mem_append_left _ (List.mem_of_getElem? (i := 1) rfl)))) (fun _ h9 => h9) rfl dX8_append_32 ?_
        refine lv_aload_n hx hb dX8_append_35 rfl (lv_at hl 2 rfl) ?_
        refine va_get (D := (dC, dI)) (ci := 8) (v := .int (nI (kt))) (C := RX8) (T := TX8) (N := 2) hx hb hts (fun _ h => List.mem_cons_of_mem _ (List.mem_append_right _ h)) hown hK hP 0 rfl rfl 1 kc_l_1_2 (hts (.fieldLink RX8 15 "NotEnded$Tape" "length" "I") (List.mem_cons_of_mem _ (List.mem_append_left _ (List.mem_of_getElem? (i := 0) rfl)))) (fun _ h9 => h9) rfl dX8_append_36 ?_
        refine lv_iload_n hx hb dX8_append_39 rfl (lv_at hl 0 rfl) ?_
        obtain ⟨x_128, ex_128⟩ : ∃ z : Int32, z = (Int32.toUInt32 x_7 % 65536).toInt32 := ⟨_, rfl⟩
        refine lv_i2c (v := x_128) hx hb dX8_append_40 ex_128.symm ?_
        have bd_130 : kt < 120 := by omega
        refine va_cast hx hb hK hP hD hS 1 0 rfl rfl (vp_in_nI (n := kt) (N := 120) bd_130 kc_31_120) dX8_append_41 (fun H locs hP hD hS => ?_)
        obtain ⟨f_129, ef_129⟩ : ∃ gg9 : Nat → Int32, gg9 = upd gT (Int32.toNatClampNeg (nI (kt))) (vp_nar .char x_128) := ⟨_, rfl⟩
        have hPD : kPD dC dI A [(jT, .inr (8, [.ref t0, .int (nI (kt))])), (t0, .inl (cC, 120, .inl f_129))] H := by rw [ef_129]; exact ⟨hP, hD⟩
        have hP := hPD.1
        have hD := hPD.2
        refine lv_aload_n hx hb dX8_append_42 rfl (lv_at hl 2 rfl) ?_
        refine lv_dup hx hb dX8_append_43 rfl ?_
        refine va_get (D := (dC, dI)) (ci := 8) (v := .int (nI (kt))) (C := RX8) (T := TX8) (N := 2) hx hb hts (fun _ h => List.mem_cons_of_mem _ (List.mem_append_right _ h)) hown hK hP 0 rfl rfl 1 kc_l_1_2 (hts (.fieldLink RX8 15 "NotEnded$Tape" "length" "I") (List.mem_cons_of_mem _ (List.mem_append_left _ (List.mem_of_getElem? (i := 0) rfl)))) (fun _ h9 => h9) rfl dX8_append_44 ?_
        refine lv_iconst (v := 1) hx hb dX8_append_47 kc_i_1 ?_
        refine lv_iadd hx hb dX8_append_48 ?_
        refine lv_topi (fun y_131 ey_131 => ?_)
        obtain rfl : y_131 = nI (kt + 1) := ey_131.trans (nI_add (kt) (1))
        refine va_put (D := (dC, dI)) (ci := 8) (v := .int (nI (kt + 1))) (ty := tyX8 1) (C := RX8) (T := TX8) (N := 2) hx hb hts (fun _ h => List.mem_cons_of_mem _ (List.mem_append_right _ h)) tyX8 tyX8_ok nmX8 hown hK hP hD hS 0 rfl rfl 1 kc_l_1_2 (hts (.fieldLink RX8 15 "NotEnded$Tape" "length" "I") (List.mem_cons_of_mem _ (List.mem_append_left _ (List.mem_of_getElem? (i := 0) rfl)))) (fun _ h9 => h9) rfl (tyX8_ok 1 kc_l_1_2) rfl rfl (Nat.le_of_ble_eq_true rfl) dX8_append_49 (fun H locs hP hD hS => ?_)
        have hPD : kPD dC dI A [(jT, .inr (8, [.ref t0, .int (nI (kt + 1))])), (t0, .inl (cC, 120, .inl f_129))] H := ⟨hP, hD⟩
        have hP := hPD.1
        have hD := hPD.2
        refine lv_iinc (v := 8) hx hb dX8_append_52 hl (k := 1) rfl (by decide) kc_l_2_4 (kTo [(2, .int 8), (3, .int x_7), (0, .ref jT), (1, .int p0)]) (fun ls hl => ?_)
        refine lv_goto (tgt := 3) hx hb dX8_append_55 kc_t_55_m52 ?_
        refine lv_iload_n hx hb dX8_append_3 rfl (lv_at hl 0 rfl) ?_
        refine lv_if_lt (tgt := 58) hx hb dX8_append_4 kc_t_4_54 (fun c_132 => absurd c_132 (by decide)) (fun c_132 => ?_)
        refine lv_iload_n hx hb dX8_append_7 rfl (lv_at hl 3 rfl) ?_
        refine lv_iload_n hx hb dX8_append_8 rfl (lv_at hl 0 rfl) ?_
        obtain ⟨x_133, ex_133⟩ : ∃ z : Int32, z = (Int32.toUInt32 p0 >>> (Int32.toUInt32 8 &&& Int32.toUInt32 31)).toInt32 := ⟨_, rfl⟩
        refine lv_iushr (v := x_133) hx hb dX8_append_9 ex_133.symm ?_
        refine lv_sipush (v := 255) hx hb dX8_append_10 kc_s_255 ?_
        refine lv_iand hx hb dX8_append_13 ?_
        refine lv_topi (fun x_134 ex_134 => ?_)
        refine lv_istore_n hx hb dX8_append_14 rfl hl kc_l_3_4 (kTo [(3, .int x_134), (2, .int 8), (0, .ref jT), (1, .int p0)]) (fun ls hl => ?_)
        refine lv_iload_n hx hb dX8_append_15 rfl (lv_at hl 0 rfl) ?_
        refine lv_if_eq (tgt := 52) hx hb dX8_append_16 kc_t_16_36 (fun c_135 => ?_) (fun c_135 => ?_)
        · refine lv_iinc (v := 0) hx hb dX8_append_52 hl (k := 1) rfl (by decide) kc_l_2_4 (kTo [(2, .int 0), (3, .int x_134), (0, .ref jT), (1, .int p0)]) (fun ls hl => ?_)
          refine lv_goto (tgt := 3) hx hb dX8_append_55 kc_t_55_m52 ?_
          refine lv_iload_n hx hb dX8_append_3 rfl (lv_at hl 0 rfl) ?_
          refine lv_if_lt (tgt := 58) hx hb dX8_append_4 kc_t_4_54 (fun c_136 => absurd c_136 (by decide)) (fun c_136 => ?_)
          refine lv_iload_n hx hb dX8_append_7 rfl (lv_at hl 3 rfl) ?_
          refine lv_iload_n hx hb dX8_append_8 rfl (lv_at hl 0 rfl) ?_
          obtain ⟨x_137, ex_137⟩ : ∃ z : Int32, z = (Int32.toUInt32 p0 >>> (Int32.toUInt32 0 &&& Int32.toUInt32 31)).toInt32 := ⟨_, rfl⟩
          refine lv_iushr (v := x_137) hx hb dX8_append_9 ex_137.symm ?_
          refine lv_sipush (v := 255) hx hb dX8_append_10 kc_s_255 ?_
          refine lv_iand hx hb dX8_append_13 ?_
          refine lv_topi (fun x_138 ex_138 => ?_)
          refine lv_istore_n hx hb dX8_append_14 rfl hl kc_l_3_4 (kTo [(3, .int x_138), (2, .int 0), (0, .ref jT), (1, .int p0)]) (fun ls hl => ?_)
          refine lv_iload_n hx hb dX8_append_15 rfl (lv_at hl 0 rfl) ?_
          refine lv_if_eq (tgt := 52) hx hb dX8_append_16 kc_t_16_36 (fun c_139 => ?_) (fun c_139 => ?_)
          · refine lv_iinc (v := (-8)) hx hb dX8_append_52 hl (k := 1) rfl (by decide) kc_l_2_4 (kTo [(2, .int (-8)), (3, .int x_138), (0, .ref jT), (1, .int p0)]) (fun ls hl => ?_)
            refine lv_goto (tgt := 3) hx hb dX8_append_55 kc_t_55_m52 ?_
            refine lv_iload_n hx hb dX8_append_3 rfl (lv_at hl 0 rfl) ?_
            refine lv_if_lt (tgt := 58) hx hb dX8_append_4 kc_t_4_54 (fun c_140 => ?_) (fun c_140 => absurd (by decide) c_140)
            have hP9 := hP
            have hD9 := hD
            have hK9 := hK
            rw [hQ]
            exact W.vret hx hb hr (fun t ht hW => ⟨⟨(f_129, (kt + 1)), rfl, ⟨by omega, (kNarU ef_129 hgT)⟩,  by rw [ht]; exact hP9, va_K.moved hW.alike hK9, hD9⟩, hS.F ht⟩) hS.2.2 dX8_append_58
          · refine lv_aload_n hx hb dX8_append_19 rfl (lv_at hl 2 rfl) ?_
            refine va_get (D := (dC, dI)) (ci := 8) (v := .int (nI (kt + 1))) (C := RX8) (T := TX8) (N := 2) hx hb hts (fun _ h => List.mem_cons_of_mem _ (List.mem_append_right _ h)) hown hK hP 0 rfl rfl 1 kc_l_1_2 (hts (.fieldLink RX8 15 "NotEnded$Tape" "length" "I") (List.mem_cons_of_mem _ (List.mem_append_left _ (List.mem_of_getElem? (i := 0) rfl)))) (fun _ h9 => h9) rfl dX8_append_20 ?_
            refine lv_aload_n hx hb dX8_append_23 rfl (lv_at hl 2 rfl) ?_
            refine va_get (D := (dC, dI)) (ci := 8) (v := .ref t0) (C := RX8) (T := TX8) (N := 2) hx hb hts (fun _ h => List.mem_cons_of_mem _ (List.mem_append_right _ h)) hown hK hP 0 rfl rfl 0 kc_l_0_2 (hts (.fieldLink RX8 9 "NotEnded$Tape" "signs" "[C") (List.mem_cons_of_mem _ (List.mem_append_left _ (List.mem_of_getElem? (i := 1) rfl)))) (fun _ h9 => h9) rfl dX8_append_24 ?_
            refine va_alen hx hb hK hP 1 0 rfl rfl (v := 120) rfl dX8_append_27 ?_
            refine lv_icmp_ge (tgt := 52) hx hb dX8_append_28 kc_t_28_24 (fun c_141 => ?_) (fun c_141 => ?_)
            · have bd_143 : kt + 1 < 2147483648 := by omega
              have hn_142 := kle (a := 120) (b := kt + 1) kc_31_120 bd_143 c_141
              refine lv_iinc (v := (-8)) hx hb dX8_append_52 hl (k := 1) rfl (by decide) kc_l_2_4 (kTo [(2, .int (-8)), (3, .int x_138), (0, .ref jT), (1, .int p0)]) (fun ls hl => ?_)
              refine lv_goto (tgt := 3) hx hb dX8_append_55 kc_t_55_m52 ?_
              refine lv_iload_n hx hb dX8_append_3 rfl (lv_at hl 0 rfl) ?_
              refine lv_if_lt (tgt := 58) hx hb dX8_append_4 kc_t_4_54 (fun c_144 => ?_) (fun c_144 => absurd (by decide) c_144)
              have hP9 := hP
              have hD9 := hD
              have hK9 := hK
              rw [hQ]
              exact W.vret hx hb hr (fun t ht hW => ⟨⟨(f_129, (kt + 1)), rfl, ⟨by omega, (kNarU ef_129 hgT)⟩,  by rw [ht]; exact hP9, va_K.moved hW.alike hK9, hD9⟩, hS.F ht⟩) hS.2.2 dX8_append_58
            · have bd_146 : kt + 1 < 2147483648 := by omega
              have hn_145 := knle (a := 120) (b := kt + 1) kc_31_120 bd_146 c_141
              refine lv_aload_n hx hb dX8_append_31 rfl (lv_at hl 2 rfl) ?_
              refine va_get (D := (dC, dI)) (ci := 8) (v := .ref t0) (C := RX8) (T := TX8) (N := 2) hx hb hts (fun _ h => List.mem_cons_of_mem _ (List.mem_append_right _ h)) hown hK hP 0 rfl rfl 0 kc_l_0_2 (hts (.fieldLink RX8 9 "NotEnded$Tape" "signs" "[C") (List.mem_cons_of_mem _ (List.mem_append_left _ (List.mem_of_getElem? (i := 1) rfl)))) (fun _ h9 => h9) rfl dX8_append_32 ?_
              refine lv_aload_n hx hb dX8_append_35 rfl (lv_at hl 2 rfl) ?_
              refine va_get (D := (dC, dI)) (ci := 8) (v := .int (nI (kt + 1))) (C := RX8) (T := TX8) (N := 2) hx hb hts (fun _ h => List.mem_cons_of_mem _ (List.mem_append_right _ h)) hown hK hP 0 rfl rfl 1 kc_l_1_2 (hts (.fieldLink RX8 15 "NotEnded$Tape" "length" "I") (List.mem_cons_of_mem _ (List.mem_append_left _ (List.mem_of_getElem? (i := 0) rfl)))) (fun _ h9 => h9) rfl dX8_append_36 ?_
              refine lv_iload_n hx hb dX8_append_39 rfl (lv_at hl 0 rfl) ?_
              obtain ⟨x_147, ex_147⟩ : ∃ z : Int32, z = (Int32.toUInt32 x_138 % 65536).toInt32 := ⟨_, rfl⟩
              refine lv_i2c (v := x_147) hx hb dX8_append_40 ex_147.symm ?_
              have bd_149 : kt + 1 < 120 := by omega
              refine va_cast hx hb hK hP hD hS 1 0 rfl rfl (vp_in_nI (n := kt + 1) (N := 120) bd_149 kc_31_120) dX8_append_41 (fun H locs hP hD hS => ?_)
              obtain ⟨f_148, ef_148⟩ : ∃ gg9 : Nat → Int32, gg9 = upd f_129 (Int32.toNatClampNeg (nI (kt + 1))) (vp_nar .char x_147) := ⟨_, rfl⟩
              have hPD : kPD dC dI A [(jT, .inr (8, [.ref t0, .int (nI (kt + 1))])), (t0, .inl (cC, 120, .inl f_148))] H := by rw [ef_148]; exact ⟨hP, hD⟩
              have hP := hPD.1
              have hD := hPD.2
              refine lv_aload_n hx hb dX8_append_42 rfl (lv_at hl 2 rfl) ?_
              refine lv_dup hx hb dX8_append_43 rfl ?_
              refine va_get (D := (dC, dI)) (ci := 8) (v := .int (nI (kt + 1))) (C := RX8) (T := TX8) (N := 2) hx hb hts (fun _ h => List.mem_cons_of_mem _ (List.mem_append_right _ h)) hown hK hP 0 rfl rfl 1 kc_l_1_2 (hts (.fieldLink RX8 15 "NotEnded$Tape" "length" "I") (List.mem_cons_of_mem _ (List.mem_append_left _ (List.mem_of_getElem? (i := 0) rfl)))) (fun _ h9 => h9) rfl dX8_append_44 ?_
              refine lv_iconst (v := 1) hx hb dX8_append_47 kc_i_1 ?_
              refine lv_iadd hx hb dX8_append_48 ?_
              refine lv_topi (fun y_150 ey_150 => ?_)
              obtain rfl : y_150 = nI (kt + 1 + 1) := ey_150.trans (nI_add (kt + 1) (1))
              refine va_put (D := (dC, dI)) (ci := 8) (v := .int (nI (kt + 1 + 1))) (ty := tyX8 1) (C := RX8) (T := TX8) (N := 2) hx hb hts (fun _ h => List.mem_cons_of_mem _ (List.mem_append_right _ h)) tyX8 tyX8_ok nmX8 hown hK hP hD hS 0 rfl rfl 1 kc_l_1_2 (hts (.fieldLink RX8 15 "NotEnded$Tape" "length" "I") (List.mem_cons_of_mem _ (List.mem_append_left _ (List.mem_of_getElem? (i := 0) rfl)))) (fun _ h9 => h9) rfl (tyX8_ok 1 kc_l_1_2) rfl rfl (Nat.le_of_ble_eq_true rfl) dX8_append_49 (fun H locs hP hD hS => ?_)
              have hPD : kPD dC dI A [(jT, .inr (8, [.ref t0, .int (nI (kt + 1 + 1))])), (t0, .inl (cC, 120, .inl f_148))] H := ⟨hP, hD⟩
              have hP := hPD.1
              have hD := hPD.2
              refine lv_iinc (v := (-8)) hx hb dX8_append_52 hl (k := 1) rfl (by decide) kc_l_2_4 (kTo [(2, .int (-8)), (3, .int x_138), (0, .ref jT), (1, .int p0)]) (fun ls hl => ?_)
              refine lv_goto (tgt := 3) hx hb dX8_append_55 kc_t_55_m52 ?_
              refine lv_iload_n hx hb dX8_append_3 rfl (lv_at hl 0 rfl) ?_
              refine lv_if_lt (tgt := 58) hx hb dX8_append_4 kc_t_4_54 (fun c_151 => ?_) (fun c_151 => absurd (by decide) c_151)
              have hP9 := hP
              have hD9 := hD
              have hK9 := hK
              rw [hQ]
              exact W.vret hx hb hr (fun t ht hW => ⟨⟨(f_148, (kt + 1 + 1)), rfl, ⟨by omega, (kNarU ef_148 (kNarU ef_129 hgT))⟩,  by rw [ht]; exact hP9, va_K.moved hW.alike hK9, hD9⟩, hS.F ht⟩) hS.2.2 dX8_append_58
        · refine lv_aload_n hx hb dX8_append_19 rfl (lv_at hl 2 rfl) ?_
          refine va_get (D := (dC, dI)) (ci := 8) (v := .int (nI (kt + 1))) (C := RX8) (T := TX8) (N := 2) hx hb hts (fun _ h => List.mem_cons_of_mem _ (List.mem_append_right _ h)) hown hK hP 0 rfl rfl 1 kc_l_1_2 (hts (.fieldLink RX8 15 "NotEnded$Tape" "length" "I") (List.mem_cons_of_mem _ (List.mem_append_left _ (List.mem_of_getElem? (i := 0) rfl)))) (fun _ h9 => h9) rfl dX8_append_20 ?_
          refine lv_aload_n hx hb dX8_append_23 rfl (lv_at hl 2 rfl) ?_
          refine va_get (D := (dC, dI)) (ci := 8) (v := .ref t0) (C := RX8) (T := TX8) (N := 2) hx hb hts (fun _ h => List.mem_cons_of_mem _ (List.mem_append_right _ h)) hown hK hP 0 rfl rfl 0 kc_l_0_2 (hts (.fieldLink RX8 9 "NotEnded$Tape" "signs" "[C") (List.mem_cons_of_mem _ (List.mem_append_left _ (List.mem_of_getElem? (i := 1) rfl)))) (fun _ h9 => h9) rfl dX8_append_24 ?_
          refine va_alen hx hb hK hP 1 0 rfl rfl (v := 120) rfl dX8_append_27 ?_
          refine lv_icmp_ge (tgt := 52) hx hb dX8_append_28 kc_t_28_24 (fun c_152 => ?_) (fun c_152 => ?_)
          · have bd_154 : kt + 1 < 2147483648 := by omega
            have hn_153 := kle (a := 120) (b := kt + 1) kc_31_120 bd_154 c_152
            refine lv_iinc (v := 0) hx hb dX8_append_52 hl (k := 1) rfl (by decide) kc_l_2_4 (kTo [(2, .int 0), (3, .int x_134), (0, .ref jT), (1, .int p0)]) (fun ls hl => ?_)
            refine lv_goto (tgt := 3) hx hb dX8_append_55 kc_t_55_m52 ?_
            refine lv_iload_n hx hb dX8_append_3 rfl (lv_at hl 0 rfl) ?_
            refine lv_if_lt (tgt := 58) hx hb dX8_append_4 kc_t_4_54 (fun c_155 => absurd c_155 (by decide)) (fun c_155 => ?_)
            refine lv_iload_n hx hb dX8_append_7 rfl (lv_at hl 3 rfl) ?_
            refine lv_iload_n hx hb dX8_append_8 rfl (lv_at hl 0 rfl) ?_
            obtain ⟨x_156, ex_156⟩ : ∃ z : Int32, z = (Int32.toUInt32 p0 >>> (Int32.toUInt32 0 &&& Int32.toUInt32 31)).toInt32 := ⟨_, rfl⟩
            refine lv_iushr (v := x_156) hx hb dX8_append_9 ex_156.symm ?_
            refine lv_sipush (v := 255) hx hb dX8_append_10 kc_s_255 ?_
            refine lv_iand hx hb dX8_append_13 ?_
            refine lv_topi (fun x_157 ex_157 => ?_)
            refine lv_istore_n hx hb dX8_append_14 rfl hl kc_l_3_4 (kTo [(3, .int x_157), (2, .int 0), (0, .ref jT), (1, .int p0)]) (fun ls hl => ?_)
            refine lv_iload_n hx hb dX8_append_15 rfl (lv_at hl 0 rfl) ?_
            refine lv_if_eq (tgt := 52) hx hb dX8_append_16 kc_t_16_36 (fun c_158 => ?_) (fun c_158 => ?_)
            · refine lv_iinc (v := (-8)) hx hb dX8_append_52 hl (k := 1) rfl (by decide) kc_l_2_4 (kTo [(2, .int (-8)), (3, .int x_157), (0, .ref jT), (1, .int p0)]) (fun ls hl => ?_)
              refine lv_goto (tgt := 3) hx hb dX8_append_55 kc_t_55_m52 ?_
              refine lv_iload_n hx hb dX8_append_3 rfl (lv_at hl 0 rfl) ?_
              refine lv_if_lt (tgt := 58) hx hb dX8_append_4 kc_t_4_54 (fun c_159 => ?_) (fun c_159 => absurd (by decide) c_159)
              have hP9 := hP
              have hD9 := hD
              have hK9 := hK
              rw [hQ]
              exact W.vret hx hb hr (fun t ht hW => ⟨⟨(f_129, (kt + 1)), rfl, ⟨by omega, (kNarU ef_129 hgT)⟩,  by rw [ht]; exact hP9, va_K.moved hW.alike hK9, hD9⟩, hS.F ht⟩) hS.2.2 dX8_append_58
            · refine lv_aload_n hx hb dX8_append_19 rfl (lv_at hl 2 rfl) ?_
              refine va_get (D := (dC, dI)) (ci := 8) (v := .int (nI (kt + 1))) (C := RX8) (T := TX8) (N := 2) hx hb hts (fun _ h => List.mem_cons_of_mem _ (List.mem_append_right _ h)) hown hK hP 0 rfl rfl 1 kc_l_1_2 (hts (.fieldLink RX8 15 "NotEnded$Tape" "length" "I") (List.mem_cons_of_mem _ (List.mem_append_left _ (List.mem_of_getElem? (i := 0) rfl)))) (fun _ h9 => h9) rfl dX8_append_20 ?_
              refine lv_aload_n hx hb dX8_append_23 rfl (lv_at hl 2 rfl) ?_
              refine va_get (D := (dC, dI)) (ci := 8) (v := .ref t0) (C := RX8) (T := TX8) (N := 2) hx hb hts (fun _ h => List.mem_cons_of_mem _ (List.mem_append_right _ h)) hown hK hP 0 rfl rfl 0 kc_l_0_2 (hts (.fieldLink RX8 9 "NotEnded$Tape" "signs" "[C") (List.mem_cons_of_mem _ (List.mem_append_left _ (List.mem_of_getElem? (i := 1) rfl)))) (fun _ h9 => h9) rfl dX8_append_24 ?_
              refine va_alen hx hb hK hP 1 0 rfl rfl (v := 120) rfl dX8_append_27 ?_
              refine lv_icmp_ge (tgt := 52) hx hb dX8_append_28 kc_t_28_24 (fun c_160 => ?_) (fun c_160 => ?_)
              · have hn_161 := kle (a := 120) (b := kt + 1) kc_31_120 bd_154 c_160
                refine lv_iinc (v := (-8)) hx hb dX8_append_52 hl (k := 1) rfl (by decide) kc_l_2_4 (kTo [(2, .int (-8)), (3, .int x_157), (0, .ref jT), (1, .int p0)]) (fun ls hl => ?_)
                refine lv_goto (tgt := 3) hx hb dX8_append_55 kc_t_55_m52 ?_
                refine lv_iload_n hx hb dX8_append_3 rfl (lv_at hl 0 rfl) ?_
                refine lv_if_lt (tgt := 58) hx hb dX8_append_4 kc_t_4_54 (fun c_162 => ?_) (fun c_162 => absurd (by decide) c_162)
                have hP9 := hP
                have hD9 := hD
                have hK9 := hK
                rw [hQ]
                exact W.vret hx hb hr (fun t ht hW => ⟨⟨(f_129, (kt + 1)), rfl, ⟨by omega, (kNarU ef_129 hgT)⟩,  by rw [ht]; exact hP9, va_K.moved hW.alike hK9, hD9⟩, hS.F ht⟩) hS.2.2 dX8_append_58
              · have hn_163 := knle (a := 120) (b := kt + 1) kc_31_120 bd_154 c_160
                refine lv_aload_n hx hb dX8_append_31 rfl (lv_at hl 2 rfl) ?_
                refine va_get (D := (dC, dI)) (ci := 8) (v := .ref t0) (C := RX8) (T := TX8) (N := 2) hx hb hts (fun _ h => List.mem_cons_of_mem _ (List.mem_append_right _ h)) hown hK hP 0 rfl rfl 0 kc_l_0_2 (hts (.fieldLink RX8 9 "NotEnded$Tape" "signs" "[C") (List.mem_cons_of_mem _ (List.mem_append_left _ (List.mem_of_getElem? (i := 1) rfl)))) (fun _ h9 => h9) rfl dX8_append_32 ?_
                refine lv_aload_n hx hb dX8_append_35 rfl (lv_at hl 2 rfl) ?_
                refine va_get (D := (dC, dI)) (ci := 8) (v := .int (nI (kt + 1))) (C := RX8) (T := TX8) (N := 2) hx hb hts (fun _ h => List.mem_cons_of_mem _ (List.mem_append_right _ h)) hown hK hP 0 rfl rfl 1 kc_l_1_2 (hts (.fieldLink RX8 15 "NotEnded$Tape" "length" "I") (List.mem_cons_of_mem _ (List.mem_append_left _ (List.mem_of_getElem? (i := 0) rfl)))) (fun _ h9 => h9) rfl dX8_append_36 ?_
                refine lv_iload_n hx hb dX8_append_39 rfl (lv_at hl 0 rfl) ?_
                obtain ⟨x_164, ex_164⟩ : ∃ z : Int32, z = (Int32.toUInt32 x_157 % 65536).toInt32 := ⟨_, rfl⟩
                refine lv_i2c (v := x_164) hx hb dX8_append_40 ex_164.symm ?_
                have bd_166 : kt + 1 < 120 := by omega
                refine va_cast hx hb hK hP hD hS 1 0 rfl rfl (vp_in_nI (n := kt + 1) (N := 120) bd_166 kc_31_120) dX8_append_41 (fun H locs hP hD hS => ?_)
                obtain ⟨f_165, ef_165⟩ : ∃ gg9 : Nat → Int32, gg9 = upd f_129 (Int32.toNatClampNeg (nI (kt + 1))) (vp_nar .char x_164) := ⟨_, rfl⟩
                have hPD : kPD dC dI A [(jT, .inr (8, [.ref t0, .int (nI (kt + 1))])), (t0, .inl (cC, 120, .inl f_165))] H := by rw [ef_165]; exact ⟨hP, hD⟩
                have hP := hPD.1
                have hD := hPD.2
                refine lv_aload_n hx hb dX8_append_42 rfl (lv_at hl 2 rfl) ?_
                refine lv_dup hx hb dX8_append_43 rfl ?_
                refine va_get (D := (dC, dI)) (ci := 8) (v := .int (nI (kt + 1))) (C := RX8) (T := TX8) (N := 2) hx hb hts (fun _ h => List.mem_cons_of_mem _ (List.mem_append_right _ h)) hown hK hP 0 rfl rfl 1 kc_l_1_2 (hts (.fieldLink RX8 15 "NotEnded$Tape" "length" "I") (List.mem_cons_of_mem _ (List.mem_append_left _ (List.mem_of_getElem? (i := 0) rfl)))) (fun _ h9 => h9) rfl dX8_append_44 ?_
                refine lv_iconst (v := 1) hx hb dX8_append_47 kc_i_1 ?_
                refine lv_iadd hx hb dX8_append_48 ?_
                refine lv_topi (fun y_167 ey_167 => ?_)
                obtain rfl : y_167 = nI (kt + 1 + 1) := ey_167.trans (nI_add (kt + 1) (1))
                refine va_put (D := (dC, dI)) (ci := 8) (v := .int (nI (kt + 1 + 1))) (ty := tyX8 1) (C := RX8) (T := TX8) (N := 2) hx hb hts (fun _ h => List.mem_cons_of_mem _ (List.mem_append_right _ h)) tyX8 tyX8_ok nmX8 hown hK hP hD hS 0 rfl rfl 1 kc_l_1_2 (hts (.fieldLink RX8 15 "NotEnded$Tape" "length" "I") (List.mem_cons_of_mem _ (List.mem_append_left _ (List.mem_of_getElem? (i := 0) rfl)))) (fun _ h9 => h9) rfl (tyX8_ok 1 kc_l_1_2) rfl rfl (Nat.le_of_ble_eq_true rfl) dX8_append_49 (fun H locs hP hD hS => ?_)
                have hPD : kPD dC dI A [(jT, .inr (8, [.ref t0, .int (nI (kt + 1 + 1))])), (t0, .inl (cC, 120, .inl f_165))] H := ⟨hP, hD⟩
                have hP := hPD.1
                have hD := hPD.2
                refine lv_iinc (v := (-8)) hx hb dX8_append_52 hl (k := 1) rfl (by decide) kc_l_2_4 (kTo [(2, .int (-8)), (3, .int x_157), (0, .ref jT), (1, .int p0)]) (fun ls hl => ?_)
                refine lv_goto (tgt := 3) hx hb dX8_append_55 kc_t_55_m52 ?_
                refine lv_iload_n hx hb dX8_append_3 rfl (lv_at hl 0 rfl) ?_
                refine lv_if_lt (tgt := 58) hx hb dX8_append_4 kc_t_4_54 (fun c_168 => ?_) (fun c_168 => absurd (by decide) c_168)
                have hP9 := hP
                have hD9 := hD
                have hK9 := hK
                rw [hQ]
                exact W.vret hx hb hr (fun t ht hW => ⟨⟨(f_165, (kt + 1 + 1)), rfl, ⟨by omega, (kNarU ef_165 (kNarU ef_129 hgT))⟩,  by rw [ht]; exact hP9, va_K.moved hW.alike hK9, hD9⟩, hS.F ht⟩) hS.2.2 dX8_append_58
          · have bd_170 : kt + 1 < 2147483648 := by omega
            have hn_169 := knle (a := 120) (b := kt + 1) kc_31_120 bd_170 c_152
            refine lv_aload_n hx hb dX8_append_31 rfl (lv_at hl 2 rfl) ?_
            refine va_get (D := (dC, dI)) (ci := 8) (v := .ref t0) (C := RX8) (T := TX8) (N := 2) hx hb hts (fun _ h => List.mem_cons_of_mem _ (List.mem_append_right _ h)) hown hK hP 0 rfl rfl 0 kc_l_0_2 (hts (.fieldLink RX8 9 "NotEnded$Tape" "signs" "[C") (List.mem_cons_of_mem _ (List.mem_append_left _ (List.mem_of_getElem? (i := 1) rfl)))) (fun _ h9 => h9) rfl dX8_append_32 ?_
            refine lv_aload_n hx hb dX8_append_35 rfl (lv_at hl 2 rfl) ?_
            refine va_get (D := (dC, dI)) (ci := 8) (v := .int (nI (kt + 1))) (C := RX8) (T := TX8) (N := 2) hx hb hts (fun _ h => List.mem_cons_of_mem _ (List.mem_append_right _ h)) hown hK hP 0 rfl rfl 1 kc_l_1_2 (hts (.fieldLink RX8 15 "NotEnded$Tape" "length" "I") (List.mem_cons_of_mem _ (List.mem_append_left _ (List.mem_of_getElem? (i := 0) rfl)))) (fun _ h9 => h9) rfl dX8_append_36 ?_
            refine lv_iload_n hx hb dX8_append_39 rfl (lv_at hl 0 rfl) ?_
            obtain ⟨x_171, ex_171⟩ : ∃ z : Int32, z = (Int32.toUInt32 x_134 % 65536).toInt32 := ⟨_, rfl⟩
            refine lv_i2c (v := x_171) hx hb dX8_append_40 ex_171.symm ?_
            have bd_173 : kt + 1 < 120 := by omega
            refine va_cast hx hb hK hP hD hS 1 0 rfl rfl (vp_in_nI (n := kt + 1) (N := 120) bd_173 kc_31_120) dX8_append_41 (fun H locs hP hD hS => ?_)
            obtain ⟨f_172, ef_172⟩ : ∃ gg9 : Nat → Int32, gg9 = upd f_129 (Int32.toNatClampNeg (nI (kt + 1))) (vp_nar .char x_171) := ⟨_, rfl⟩
            have hPD : kPD dC dI A [(jT, .inr (8, [.ref t0, .int (nI (kt + 1))])), (t0, .inl (cC, 120, .inl f_172))] H := by rw [ef_172]; exact ⟨hP, hD⟩
            have hP := hPD.1
            have hD := hPD.2
            refine lv_aload_n hx hb dX8_append_42 rfl (lv_at hl 2 rfl) ?_
            refine lv_dup hx hb dX8_append_43 rfl ?_
            refine va_get (D := (dC, dI)) (ci := 8) (v := .int (nI (kt + 1))) (C := RX8) (T := TX8) (N := 2) hx hb hts (fun _ h => List.mem_cons_of_mem _ (List.mem_append_right _ h)) hown hK hP 0 rfl rfl 1 kc_l_1_2 (hts (.fieldLink RX8 15 "NotEnded$Tape" "length" "I") (List.mem_cons_of_mem _ (List.mem_append_left _ (List.mem_of_getElem? (i := 0) rfl)))) (fun _ h9 => h9) rfl dX8_append_44 ?_
            refine lv_iconst (v := 1) hx hb dX8_append_47 kc_i_1 ?_
            refine lv_iadd hx hb dX8_append_48 ?_
            refine lv_topi (fun y_174 ey_174 => ?_)
            obtain rfl : y_174 = nI (kt + 1 + 1) := ey_174.trans (nI_add (kt + 1) (1))
            refine va_put (D := (dC, dI)) (ci := 8) (v := .int (nI (kt + 1 + 1))) (ty := tyX8 1) (C := RX8) (T := TX8) (N := 2) hx hb hts (fun _ h => List.mem_cons_of_mem _ (List.mem_append_right _ h)) tyX8 tyX8_ok nmX8 hown hK hP hD hS 0 rfl rfl 1 kc_l_1_2 (hts (.fieldLink RX8 15 "NotEnded$Tape" "length" "I") (List.mem_cons_of_mem _ (List.mem_append_left _ (List.mem_of_getElem? (i := 0) rfl)))) (fun _ h9 => h9) rfl (tyX8_ok 1 kc_l_1_2) rfl rfl (Nat.le_of_ble_eq_true rfl) dX8_append_49 (fun H locs hP hD hS => ?_)
            have hPD : kPD dC dI A [(jT, .inr (8, [.ref t0, .int (nI (kt + 1 + 1))])), (t0, .inl (cC, 120, .inl f_172))] H := ⟨hP, hD⟩
            have hP := hPD.1
            have hD := hPD.2
            refine lv_iinc (v := 0) hx hb dX8_append_52 hl (k := 1) rfl (by decide) kc_l_2_4 (kTo [(2, .int 0), (3, .int x_134), (0, .ref jT), (1, .int p0)]) (fun ls hl => ?_)
            refine lv_goto (tgt := 3) hx hb dX8_append_55 kc_t_55_m52 ?_
            refine lv_iload_n hx hb dX8_append_3 rfl (lv_at hl 0 rfl) ?_
            refine lv_if_lt (tgt := 58) hx hb dX8_append_4 kc_t_4_54 (fun c_175 => absurd c_175 (by decide)) (fun c_175 => ?_)
            refine lv_iload_n hx hb dX8_append_7 rfl (lv_at hl 3 rfl) ?_
            refine lv_iload_n hx hb dX8_append_8 rfl (lv_at hl 0 rfl) ?_
            obtain ⟨x_176, ex_176⟩ : ∃ z : Int32, z = (Int32.toUInt32 p0 >>> (Int32.toUInt32 0 &&& Int32.toUInt32 31)).toInt32 := ⟨_, rfl⟩
            refine lv_iushr (v := x_176) hx hb dX8_append_9 ex_176.symm ?_
            refine lv_sipush (v := 255) hx hb dX8_append_10 kc_s_255 ?_
            refine lv_iand hx hb dX8_append_13 ?_
            refine lv_topi (fun x_177 ex_177 => ?_)
            refine lv_istore_n hx hb dX8_append_14 rfl hl kc_l_3_4 (kTo [(3, .int x_177), (2, .int 0), (0, .ref jT), (1, .int p0)]) (fun ls hl => ?_)
            refine lv_iload_n hx hb dX8_append_15 rfl (lv_at hl 0 rfl) ?_
            refine lv_if_eq (tgt := 52) hx hb dX8_append_16 kc_t_16_36 (fun c_178 => ?_) (fun c_178 => ?_)
            · refine lv_iinc (v := (-8)) hx hb dX8_append_52 hl (k := 1) rfl (by decide) kc_l_2_4 (kTo [(2, .int (-8)), (3, .int x_177), (0, .ref jT), (1, .int p0)]) (fun ls hl => ?_)
              refine lv_goto (tgt := 3) hx hb dX8_append_55 kc_t_55_m52 ?_
              refine lv_iload_n hx hb dX8_append_3 rfl (lv_at hl 0 rfl) ?_
              refine lv_if_lt (tgt := 58) hx hb dX8_append_4 kc_t_4_54 (fun c_179 => ?_) (fun c_179 => absurd (by decide) c_179)
              have hP9 := hP
              have hD9 := hD
              have hK9 := hK
              rw [hQ]
              exact W.vret hx hb hr (fun t ht hW => ⟨⟨(f_172, (kt + 1 + 1)), rfl, ⟨by omega, (kNarU ef_172 (kNarU ef_129 hgT))⟩,  by rw [ht]; exact hP9, va_K.moved hW.alike hK9, hD9⟩, hS.F ht⟩) hS.2.2 dX8_append_58
            · refine lv_aload_n hx hb dX8_append_19 rfl (lv_at hl 2 rfl) ?_
              refine va_get (D := (dC, dI)) (ci := 8) (v := .int (nI (kt + 1 + 1))) (C := RX8) (T := TX8) (N := 2) hx hb hts (fun _ h => List.mem_cons_of_mem _ (List.mem_append_right _ h)) hown hK hP 0 rfl rfl 1 kc_l_1_2 (hts (.fieldLink RX8 15 "NotEnded$Tape" "length" "I") (List.mem_cons_of_mem _ (List.mem_append_left _ (List.mem_of_getElem? (i := 0) rfl)))) (fun _ h9 => h9) rfl dX8_append_20 ?_
              refine lv_aload_n hx hb dX8_append_23 rfl (lv_at hl 2 rfl) ?_
              refine va_get (D := (dC, dI)) (ci := 8) (v := .ref t0) (C := RX8) (T := TX8) (N := 2) hx hb hts (fun _ h => List.mem_cons_of_mem _ (List.mem_append_right _ h)) hown hK hP 0 rfl rfl 0 kc_l_0_2 (hts (.fieldLink RX8 9 "NotEnded$Tape" "signs" "[C") (List.mem_cons_of_mem _ (List.mem_append_left _ (List.mem_of_getElem? (i := 1) rfl)))) (fun _ h9 => h9) rfl dX8_append_24 ?_
              refine va_alen hx hb hK hP 1 0 rfl rfl (v := 120) rfl dX8_append_27 ?_
              refine lv_icmp_ge (tgt := 52) hx hb dX8_append_28 kc_t_28_24 (fun c_180 => ?_) (fun c_180 => ?_)
              · have bd_182 : kt + 1 + 1 < 2147483648 := by omega
                have hn_181 := kle (a := 120) (b := kt + 1 + 1) kc_31_120 bd_182 c_180
                refine lv_iinc (v := (-8)) hx hb dX8_append_52 hl (k := 1) rfl (by decide) kc_l_2_4 (kTo [(2, .int (-8)), (3, .int x_177), (0, .ref jT), (1, .int p0)]) (fun ls hl => ?_)
                refine lv_goto (tgt := 3) hx hb dX8_append_55 kc_t_55_m52 ?_
                refine lv_iload_n hx hb dX8_append_3 rfl (lv_at hl 0 rfl) ?_
                refine lv_if_lt (tgt := 58) hx hb dX8_append_4 kc_t_4_54 (fun c_183 => ?_) (fun c_183 => absurd (by decide) c_183)
                have hP9 := hP
                have hD9 := hD
                have hK9 := hK
                rw [hQ]
                exact W.vret hx hb hr (fun t ht hW => ⟨⟨(f_172, (kt + 1 + 1)), rfl, ⟨by omega, (kNarU ef_172 (kNarU ef_129 hgT))⟩,  by rw [ht]; exact hP9, va_K.moved hW.alike hK9, hD9⟩, hS.F ht⟩) hS.2.2 dX8_append_58
              · have bd_185 : kt + 1 + 1 < 2147483648 := by omega
                have hn_184 := knle (a := 120) (b := kt + 1 + 1) kc_31_120 bd_185 c_180
                refine lv_aload_n hx hb dX8_append_31 rfl (lv_at hl 2 rfl) ?_
                refine va_get (D := (dC, dI)) (ci := 8) (v := .ref t0) (C := RX8) (T := TX8) (N := 2) hx hb hts (fun _ h => List.mem_cons_of_mem _ (List.mem_append_right _ h)) hown hK hP 0 rfl rfl 0 kc_l_0_2 (hts (.fieldLink RX8 9 "NotEnded$Tape" "signs" "[C") (List.mem_cons_of_mem _ (List.mem_append_left _ (List.mem_of_getElem? (i := 1) rfl)))) (fun _ h9 => h9) rfl dX8_append_32 ?_
                refine lv_aload_n hx hb dX8_append_35 rfl (lv_at hl 2 rfl) ?_
                refine va_get (D := (dC, dI)) (ci := 8) (v := .int (nI (kt + 1 + 1))) (C := RX8) (T := TX8) (N := 2) hx hb hts (fun _ h => List.mem_cons_of_mem _ (List.mem_append_right _ h)) hown hK hP 0 rfl rfl 1 kc_l_1_2 (hts (.fieldLink RX8 15 "NotEnded$Tape" "length" "I") (List.mem_cons_of_mem _ (List.mem_append_left _ (List.mem_of_getElem? (i := 0) rfl)))) (fun _ h9 => h9) rfl dX8_append_36 ?_
                refine lv_iload_n hx hb dX8_append_39 rfl (lv_at hl 0 rfl) ?_
                obtain ⟨x_186, ex_186⟩ : ∃ z : Int32, z = (Int32.toUInt32 x_177 % 65536).toInt32 := ⟨_, rfl⟩
                refine lv_i2c (v := x_186) hx hb dX8_append_40 ex_186.symm ?_
                have bd_188 : kt + 1 + 1 < 120 := by omega
                refine va_cast hx hb hK hP hD hS 1 0 rfl rfl (vp_in_nI (n := kt + 1 + 1) (N := 120) bd_188 kc_31_120) dX8_append_41 (fun H locs hP hD hS => ?_)
                obtain ⟨f_187, ef_187⟩ : ∃ gg9 : Nat → Int32, gg9 = upd f_172 (Int32.toNatClampNeg (nI (kt + 1 + 1))) (vp_nar .char x_186) := ⟨_, rfl⟩
                have hPD : kPD dC dI A [(jT, .inr (8, [.ref t0, .int (nI (kt + 1 + 1))])), (t0, .inl (cC, 120, .inl f_187))] H := by rw [ef_187]; exact ⟨hP, hD⟩
                have hP := hPD.1
                have hD := hPD.2
                refine lv_aload_n hx hb dX8_append_42 rfl (lv_at hl 2 rfl) ?_
                refine lv_dup hx hb dX8_append_43 rfl ?_
                refine va_get (D := (dC, dI)) (ci := 8) (v := .int (nI (kt + 1 + 1))) (C := RX8) (T := TX8) (N := 2) hx hb hts (fun _ h => List.mem_cons_of_mem _ (List.mem_append_right _ h)) hown hK hP 0 rfl rfl 1 kc_l_1_2 (hts (.fieldLink RX8 15 "NotEnded$Tape" "length" "I") (List.mem_cons_of_mem _ (List.mem_append_left _ (List.mem_of_getElem? (i := 0) rfl)))) (fun _ h9 => h9) rfl dX8_append_44 ?_
                refine lv_iconst (v := 1) hx hb dX8_append_47 kc_i_1 ?_
                refine lv_iadd hx hb dX8_append_48 ?_
                refine lv_topi (fun y_189 ey_189 => ?_)
                obtain rfl : y_189 = nI (kt + 1 + 1 + 1) := ey_189.trans (nI_add (kt + 1 + 1) (1))
                refine va_put (D := (dC, dI)) (ci := 8) (v := .int (nI (kt + 1 + 1 + 1))) (ty := tyX8 1) (C := RX8) (T := TX8) (N := 2) hx hb hts (fun _ h => List.mem_cons_of_mem _ (List.mem_append_right _ h)) tyX8 tyX8_ok nmX8 hown hK hP hD hS 0 rfl rfl 1 kc_l_1_2 (hts (.fieldLink RX8 15 "NotEnded$Tape" "length" "I") (List.mem_cons_of_mem _ (List.mem_append_left _ (List.mem_of_getElem? (i := 0) rfl)))) (fun _ h9 => h9) rfl (tyX8_ok 1 kc_l_1_2) rfl rfl (Nat.le_of_ble_eq_true rfl) dX8_append_49 (fun H locs hP hD hS => ?_)
                have hPD : kPD dC dI A [(jT, .inr (8, [.ref t0, .int (nI (kt + 1 + 1 + 1))])), (t0, .inl (cC, 120, .inl f_187))] H := ⟨hP, hD⟩
                have hP := hPD.1
                have hD := hPD.2
                refine lv_iinc (v := (-8)) hx hb dX8_append_52 hl (k := 1) rfl (by decide) kc_l_2_4 (kTo [(2, .int (-8)), (3, .int x_177), (0, .ref jT), (1, .int p0)]) (fun ls hl => ?_)
                refine lv_goto (tgt := 3) hx hb dX8_append_55 kc_t_55_m52 ?_
                refine lv_iload_n hx hb dX8_append_3 rfl (lv_at hl 0 rfl) ?_
                refine lv_if_lt (tgt := 58) hx hb dX8_append_4 kc_t_4_54 (fun c_190 => ?_) (fun c_190 => absurd (by decide) c_190)
                have hP9 := hP
                have hD9 := hD
                have hK9 := hK
                rw [hQ]
                exact W.vret hx hb hr (fun t ht hW => ⟨⟨(f_187, (kt + 1 + 1 + 1)), rfl, ⟨by omega, (kNarU ef_187 (kNarU ef_172 (kNarU ef_129 hgT)))⟩,  by rw [ht]; exact hP9, va_K.moved hW.alike hK9, hD9⟩, hS.F ht⟩) hS.2.2 dX8_append_58
  · refine lv_aload_n hx hb dX8_append_19 rfl (lv_at hl 2 rfl) ?_
    refine va_get (D := (dC, dI)) (ci := 8) (v := .int (nI (kt))) (C := RX8) (T := TX8) (N := 2) hx hb hts (fun _ h => List.mem_cons_of_mem _ (List.mem_append_right _ h)) hown hK hP 0 rfl rfl 1 kc_l_1_2 (hts (.fieldLink RX8 15 "NotEnded$Tape" "length" "I") (List.mem_cons_of_mem _ (List.mem_append_left _ (List.mem_of_getElem? (i := 0) rfl)))) (fun _ h9 => h9) rfl dX8_append_20 ?_
    refine lv_aload_n hx hb dX8_append_23 rfl (lv_at hl 2 rfl) ?_
    refine va_get (D := (dC, dI)) (ci := 8) (v := .ref t0) (C := RX8) (T := TX8) (N := 2) hx hb hts (fun _ h => List.mem_cons_of_mem _ (List.mem_append_right _ h)) hown hK hP 0 rfl rfl 0 kc_l_0_2 (hts (.fieldLink RX8 9 "NotEnded$Tape" "signs" "[C") (List.mem_cons_of_mem _ (List.mem_append_left _ (List.mem_of_getElem? (i := 1) rfl)))) (fun _ h9 => h9) rfl dX8_append_24 ?_
    refine va_alen hx hb hK hP 1 0 rfl rfl (v := 120) rfl dX8_append_27 ?_
    refine lv_icmp_ge (tgt := 52) hx hb dX8_append_28 kc_t_28_24 (fun c_191 => ?_) (fun c_191 => ?_)
    · have bd_193 : kt < 2147483648 := by omega
      have hn_192 := kle (a := 120) (b := kt) kc_31_120 bd_193 c_191
      refine lv_iinc (v := 16) hx hb dX8_append_52 hl (k := 1) rfl (by decide) kc_l_2_4 (kTo [(2, .int 16), (3, .int x_3), (0, .ref jT), (1, .int p0)]) (fun ls hl => ?_)
      refine lv_goto (tgt := 3) hx hb dX8_append_55 kc_t_55_m52 ?_
      refine lv_iload_n hx hb dX8_append_3 rfl (lv_at hl 0 rfl) ?_
      refine lv_if_lt (tgt := 58) hx hb dX8_append_4 kc_t_4_54 (fun c_194 => absurd c_194 (by decide)) (fun c_194 => ?_)
      refine lv_iload_n hx hb dX8_append_7 rfl (lv_at hl 3 rfl) ?_
      refine lv_iload_n hx hb dX8_append_8 rfl (lv_at hl 0 rfl) ?_
      obtain ⟨x_195, ex_195⟩ : ∃ z : Int32, z = (Int32.toUInt32 p0 >>> (Int32.toUInt32 16 &&& Int32.toUInt32 31)).toInt32 := ⟨_, rfl⟩
      refine lv_iushr (v := x_195) hx hb dX8_append_9 ex_195.symm ?_
      refine lv_sipush (v := 255) hx hb dX8_append_10 kc_s_255 ?_
      refine lv_iand hx hb dX8_append_13 ?_
      refine lv_topi (fun x_196 ex_196 => ?_)
      refine lv_istore_n hx hb dX8_append_14 rfl hl kc_l_3_4 (kTo [(3, .int x_196), (2, .int 16), (0, .ref jT), (1, .int p0)]) (fun ls hl => ?_)
      refine lv_iload_n hx hb dX8_append_15 rfl (lv_at hl 0 rfl) ?_
      refine lv_if_eq (tgt := 52) hx hb dX8_append_16 kc_t_16_36 (fun c_197 => ?_) (fun c_197 => ?_)
      · refine lv_iinc (v := 8) hx hb dX8_append_52 hl (k := 1) rfl (by decide) kc_l_2_4 (kTo [(2, .int 8), (3, .int x_196), (0, .ref jT), (1, .int p0)]) (fun ls hl => ?_)
        refine lv_goto (tgt := 3) hx hb dX8_append_55 kc_t_55_m52 ?_
        refine lv_iload_n hx hb dX8_append_3 rfl (lv_at hl 0 rfl) ?_
        refine lv_if_lt (tgt := 58) hx hb dX8_append_4 kc_t_4_54 (fun c_198 => absurd c_198 (by decide)) (fun c_198 => ?_)
        refine lv_iload_n hx hb dX8_append_7 rfl (lv_at hl 3 rfl) ?_
        refine lv_iload_n hx hb dX8_append_8 rfl (lv_at hl 0 rfl) ?_
        obtain ⟨x_199, ex_199⟩ : ∃ z : Int32, z = (Int32.toUInt32 p0 >>> (Int32.toUInt32 8 &&& Int32.toUInt32 31)).toInt32 := ⟨_, rfl⟩
        refine lv_iushr (v := x_199) hx hb dX8_append_9 ex_199.symm ?_
        refine lv_sipush (v := 255) hx hb dX8_append_10 kc_s_255 ?_
        refine lv_iand hx hb dX8_append_13 ?_
        refine lv_topi (fun x_200 ex_200 => ?_)
        refine lv_istore_n hx hb dX8_append_14 rfl hl kc_l_3_4 (kTo [(3, .int x_200), (2, .int 8), (0, .ref jT), (1, .int p0)]) (fun ls hl => ?_)
        refine lv_iload_n hx hb dX8_append_15 rfl (lv_at hl 0 rfl) ?_
        refine lv_if_eq (tgt := 52) hx hb dX8_append_16 kc_t_16_36 (fun c_201 => ?_) (fun c_201 => ?_)
        · refine lv_iinc (v := 0) hx hb dX8_append_52 hl (k := 1) rfl (by decide) kc_l_2_4 (kTo [(2, .int 0), (3, .int x_200), (0, .ref jT), (1, .int p0)]) (fun ls hl => ?_)
          refine lv_goto (tgt := 3) hx hb dX8_append_55 kc_t_55_m52 ?_
          refine lv_iload_n hx hb dX8_append_3 rfl (lv_at hl 0 rfl) ?_
          refine lv_if_lt (tgt := 58) hx hb dX8_append_4 kc_t_4_54 (fun c_202 => absurd c_202 (by decide)) (fun c_202 => ?_)
          refine lv_iload_n hx hb dX8_append_7 rfl (lv_at hl 3 rfl) ?_
          refine lv_iload_n hx hb dX8_append_8 rfl (lv_at hl 0 rfl) ?_
          obtain ⟨x_203, ex_203⟩ : ∃ z : Int32, z = (Int32.toUInt32 p0 >>> (Int32.toUInt32 0 &&& Int32.toUInt32 31)).toInt32 := ⟨_, rfl⟩
          refine lv_iushr (v := x_203) hx hb dX8_append_9 ex_203.symm ?_
          refine lv_sipush (v := 255) hx hb dX8_append_10 kc_s_255 ?_
          refine lv_iand hx hb dX8_append_13 ?_
          refine lv_topi (fun x_204 ex_204 => ?_)
          refine lv_istore_n hx hb dX8_append_14 rfl hl kc_l_3_4 (kTo [(3, .int x_204), (2, .int 0), (0, .ref jT), (1, .int p0)]) (fun ls hl => ?_)
          refine lv_iload_n hx hb dX8_append_15 rfl (lv_at hl 0 rfl) ?_
          refine lv_if_eq (tgt := 52) hx hb dX8_append_16 kc_t_16_36 (fun c_205 => ?_) (fun c_205 => ?_)
          · refine lv_iinc (v := (-8)) hx hb dX8_append_52 hl (k := 1) rfl (by decide) kc_l_2_4 (kTo [(2, .int (-8)), (3, .int x_204), (0, .ref jT), (1, .int p0)]) (fun ls hl => ?_)
            refine lv_goto (tgt := 3) hx hb dX8_append_55 kc_t_55_m52 ?_
            refine lv_iload_n hx hb dX8_append_3 rfl (lv_at hl 0 rfl) ?_
            refine lv_if_lt (tgt := 58) hx hb dX8_append_4 kc_t_4_54 (fun c_206 => ?_) (fun c_206 => absurd (by decide) c_206)
            have hP9 := hP
            have hD9 := hD
            have hK9 := hK
            rw [hQ]
            exact W.vret hx hb hr (fun t ht hW => ⟨⟨(gT, kt), rfl, ⟨by omega, hgT⟩,  by rw [ht]; exact hP9, va_K.moved hW.alike hK9, hD9⟩, hS.F ht⟩) hS.2.2 dX8_append_58
          · refine lv_aload_n hx hb dX8_append_19 rfl (lv_at hl 2 rfl) ?_
            refine va_get (D := (dC, dI)) (ci := 8) (v := .int (nI (kt))) (C := RX8) (T := TX8) (N := 2) hx hb hts (fun _ h => List.mem_cons_of_mem _ (List.mem_append_right _ h)) hown hK hP 0 rfl rfl 1 kc_l_1_2 (hts (.fieldLink RX8 15 "NotEnded$Tape" "length" "I") (List.mem_cons_of_mem _ (List.mem_append_left _ (List.mem_of_getElem? (i := 0) rfl)))) (fun _ h9 => h9) rfl dX8_append_20 ?_
            refine lv_aload_n hx hb dX8_append_23 rfl (lv_at hl 2 rfl) ?_
            refine va_get (D := (dC, dI)) (ci := 8) (v := .ref t0) (C := RX8) (T := TX8) (N := 2) hx hb hts (fun _ h => List.mem_cons_of_mem _ (List.mem_append_right _ h)) hown hK hP 0 rfl rfl 0 kc_l_0_2 (hts (.fieldLink RX8 9 "NotEnded$Tape" "signs" "[C") (List.mem_cons_of_mem _ (List.mem_append_left _ (List.mem_of_getElem? (i := 1) rfl)))) (fun _ h9 => h9) rfl dX8_append_24 ?_
            refine va_alen hx hb hK hP 1 0 rfl rfl (v := 120) rfl dX8_append_27 ?_
            refine lv_icmp_ge (tgt := 52) hx hb dX8_append_28 kc_t_28_24 (fun c_207 => ?_) (fun c_207 => ?_)
            · have hn_208 := kle (a := 120) (b := kt) kc_31_120 bd_193 c_207
              refine lv_iinc (v := (-8)) hx hb dX8_append_52 hl (k := 1) rfl (by decide) kc_l_2_4 (kTo [(2, .int (-8)), (3, .int x_204), (0, .ref jT), (1, .int p0)]) (fun ls hl => ?_)
              refine lv_goto (tgt := 3) hx hb dX8_append_55 kc_t_55_m52 ?_
              refine lv_iload_n hx hb dX8_append_3 rfl (lv_at hl 0 rfl) ?_
              refine lv_if_lt (tgt := 58) hx hb dX8_append_4 kc_t_4_54 (fun c_209 => ?_) (fun c_209 => absurd (by decide) c_209)
              have hP9 := hP
              have hD9 := hD
              have hK9 := hK
              rw [hQ]
              exact W.vret hx hb hr (fun t ht hW => ⟨⟨(gT, kt), rfl, ⟨by omega, hgT⟩,  by rw [ht]; exact hP9, va_K.moved hW.alike hK9, hD9⟩, hS.F ht⟩) hS.2.2 dX8_append_58
            · have hn_210 := knle (a := 120) (b := kt) kc_31_120 bd_193 c_207
              refine lv_aload_n hx hb dX8_append_31 rfl (lv_at hl 2 rfl) ?_
              refine va_get (D := (dC, dI)) (ci := 8) (v := .ref t0) (C := RX8) (T := TX8) (N := 2) hx hb hts (fun _ h => List.mem_cons_of_mem _ (List.mem_append_right _ h)) hown hK hP 0 rfl rfl 0 kc_l_0_2 (hts (.fieldLink RX8 9 "NotEnded$Tape" "signs" "[C") (List.mem_cons_of_mem _ (List.mem_append_left _ (List.mem_of_getElem? (i := 1) rfl)))) (fun _ h9 => h9) rfl dX8_append_32 ?_
              refine lv_aload_n hx hb dX8_append_35 rfl (lv_at hl 2 rfl) ?_
              refine va_get (D := (dC, dI)) (ci := 8) (v := .int (nI (kt))) (C := RX8) (T := TX8) (N := 2) hx hb hts (fun _ h => List.mem_cons_of_mem _ (List.mem_append_right _ h)) hown hK hP 0 rfl rfl 1 kc_l_1_2 (hts (.fieldLink RX8 15 "NotEnded$Tape" "length" "I") (List.mem_cons_of_mem _ (List.mem_append_left _ (List.mem_of_getElem? (i := 0) rfl)))) (fun _ h9 => h9) rfl dX8_append_36 ?_
              refine lv_iload_n hx hb dX8_append_39 rfl (lv_at hl 0 rfl) ?_
              obtain ⟨x_211, ex_211⟩ : ∃ z : Int32, z = (Int32.toUInt32 x_204 % 65536).toInt32 := ⟨_, rfl⟩
              refine lv_i2c (v := x_211) hx hb dX8_append_40 ex_211.symm ?_
              have bd_213 : kt < 120 := by omega
              refine va_cast hx hb hK hP hD hS 1 0 rfl rfl (vp_in_nI (n := kt) (N := 120) bd_213 kc_31_120) dX8_append_41 (fun H locs hP hD hS => ?_)
              obtain ⟨f_212, ef_212⟩ : ∃ gg9 : Nat → Int32, gg9 = upd gT (Int32.toNatClampNeg (nI (kt))) (vp_nar .char x_211) := ⟨_, rfl⟩
              have hPD : kPD dC dI A [(jT, .inr (8, [.ref t0, .int (nI (kt))])), (t0, .inl (cC, 120, .inl f_212))] H := by rw [ef_212]; exact ⟨hP, hD⟩
              have hP := hPD.1
              have hD := hPD.2
              refine lv_aload_n hx hb dX8_append_42 rfl (lv_at hl 2 rfl) ?_
              refine lv_dup hx hb dX8_append_43 rfl ?_
              refine va_get (D := (dC, dI)) (ci := 8) (v := .int (nI (kt))) (C := RX8) (T := TX8) (N := 2) hx hb hts (fun _ h => List.mem_cons_of_mem _ (List.mem_append_right _ h)) hown hK hP 0 rfl rfl 1 kc_l_1_2 (hts (.fieldLink RX8 15 "NotEnded$Tape" "length" "I") (List.mem_cons_of_mem _ (List.mem_append_left _ (List.mem_of_getElem? (i := 0) rfl)))) (fun _ h9 => h9) rfl dX8_append_44 ?_
              refine lv_iconst (v := 1) hx hb dX8_append_47 kc_i_1 ?_
              refine lv_iadd hx hb dX8_append_48 ?_
              refine lv_topi (fun y_214 ey_214 => ?_)
              obtain rfl : y_214 = nI (kt + 1) := ey_214.trans (nI_add (kt) (1))
              refine va_put (D := (dC, dI)) (ci := 8) (v := .int (nI (kt + 1))) (ty := tyX8 1) (C := RX8) (T := TX8) (N := 2) hx hb hts (fun _ h => List.mem_cons_of_mem _ (List.mem_append_right _ h)) tyX8 tyX8_ok nmX8 hown hK hP hD hS 0 rfl rfl 1 kc_l_1_2 (hts (.fieldLink RX8 15 "NotEnded$Tape" "length" "I") (List.mem_cons_of_mem _ (List.mem_append_left _ (List.mem_of_getElem? (i := 0) rfl)))) (fun _ h9 => h9) rfl (tyX8_ok 1 kc_l_1_2) rfl rfl (Nat.le_of_ble_eq_true rfl) dX8_append_49 (fun H locs hP hD hS => ?_)
              have hPD : kPD dC dI A [(jT, .inr (8, [.ref t0, .int (nI (kt + 1))])), (t0, .inl (cC, 120, .inl f_212))] H := ⟨hP, hD⟩
              have hP := hPD.1
              have hD := hPD.2
              refine lv_iinc (v := (-8)) hx hb dX8_append_52 hl (k := 1) rfl (by decide) kc_l_2_4 (kTo [(2, .int (-8)), (3, .int x_204), (0, .ref jT), (1, .int p0)]) (fun ls hl => ?_)
              refine lv_goto (tgt := 3) hx hb dX8_append_55 kc_t_55_m52 ?_
              refine lv_iload_n hx hb dX8_append_3 rfl (lv_at hl 0 rfl) ?_
              refine lv_if_lt (tgt := 58) hx hb dX8_append_4 kc_t_4_54 (fun c_215 => ?_) (fun c_215 => absurd (by decide) c_215)
              have hP9 := hP
              have hD9 := hD
              have hK9 := hK
              rw [hQ]
              exact W.vret hx hb hr (fun t ht hW => ⟨⟨(f_212, (kt + 1)), rfl, ⟨by omega, (kNarU ef_212 hgT)⟩,  by rw [ht]; exact hP9, va_K.moved hW.alike hK9, hD9⟩, hS.F ht⟩) hS.2.2 dX8_append_58
        · refine lv_aload_n hx hb dX8_append_19 rfl (lv_at hl 2 rfl) ?_
          refine va_get (D := (dC, dI)) (ci := 8) (v := .int (nI (kt))) (C := RX8) (T := TX8) (N := 2) hx hb hts (fun _ h => List.mem_cons_of_mem _ (List.mem_append_right _ h)) hown hK hP 0 rfl rfl 1 kc_l_1_2 (hts (.fieldLink RX8 15 "NotEnded$Tape" "length" "I") (List.mem_cons_of_mem _ (List.mem_append_left _ (List.mem_of_getElem? (i := 0) rfl)))) (fun _ h9 => h9) rfl dX8_append_20 ?_
          refine lv_aload_n hx hb dX8_append_23 rfl (lv_at hl 2 rfl) ?_
          refine va_get (D := (dC, dI)) (ci := 8) (v := .ref t0) (C := RX8) (T := TX8) (N := 2) hx hb hts (fun _ h => List.mem_cons_of_mem _ (List.mem_append_right _ h)) hown hK hP 0 rfl rfl 0 kc_l_0_2 (hts (.fieldLink RX8 9 "NotEnded$Tape" "signs" "[C") (List.mem_cons_of_mem _ (List.mem_append_left _ (List.mem_of_getElem? (i := 1) rfl)))) (fun _ h9 => h9) rfl dX8_append_24 ?_
          refine va_alen hx hb hK hP 1 0 rfl rfl (v := 120) rfl dX8_append_27 ?_
          refine lv_icmp_ge (tgt := 52) hx hb dX8_append_28 kc_t_28_24 (fun c_216 => ?_) (fun c_216 => ?_)
          · have hn_217 := kle (a := 120) (b := kt) kc_31_120 bd_193 c_216
            refine lv_iinc (v := 0) hx hb dX8_append_52 hl (k := 1) rfl (by decide) kc_l_2_4 (kTo [(2, .int 0), (3, .int x_200), (0, .ref jT), (1, .int p0)]) (fun ls hl => ?_)
            refine lv_goto (tgt := 3) hx hb dX8_append_55 kc_t_55_m52 ?_
            refine lv_iload_n hx hb dX8_append_3 rfl (lv_at hl 0 rfl) ?_
            refine lv_if_lt (tgt := 58) hx hb dX8_append_4 kc_t_4_54 (fun c_218 => absurd c_218 (by decide)) (fun c_218 => ?_)
            refine lv_iload_n hx hb dX8_append_7 rfl (lv_at hl 3 rfl) ?_
            refine lv_iload_n hx hb dX8_append_8 rfl (lv_at hl 0 rfl) ?_
            obtain ⟨x_219, ex_219⟩ : ∃ z : Int32, z = (Int32.toUInt32 p0 >>> (Int32.toUInt32 0 &&& Int32.toUInt32 31)).toInt32 := ⟨_, rfl⟩
            refine lv_iushr (v := x_219) hx hb dX8_append_9 ex_219.symm ?_
            refine lv_sipush (v := 255) hx hb dX8_append_10 kc_s_255 ?_
            refine lv_iand hx hb dX8_append_13 ?_
            refine lv_topi (fun x_220 ex_220 => ?_)
            refine lv_istore_n hx hb dX8_append_14 rfl hl kc_l_3_4 (kTo [(3, .int x_220), (2, .int 0), (0, .ref jT), (1, .int p0)]) (fun ls hl => ?_)
            refine lv_iload_n hx hb dX8_append_15 rfl (lv_at hl 0 rfl) ?_
            refine lv_if_eq (tgt := 52) hx hb dX8_append_16 kc_t_16_36 (fun c_221 => ?_) (fun c_221 => ?_)
            · refine lv_iinc (v := (-8)) hx hb dX8_append_52 hl (k := 1) rfl (by decide) kc_l_2_4 (kTo [(2, .int (-8)), (3, .int x_220), (0, .ref jT), (1, .int p0)]) (fun ls hl => ?_)
              refine lv_goto (tgt := 3) hx hb dX8_append_55 kc_t_55_m52 ?_
              refine lv_iload_n hx hb dX8_append_3 rfl (lv_at hl 0 rfl) ?_
              refine lv_if_lt (tgt := 58) hx hb dX8_append_4 kc_t_4_54 (fun c_222 => ?_) (fun c_222 => absurd (by decide) c_222)
              have hP9 := hP
              have hD9 := hD
              have hK9 := hK
              rw [hQ]
              exact W.vret hx hb hr (fun t ht hW => ⟨⟨(gT, kt), rfl, ⟨by omega, hgT⟩,  by rw [ht]; exact hP9, va_K.moved hW.alike hK9, hD9⟩, hS.F ht⟩) hS.2.2 dX8_append_58
            · refine lv_aload_n hx hb dX8_append_19 rfl (lv_at hl 2 rfl) ?_
              refine va_get (D := (dC, dI)) (ci := 8) (v := .int (nI (kt))) (C := RX8) (T := TX8) (N := 2) hx hb hts (fun _ h => List.mem_cons_of_mem _ (List.mem_append_right _ h)) hown hK hP 0 rfl rfl 1 kc_l_1_2 (hts (.fieldLink RX8 15 "NotEnded$Tape" "length" "I") (List.mem_cons_of_mem _ (List.mem_append_left _ (List.mem_of_getElem? (i := 0) rfl)))) (fun _ h9 => h9) rfl dX8_append_20 ?_
              refine lv_aload_n hx hb dX8_append_23 rfl (lv_at hl 2 rfl) ?_
              refine va_get (D := (dC, dI)) (ci := 8) (v := .ref t0) (C := RX8) (T := TX8) (N := 2) hx hb hts (fun _ h => List.mem_cons_of_mem _ (List.mem_append_right _ h)) hown hK hP 0 rfl rfl 0 kc_l_0_2 (hts (.fieldLink RX8 9 "NotEnded$Tape" "signs" "[C") (List.mem_cons_of_mem _ (List.mem_append_left _ (List.mem_of_getElem? (i := 1) rfl)))) (fun _ h9 => h9) rfl dX8_append_24 ?_
              refine va_alen hx hb hK hP 1 0 rfl rfl (v := 120) rfl dX8_append_27 ?_
              refine lv_icmp_ge (tgt := 52) hx hb dX8_append_28 kc_t_28_24 (fun c_223 => ?_) (fun c_223 => ?_)
              · have hn_224 := kle (a := 120) (b := kt) kc_31_120 bd_193 c_223
                refine lv_iinc (v := (-8)) hx hb dX8_append_52 hl (k := 1) rfl (by decide) kc_l_2_4 (kTo [(2, .int (-8)), (3, .int x_220), (0, .ref jT), (1, .int p0)]) (fun ls hl => ?_)
                refine lv_goto (tgt := 3) hx hb dX8_append_55 kc_t_55_m52 ?_
                refine lv_iload_n hx hb dX8_append_3 rfl (lv_at hl 0 rfl) ?_
                refine lv_if_lt (tgt := 58) hx hb dX8_append_4 kc_t_4_54 (fun c_225 => ?_) (fun c_225 => absurd (by decide) c_225)
                have hP9 := hP
                have hD9 := hD
                have hK9 := hK
                rw [hQ]
                exact W.vret hx hb hr (fun t ht hW => ⟨⟨(gT, kt), rfl, ⟨by omega, hgT⟩,  by rw [ht]; exact hP9, va_K.moved hW.alike hK9, hD9⟩, hS.F ht⟩) hS.2.2 dX8_append_58
              · have hn_226 := knle (a := 120) (b := kt) kc_31_120 bd_193 c_223
                refine lv_aload_n hx hb dX8_append_31 rfl (lv_at hl 2 rfl) ?_
                refine va_get (D := (dC, dI)) (ci := 8) (v := .ref t0) (C := RX8) (T := TX8) (N := 2) hx hb hts (fun _ h => List.mem_cons_of_mem _ (List.mem_append_right _ h)) hown hK hP 0 rfl rfl 0 kc_l_0_2 (hts (.fieldLink RX8 9 "NotEnded$Tape" "signs" "[C") (List.mem_cons_of_mem _ (List.mem_append_left _ (List.mem_of_getElem? (i := 1) rfl)))) (fun _ h9 => h9) rfl dX8_append_32 ?_
                refine lv_aload_n hx hb dX8_append_35 rfl (lv_at hl 2 rfl) ?_
                refine va_get (D := (dC, dI)) (ci := 8) (v := .int (nI (kt))) (C := RX8) (T := TX8) (N := 2) hx hb hts (fun _ h => List.mem_cons_of_mem _ (List.mem_append_right _ h)) hown hK hP 0 rfl rfl 1 kc_l_1_2 (hts (.fieldLink RX8 15 "NotEnded$Tape" "length" "I") (List.mem_cons_of_mem _ (List.mem_append_left _ (List.mem_of_getElem? (i := 0) rfl)))) (fun _ h9 => h9) rfl dX8_append_36 ?_
                refine lv_iload_n hx hb dX8_append_39 rfl (lv_at hl 0 rfl) ?_
                obtain ⟨x_227, ex_227⟩ : ∃ z : Int32, z = (Int32.toUInt32 x_220 % 65536).toInt32 := ⟨_, rfl⟩
                refine lv_i2c (v := x_227) hx hb dX8_append_40 ex_227.symm ?_
                have bd_229 : kt < 120 := by omega
                refine va_cast hx hb hK hP hD hS 1 0 rfl rfl (vp_in_nI (n := kt) (N := 120) bd_229 kc_31_120) dX8_append_41 (fun H locs hP hD hS => ?_)
                obtain ⟨f_228, ef_228⟩ : ∃ gg9 : Nat → Int32, gg9 = upd gT (Int32.toNatClampNeg (nI (kt))) (vp_nar .char x_227) := ⟨_, rfl⟩
                have hPD : kPD dC dI A [(jT, .inr (8, [.ref t0, .int (nI (kt))])), (t0, .inl (cC, 120, .inl f_228))] H := by rw [ef_228]; exact ⟨hP, hD⟩
                have hP := hPD.1
                have hD := hPD.2
                refine lv_aload_n hx hb dX8_append_42 rfl (lv_at hl 2 rfl) ?_
                refine lv_dup hx hb dX8_append_43 rfl ?_
                refine va_get (D := (dC, dI)) (ci := 8) (v := .int (nI (kt))) (C := RX8) (T := TX8) (N := 2) hx hb hts (fun _ h => List.mem_cons_of_mem _ (List.mem_append_right _ h)) hown hK hP 0 rfl rfl 1 kc_l_1_2 (hts (.fieldLink RX8 15 "NotEnded$Tape" "length" "I") (List.mem_cons_of_mem _ (List.mem_append_left _ (List.mem_of_getElem? (i := 0) rfl)))) (fun _ h9 => h9) rfl dX8_append_44 ?_
                refine lv_iconst (v := 1) hx hb dX8_append_47 kc_i_1 ?_
                refine lv_iadd hx hb dX8_append_48 ?_
                refine lv_topi (fun y_230 ey_230 => ?_)
                obtain rfl : y_230 = nI (kt + 1) := ey_230.trans (nI_add (kt) (1))
                refine va_put (D := (dC, dI)) (ci := 8) (v := .int (nI (kt + 1))) (ty := tyX8 1) (C := RX8) (T := TX8) (N := 2) hx hb hts (fun _ h => List.mem_cons_of_mem _ (List.mem_append_right _ h)) tyX8 tyX8_ok nmX8 hown hK hP hD hS 0 rfl rfl 1 kc_l_1_2 (hts (.fieldLink RX8 15 "NotEnded$Tape" "length" "I") (List.mem_cons_of_mem _ (List.mem_append_left _ (List.mem_of_getElem? (i := 0) rfl)))) (fun _ h9 => h9) rfl (tyX8_ok 1 kc_l_1_2) rfl rfl (Nat.le_of_ble_eq_true rfl) dX8_append_49 (fun H locs hP hD hS => ?_)
                have hPD : kPD dC dI A [(jT, .inr (8, [.ref t0, .int (nI (kt + 1))])), (t0, .inl (cC, 120, .inl f_228))] H := ⟨hP, hD⟩
                have hP := hPD.1
                have hD := hPD.2
                refine lv_iinc (v := (-8)) hx hb dX8_append_52 hl (k := 1) rfl (by decide) kc_l_2_4 (kTo [(2, .int (-8)), (3, .int x_220), (0, .ref jT), (1, .int p0)]) (fun ls hl => ?_)
                refine lv_goto (tgt := 3) hx hb dX8_append_55 kc_t_55_m52 ?_
                refine lv_iload_n hx hb dX8_append_3 rfl (lv_at hl 0 rfl) ?_
                refine lv_if_lt (tgt := 58) hx hb dX8_append_4 kc_t_4_54 (fun c_231 => ?_) (fun c_231 => absurd (by decide) c_231)
                have hP9 := hP
                have hD9 := hD
                have hK9 := hK
                rw [hQ]
                exact W.vret hx hb hr (fun t ht hW => ⟨⟨(f_228, (kt + 1)), rfl, ⟨by omega, (kNarU ef_228 hgT)⟩,  by rw [ht]; exact hP9, va_K.moved hW.alike hK9, hD9⟩, hS.F ht⟩) hS.2.2 dX8_append_58
          · have hn_232 := knle (a := 120) (b := kt) kc_31_120 bd_193 c_216
            refine lv_aload_n hx hb dX8_append_31 rfl (lv_at hl 2 rfl) ?_
            refine va_get (D := (dC, dI)) (ci := 8) (v := .ref t0) (C := RX8) (T := TX8) (N := 2) hx hb hts (fun _ h => List.mem_cons_of_mem _ (List.mem_append_right _ h)) hown hK hP 0 rfl rfl 0 kc_l_0_2 (hts (.fieldLink RX8 9 "NotEnded$Tape" "signs" "[C") (List.mem_cons_of_mem _ (List.mem_append_left _ (List.mem_of_getElem? (i := 1) rfl)))) (fun _ h9 => h9) rfl dX8_append_32 ?_
            refine lv_aload_n hx hb dX8_append_35 rfl (lv_at hl 2 rfl) ?_
            refine va_get (D := (dC, dI)) (ci := 8) (v := .int (nI (kt))) (C := RX8) (T := TX8) (N := 2) hx hb hts (fun _ h => List.mem_cons_of_mem _ (List.mem_append_right _ h)) hown hK hP 0 rfl rfl 1 kc_l_1_2 (hts (.fieldLink RX8 15 "NotEnded$Tape" "length" "I") (List.mem_cons_of_mem _ (List.mem_append_left _ (List.mem_of_getElem? (i := 0) rfl)))) (fun _ h9 => h9) rfl dX8_append_36 ?_
            refine lv_iload_n hx hb dX8_append_39 rfl (lv_at hl 0 rfl) ?_
            obtain ⟨x_233, ex_233⟩ : ∃ z : Int32, z = (Int32.toUInt32 x_200 % 65536).toInt32 := ⟨_, rfl⟩
            refine lv_i2c (v := x_233) hx hb dX8_append_40 ex_233.symm ?_
            have bd_235 : kt < 120 := by omega
            refine va_cast hx hb hK hP hD hS 1 0 rfl rfl (vp_in_nI (n := kt) (N := 120) bd_235 kc_31_120) dX8_append_41 (fun H locs hP hD hS => ?_)
            obtain ⟨f_234, ef_234⟩ : ∃ gg9 : Nat → Int32, gg9 = upd gT (Int32.toNatClampNeg (nI (kt))) (vp_nar .char x_233) := ⟨_, rfl⟩
            have hPD : kPD dC dI A [(jT, .inr (8, [.ref t0, .int (nI (kt))])), (t0, .inl (cC, 120, .inl f_234))] H := by rw [ef_234]; exact ⟨hP, hD⟩
            have hP := hPD.1
            have hD := hPD.2
            refine lv_aload_n hx hb dX8_append_42 rfl (lv_at hl 2 rfl) ?_
            refine lv_dup hx hb dX8_append_43 rfl ?_
            refine va_get (D := (dC, dI)) (ci := 8) (v := .int (nI (kt))) (C := RX8) (T := TX8) (N := 2) hx hb hts (fun _ h => List.mem_cons_of_mem _ (List.mem_append_right _ h)) hown hK hP 0 rfl rfl 1 kc_l_1_2 (hts (.fieldLink RX8 15 "NotEnded$Tape" "length" "I") (List.mem_cons_of_mem _ (List.mem_append_left _ (List.mem_of_getElem? (i := 0) rfl)))) (fun _ h9 => h9) rfl dX8_append_44 ?_
            refine lv_iconst (v := 1) hx hb dX8_append_47 kc_i_1 ?_
            refine lv_iadd hx hb dX8_append_48 ?_
            refine lv_topi (fun y_236 ey_236 => ?_)
            obtain rfl : y_236 = nI (kt + 1) := ey_236.trans (nI_add (kt) (1))
            refine va_put (D := (dC, dI)) (ci := 8) (v := .int (nI (kt + 1))) (ty := tyX8 1) (C := RX8) (T := TX8) (N := 2) hx hb hts (fun _ h => List.mem_cons_of_mem _ (List.mem_append_right _ h)) tyX8 tyX8_ok nmX8 hown hK hP hD hS 0 rfl rfl 1 kc_l_1_2 (hts (.fieldLink RX8 15 "NotEnded$Tape" "length" "I") (List.mem_cons_of_mem _ (List.mem_append_left _ (List.mem_of_getElem? (i := 0) rfl)))) (fun _ h9 => h9) rfl (tyX8_ok 1 kc_l_1_2) rfl rfl (Nat.le_of_ble_eq_true rfl) dX8_append_49 (fun H locs hP hD hS => ?_)
            have hPD : kPD dC dI A [(jT, .inr (8, [.ref t0, .int (nI (kt + 1))])), (t0, .inl (cC, 120, .inl f_234))] H := ⟨hP, hD⟩
            have hP := hPD.1
            have hD := hPD.2
            refine lv_iinc (v := 0) hx hb dX8_append_52 hl (k := 1) rfl (by decide) kc_l_2_4 (kTo [(2, .int 0), (3, .int x_200), (0, .ref jT), (1, .int p0)]) (fun ls hl => ?_)
            refine lv_goto (tgt := 3) hx hb dX8_append_55 kc_t_55_m52 ?_
            refine lv_iload_n hx hb dX8_append_3 rfl (lv_at hl 0 rfl) ?_
            refine lv_if_lt (tgt := 58) hx hb dX8_append_4 kc_t_4_54 (fun c_237 => absurd c_237 (by decide)) (fun c_237 => ?_)
            refine lv_iload_n hx hb dX8_append_7 rfl (lv_at hl 3 rfl) ?_
            refine lv_iload_n hx hb dX8_append_8 rfl (lv_at hl 0 rfl) ?_
            obtain ⟨x_238, ex_238⟩ : ∃ z : Int32, z = (Int32.toUInt32 p0 >>> (Int32.toUInt32 0 &&& Int32.toUInt32 31)).toInt32 := ⟨_, rfl⟩
            refine lv_iushr (v := x_238) hx hb dX8_append_9 ex_238.symm ?_
            refine lv_sipush (v := 255) hx hb dX8_append_10 kc_s_255 ?_
            refine lv_iand hx hb dX8_append_13 ?_
            refine lv_topi (fun x_239 ex_239 => ?_)
            refine lv_istore_n hx hb dX8_append_14 rfl hl kc_l_3_4 (kTo [(3, .int x_239), (2, .int 0), (0, .ref jT), (1, .int p0)]) (fun ls hl => ?_)
            refine lv_iload_n hx hb dX8_append_15 rfl (lv_at hl 0 rfl) ?_
            refine lv_if_eq (tgt := 52) hx hb dX8_append_16 kc_t_16_36 (fun c_240 => ?_) (fun c_240 => ?_)
            · refine lv_iinc (v := (-8)) hx hb dX8_append_52 hl (k := 1) rfl (by decide) kc_l_2_4 (kTo [(2, .int (-8)), (3, .int x_239), (0, .ref jT), (1, .int p0)]) (fun ls hl => ?_)
              refine lv_goto (tgt := 3) hx hb dX8_append_55 kc_t_55_m52 ?_
              refine lv_iload_n hx hb dX8_append_3 rfl (lv_at hl 0 rfl) ?_
              refine lv_if_lt (tgt := 58) hx hb dX8_append_4 kc_t_4_54 (fun c_241 => ?_) (fun c_241 => absurd (by decide) c_241)
              have hP9 := hP
              have hD9 := hD
              have hK9 := hK
              rw [hQ]
              exact W.vret hx hb hr (fun t ht hW => ⟨⟨(f_234, (kt + 1)), rfl, ⟨by omega, (kNarU ef_234 hgT)⟩,  by rw [ht]; exact hP9, va_K.moved hW.alike hK9, hD9⟩, hS.F ht⟩) hS.2.2 dX8_append_58
            · refine lv_aload_n hx hb dX8_append_19 rfl (lv_at hl 2 rfl) ?_
              refine va_get (D := (dC, dI)) (ci := 8) (v := .int (nI (kt + 1))) (C := RX8) (T := TX8) (N := 2) hx hb hts (fun _ h => List.mem_cons_of_mem _ (List.mem_append_right _ h)) hown hK hP 0 rfl rfl 1 kc_l_1_2 (hts (.fieldLink RX8 15 "NotEnded$Tape" "length" "I") (List.mem_cons_of_mem _ (List.mem_append_left _ (List.mem_of_getElem? (i := 0) rfl)))) (fun _ h9 => h9) rfl dX8_append_20 ?_
              refine lv_aload_n hx hb dX8_append_23 rfl (lv_at hl 2 rfl) ?_
              refine va_get (D := (dC, dI)) (ci := 8) (v := .ref t0) (C := RX8) (T := TX8) (N := 2) hx hb hts (fun _ h => List.mem_cons_of_mem _ (List.mem_append_right _ h)) hown hK hP 0 rfl rfl 0 kc_l_0_2 (hts (.fieldLink RX8 9 "NotEnded$Tape" "signs" "[C") (List.mem_cons_of_mem _ (List.mem_append_left _ (List.mem_of_getElem? (i := 1) rfl)))) (fun _ h9 => h9) rfl dX8_append_24 ?_
              refine va_alen hx hb hK hP 1 0 rfl rfl (v := 120) rfl dX8_append_27 ?_
              refine lv_icmp_ge (tgt := 52) hx hb dX8_append_28 kc_t_28_24 (fun c_242 => ?_) (fun c_242 => ?_)
              · have bd_244 : kt + 1 < 2147483648 := by omega
                have hn_243 := kle (a := 120) (b := kt + 1) kc_31_120 bd_244 c_242
                refine lv_iinc (v := (-8)) hx hb dX8_append_52 hl (k := 1) rfl (by decide) kc_l_2_4 (kTo [(2, .int (-8)), (3, .int x_239), (0, .ref jT), (1, .int p0)]) (fun ls hl => ?_)
                refine lv_goto (tgt := 3) hx hb dX8_append_55 kc_t_55_m52 ?_
                refine lv_iload_n hx hb dX8_append_3 rfl (lv_at hl 0 rfl) ?_
                refine lv_if_lt (tgt := 58) hx hb dX8_append_4 kc_t_4_54 (fun c_245 => ?_) (fun c_245 => absurd (by decide) c_245)
                have hP9 := hP
                have hD9 := hD
                have hK9 := hK
                rw [hQ]
                exact W.vret hx hb hr (fun t ht hW => ⟨⟨(f_234, (kt + 1)), rfl, ⟨by omega, (kNarU ef_234 hgT)⟩,  by rw [ht]; exact hP9, va_K.moved hW.alike hK9, hD9⟩, hS.F ht⟩) hS.2.2 dX8_append_58
              · have bd_247 : kt + 1 < 2147483648 := by omega
                have hn_246 := knle (a := 120) (b := kt + 1) kc_31_120 bd_247 c_242
                refine lv_aload_n hx hb dX8_append_31 rfl (lv_at hl 2 rfl) ?_
                refine va_get (D := (dC, dI)) (ci := 8) (v := .ref t0) (C := RX8) (T := TX8) (N := 2) hx hb hts (fun _ h => List.mem_cons_of_mem _ (List.mem_append_right _ h)) hown hK hP 0 rfl rfl 0 kc_l_0_2 (hts (.fieldLink RX8 9 "NotEnded$Tape" "signs" "[C") (List.mem_cons_of_mem _ (List.mem_append_left _ (List.mem_of_getElem? (i := 1) rfl)))) (fun _ h9 => h9) rfl dX8_append_32 ?_
                refine lv_aload_n hx hb dX8_append_35 rfl (lv_at hl 2 rfl) ?_
                refine va_get (D := (dC, dI)) (ci := 8) (v := .int (nI (kt + 1))) (C := RX8) (T := TX8) (N := 2) hx hb hts (fun _ h => List.mem_cons_of_mem _ (List.mem_append_right _ h)) hown hK hP 0 rfl rfl 1 kc_l_1_2 (hts (.fieldLink RX8 15 "NotEnded$Tape" "length" "I") (List.mem_cons_of_mem _ (List.mem_append_left _ (List.mem_of_getElem? (i := 0) rfl)))) (fun _ h9 => h9) rfl dX8_append_36 ?_
                refine lv_iload_n hx hb dX8_append_39 rfl (lv_at hl 0 rfl) ?_
                obtain ⟨x_248, ex_248⟩ : ∃ z : Int32, z = (Int32.toUInt32 x_239 % 65536).toInt32 := ⟨_, rfl⟩
                refine lv_i2c (v := x_248) hx hb dX8_append_40 ex_248.symm ?_
                have bd_250 : kt + 1 < 120 := by omega
                refine va_cast hx hb hK hP hD hS 1 0 rfl rfl (vp_in_nI (n := kt + 1) (N := 120) bd_250 kc_31_120) dX8_append_41 (fun H locs hP hD hS => ?_)
                obtain ⟨f_249, ef_249⟩ : ∃ gg9 : Nat → Int32, gg9 = upd f_234 (Int32.toNatClampNeg (nI (kt + 1))) (vp_nar .char x_248) := ⟨_, rfl⟩
                have hPD : kPD dC dI A [(jT, .inr (8, [.ref t0, .int (nI (kt + 1))])), (t0, .inl (cC, 120, .inl f_249))] H := by rw [ef_249]; exact ⟨hP, hD⟩
                have hP := hPD.1
                have hD := hPD.2
                refine lv_aload_n hx hb dX8_append_42 rfl (lv_at hl 2 rfl) ?_
                refine lv_dup hx hb dX8_append_43 rfl ?_
                refine va_get (D := (dC, dI)) (ci := 8) (v := .int (nI (kt + 1))) (C := RX8) (T := TX8) (N := 2) hx hb hts (fun _ h => List.mem_cons_of_mem _ (List.mem_append_right _ h)) hown hK hP 0 rfl rfl 1 kc_l_1_2 (hts (.fieldLink RX8 15 "NotEnded$Tape" "length" "I") (List.mem_cons_of_mem _ (List.mem_append_left _ (List.mem_of_getElem? (i := 0) rfl)))) (fun _ h9 => h9) rfl dX8_append_44 ?_
                refine lv_iconst (v := 1) hx hb dX8_append_47 kc_i_1 ?_
                refine lv_iadd hx hb dX8_append_48 ?_
                refine lv_topi (fun y_251 ey_251 => ?_)
                obtain rfl : y_251 = nI (kt + 1 + 1) := ey_251.trans (nI_add (kt + 1) (1))
                refine va_put (D := (dC, dI)) (ci := 8) (v := .int (nI (kt + 1 + 1))) (ty := tyX8 1) (C := RX8) (T := TX8) (N := 2) hx hb hts (fun _ h => List.mem_cons_of_mem _ (List.mem_append_right _ h)) tyX8 tyX8_ok nmX8 hown hK hP hD hS 0 rfl rfl 1 kc_l_1_2 (hts (.fieldLink RX8 15 "NotEnded$Tape" "length" "I") (List.mem_cons_of_mem _ (List.mem_append_left _ (List.mem_of_getElem? (i := 0) rfl)))) (fun _ h9 => h9) rfl (tyX8_ok 1 kc_l_1_2) rfl rfl (Nat.le_of_ble_eq_true rfl) dX8_append_49 (fun H locs hP hD hS => ?_)
                have hPD : kPD dC dI A [(jT, .inr (8, [.ref t0, .int (nI (kt + 1 + 1))])), (t0, .inl (cC, 120, .inl f_249))] H := ⟨hP, hD⟩
                have hP := hPD.1
                have hD := hPD.2
                refine lv_iinc (v := (-8)) hx hb dX8_append_52 hl (k := 1) rfl (by decide) kc_l_2_4 (kTo [(2, .int (-8)), (3, .int x_239), (0, .ref jT), (1, .int p0)]) (fun ls hl => ?_)
                refine lv_goto (tgt := 3) hx hb dX8_append_55 kc_t_55_m52 ?_
                refine lv_iload_n hx hb dX8_append_3 rfl (lv_at hl 0 rfl) ?_
                refine lv_if_lt (tgt := 58) hx hb dX8_append_4 kc_t_4_54 (fun c_252 => ?_) (fun c_252 => absurd (by decide) c_252)
                have hP9 := hP
                have hD9 := hD
                have hK9 := hK
                rw [hQ]
                exact W.vret hx hb hr (fun t ht hW => ⟨⟨(f_249, (kt + 1 + 1)), rfl, ⟨by omega, (kNarU ef_249 (kNarU ef_234 hgT))⟩,  by rw [ht]; exact hP9, va_K.moved hW.alike hK9, hD9⟩, hS.F ht⟩) hS.2.2 dX8_append_58
      · refine lv_aload_n hx hb dX8_append_19 rfl (lv_at hl 2 rfl) ?_
        refine va_get (D := (dC, dI)) (ci := 8) (v := .int (nI (kt))) (C := RX8) (T := TX8) (N := 2) hx hb hts (fun _ h => List.mem_cons_of_mem _ (List.mem_append_right _ h)) hown hK hP 0 rfl rfl 1 kc_l_1_2 (hts (.fieldLink RX8 15 "NotEnded$Tape" "length" "I") (List.mem_cons_of_mem _ (List.mem_append_left _ (List.mem_of_getElem? (i := 0) rfl)))) (fun _ h9 => h9) rfl dX8_append_20 ?_
        refine lv_aload_n hx hb dX8_append_23 rfl (lv_at hl 2 rfl) ?_
        refine va_get (D := (dC, dI)) (ci := 8) (v := .ref t0) (C := RX8) (T := TX8) (N := 2) hx hb hts (fun _ h => List.mem_cons_of_mem _ (List.mem_append_right _ h)) hown hK hP 0 rfl rfl 0 kc_l_0_2 (hts (.fieldLink RX8 9 "NotEnded$Tape" "signs" "[C") (List.mem_cons_of_mem _ (List.mem_append_left _ (List.mem_of_getElem? (i := 1) rfl)))) (fun _ h9 => h9) rfl dX8_append_24 ?_
        refine va_alen hx hb hK hP 1 0 rfl rfl (v := 120) rfl dX8_append_27 ?_
        refine lv_icmp_ge (tgt := 52) hx hb dX8_append_28 kc_t_28_24 (fun c_253 => ?_) (fun c_253 => ?_)
        · have hn_254 := kle (a := 120) (b := kt) kc_31_120 bd_193 c_253
          refine lv_iinc (v := 8) hx hb dX8_append_52 hl (k := 1) rfl (by decide) kc_l_2_4 (kTo [(2, .int 8), (3, .int x_196), (0, .ref jT), (1, .int p0)]) (fun ls hl => ?_)
          refine lv_goto (tgt := 3) hx hb dX8_append_55 kc_t_55_m52 ?_
          refine lv_iload_n hx hb dX8_append_3 rfl (lv_at hl 0 rfl) ?_
          refine lv_if_lt (tgt := 58) hx hb dX8_append_4 kc_t_4_54 (fun c_255 => absurd c_255 (by decide)) (fun c_255 => ?_)
          refine lv_iload_n hx hb dX8_append_7 rfl (lv_at hl 3 rfl) ?_
          refine lv_iload_n hx hb dX8_append_8 rfl (lv_at hl 0 rfl) ?_
          obtain ⟨x_256, ex_256⟩ : ∃ z : Int32, z = (Int32.toUInt32 p0 >>> (Int32.toUInt32 8 &&& Int32.toUInt32 31)).toInt32 := ⟨_, rfl⟩
          refine lv_iushr (v := x_256) hx hb dX8_append_9 ex_256.symm ?_
          refine lv_sipush (v := 255) hx hb dX8_append_10 kc_s_255 ?_
          refine lv_iand hx hb dX8_append_13 ?_
          refine lv_topi (fun x_257 ex_257 => ?_)
          refine lv_istore_n hx hb dX8_append_14 rfl hl kc_l_3_4 (kTo [(3, .int x_257), (2, .int 8), (0, .ref jT), (1, .int p0)]) (fun ls hl => ?_)
          refine lv_iload_n hx hb dX8_append_15 rfl (lv_at hl 0 rfl) ?_
          refine lv_if_eq (tgt := 52) hx hb dX8_append_16 kc_t_16_36 (fun c_258 => ?_) (fun c_258 => ?_)
          · refine lv_iinc (v := 0) hx hb dX8_append_52 hl (k := 1) rfl (by decide) kc_l_2_4 (kTo [(2, .int 0), (3, .int x_257), (0, .ref jT), (1, .int p0)]) (fun ls hl => ?_)
            refine lv_goto (tgt := 3) hx hb dX8_append_55 kc_t_55_m52 ?_
            refine lv_iload_n hx hb dX8_append_3 rfl (lv_at hl 0 rfl) ?_
            refine lv_if_lt (tgt := 58) hx hb dX8_append_4 kc_t_4_54 (fun c_259 => absurd c_259 (by decide)) (fun c_259 => ?_)
            refine lv_iload_n hx hb dX8_append_7 rfl (lv_at hl 3 rfl) ?_
            refine lv_iload_n hx hb dX8_append_8 rfl (lv_at hl 0 rfl) ?_
            obtain ⟨x_260, ex_260⟩ : ∃ z : Int32, z = (Int32.toUInt32 p0 >>> (Int32.toUInt32 0 &&& Int32.toUInt32 31)).toInt32 := ⟨_, rfl⟩
            refine lv_iushr (v := x_260) hx hb dX8_append_9 ex_260.symm ?_
            refine lv_sipush (v := 255) hx hb dX8_append_10 kc_s_255 ?_
            refine lv_iand hx hb dX8_append_13 ?_
            refine lv_topi (fun x_261 ex_261 => ?_)
            refine lv_istore_n hx hb dX8_append_14 rfl hl kc_l_3_4 (kTo [(3, .int x_261), (2, .int 0), (0, .ref jT), (1, .int p0)]) (fun ls hl => ?_)
            refine lv_iload_n hx hb dX8_append_15 rfl (lv_at hl 0 rfl) ?_
            refine lv_if_eq (tgt := 52) hx hb dX8_append_16 kc_t_16_36 (fun c_262 => ?_) (fun c_262 => ?_)
            · refine lv_iinc (v := (-8)) hx hb dX8_append_52 hl (k := 1) rfl (by decide) kc_l_2_4 (kTo [(2, .int (-8)), (3, .int x_261), (0, .ref jT), (1, .int p0)]) (fun ls hl => ?_)
              refine lv_goto (tgt := 3) hx hb dX8_append_55 kc_t_55_m52 ?_
              refine lv_iload_n hx hb dX8_append_3 rfl (lv_at hl 0 rfl) ?_
              refine lv_if_lt (tgt := 58) hx hb dX8_append_4 kc_t_4_54 (fun c_263 => ?_) (fun c_263 => absurd (by decide) c_263)
              have hP9 := hP
              have hD9 := hD
              have hK9 := hK
              rw [hQ]
              exact W.vret hx hb hr (fun t ht hW => ⟨⟨(gT, kt), rfl, ⟨by omega, hgT⟩,  by rw [ht]; exact hP9, va_K.moved hW.alike hK9, hD9⟩, hS.F ht⟩) hS.2.2 dX8_append_58
            · refine lv_aload_n hx hb dX8_append_19 rfl (lv_at hl 2 rfl) ?_
              refine va_get (D := (dC, dI)) (ci := 8) (v := .int (nI (kt))) (C := RX8) (T := TX8) (N := 2) hx hb hts (fun _ h => List.mem_cons_of_mem _ (List.mem_append_right _ h)) hown hK hP 0 rfl rfl 1 kc_l_1_2 (hts (.fieldLink RX8 15 "NotEnded$Tape" "length" "I") (List.mem_cons_of_mem _ (List.mem_append_left _ (List.mem_of_getElem? (i := 0) rfl)))) (fun _ h9 => h9) rfl dX8_append_20 ?_
              refine lv_aload_n hx hb dX8_append_23 rfl (lv_at hl 2 rfl) ?_
              refine va_get (D := (dC, dI)) (ci := 8) (v := .ref t0) (C := RX8) (T := TX8) (N := 2) hx hb hts (fun _ h => List.mem_cons_of_mem _ (List.mem_append_right _ h)) hown hK hP 0 rfl rfl 0 kc_l_0_2 (hts (.fieldLink RX8 9 "NotEnded$Tape" "signs" "[C") (List.mem_cons_of_mem _ (List.mem_append_left _ (List.mem_of_getElem? (i := 1) rfl)))) (fun _ h9 => h9) rfl dX8_append_24 ?_
              refine va_alen hx hb hK hP 1 0 rfl rfl (v := 120) rfl dX8_append_27 ?_
              refine lv_icmp_ge (tgt := 52) hx hb dX8_append_28 kc_t_28_24 (fun c_264 => ?_) (fun c_264 => ?_)
              · have hn_265 := kle (a := 120) (b := kt) kc_31_120 bd_193 c_264
                refine lv_iinc (v := (-8)) hx hb dX8_append_52 hl (k := 1) rfl (by decide) kc_l_2_4 (kTo [(2, .int (-8)), (3, .int x_261), (0, .ref jT), (1, .int p0)]) (fun ls hl => ?_)
                refine lv_goto (tgt := 3) hx hb dX8_append_55 kc_t_55_m52 ?_
                refine lv_iload_n hx hb dX8_append_3 rfl (lv_at hl 0 rfl) ?_
                refine lv_if_lt (tgt := 58) hx hb dX8_append_4 kc_t_4_54 (fun c_266 => ?_) (fun c_266 => absurd (by decide) c_266)
                have hP9 := hP
                have hD9 := hD
                have hK9 := hK
                rw [hQ]
                exact W.vret hx hb hr (fun t ht hW => ⟨⟨(gT, kt), rfl, ⟨by omega, hgT⟩,  by rw [ht]; exact hP9, va_K.moved hW.alike hK9, hD9⟩, hS.F ht⟩) hS.2.2 dX8_append_58
              · have hn_267 := knle (a := 120) (b := kt) kc_31_120 bd_193 c_264
                refine lv_aload_n hx hb dX8_append_31 rfl (lv_at hl 2 rfl) ?_
                refine va_get (D := (dC, dI)) (ci := 8) (v := .ref t0) (C := RX8) (T := TX8) (N := 2) hx hb hts (fun _ h => List.mem_cons_of_mem _ (List.mem_append_right _ h)) hown hK hP 0 rfl rfl 0 kc_l_0_2 (hts (.fieldLink RX8 9 "NotEnded$Tape" "signs" "[C") (List.mem_cons_of_mem _ (List.mem_append_left _ (List.mem_of_getElem? (i := 1) rfl)))) (fun _ h9 => h9) rfl dX8_append_32 ?_
                refine lv_aload_n hx hb dX8_append_35 rfl (lv_at hl 2 rfl) ?_
                refine va_get (D := (dC, dI)) (ci := 8) (v := .int (nI (kt))) (C := RX8) (T := TX8) (N := 2) hx hb hts (fun _ h => List.mem_cons_of_mem _ (List.mem_append_right _ h)) hown hK hP 0 rfl rfl 1 kc_l_1_2 (hts (.fieldLink RX8 15 "NotEnded$Tape" "length" "I") (List.mem_cons_of_mem _ (List.mem_append_left _ (List.mem_of_getElem? (i := 0) rfl)))) (fun _ h9 => h9) rfl dX8_append_36 ?_
                refine lv_iload_n hx hb dX8_append_39 rfl (lv_at hl 0 rfl) ?_
                obtain ⟨x_268, ex_268⟩ : ∃ z : Int32, z = (Int32.toUInt32 x_261 % 65536).toInt32 := ⟨_, rfl⟩
                refine lv_i2c (v := x_268) hx hb dX8_append_40 ex_268.symm ?_
                have bd_270 : kt < 120 := by omega
                refine va_cast hx hb hK hP hD hS 1 0 rfl rfl (vp_in_nI (n := kt) (N := 120) bd_270 kc_31_120) dX8_append_41 (fun H locs hP hD hS => ?_)
                obtain ⟨f_269, ef_269⟩ : ∃ gg9 : Nat → Int32, gg9 = upd gT (Int32.toNatClampNeg (nI (kt))) (vp_nar .char x_268) := ⟨_, rfl⟩
                have hPD : kPD dC dI A [(jT, .inr (8, [.ref t0, .int (nI (kt))])), (t0, .inl (cC, 120, .inl f_269))] H := by rw [ef_269]; exact ⟨hP, hD⟩
                have hP := hPD.1
                have hD := hPD.2
                refine lv_aload_n hx hb dX8_append_42 rfl (lv_at hl 2 rfl) ?_
                refine lv_dup hx hb dX8_append_43 rfl ?_
                refine va_get (D := (dC, dI)) (ci := 8) (v := .int (nI (kt))) (C := RX8) (T := TX8) (N := 2) hx hb hts (fun _ h => List.mem_cons_of_mem _ (List.mem_append_right _ h)) hown hK hP 0 rfl rfl 1 kc_l_1_2 (hts (.fieldLink RX8 15 "NotEnded$Tape" "length" "I") (List.mem_cons_of_mem _ (List.mem_append_left _ (List.mem_of_getElem? (i := 0) rfl)))) (fun _ h9 => h9) rfl dX8_append_44 ?_
                refine lv_iconst (v := 1) hx hb dX8_append_47 kc_i_1 ?_
                refine lv_iadd hx hb dX8_append_48 ?_
                refine lv_topi (fun y_271 ey_271 => ?_)
                obtain rfl : y_271 = nI (kt + 1) := ey_271.trans (nI_add (kt) (1))
                refine va_put (D := (dC, dI)) (ci := 8) (v := .int (nI (kt + 1))) (ty := tyX8 1) (C := RX8) (T := TX8) (N := 2) hx hb hts (fun _ h => List.mem_cons_of_mem _ (List.mem_append_right _ h)) tyX8 tyX8_ok nmX8 hown hK hP hD hS 0 rfl rfl 1 kc_l_1_2 (hts (.fieldLink RX8 15 "NotEnded$Tape" "length" "I") (List.mem_cons_of_mem _ (List.mem_append_left _ (List.mem_of_getElem? (i := 0) rfl)))) (fun _ h9 => h9) rfl (tyX8_ok 1 kc_l_1_2) rfl rfl (Nat.le_of_ble_eq_true rfl) dX8_append_49 (fun H locs hP hD hS => ?_)
                have hPD : kPD dC dI A [(jT, .inr (8, [.ref t0, .int (nI (kt + 1))])), (t0, .inl (cC, 120, .inl f_269))] H := ⟨hP, hD⟩
                have hP := hPD.1
                have hD := hPD.2
                refine lv_iinc (v := (-8)) hx hb dX8_append_52 hl (k := 1) rfl (by decide) kc_l_2_4 (kTo [(2, .int (-8)), (3, .int x_261), (0, .ref jT), (1, .int p0)]) (fun ls hl => ?_)
                refine lv_goto (tgt := 3) hx hb dX8_append_55 kc_t_55_m52 ?_
                refine lv_iload_n hx hb dX8_append_3 rfl (lv_at hl 0 rfl) ?_
                refine lv_if_lt (tgt := 58) hx hb dX8_append_4 kc_t_4_54 (fun c_272 => ?_) (fun c_272 => absurd (by decide) c_272)
                have hP9 := hP
                have hD9 := hD
                have hK9 := hK
                rw [hQ]
                exact W.vret hx hb hr (fun t ht hW => ⟨⟨(f_269, (kt + 1)), rfl, ⟨by omega, (kNarU ef_269 hgT)⟩,  by rw [ht]; exact hP9, va_K.moved hW.alike hK9, hD9⟩, hS.F ht⟩) hS.2.2 dX8_append_58
          · refine lv_aload_n hx hb dX8_append_19 rfl (lv_at hl 2 rfl) ?_
            refine va_get (D := (dC, dI)) (ci := 8) (v := .int (nI (kt))) (C := RX8) (T := TX8) (N := 2) hx hb hts (fun _ h => List.mem_cons_of_mem _ (List.mem_append_right _ h)) hown hK hP 0 rfl rfl 1 kc_l_1_2 (hts (.fieldLink RX8 15 "NotEnded$Tape" "length" "I") (List.mem_cons_of_mem _ (List.mem_append_left _ (List.mem_of_getElem? (i := 0) rfl)))) (fun _ h9 => h9) rfl dX8_append_20 ?_
            refine lv_aload_n hx hb dX8_append_23 rfl (lv_at hl 2 rfl) ?_
            refine va_get (D := (dC, dI)) (ci := 8) (v := .ref t0) (C := RX8) (T := TX8) (N := 2) hx hb hts (fun _ h => List.mem_cons_of_mem _ (List.mem_append_right _ h)) hown hK hP 0 rfl rfl 0 kc_l_0_2 (hts (.fieldLink RX8 9 "NotEnded$Tape" "signs" "[C") (List.mem_cons_of_mem _ (List.mem_append_left _ (List.mem_of_getElem? (i := 1) rfl)))) (fun _ h9 => h9) rfl dX8_append_24 ?_
            refine va_alen hx hb hK hP 1 0 rfl rfl (v := 120) rfl dX8_append_27 ?_
            refine lv_icmp_ge (tgt := 52) hx hb dX8_append_28 kc_t_28_24 (fun c_273 => ?_) (fun c_273 => ?_)
            · have hn_274 := kle (a := 120) (b := kt) kc_31_120 bd_193 c_273
              refine lv_iinc (v := 0) hx hb dX8_append_52 hl (k := 1) rfl (by decide) kc_l_2_4 (kTo [(2, .int 0), (3, .int x_257), (0, .ref jT), (1, .int p0)]) (fun ls hl => ?_)
              refine lv_goto (tgt := 3) hx hb dX8_append_55 kc_t_55_m52 ?_
              refine lv_iload_n hx hb dX8_append_3 rfl (lv_at hl 0 rfl) ?_
              refine lv_if_lt (tgt := 58) hx hb dX8_append_4 kc_t_4_54 (fun c_275 => absurd c_275 (by decide)) (fun c_275 => ?_)
              refine lv_iload_n hx hb dX8_append_7 rfl (lv_at hl 3 rfl) ?_
              refine lv_iload_n hx hb dX8_append_8 rfl (lv_at hl 0 rfl) ?_
              obtain ⟨x_276, ex_276⟩ : ∃ z : Int32, z = (Int32.toUInt32 p0 >>> (Int32.toUInt32 0 &&& Int32.toUInt32 31)).toInt32 := ⟨_, rfl⟩
              refine lv_iushr (v := x_276) hx hb dX8_append_9 ex_276.symm ?_
              refine lv_sipush (v := 255) hx hb dX8_append_10 kc_s_255 ?_
              refine lv_iand hx hb dX8_append_13 ?_
              refine lv_topi (fun x_277 ex_277 => ?_)
              refine lv_istore_n hx hb dX8_append_14 rfl hl kc_l_3_4 (kTo [(3, .int x_277), (2, .int 0), (0, .ref jT), (1, .int p0)]) (fun ls hl => ?_)
              refine lv_iload_n hx hb dX8_append_15 rfl (lv_at hl 0 rfl) ?_
              refine lv_if_eq (tgt := 52) hx hb dX8_append_16 kc_t_16_36 (fun c_278 => ?_) (fun c_278 => ?_)
              · refine lv_iinc (v := (-8)) hx hb dX8_append_52 hl (k := 1) rfl (by decide) kc_l_2_4 (kTo [(2, .int (-8)), (3, .int x_277), (0, .ref jT), (1, .int p0)]) (fun ls hl => ?_)
                refine lv_goto (tgt := 3) hx hb dX8_append_55 kc_t_55_m52 ?_
                refine lv_iload_n hx hb dX8_append_3 rfl (lv_at hl 0 rfl) ?_
                refine lv_if_lt (tgt := 58) hx hb dX8_append_4 kc_t_4_54 (fun c_279 => ?_) (fun c_279 => absurd (by decide) c_279)
                have hP9 := hP
                have hD9 := hD
                have hK9 := hK
                rw [hQ]
                exact W.vret hx hb hr (fun t ht hW => ⟨⟨(gT, kt), rfl, ⟨by omega, hgT⟩,  by rw [ht]; exact hP9, va_K.moved hW.alike hK9, hD9⟩, hS.F ht⟩) hS.2.2 dX8_append_58
              · refine lv_aload_n hx hb dX8_append_19 rfl (lv_at hl 2 rfl) ?_
                refine va_get (D := (dC, dI)) (ci := 8) (v := .int (nI (kt))) (C := RX8) (T := TX8) (N := 2) hx hb hts (fun _ h => List.mem_cons_of_mem _ (List.mem_append_right _ h)) hown hK hP 0 rfl rfl 1 kc_l_1_2 (hts (.fieldLink RX8 15 "NotEnded$Tape" "length" "I") (List.mem_cons_of_mem _ (List.mem_append_left _ (List.mem_of_getElem? (i := 0) rfl)))) (fun _ h9 => h9) rfl dX8_append_20 ?_
                refine lv_aload_n hx hb dX8_append_23 rfl (lv_at hl 2 rfl) ?_
                refine va_get (D := (dC, dI)) (ci := 8) (v := .ref t0) (C := RX8) (T := TX8) (N := 2) hx hb hts (fun _ h => List.mem_cons_of_mem _ (List.mem_append_right _ h)) hown hK hP 0 rfl rfl 0 kc_l_0_2 (hts (.fieldLink RX8 9 "NotEnded$Tape" "signs" "[C") (List.mem_cons_of_mem _ (List.mem_append_left _ (List.mem_of_getElem? (i := 1) rfl)))) (fun _ h9 => h9) rfl dX8_append_24 ?_
                refine va_alen hx hb hK hP 1 0 rfl rfl (v := 120) rfl dX8_append_27 ?_
                refine lv_icmp_ge (tgt := 52) hx hb dX8_append_28 kc_t_28_24 (fun c_280 => ?_) (fun c_280 => ?_)
                · have hn_281 := kle (a := 120) (b := kt) kc_31_120 bd_193 c_280
                  refine lv_iinc (v := (-8)) hx hb dX8_append_52 hl (k := 1) rfl (by decide) kc_l_2_4 (kTo [(2, .int (-8)), (3, .int x_277), (0, .ref jT), (1, .int p0)]) (fun ls hl => ?_)
                  refine lv_goto (tgt := 3) hx hb dX8_append_55 kc_t_55_m52 ?_
                  refine lv_iload_n hx hb dX8_append_3 rfl (lv_at hl 0 rfl) ?_
                  refine lv_if_lt (tgt := 58) hx hb dX8_append_4 kc_t_4_54 (fun c_282 => ?_) (fun c_282 => absurd (by decide) c_282)
                  have hP9 := hP
                  have hD9 := hD
                  have hK9 := hK
                  rw [hQ]
                  exact W.vret hx hb hr (fun t ht hW => ⟨⟨(gT, kt), rfl, ⟨by omega, hgT⟩,  by rw [ht]; exact hP9, va_K.moved hW.alike hK9, hD9⟩, hS.F ht⟩) hS.2.2 dX8_append_58
                · have hn_283 := knle (a := 120) (b := kt) kc_31_120 bd_193 c_280
                  refine lv_aload_n hx hb dX8_append_31 rfl (lv_at hl 2 rfl) ?_
                  refine va_get (D := (dC, dI)) (ci := 8) (v := .ref t0) (C := RX8) (T := TX8) (N := 2) hx hb hts (fun _ h => List.mem_cons_of_mem _ (List.mem_append_right _ h)) hown hK hP 0 rfl rfl 0 kc_l_0_2 (hts (.fieldLink RX8 9 "NotEnded$Tape" "signs" "[C") (List.mem_cons_of_mem _ (List.mem_append_left _ (List.mem_of_getElem? (i := 1) rfl)))) (fun _ h9 => h9) rfl dX8_append_32 ?_
                  refine lv_aload_n hx hb dX8_append_35 rfl (lv_at hl 2 rfl) ?_
                  refine va_get (D := (dC, dI)) (ci := 8) (v := .int (nI (kt))) (C := RX8) (T := TX8) (N := 2) hx hb hts (fun _ h => List.mem_cons_of_mem _ (List.mem_append_right _ h)) hown hK hP 0 rfl rfl 1 kc_l_1_2 (hts (.fieldLink RX8 15 "NotEnded$Tape" "length" "I") (List.mem_cons_of_mem _ (List.mem_append_left _ (List.mem_of_getElem? (i := 0) rfl)))) (fun _ h9 => h9) rfl dX8_append_36 ?_
                  refine lv_iload_n hx hb dX8_append_39 rfl (lv_at hl 0 rfl) ?_
                  obtain ⟨x_284, ex_284⟩ : ∃ z : Int32, z = (Int32.toUInt32 x_277 % 65536).toInt32 := ⟨_, rfl⟩
                  refine lv_i2c (v := x_284) hx hb dX8_append_40 ex_284.symm ?_
                  have bd_286 : kt < 120 := by omega
                  refine va_cast hx hb hK hP hD hS 1 0 rfl rfl (vp_in_nI (n := kt) (N := 120) bd_286 kc_31_120) dX8_append_41 (fun H locs hP hD hS => ?_)
                  obtain ⟨f_285, ef_285⟩ : ∃ gg9 : Nat → Int32, gg9 = upd gT (Int32.toNatClampNeg (nI (kt))) (vp_nar .char x_284) := ⟨_, rfl⟩
                  have hPD : kPD dC dI A [(jT, .inr (8, [.ref t0, .int (nI (kt))])), (t0, .inl (cC, 120, .inl f_285))] H := by rw [ef_285]; exact ⟨hP, hD⟩
                  have hP := hPD.1
                  have hD := hPD.2
                  refine lv_aload_n hx hb dX8_append_42 rfl (lv_at hl 2 rfl) ?_
                  refine lv_dup hx hb dX8_append_43 rfl ?_
                  refine va_get (D := (dC, dI)) (ci := 8) (v := .int (nI (kt))) (C := RX8) (T := TX8) (N := 2) hx hb hts (fun _ h => List.mem_cons_of_mem _ (List.mem_append_right _ h)) hown hK hP 0 rfl rfl 1 kc_l_1_2 (hts (.fieldLink RX8 15 "NotEnded$Tape" "length" "I") (List.mem_cons_of_mem _ (List.mem_append_left _ (List.mem_of_getElem? (i := 0) rfl)))) (fun _ h9 => h9) rfl dX8_append_44 ?_
                  refine lv_iconst (v := 1) hx hb dX8_append_47 kc_i_1 ?_
                  refine lv_iadd hx hb dX8_append_48 ?_
                  refine lv_topi (fun y_287 ey_287 => ?_)
                  obtain rfl : y_287 = nI (kt + 1) := ey_287.trans (nI_add (kt) (1))
                  refine va_put (D := (dC, dI)) (ci := 8) (v := .int (nI (kt + 1))) (ty := tyX8 1) (C := RX8) (T := TX8) (N := 2) hx hb hts (fun _ h => List.mem_cons_of_mem _ (List.mem_append_right _ h)) tyX8 tyX8_ok nmX8 hown hK hP hD hS 0 rfl rfl 1 kc_l_1_2 (hts (.fieldLink RX8 15 "NotEnded$Tape" "length" "I") (List.mem_cons_of_mem _ (List.mem_append_left _ (List.mem_of_getElem? (i := 0) rfl)))) (fun _ h9 => h9) rfl (tyX8_ok 1 kc_l_1_2) rfl rfl (Nat.le_of_ble_eq_true rfl) dX8_append_49 (fun H locs hP hD hS => ?_)
                  have hPD : kPD dC dI A [(jT, .inr (8, [.ref t0, .int (nI (kt + 1))])), (t0, .inl (cC, 120, .inl f_285))] H := ⟨hP, hD⟩
                  have hP := hPD.1
                  have hD := hPD.2
                  refine lv_iinc (v := (-8)) hx hb dX8_append_52 hl (k := 1) rfl (by decide) kc_l_2_4 (kTo [(2, .int (-8)), (3, .int x_277), (0, .ref jT), (1, .int p0)]) (fun ls hl => ?_)
                  refine lv_goto (tgt := 3) hx hb dX8_append_55 kc_t_55_m52 ?_
                  refine lv_iload_n hx hb dX8_append_3 rfl (lv_at hl 0 rfl) ?_
                  refine lv_if_lt (tgt := 58) hx hb dX8_append_4 kc_t_4_54 (fun c_288 => ?_) (fun c_288 => absurd (by decide) c_288)
                  have hP9 := hP
                  have hD9 := hD
                  have hK9 := hK
                  rw [hQ]
                  exact W.vret hx hb hr (fun t ht hW => ⟨⟨(f_285, (kt + 1)), rfl, ⟨by omega, (kNarU ef_285 hgT)⟩,  by rw [ht]; exact hP9, va_K.moved hW.alike hK9, hD9⟩, hS.F ht⟩) hS.2.2 dX8_append_58
            · have hn_289 := knle (a := 120) (b := kt) kc_31_120 bd_193 c_273
              refine lv_aload_n hx hb dX8_append_31 rfl (lv_at hl 2 rfl) ?_
              refine va_get (D := (dC, dI)) (ci := 8) (v := .ref t0) (C := RX8) (T := TX8) (N := 2) hx hb hts (fun _ h => List.mem_cons_of_mem _ (List.mem_append_right _ h)) hown hK hP 0 rfl rfl 0 kc_l_0_2 (hts (.fieldLink RX8 9 "NotEnded$Tape" "signs" "[C") (List.mem_cons_of_mem _ (List.mem_append_left _ (List.mem_of_getElem? (i := 1) rfl)))) (fun _ h9 => h9) rfl dX8_append_32 ?_
              refine lv_aload_n hx hb dX8_append_35 rfl (lv_at hl 2 rfl) ?_
              refine va_get (D := (dC, dI)) (ci := 8) (v := .int (nI (kt))) (C := RX8) (T := TX8) (N := 2) hx hb hts (fun _ h => List.mem_cons_of_mem _ (List.mem_append_right _ h)) hown hK hP 0 rfl rfl 1 kc_l_1_2 (hts (.fieldLink RX8 15 "NotEnded$Tape" "length" "I") (List.mem_cons_of_mem _ (List.mem_append_left _ (List.mem_of_getElem? (i := 0) rfl)))) (fun _ h9 => h9) rfl dX8_append_36 ?_
              refine lv_iload_n hx hb dX8_append_39 rfl (lv_at hl 0 rfl) ?_
              obtain ⟨x_290, ex_290⟩ : ∃ z : Int32, z = (Int32.toUInt32 x_257 % 65536).toInt32 := ⟨_, rfl⟩
              refine lv_i2c (v := x_290) hx hb dX8_append_40 ex_290.symm ?_
              have bd_292 : kt < 120 := by omega
              refine va_cast hx hb hK hP hD hS 1 0 rfl rfl (vp_in_nI (n := kt) (N := 120) bd_292 kc_31_120) dX8_append_41 (fun H locs hP hD hS => ?_)
              obtain ⟨f_291, ef_291⟩ : ∃ gg9 : Nat → Int32, gg9 = upd gT (Int32.toNatClampNeg (nI (kt))) (vp_nar .char x_290) := ⟨_, rfl⟩
              have hPD : kPD dC dI A [(jT, .inr (8, [.ref t0, .int (nI (kt))])), (t0, .inl (cC, 120, .inl f_291))] H := by rw [ef_291]; exact ⟨hP, hD⟩
              have hP := hPD.1
              have hD := hPD.2
              refine lv_aload_n hx hb dX8_append_42 rfl (lv_at hl 2 rfl) ?_
              refine lv_dup hx hb dX8_append_43 rfl ?_
              refine va_get (D := (dC, dI)) (ci := 8) (v := .int (nI (kt))) (C := RX8) (T := TX8) (N := 2) hx hb hts (fun _ h => List.mem_cons_of_mem _ (List.mem_append_right _ h)) hown hK hP 0 rfl rfl 1 kc_l_1_2 (hts (.fieldLink RX8 15 "NotEnded$Tape" "length" "I") (List.mem_cons_of_mem _ (List.mem_append_left _ (List.mem_of_getElem? (i := 0) rfl)))) (fun _ h9 => h9) rfl dX8_append_44 ?_
              refine lv_iconst (v := 1) hx hb dX8_append_47 kc_i_1 ?_
              refine lv_iadd hx hb dX8_append_48 ?_
              refine lv_topi (fun y_293 ey_293 => ?_)
              obtain rfl : y_293 = nI (kt + 1) := ey_293.trans (nI_add (kt) (1))
              refine va_put (D := (dC, dI)) (ci := 8) (v := .int (nI (kt + 1))) (ty := tyX8 1) (C := RX8) (T := TX8) (N := 2) hx hb hts (fun _ h => List.mem_cons_of_mem _ (List.mem_append_right _ h)) tyX8 tyX8_ok nmX8 hown hK hP hD hS 0 rfl rfl 1 kc_l_1_2 (hts (.fieldLink RX8 15 "NotEnded$Tape" "length" "I") (List.mem_cons_of_mem _ (List.mem_append_left _ (List.mem_of_getElem? (i := 0) rfl)))) (fun _ h9 => h9) rfl (tyX8_ok 1 kc_l_1_2) rfl rfl (Nat.le_of_ble_eq_true rfl) dX8_append_49 (fun H locs hP hD hS => ?_)
              have hPD : kPD dC dI A [(jT, .inr (8, [.ref t0, .int (nI (kt + 1))])), (t0, .inl (cC, 120, .inl f_291))] H := ⟨hP, hD⟩
              have hP := hPD.1
              have hD := hPD.2
              refine lv_iinc (v := 0) hx hb dX8_append_52 hl (k := 1) rfl (by decide) kc_l_2_4 (kTo [(2, .int 0), (3, .int x_257), (0, .ref jT), (1, .int p0)]) (fun ls hl => ?_)
              refine lv_goto (tgt := 3) hx hb dX8_append_55 kc_t_55_m52 ?_
              refine lv_iload_n hx hb dX8_append_3 rfl (lv_at hl 0 rfl) ?_
              refine lv_if_lt (tgt := 58) hx hb dX8_append_4 kc_t_4_54 (fun c_294 => absurd c_294 (by decide)) (fun c_294 => ?_)
              refine lv_iload_n hx hb dX8_append_7 rfl (lv_at hl 3 rfl) ?_
              refine lv_iload_n hx hb dX8_append_8 rfl (lv_at hl 0 rfl) ?_
              obtain ⟨x_295, ex_295⟩ : ∃ z : Int32, z = (Int32.toUInt32 p0 >>> (Int32.toUInt32 0 &&& Int32.toUInt32 31)).toInt32 := ⟨_, rfl⟩
              refine lv_iushr (v := x_295) hx hb dX8_append_9 ex_295.symm ?_
              refine lv_sipush (v := 255) hx hb dX8_append_10 kc_s_255 ?_
              refine lv_iand hx hb dX8_append_13 ?_
              refine lv_topi (fun x_296 ex_296 => ?_)
              refine lv_istore_n hx hb dX8_append_14 rfl hl kc_l_3_4 (kTo [(3, .int x_296), (2, .int 0), (0, .ref jT), (1, .int p0)]) (fun ls hl => ?_)
              refine lv_iload_n hx hb dX8_append_15 rfl (lv_at hl 0 rfl) ?_
              refine lv_if_eq (tgt := 52) hx hb dX8_append_16 kc_t_16_36 (fun c_297 => ?_) (fun c_297 => ?_)
              · refine lv_iinc (v := (-8)) hx hb dX8_append_52 hl (k := 1) rfl (by decide) kc_l_2_4 (kTo [(2, .int (-8)), (3, .int x_296), (0, .ref jT), (1, .int p0)]) (fun ls hl => ?_)
                refine lv_goto (tgt := 3) hx hb dX8_append_55 kc_t_55_m52 ?_
                refine lv_iload_n hx hb dX8_append_3 rfl (lv_at hl 0 rfl) ?_
                refine lv_if_lt (tgt := 58) hx hb dX8_append_4 kc_t_4_54 (fun c_298 => ?_) (fun c_298 => absurd (by decide) c_298)
                have hP9 := hP
                have hD9 := hD
                have hK9 := hK
                rw [hQ]
                exact W.vret hx hb hr (fun t ht hW => ⟨⟨(f_291, (kt + 1)), rfl, ⟨by omega, (kNarU ef_291 hgT)⟩,  by rw [ht]; exact hP9, va_K.moved hW.alike hK9, hD9⟩, hS.F ht⟩) hS.2.2 dX8_append_58
              · refine lv_aload_n hx hb dX8_append_19 rfl (lv_at hl 2 rfl) ?_
                refine va_get (D := (dC, dI)) (ci := 8) (v := .int (nI (kt + 1))) (C := RX8) (T := TX8) (N := 2) hx hb hts (fun _ h => List.mem_cons_of_mem _ (List.mem_append_right _ h)) hown hK hP 0 rfl rfl 1 kc_l_1_2 (hts (.fieldLink RX8 15 "NotEnded$Tape" "length" "I") (List.mem_cons_of_mem _ (List.mem_append_left _ (List.mem_of_getElem? (i := 0) rfl)))) (fun _ h9 => h9) rfl dX8_append_20 ?_
                refine lv_aload_n hx hb dX8_append_23 rfl (lv_at hl 2 rfl) ?_
                refine va_get (D := (dC, dI)) (ci := 8) (v := .ref t0) (C := RX8) (T := TX8) (N := 2) hx hb hts (fun _ h => List.mem_cons_of_mem _ (List.mem_append_right _ h)) hown hK hP 0 rfl rfl 0 kc_l_0_2 (hts (.fieldLink RX8 9 "NotEnded$Tape" "signs" "[C") (List.mem_cons_of_mem _ (List.mem_append_left _ (List.mem_of_getElem? (i := 1) rfl)))) (fun _ h9 => h9) rfl dX8_append_24 ?_
                refine va_alen hx hb hK hP 1 0 rfl rfl (v := 120) rfl dX8_append_27 ?_
                refine lv_icmp_ge (tgt := 52) hx hb dX8_append_28 kc_t_28_24 (fun c_299 => ?_) (fun c_299 => ?_)
                · have bd_301 : kt + 1 < 2147483648 := by omega
                  have hn_300 := kle (a := 120) (b := kt + 1) kc_31_120 bd_301 c_299
                  refine lv_iinc (v := (-8)) hx hb dX8_append_52 hl (k := 1) rfl (by decide) kc_l_2_4 (kTo [(2, .int (-8)), (3, .int x_296), (0, .ref jT), (1, .int p0)]) (fun ls hl => ?_)
                  refine lv_goto (tgt := 3) hx hb dX8_append_55 kc_t_55_m52 ?_
                  refine lv_iload_n hx hb dX8_append_3 rfl (lv_at hl 0 rfl) ?_
                  refine lv_if_lt (tgt := 58) hx hb dX8_append_4 kc_t_4_54 (fun c_302 => ?_) (fun c_302 => absurd (by decide) c_302)
                  have hP9 := hP
                  have hD9 := hD
                  have hK9 := hK
                  rw [hQ]
                  exact W.vret hx hb hr (fun t ht hW => ⟨⟨(f_291, (kt + 1)), rfl, ⟨by omega, (kNarU ef_291 hgT)⟩,  by rw [ht]; exact hP9, va_K.moved hW.alike hK9, hD9⟩, hS.F ht⟩) hS.2.2 dX8_append_58
                · have bd_304 : kt + 1 < 2147483648 := by omega
                  have hn_303 := knle (a := 120) (b := kt + 1) kc_31_120 bd_304 c_299
                  refine lv_aload_n hx hb dX8_append_31 rfl (lv_at hl 2 rfl) ?_
                  refine va_get (D := (dC, dI)) (ci := 8) (v := .ref t0) (C := RX8) (T := TX8) (N := 2) hx hb hts (fun _ h => List.mem_cons_of_mem _ (List.mem_append_right _ h)) hown hK hP 0 rfl rfl 0 kc_l_0_2 (hts (.fieldLink RX8 9 "NotEnded$Tape" "signs" "[C") (List.mem_cons_of_mem _ (List.mem_append_left _ (List.mem_of_getElem? (i := 1) rfl)))) (fun _ h9 => h9) rfl dX8_append_32 ?_
                  refine lv_aload_n hx hb dX8_append_35 rfl (lv_at hl 2 rfl) ?_
                  refine va_get (D := (dC, dI)) (ci := 8) (v := .int (nI (kt + 1))) (C := RX8) (T := TX8) (N := 2) hx hb hts (fun _ h => List.mem_cons_of_mem _ (List.mem_append_right _ h)) hown hK hP 0 rfl rfl 1 kc_l_1_2 (hts (.fieldLink RX8 15 "NotEnded$Tape" "length" "I") (List.mem_cons_of_mem _ (List.mem_append_left _ (List.mem_of_getElem? (i := 0) rfl)))) (fun _ h9 => h9) rfl dX8_append_36 ?_
                  refine lv_iload_n hx hb dX8_append_39 rfl (lv_at hl 0 rfl) ?_
                  obtain ⟨x_305, ex_305⟩ : ∃ z : Int32, z = (Int32.toUInt32 x_296 % 65536).toInt32 := ⟨_, rfl⟩
                  refine lv_i2c (v := x_305) hx hb dX8_append_40 ex_305.symm ?_
                  have bd_307 : kt + 1 < 120 := by omega
                  refine va_cast hx hb hK hP hD hS 1 0 rfl rfl (vp_in_nI (n := kt + 1) (N := 120) bd_307 kc_31_120) dX8_append_41 (fun H locs hP hD hS => ?_)
                  obtain ⟨f_306, ef_306⟩ : ∃ gg9 : Nat → Int32, gg9 = upd f_291 (Int32.toNatClampNeg (nI (kt + 1))) (vp_nar .char x_305) := ⟨_, rfl⟩
                  have hPD : kPD dC dI A [(jT, .inr (8, [.ref t0, .int (nI (kt + 1))])), (t0, .inl (cC, 120, .inl f_306))] H := by rw [ef_306]; exact ⟨hP, hD⟩
                  have hP := hPD.1
                  have hD := hPD.2
                  refine lv_aload_n hx hb dX8_append_42 rfl (lv_at hl 2 rfl) ?_
                  refine lv_dup hx hb dX8_append_43 rfl ?_
                  refine va_get (D := (dC, dI)) (ci := 8) (v := .int (nI (kt + 1))) (C := RX8) (T := TX8) (N := 2) hx hb hts (fun _ h => List.mem_cons_of_mem _ (List.mem_append_right _ h)) hown hK hP 0 rfl rfl 1 kc_l_1_2 (hts (.fieldLink RX8 15 "NotEnded$Tape" "length" "I") (List.mem_cons_of_mem _ (List.mem_append_left _ (List.mem_of_getElem? (i := 0) rfl)))) (fun _ h9 => h9) rfl dX8_append_44 ?_
                  refine lv_iconst (v := 1) hx hb dX8_append_47 kc_i_1 ?_
                  refine lv_iadd hx hb dX8_append_48 ?_
                  refine lv_topi (fun y_308 ey_308 => ?_)
                  obtain rfl : y_308 = nI (kt + 1 + 1) := ey_308.trans (nI_add (kt + 1) (1))
                  refine va_put (D := (dC, dI)) (ci := 8) (v := .int (nI (kt + 1 + 1))) (ty := tyX8 1) (C := RX8) (T := TX8) (N := 2) hx hb hts (fun _ h => List.mem_cons_of_mem _ (List.mem_append_right _ h)) tyX8 tyX8_ok nmX8 hown hK hP hD hS 0 rfl rfl 1 kc_l_1_2 (hts (.fieldLink RX8 15 "NotEnded$Tape" "length" "I") (List.mem_cons_of_mem _ (List.mem_append_left _ (List.mem_of_getElem? (i := 0) rfl)))) (fun _ h9 => h9) rfl (tyX8_ok 1 kc_l_1_2) rfl rfl (Nat.le_of_ble_eq_true rfl) dX8_append_49 (fun H locs hP hD hS => ?_)
                  have hPD : kPD dC dI A [(jT, .inr (8, [.ref t0, .int (nI (kt + 1 + 1))])), (t0, .inl (cC, 120, .inl f_306))] H := ⟨hP, hD⟩
                  have hP := hPD.1
                  have hD := hPD.2
                  refine lv_iinc (v := (-8)) hx hb dX8_append_52 hl (k := 1) rfl (by decide) kc_l_2_4 (kTo [(2, .int (-8)), (3, .int x_296), (0, .ref jT), (1, .int p0)]) (fun ls hl => ?_)
                  refine lv_goto (tgt := 3) hx hb dX8_append_55 kc_t_55_m52 ?_
                  refine lv_iload_n hx hb dX8_append_3 rfl (lv_at hl 0 rfl) ?_
                  refine lv_if_lt (tgt := 58) hx hb dX8_append_4 kc_t_4_54 (fun c_309 => ?_) (fun c_309 => absurd (by decide) c_309)
                  have hP9 := hP
                  have hD9 := hD
                  have hK9 := hK
                  rw [hQ]
                  exact W.vret hx hb hr (fun t ht hW => ⟨⟨(f_306, (kt + 1 + 1)), rfl, ⟨by omega, (kNarU ef_306 (kNarU ef_291 hgT))⟩,  by rw [ht]; exact hP9, va_K.moved hW.alike hK9, hD9⟩, hS.F ht⟩) hS.2.2 dX8_append_58
        · have hn_310 := knle (a := 120) (b := kt) kc_31_120 bd_193 c_253
          refine lv_aload_n hx hb dX8_append_31 rfl (lv_at hl 2 rfl) ?_
          refine va_get (D := (dC, dI)) (ci := 8) (v := .ref t0) (C := RX8) (T := TX8) (N := 2) hx hb hts (fun _ h => List.mem_cons_of_mem _ (List.mem_append_right _ h)) hown hK hP 0 rfl rfl 0 kc_l_0_2 (hts (.fieldLink RX8 9 "NotEnded$Tape" "signs" "[C") (List.mem_cons_of_mem _ (List.mem_append_left _ (List.mem_of_getElem? (i := 1) rfl)))) (fun _ h9 => h9) rfl dX8_append_32 ?_
          refine lv_aload_n hx hb dX8_append_35 rfl (lv_at hl 2 rfl) ?_
          refine va_get (D := (dC, dI)) (ci := 8) (v := .int (nI (kt))) (C := RX8) (T := TX8) (N := 2) hx hb hts (fun _ h => List.mem_cons_of_mem _ (List.mem_append_right _ h)) hown hK hP 0 rfl rfl 1 kc_l_1_2 (hts (.fieldLink RX8 15 "NotEnded$Tape" "length" "I") (List.mem_cons_of_mem _ (List.mem_append_left _ (List.mem_of_getElem? (i := 0) rfl)))) (fun _ h9 => h9) rfl dX8_append_36 ?_
          refine lv_iload_n hx hb dX8_append_39 rfl (lv_at hl 0 rfl) ?_
          obtain ⟨x_311, ex_311⟩ : ∃ z : Int32, z = (Int32.toUInt32 x_196 % 65536).toInt32 := ⟨_, rfl⟩
          refine lv_i2c (v := x_311) hx hb dX8_append_40 ex_311.symm ?_
          have bd_313 : kt < 120 := by omega
          refine va_cast hx hb hK hP hD hS 1 0 rfl rfl (vp_in_nI (n := kt) (N := 120) bd_313 kc_31_120) dX8_append_41 (fun H locs hP hD hS => ?_)
          obtain ⟨f_312, ef_312⟩ : ∃ gg9 : Nat → Int32, gg9 = upd gT (Int32.toNatClampNeg (nI (kt))) (vp_nar .char x_311) := ⟨_, rfl⟩
          have hPD : kPD dC dI A [(jT, .inr (8, [.ref t0, .int (nI (kt))])), (t0, .inl (cC, 120, .inl f_312))] H := by rw [ef_312]; exact ⟨hP, hD⟩
          have hP := hPD.1
          have hD := hPD.2
          refine lv_aload_n hx hb dX8_append_42 rfl (lv_at hl 2 rfl) ?_
          refine lv_dup hx hb dX8_append_43 rfl ?_
          refine va_get (D := (dC, dI)) (ci := 8) (v := .int (nI (kt))) (C := RX8) (T := TX8) (N := 2) hx hb hts (fun _ h => List.mem_cons_of_mem _ (List.mem_append_right _ h)) hown hK hP 0 rfl rfl 1 kc_l_1_2 (hts (.fieldLink RX8 15 "NotEnded$Tape" "length" "I") (List.mem_cons_of_mem _ (List.mem_append_left _ (List.mem_of_getElem? (i := 0) rfl)))) (fun _ h9 => h9) rfl dX8_append_44 ?_
          refine lv_iconst (v := 1) hx hb dX8_append_47 kc_i_1 ?_
          refine lv_iadd hx hb dX8_append_48 ?_
          refine lv_topi (fun y_314 ey_314 => ?_)
          obtain rfl : y_314 = nI (kt + 1) := ey_314.trans (nI_add (kt) (1))
          refine va_put (D := (dC, dI)) (ci := 8) (v := .int (nI (kt + 1))) (ty := tyX8 1) (C := RX8) (T := TX8) (N := 2) hx hb hts (fun _ h => List.mem_cons_of_mem _ (List.mem_append_right _ h)) tyX8 tyX8_ok nmX8 hown hK hP hD hS 0 rfl rfl 1 kc_l_1_2 (hts (.fieldLink RX8 15 "NotEnded$Tape" "length" "I") (List.mem_cons_of_mem _ (List.mem_append_left _ (List.mem_of_getElem? (i := 0) rfl)))) (fun _ h9 => h9) rfl (tyX8_ok 1 kc_l_1_2) rfl rfl (Nat.le_of_ble_eq_true rfl) dX8_append_49 (fun H locs hP hD hS => ?_)
          have hPD : kPD dC dI A [(jT, .inr (8, [.ref t0, .int (nI (kt + 1))])), (t0, .inl (cC, 120, .inl f_312))] H := ⟨hP, hD⟩
          have hP := hPD.1
          have hD := hPD.2
          refine lv_iinc (v := 8) hx hb dX8_append_52 hl (k := 1) rfl (by decide) kc_l_2_4 (kTo [(2, .int 8), (3, .int x_196), (0, .ref jT), (1, .int p0)]) (fun ls hl => ?_)
          refine lv_goto (tgt := 3) hx hb dX8_append_55 kc_t_55_m52 ?_
          refine lv_iload_n hx hb dX8_append_3 rfl (lv_at hl 0 rfl) ?_
          refine lv_if_lt (tgt := 58) hx hb dX8_append_4 kc_t_4_54 (fun c_315 => absurd c_315 (by decide)) (fun c_315 => ?_)
          refine lv_iload_n hx hb dX8_append_7 rfl (lv_at hl 3 rfl) ?_
          refine lv_iload_n hx hb dX8_append_8 rfl (lv_at hl 0 rfl) ?_
          obtain ⟨x_316, ex_316⟩ : ∃ z : Int32, z = (Int32.toUInt32 p0 >>> (Int32.toUInt32 8 &&& Int32.toUInt32 31)).toInt32 := ⟨_, rfl⟩
          refine lv_iushr (v := x_316) hx hb dX8_append_9 ex_316.symm ?_
          refine lv_sipush (v := 255) hx hb dX8_append_10 kc_s_255 ?_
          refine lv_iand hx hb dX8_append_13 ?_
          refine lv_topi (fun x_317 ex_317 => ?_)
          refine lv_istore_n hx hb dX8_append_14 rfl hl kc_l_3_4 (kTo [(3, .int x_317), (2, .int 8), (0, .ref jT), (1, .int p0)]) (fun ls hl => ?_)
          refine lv_iload_n hx hb dX8_append_15 rfl (lv_at hl 0 rfl) ?_
          refine lv_if_eq (tgt := 52) hx hb dX8_append_16 kc_t_16_36 (fun c_318 => ?_) (fun c_318 => ?_)
          · refine lv_iinc (v := 0) hx hb dX8_append_52 hl (k := 1) rfl (by decide) kc_l_2_4 (kTo [(2, .int 0), (3, .int x_317), (0, .ref jT), (1, .int p0)]) (fun ls hl => ?_)
            refine lv_goto (tgt := 3) hx hb dX8_append_55 kc_t_55_m52 ?_
            refine lv_iload_n hx hb dX8_append_3 rfl (lv_at hl 0 rfl) ?_
            refine lv_if_lt (tgt := 58) hx hb dX8_append_4 kc_t_4_54 (fun c_319 => absurd c_319 (by decide)) (fun c_319 => ?_)
            refine lv_iload_n hx hb dX8_append_7 rfl (lv_at hl 3 rfl) ?_
            refine lv_iload_n hx hb dX8_append_8 rfl (lv_at hl 0 rfl) ?_
            obtain ⟨x_320, ex_320⟩ : ∃ z : Int32, z = (Int32.toUInt32 p0 >>> (Int32.toUInt32 0 &&& Int32.toUInt32 31)).toInt32 := ⟨_, rfl⟩
            refine lv_iushr (v := x_320) hx hb dX8_append_9 ex_320.symm ?_
            refine lv_sipush (v := 255) hx hb dX8_append_10 kc_s_255 ?_
            refine lv_iand hx hb dX8_append_13 ?_
            refine lv_topi (fun x_321 ex_321 => ?_)
            refine lv_istore_n hx hb dX8_append_14 rfl hl kc_l_3_4 (kTo [(3, .int x_321), (2, .int 0), (0, .ref jT), (1, .int p0)]) (fun ls hl => ?_)
            refine lv_iload_n hx hb dX8_append_15 rfl (lv_at hl 0 rfl) ?_
            refine lv_if_eq (tgt := 52) hx hb dX8_append_16 kc_t_16_36 (fun c_322 => ?_) (fun c_322 => ?_)
            · refine lv_iinc (v := (-8)) hx hb dX8_append_52 hl (k := 1) rfl (by decide) kc_l_2_4 (kTo [(2, .int (-8)), (3, .int x_321), (0, .ref jT), (1, .int p0)]) (fun ls hl => ?_)
              refine lv_goto (tgt := 3) hx hb dX8_append_55 kc_t_55_m52 ?_
              refine lv_iload_n hx hb dX8_append_3 rfl (lv_at hl 0 rfl) ?_
              refine lv_if_lt (tgt := 58) hx hb dX8_append_4 kc_t_4_54 (fun c_323 => ?_) (fun c_323 => absurd (by decide) c_323)
              have hP9 := hP
              have hD9 := hD
              have hK9 := hK
              rw [hQ]
              exact W.vret hx hb hr (fun t ht hW => ⟨⟨(f_312, (kt + 1)), rfl, ⟨by omega, (kNarU ef_312 hgT)⟩,  by rw [ht]; exact hP9, va_K.moved hW.alike hK9, hD9⟩, hS.F ht⟩) hS.2.2 dX8_append_58
            · refine lv_aload_n hx hb dX8_append_19 rfl (lv_at hl 2 rfl) ?_
              refine va_get (D := (dC, dI)) (ci := 8) (v := .int (nI (kt + 1))) (C := RX8) (T := TX8) (N := 2) hx hb hts (fun _ h => List.mem_cons_of_mem _ (List.mem_append_right _ h)) hown hK hP 0 rfl rfl 1 kc_l_1_2 (hts (.fieldLink RX8 15 "NotEnded$Tape" "length" "I") (List.mem_cons_of_mem _ (List.mem_append_left _ (List.mem_of_getElem? (i := 0) rfl)))) (fun _ h9 => h9) rfl dX8_append_20 ?_
              refine lv_aload_n hx hb dX8_append_23 rfl (lv_at hl 2 rfl) ?_
              refine va_get (D := (dC, dI)) (ci := 8) (v := .ref t0) (C := RX8) (T := TX8) (N := 2) hx hb hts (fun _ h => List.mem_cons_of_mem _ (List.mem_append_right _ h)) hown hK hP 0 rfl rfl 0 kc_l_0_2 (hts (.fieldLink RX8 9 "NotEnded$Tape" "signs" "[C") (List.mem_cons_of_mem _ (List.mem_append_left _ (List.mem_of_getElem? (i := 1) rfl)))) (fun _ h9 => h9) rfl dX8_append_24 ?_
              refine va_alen hx hb hK hP 1 0 rfl rfl (v := 120) rfl dX8_append_27 ?_
              refine lv_icmp_ge (tgt := 52) hx hb dX8_append_28 kc_t_28_24 (fun c_324 => ?_) (fun c_324 => ?_)
              · have bd_326 : kt + 1 < 2147483648 := by omega
                have hn_325 := kle (a := 120) (b := kt + 1) kc_31_120 bd_326 c_324
                refine lv_iinc (v := (-8)) hx hb dX8_append_52 hl (k := 1) rfl (by decide) kc_l_2_4 (kTo [(2, .int (-8)), (3, .int x_321), (0, .ref jT), (1, .int p0)]) (fun ls hl => ?_)
                refine lv_goto (tgt := 3) hx hb dX8_append_55 kc_t_55_m52 ?_
                refine lv_iload_n hx hb dX8_append_3 rfl (lv_at hl 0 rfl) ?_
                refine lv_if_lt (tgt := 58) hx hb dX8_append_4 kc_t_4_54 (fun c_327 => ?_) (fun c_327 => absurd (by decide) c_327)
                have hP9 := hP
                have hD9 := hD
                have hK9 := hK
                rw [hQ]
                exact W.vret hx hb hr (fun t ht hW => ⟨⟨(f_312, (kt + 1)), rfl, ⟨by omega, (kNarU ef_312 hgT)⟩,  by rw [ht]; exact hP9, va_K.moved hW.alike hK9, hD9⟩, hS.F ht⟩) hS.2.2 dX8_append_58
              · have bd_329 : kt + 1 < 2147483648 := by omega
                have hn_328 := knle (a := 120) (b := kt + 1) kc_31_120 bd_329 c_324
                refine lv_aload_n hx hb dX8_append_31 rfl (lv_at hl 2 rfl) ?_
                refine va_get (D := (dC, dI)) (ci := 8) (v := .ref t0) (C := RX8) (T := TX8) (N := 2) hx hb hts (fun _ h => List.mem_cons_of_mem _ (List.mem_append_right _ h)) hown hK hP 0 rfl rfl 0 kc_l_0_2 (hts (.fieldLink RX8 9 "NotEnded$Tape" "signs" "[C") (List.mem_cons_of_mem _ (List.mem_append_left _ (List.mem_of_getElem? (i := 1) rfl)))) (fun _ h9 => h9) rfl dX8_append_32 ?_
                refine lv_aload_n hx hb dX8_append_35 rfl (lv_at hl 2 rfl) ?_
                refine va_get (D := (dC, dI)) (ci := 8) (v := .int (nI (kt + 1))) (C := RX8) (T := TX8) (N := 2) hx hb hts (fun _ h => List.mem_cons_of_mem _ (List.mem_append_right _ h)) hown hK hP 0 rfl rfl 1 kc_l_1_2 (hts (.fieldLink RX8 15 "NotEnded$Tape" "length" "I") (List.mem_cons_of_mem _ (List.mem_append_left _ (List.mem_of_getElem? (i := 0) rfl)))) (fun _ h9 => h9) rfl dX8_append_36 ?_
                refine lv_iload_n hx hb dX8_append_39 rfl (lv_at hl 0 rfl) ?_
                obtain ⟨x_330, ex_330⟩ : ∃ z : Int32, z = (Int32.toUInt32 x_321 % 65536).toInt32 := ⟨_, rfl⟩
                refine lv_i2c (v := x_330) hx hb dX8_append_40 ex_330.symm ?_
                have bd_332 : kt + 1 < 120 := by omega
                refine va_cast hx hb hK hP hD hS 1 0 rfl rfl (vp_in_nI (n := kt + 1) (N := 120) bd_332 kc_31_120) dX8_append_41 (fun H locs hP hD hS => ?_)
                obtain ⟨f_331, ef_331⟩ : ∃ gg9 : Nat → Int32, gg9 = upd f_312 (Int32.toNatClampNeg (nI (kt + 1))) (vp_nar .char x_330) := ⟨_, rfl⟩
                have hPD : kPD dC dI A [(jT, .inr (8, [.ref t0, .int (nI (kt + 1))])), (t0, .inl (cC, 120, .inl f_331))] H := by rw [ef_331]; exact ⟨hP, hD⟩
                have hP := hPD.1
                have hD := hPD.2
                refine lv_aload_n hx hb dX8_append_42 rfl (lv_at hl 2 rfl) ?_
                refine lv_dup hx hb dX8_append_43 rfl ?_
                refine va_get (D := (dC, dI)) (ci := 8) (v := .int (nI (kt + 1))) (C := RX8) (T := TX8) (N := 2) hx hb hts (fun _ h => List.mem_cons_of_mem _ (List.mem_append_right _ h)) hown hK hP 0 rfl rfl 1 kc_l_1_2 (hts (.fieldLink RX8 15 "NotEnded$Tape" "length" "I") (List.mem_cons_of_mem _ (List.mem_append_left _ (List.mem_of_getElem? (i := 0) rfl)))) (fun _ h9 => h9) rfl dX8_append_44 ?_
                refine lv_iconst (v := 1) hx hb dX8_append_47 kc_i_1 ?_
                refine lv_iadd hx hb dX8_append_48 ?_
                refine lv_topi (fun y_333 ey_333 => ?_)
                obtain rfl : y_333 = nI (kt + 1 + 1) := ey_333.trans (nI_add (kt + 1) (1))
                refine va_put (D := (dC, dI)) (ci := 8) (v := .int (nI (kt + 1 + 1))) (ty := tyX8 1) (C := RX8) (T := TX8) (N := 2) hx hb hts (fun _ h => List.mem_cons_of_mem _ (List.mem_append_right _ h)) tyX8 tyX8_ok nmX8 hown hK hP hD hS 0 rfl rfl 1 kc_l_1_2 (hts (.fieldLink RX8 15 "NotEnded$Tape" "length" "I") (List.mem_cons_of_mem _ (List.mem_append_left _ (List.mem_of_getElem? (i := 0) rfl)))) (fun _ h9 => h9) rfl (tyX8_ok 1 kc_l_1_2) rfl rfl (Nat.le_of_ble_eq_true rfl) dX8_append_49 (fun H locs hP hD hS => ?_)
                have hPD : kPD dC dI A [(jT, .inr (8, [.ref t0, .int (nI (kt + 1 + 1))])), (t0, .inl (cC, 120, .inl f_331))] H := ⟨hP, hD⟩
                have hP := hPD.1
                have hD := hPD.2
                refine lv_iinc (v := (-8)) hx hb dX8_append_52 hl (k := 1) rfl (by decide) kc_l_2_4 (kTo [(2, .int (-8)), (3, .int x_321), (0, .ref jT), (1, .int p0)]) (fun ls hl => ?_)
                refine lv_goto (tgt := 3) hx hb dX8_append_55 kc_t_55_m52 ?_
                refine lv_iload_n hx hb dX8_append_3 rfl (lv_at hl 0 rfl) ?_
                refine lv_if_lt (tgt := 58) hx hb dX8_append_4 kc_t_4_54 (fun c_334 => ?_) (fun c_334 => absurd (by decide) c_334)
                have hP9 := hP
                have hD9 := hD
                have hK9 := hK
                rw [hQ]
                exact W.vret hx hb hr (fun t ht hW => ⟨⟨(f_331, (kt + 1 + 1)), rfl, ⟨by omega, (kNarU ef_331 (kNarU ef_312 hgT))⟩,  by rw [ht]; exact hP9, va_K.moved hW.alike hK9, hD9⟩, hS.F ht⟩) hS.2.2 dX8_append_58
          · refine lv_aload_n hx hb dX8_append_19 rfl (lv_at hl 2 rfl) ?_
            refine va_get (D := (dC, dI)) (ci := 8) (v := .int (nI (kt + 1))) (C := RX8) (T := TX8) (N := 2) hx hb hts (fun _ h => List.mem_cons_of_mem _ (List.mem_append_right _ h)) hown hK hP 0 rfl rfl 1 kc_l_1_2 (hts (.fieldLink RX8 15 "NotEnded$Tape" "length" "I") (List.mem_cons_of_mem _ (List.mem_append_left _ (List.mem_of_getElem? (i := 0) rfl)))) (fun _ h9 => h9) rfl dX8_append_20 ?_
            refine lv_aload_n hx hb dX8_append_23 rfl (lv_at hl 2 rfl) ?_
            refine va_get (D := (dC, dI)) (ci := 8) (v := .ref t0) (C := RX8) (T := TX8) (N := 2) hx hb hts (fun _ h => List.mem_cons_of_mem _ (List.mem_append_right _ h)) hown hK hP 0 rfl rfl 0 kc_l_0_2 (hts (.fieldLink RX8 9 "NotEnded$Tape" "signs" "[C") (List.mem_cons_of_mem _ (List.mem_append_left _ (List.mem_of_getElem? (i := 1) rfl)))) (fun _ h9 => h9) rfl dX8_append_24 ?_
            refine va_alen hx hb hK hP 1 0 rfl rfl (v := 120) rfl dX8_append_27 ?_
            refine lv_icmp_ge (tgt := 52) hx hb dX8_append_28 kc_t_28_24 (fun c_335 => ?_) (fun c_335 => ?_)
            · have bd_337 : kt + 1 < 2147483648 := by omega
              have hn_336 := kle (a := 120) (b := kt + 1) kc_31_120 bd_337 c_335
              refine lv_iinc (v := 0) hx hb dX8_append_52 hl (k := 1) rfl (by decide) kc_l_2_4 (kTo [(2, .int 0), (3, .int x_317), (0, .ref jT), (1, .int p0)]) (fun ls hl => ?_)
              refine lv_goto (tgt := 3) hx hb dX8_append_55 kc_t_55_m52 ?_
              refine lv_iload_n hx hb dX8_append_3 rfl (lv_at hl 0 rfl) ?_
              refine lv_if_lt (tgt := 58) hx hb dX8_append_4 kc_t_4_54 (fun c_338 => absurd c_338 (by decide)) (fun c_338 => ?_)
              refine lv_iload_n hx hb dX8_append_7 rfl (lv_at hl 3 rfl) ?_
              refine lv_iload_n hx hb dX8_append_8 rfl (lv_at hl 0 rfl) ?_
              obtain ⟨x_339, ex_339⟩ : ∃ z : Int32, z = (Int32.toUInt32 p0 >>> (Int32.toUInt32 0 &&& Int32.toUInt32 31)).toInt32 := ⟨_, rfl⟩
              refine lv_iushr (v := x_339) hx hb dX8_append_9 ex_339.symm ?_
              refine lv_sipush (v := 255) hx hb dX8_append_10 kc_s_255 ?_
              refine lv_iand hx hb dX8_append_13 ?_
              refine lv_topi (fun x_340 ex_340 => ?_)
              refine lv_istore_n hx hb dX8_append_14 rfl hl kc_l_3_4 (kTo [(3, .int x_340), (2, .int 0), (0, .ref jT), (1, .int p0)]) (fun ls hl => ?_)
              refine lv_iload_n hx hb dX8_append_15 rfl (lv_at hl 0 rfl) ?_
              refine lv_if_eq (tgt := 52) hx hb dX8_append_16 kc_t_16_36 (fun c_341 => ?_) (fun c_341 => ?_)
              · refine lv_iinc (v := (-8)) hx hb dX8_append_52 hl (k := 1) rfl (by decide) kc_l_2_4 (kTo [(2, .int (-8)), (3, .int x_340), (0, .ref jT), (1, .int p0)]) (fun ls hl => ?_)
                refine lv_goto (tgt := 3) hx hb dX8_append_55 kc_t_55_m52 ?_
                refine lv_iload_n hx hb dX8_append_3 rfl (lv_at hl 0 rfl) ?_
                refine lv_if_lt (tgt := 58) hx hb dX8_append_4 kc_t_4_54 (fun c_342 => ?_) (fun c_342 => absurd (by decide) c_342)
                have hP9 := hP
                have hD9 := hD
                have hK9 := hK
                rw [hQ]
                exact W.vret hx hb hr (fun t ht hW => ⟨⟨(f_312, (kt + 1)), rfl, ⟨by omega, (kNarU ef_312 hgT)⟩,  by rw [ht]; exact hP9, va_K.moved hW.alike hK9, hD9⟩, hS.F ht⟩) hS.2.2 dX8_append_58
              · refine lv_aload_n hx hb dX8_append_19 rfl (lv_at hl 2 rfl) ?_
                refine va_get (D := (dC, dI)) (ci := 8) (v := .int (nI (kt + 1))) (C := RX8) (T := TX8) (N := 2) hx hb hts (fun _ h => List.mem_cons_of_mem _ (List.mem_append_right _ h)) hown hK hP 0 rfl rfl 1 kc_l_1_2 (hts (.fieldLink RX8 15 "NotEnded$Tape" "length" "I") (List.mem_cons_of_mem _ (List.mem_append_left _ (List.mem_of_getElem? (i := 0) rfl)))) (fun _ h9 => h9) rfl dX8_append_20 ?_
                refine lv_aload_n hx hb dX8_append_23 rfl (lv_at hl 2 rfl) ?_
                refine va_get (D := (dC, dI)) (ci := 8) (v := .ref t0) (C := RX8) (T := TX8) (N := 2) hx hb hts (fun _ h => List.mem_cons_of_mem _ (List.mem_append_right _ h)) hown hK hP 0 rfl rfl 0 kc_l_0_2 (hts (.fieldLink RX8 9 "NotEnded$Tape" "signs" "[C") (List.mem_cons_of_mem _ (List.mem_append_left _ (List.mem_of_getElem? (i := 1) rfl)))) (fun _ h9 => h9) rfl dX8_append_24 ?_
                refine va_alen hx hb hK hP 1 0 rfl rfl (v := 120) rfl dX8_append_27 ?_
                refine lv_icmp_ge (tgt := 52) hx hb dX8_append_28 kc_t_28_24 (fun c_343 => ?_) (fun c_343 => ?_)
                · have hn_344 := kle (a := 120) (b := kt + 1) kc_31_120 bd_337 c_343
                  refine lv_iinc (v := (-8)) hx hb dX8_append_52 hl (k := 1) rfl (by decide) kc_l_2_4 (kTo [(2, .int (-8)), (3, .int x_340), (0, .ref jT), (1, .int p0)]) (fun ls hl => ?_)
                  refine lv_goto (tgt := 3) hx hb dX8_append_55 kc_t_55_m52 ?_
                  refine lv_iload_n hx hb dX8_append_3 rfl (lv_at hl 0 rfl) ?_
                  refine lv_if_lt (tgt := 58) hx hb dX8_append_4 kc_t_4_54 (fun c_345 => ?_) (fun c_345 => absurd (by decide) c_345)
                  have hP9 := hP
                  have hD9 := hD
                  have hK9 := hK
                  rw [hQ]
                  exact W.vret hx hb hr (fun t ht hW => ⟨⟨(f_312, (kt + 1)), rfl, ⟨by omega, (kNarU ef_312 hgT)⟩,  by rw [ht]; exact hP9, va_K.moved hW.alike hK9, hD9⟩, hS.F ht⟩) hS.2.2 dX8_append_58
                · have hn_346 := knle (a := 120) (b := kt + 1) kc_31_120 bd_337 c_343
                  refine lv_aload_n hx hb dX8_append_31 rfl (lv_at hl 2 rfl) ?_
                  refine va_get (D := (dC, dI)) (ci := 8) (v := .ref t0) (C := RX8) (T := TX8) (N := 2) hx hb hts (fun _ h => List.mem_cons_of_mem _ (List.mem_append_right _ h)) hown hK hP 0 rfl rfl 0 kc_l_0_2 (hts (.fieldLink RX8 9 "NotEnded$Tape" "signs" "[C") (List.mem_cons_of_mem _ (List.mem_append_left _ (List.mem_of_getElem? (i := 1) rfl)))) (fun _ h9 => h9) rfl dX8_append_32 ?_
                  refine lv_aload_n hx hb dX8_append_35 rfl (lv_at hl 2 rfl) ?_
                  refine va_get (D := (dC, dI)) (ci := 8) (v := .int (nI (kt + 1))) (C := RX8) (T := TX8) (N := 2) hx hb hts (fun _ h => List.mem_cons_of_mem _ (List.mem_append_right _ h)) hown hK hP 0 rfl rfl 1 kc_l_1_2 (hts (.fieldLink RX8 15 "NotEnded$Tape" "length" "I") (List.mem_cons_of_mem _ (List.mem_append_left _ (List.mem_of_getElem? (i := 0) rfl)))) (fun _ h9 => h9) rfl dX8_append_36 ?_
                  refine lv_iload_n hx hb dX8_append_39 rfl (lv_at hl 0 rfl) ?_
                  obtain ⟨x_347, ex_347⟩ : ∃ z : Int32, z = (Int32.toUInt32 x_340 % 65536).toInt32 := ⟨_, rfl⟩
                  refine lv_i2c (v := x_347) hx hb dX8_append_40 ex_347.symm ?_
                  have bd_349 : kt + 1 < 120 := by omega
                  refine va_cast hx hb hK hP hD hS 1 0 rfl rfl (vp_in_nI (n := kt + 1) (N := 120) bd_349 kc_31_120) dX8_append_41 (fun H locs hP hD hS => ?_)
                  obtain ⟨f_348, ef_348⟩ : ∃ gg9 : Nat → Int32, gg9 = upd f_312 (Int32.toNatClampNeg (nI (kt + 1))) (vp_nar .char x_347) := ⟨_, rfl⟩
                  have hPD : kPD dC dI A [(jT, .inr (8, [.ref t0, .int (nI (kt + 1))])), (t0, .inl (cC, 120, .inl f_348))] H := by rw [ef_348]; exact ⟨hP, hD⟩
                  have hP := hPD.1
                  have hD := hPD.2
                  refine lv_aload_n hx hb dX8_append_42 rfl (lv_at hl 2 rfl) ?_
                  refine lv_dup hx hb dX8_append_43 rfl ?_
                  refine va_get (D := (dC, dI)) (ci := 8) (v := .int (nI (kt + 1))) (C := RX8) (T := TX8) (N := 2) hx hb hts (fun _ h => List.mem_cons_of_mem _ (List.mem_append_right _ h)) hown hK hP 0 rfl rfl 1 kc_l_1_2 (hts (.fieldLink RX8 15 "NotEnded$Tape" "length" "I") (List.mem_cons_of_mem _ (List.mem_append_left _ (List.mem_of_getElem? (i := 0) rfl)))) (fun _ h9 => h9) rfl dX8_append_44 ?_
                  refine lv_iconst (v := 1) hx hb dX8_append_47 kc_i_1 ?_
                  refine lv_iadd hx hb dX8_append_48 ?_
                  refine lv_topi (fun y_350 ey_350 => ?_)
                  obtain rfl : y_350 = nI (kt + 1 + 1) := ey_350.trans (nI_add (kt + 1) (1))
                  refine va_put (D := (dC, dI)) (ci := 8) (v := .int (nI (kt + 1 + 1))) (ty := tyX8 1) (C := RX8) (T := TX8) (N := 2) hx hb hts (fun _ h => List.mem_cons_of_mem _ (List.mem_append_right _ h)) tyX8 tyX8_ok nmX8 hown hK hP hD hS 0 rfl rfl 1 kc_l_1_2 (hts (.fieldLink RX8 15 "NotEnded$Tape" "length" "I") (List.mem_cons_of_mem _ (List.mem_append_left _ (List.mem_of_getElem? (i := 0) rfl)))) (fun _ h9 => h9) rfl (tyX8_ok 1 kc_l_1_2) rfl rfl (Nat.le_of_ble_eq_true rfl) dX8_append_49 (fun H locs hP hD hS => ?_)
                  have hPD : kPD dC dI A [(jT, .inr (8, [.ref t0, .int (nI (kt + 1 + 1))])), (t0, .inl (cC, 120, .inl f_348))] H := ⟨hP, hD⟩
                  have hP := hPD.1
                  have hD := hPD.2
                  refine lv_iinc (v := (-8)) hx hb dX8_append_52 hl (k := 1) rfl (by decide) kc_l_2_4 (kTo [(2, .int (-8)), (3, .int x_340), (0, .ref jT), (1, .int p0)]) (fun ls hl => ?_)
                  refine lv_goto (tgt := 3) hx hb dX8_append_55 kc_t_55_m52 ?_
                  refine lv_iload_n hx hb dX8_append_3 rfl (lv_at hl 0 rfl) ?_
                  refine lv_if_lt (tgt := 58) hx hb dX8_append_4 kc_t_4_54 (fun c_351 => ?_) (fun c_351 => absurd (by decide) c_351)
                  have hP9 := hP
                  have hD9 := hD
                  have hK9 := hK
                  rw [hQ]
                  exact W.vret hx hb hr (fun t ht hW => ⟨⟨(f_348, (kt + 1 + 1)), rfl, ⟨by omega, (kNarU ef_348 (kNarU ef_312 hgT))⟩,  by rw [ht]; exact hP9, va_K.moved hW.alike hK9, hD9⟩, hS.F ht⟩) hS.2.2 dX8_append_58
            · have bd_353 : kt + 1 < 2147483648 := by omega
              have hn_352 := knle (a := 120) (b := kt + 1) kc_31_120 bd_353 c_335
              refine lv_aload_n hx hb dX8_append_31 rfl (lv_at hl 2 rfl) ?_
              refine va_get (D := (dC, dI)) (ci := 8) (v := .ref t0) (C := RX8) (T := TX8) (N := 2) hx hb hts (fun _ h => List.mem_cons_of_mem _ (List.mem_append_right _ h)) hown hK hP 0 rfl rfl 0 kc_l_0_2 (hts (.fieldLink RX8 9 "NotEnded$Tape" "signs" "[C") (List.mem_cons_of_mem _ (List.mem_append_left _ (List.mem_of_getElem? (i := 1) rfl)))) (fun _ h9 => h9) rfl dX8_append_32 ?_
              refine lv_aload_n hx hb dX8_append_35 rfl (lv_at hl 2 rfl) ?_
              refine va_get (D := (dC, dI)) (ci := 8) (v := .int (nI (kt + 1))) (C := RX8) (T := TX8) (N := 2) hx hb hts (fun _ h => List.mem_cons_of_mem _ (List.mem_append_right _ h)) hown hK hP 0 rfl rfl 1 kc_l_1_2 (hts (.fieldLink RX8 15 "NotEnded$Tape" "length" "I") (List.mem_cons_of_mem _ (List.mem_append_left _ (List.mem_of_getElem? (i := 0) rfl)))) (fun _ h9 => h9) rfl dX8_append_36 ?_
              refine lv_iload_n hx hb dX8_append_39 rfl (lv_at hl 0 rfl) ?_
              obtain ⟨x_354, ex_354⟩ : ∃ z : Int32, z = (Int32.toUInt32 x_317 % 65536).toInt32 := ⟨_, rfl⟩
              refine lv_i2c (v := x_354) hx hb dX8_append_40 ex_354.symm ?_
              have bd_356 : kt + 1 < 120 := by omega
              refine va_cast hx hb hK hP hD hS 1 0 rfl rfl (vp_in_nI (n := kt + 1) (N := 120) bd_356 kc_31_120) dX8_append_41 (fun H locs hP hD hS => ?_)
              obtain ⟨f_355, ef_355⟩ : ∃ gg9 : Nat → Int32, gg9 = upd f_312 (Int32.toNatClampNeg (nI (kt + 1))) (vp_nar .char x_354) := ⟨_, rfl⟩
              have hPD : kPD dC dI A [(jT, .inr (8, [.ref t0, .int (nI (kt + 1))])), (t0, .inl (cC, 120, .inl f_355))] H := by rw [ef_355]; exact ⟨hP, hD⟩
              have hP := hPD.1
              have hD := hPD.2
              refine lv_aload_n hx hb dX8_append_42 rfl (lv_at hl 2 rfl) ?_
              refine lv_dup hx hb dX8_append_43 rfl ?_
              refine va_get (D := (dC, dI)) (ci := 8) (v := .int (nI (kt + 1))) (C := RX8) (T := TX8) (N := 2) hx hb hts (fun _ h => List.mem_cons_of_mem _ (List.mem_append_right _ h)) hown hK hP 0 rfl rfl 1 kc_l_1_2 (hts (.fieldLink RX8 15 "NotEnded$Tape" "length" "I") (List.mem_cons_of_mem _ (List.mem_append_left _ (List.mem_of_getElem? (i := 0) rfl)))) (fun _ h9 => h9) rfl dX8_append_44 ?_
              refine lv_iconst (v := 1) hx hb dX8_append_47 kc_i_1 ?_
              refine lv_iadd hx hb dX8_append_48 ?_
              refine lv_topi (fun y_357 ey_357 => ?_)
              obtain rfl : y_357 = nI (kt + 1 + 1) := ey_357.trans (nI_add (kt + 1) (1))
              refine va_put (D := (dC, dI)) (ci := 8) (v := .int (nI (kt + 1 + 1))) (ty := tyX8 1) (C := RX8) (T := TX8) (N := 2) hx hb hts (fun _ h => List.mem_cons_of_mem _ (List.mem_append_right _ h)) tyX8 tyX8_ok nmX8 hown hK hP hD hS 0 rfl rfl 1 kc_l_1_2 (hts (.fieldLink RX8 15 "NotEnded$Tape" "length" "I") (List.mem_cons_of_mem _ (List.mem_append_left _ (List.mem_of_getElem? (i := 0) rfl)))) (fun _ h9 => h9) rfl (tyX8_ok 1 kc_l_1_2) rfl rfl (Nat.le_of_ble_eq_true rfl) dX8_append_49 (fun H locs hP hD hS => ?_)
              have hPD : kPD dC dI A [(jT, .inr (8, [.ref t0, .int (nI (kt + 1 + 1))])), (t0, .inl (cC, 120, .inl f_355))] H := ⟨hP, hD⟩
              have hP := hPD.1
              have hD := hPD.2
              refine lv_iinc (v := 0) hx hb dX8_append_52 hl (k := 1) rfl (by decide) kc_l_2_4 (kTo [(2, .int 0), (3, .int x_317), (0, .ref jT), (1, .int p0)]) (fun ls hl => ?_)
              refine lv_goto (tgt := 3) hx hb dX8_append_55 kc_t_55_m52 ?_
              refine lv_iload_n hx hb dX8_append_3 rfl (lv_at hl 0 rfl) ?_
              refine lv_if_lt (tgt := 58) hx hb dX8_append_4 kc_t_4_54 (fun c_358 => absurd c_358 (by decide)) (fun c_358 => ?_)
              refine lv_iload_n hx hb dX8_append_7 rfl (lv_at hl 3 rfl) ?_
              refine lv_iload_n hx hb dX8_append_8 rfl (lv_at hl 0 rfl) ?_
              obtain ⟨x_359, ex_359⟩ : ∃ z : Int32, z = (Int32.toUInt32 p0 >>> (Int32.toUInt32 0 &&& Int32.toUInt32 31)).toInt32 := ⟨_, rfl⟩
              refine lv_iushr (v := x_359) hx hb dX8_append_9 ex_359.symm ?_
              refine lv_sipush (v := 255) hx hb dX8_append_10 kc_s_255 ?_
              refine lv_iand hx hb dX8_append_13 ?_
              refine lv_topi (fun x_360 ex_360 => ?_)
              refine lv_istore_n hx hb dX8_append_14 rfl hl kc_l_3_4 (kTo [(3, .int x_360), (2, .int 0), (0, .ref jT), (1, .int p0)]) (fun ls hl => ?_)
              refine lv_iload_n hx hb dX8_append_15 rfl (lv_at hl 0 rfl) ?_
              refine lv_if_eq (tgt := 52) hx hb dX8_append_16 kc_t_16_36 (fun c_361 => ?_) (fun c_361 => ?_)
              · refine lv_iinc (v := (-8)) hx hb dX8_append_52 hl (k := 1) rfl (by decide) kc_l_2_4 (kTo [(2, .int (-8)), (3, .int x_360), (0, .ref jT), (1, .int p0)]) (fun ls hl => ?_)
                refine lv_goto (tgt := 3) hx hb dX8_append_55 kc_t_55_m52 ?_
                refine lv_iload_n hx hb dX8_append_3 rfl (lv_at hl 0 rfl) ?_
                refine lv_if_lt (tgt := 58) hx hb dX8_append_4 kc_t_4_54 (fun c_362 => ?_) (fun c_362 => absurd (by decide) c_362)
                have hP9 := hP
                have hD9 := hD
                have hK9 := hK
                rw [hQ]
                exact W.vret hx hb hr (fun t ht hW => ⟨⟨(f_355, (kt + 1 + 1)), rfl, ⟨by omega, (kNarU ef_355 (kNarU ef_312 hgT))⟩,  by rw [ht]; exact hP9, va_K.moved hW.alike hK9, hD9⟩, hS.F ht⟩) hS.2.2 dX8_append_58
              · refine lv_aload_n hx hb dX8_append_19 rfl (lv_at hl 2 rfl) ?_
                refine va_get (D := (dC, dI)) (ci := 8) (v := .int (nI (kt + 1 + 1))) (C := RX8) (T := TX8) (N := 2) hx hb hts (fun _ h => List.mem_cons_of_mem _ (List.mem_append_right _ h)) hown hK hP 0 rfl rfl 1 kc_l_1_2 (hts (.fieldLink RX8 15 "NotEnded$Tape" "length" "I") (List.mem_cons_of_mem _ (List.mem_append_left _ (List.mem_of_getElem? (i := 0) rfl)))) (fun _ h9 => h9) rfl dX8_append_20 ?_
                refine lv_aload_n hx hb dX8_append_23 rfl (lv_at hl 2 rfl) ?_
                refine va_get (D := (dC, dI)) (ci := 8) (v := .ref t0) (C := RX8) (T := TX8) (N := 2) hx hb hts (fun _ h => List.mem_cons_of_mem _ (List.mem_append_right _ h)) hown hK hP 0 rfl rfl 0 kc_l_0_2 (hts (.fieldLink RX8 9 "NotEnded$Tape" "signs" "[C") (List.mem_cons_of_mem _ (List.mem_append_left _ (List.mem_of_getElem? (i := 1) rfl)))) (fun _ h9 => h9) rfl dX8_append_24 ?_
                refine va_alen hx hb hK hP 1 0 rfl rfl (v := 120) rfl dX8_append_27 ?_
                refine lv_icmp_ge (tgt := 52) hx hb dX8_append_28 kc_t_28_24 (fun c_363 => ?_) (fun c_363 => ?_)
                · have bd_365 : kt + 1 + 1 < 2147483648 := by omega
                  have hn_364 := kle (a := 120) (b := kt + 1 + 1) kc_31_120 bd_365 c_363
                  refine lv_iinc (v := (-8)) hx hb dX8_append_52 hl (k := 1) rfl (by decide) kc_l_2_4 (kTo [(2, .int (-8)), (3, .int x_360), (0, .ref jT), (1, .int p0)]) (fun ls hl => ?_)
                  refine lv_goto (tgt := 3) hx hb dX8_append_55 kc_t_55_m52 ?_
                  refine lv_iload_n hx hb dX8_append_3 rfl (lv_at hl 0 rfl) ?_
                  refine lv_if_lt (tgt := 58) hx hb dX8_append_4 kc_t_4_54 (fun c_366 => ?_) (fun c_366 => absurd (by decide) c_366)
                  have hP9 := hP
                  have hD9 := hD
                  have hK9 := hK
                  rw [hQ]
                  exact W.vret hx hb hr (fun t ht hW => ⟨⟨(f_355, (kt + 1 + 1)), rfl, ⟨by omega, (kNarU ef_355 (kNarU ef_312 hgT))⟩,  by rw [ht]; exact hP9, va_K.moved hW.alike hK9, hD9⟩, hS.F ht⟩) hS.2.2 dX8_append_58
                · have bd_368 : kt + 1 + 1 < 2147483648 := by omega
                  have hn_367 := knle (a := 120) (b := kt + 1 + 1) kc_31_120 bd_368 c_363
                  refine lv_aload_n hx hb dX8_append_31 rfl (lv_at hl 2 rfl) ?_
                  refine va_get (D := (dC, dI)) (ci := 8) (v := .ref t0) (C := RX8) (T := TX8) (N := 2) hx hb hts (fun _ h => List.mem_cons_of_mem _ (List.mem_append_right _ h)) hown hK hP 0 rfl rfl 0 kc_l_0_2 (hts (.fieldLink RX8 9 "NotEnded$Tape" "signs" "[C") (List.mem_cons_of_mem _ (List.mem_append_left _ (List.mem_of_getElem? (i := 1) rfl)))) (fun _ h9 => h9) rfl dX8_append_32 ?_
                  refine lv_aload_n hx hb dX8_append_35 rfl (lv_at hl 2 rfl) ?_
                  refine va_get (D := (dC, dI)) (ci := 8) (v := .int (nI (kt + 1 + 1))) (C := RX8) (T := TX8) (N := 2) hx hb hts (fun _ h => List.mem_cons_of_mem _ (List.mem_append_right _ h)) hown hK hP 0 rfl rfl 1 kc_l_1_2 (hts (.fieldLink RX8 15 "NotEnded$Tape" "length" "I") (List.mem_cons_of_mem _ (List.mem_append_left _ (List.mem_of_getElem? (i := 0) rfl)))) (fun _ h9 => h9) rfl dX8_append_36 ?_
                  refine lv_iload_n hx hb dX8_append_39 rfl (lv_at hl 0 rfl) ?_
                  obtain ⟨x_369, ex_369⟩ : ∃ z : Int32, z = (Int32.toUInt32 x_360 % 65536).toInt32 := ⟨_, rfl⟩
                  refine lv_i2c (v := x_369) hx hb dX8_append_40 ex_369.symm ?_
                  have bd_371 : kt + 1 + 1 < 120 := by omega
                  refine va_cast hx hb hK hP hD hS 1 0 rfl rfl (vp_in_nI (n := kt + 1 + 1) (N := 120) bd_371 kc_31_120) dX8_append_41 (fun H locs hP hD hS => ?_)
                  obtain ⟨f_370, ef_370⟩ : ∃ gg9 : Nat → Int32, gg9 = upd f_355 (Int32.toNatClampNeg (nI (kt + 1 + 1))) (vp_nar .char x_369) := ⟨_, rfl⟩
                  have hPD : kPD dC dI A [(jT, .inr (8, [.ref t0, .int (nI (kt + 1 + 1))])), (t0, .inl (cC, 120, .inl f_370))] H := by rw [ef_370]; exact ⟨hP, hD⟩
                  have hP := hPD.1
                  have hD := hPD.2
                  refine lv_aload_n hx hb dX8_append_42 rfl (lv_at hl 2 rfl) ?_
                  refine lv_dup hx hb dX8_append_43 rfl ?_
                  refine va_get (D := (dC, dI)) (ci := 8) (v := .int (nI (kt + 1 + 1))) (C := RX8) (T := TX8) (N := 2) hx hb hts (fun _ h => List.mem_cons_of_mem _ (List.mem_append_right _ h)) hown hK hP 0 rfl rfl 1 kc_l_1_2 (hts (.fieldLink RX8 15 "NotEnded$Tape" "length" "I") (List.mem_cons_of_mem _ (List.mem_append_left _ (List.mem_of_getElem? (i := 0) rfl)))) (fun _ h9 => h9) rfl dX8_append_44 ?_
                  refine lv_iconst (v := 1) hx hb dX8_append_47 kc_i_1 ?_
                  refine lv_iadd hx hb dX8_append_48 ?_
                  refine lv_topi (fun y_372 ey_372 => ?_)
                  obtain rfl : y_372 = nI (kt + 1 + 1 + 1) := ey_372.trans (nI_add (kt + 1 + 1) (1))
                  refine va_put (D := (dC, dI)) (ci := 8) (v := .int (nI (kt + 1 + 1 + 1))) (ty := tyX8 1) (C := RX8) (T := TX8) (N := 2) hx hb hts (fun _ h => List.mem_cons_of_mem _ (List.mem_append_right _ h)) tyX8 tyX8_ok nmX8 hown hK hP hD hS 0 rfl rfl 1 kc_l_1_2 (hts (.fieldLink RX8 15 "NotEnded$Tape" "length" "I") (List.mem_cons_of_mem _ (List.mem_append_left _ (List.mem_of_getElem? (i := 0) rfl)))) (fun _ h9 => h9) rfl (tyX8_ok 1 kc_l_1_2) rfl rfl (Nat.le_of_ble_eq_true rfl) dX8_append_49 (fun H locs hP hD hS => ?_)
                  have hPD : kPD dC dI A [(jT, .inr (8, [.ref t0, .int (nI (kt + 1 + 1 + 1))])), (t0, .inl (cC, 120, .inl f_370))] H := ⟨hP, hD⟩
                  have hP := hPD.1
                  have hD := hPD.2
                  refine lv_iinc (v := (-8)) hx hb dX8_append_52 hl (k := 1) rfl (by decide) kc_l_2_4 (kTo [(2, .int (-8)), (3, .int x_360), (0, .ref jT), (1, .int p0)]) (fun ls hl => ?_)
                  refine lv_goto (tgt := 3) hx hb dX8_append_55 kc_t_55_m52 ?_
                  refine lv_iload_n hx hb dX8_append_3 rfl (lv_at hl 0 rfl) ?_
                  refine lv_if_lt (tgt := 58) hx hb dX8_append_4 kc_t_4_54 (fun c_373 => ?_) (fun c_373 => absurd (by decide) c_373)
                  have hP9 := hP
                  have hD9 := hD
                  have hK9 := hK
                  rw [hQ]
                  exact W.vret hx hb hr (fun t ht hW => ⟨⟨(f_370, (kt + 1 + 1 + 1)), rfl, ⟨by omega, (kNarU ef_370 (kNarU ef_355 (kNarU ef_312 hgT)))⟩,  by rw [ht]; exact hP9, va_K.moved hW.alike hK9, hD9⟩, hS.F ht⟩) hS.2.2 dX8_append_58
    · have bd_375 : kt < 2147483648 := by omega
      have hn_374 := knle (a := 120) (b := kt) kc_31_120 bd_375 c_191
      refine lv_aload_n hx hb dX8_append_31 rfl (lv_at hl 2 rfl) ?_
      refine va_get (D := (dC, dI)) (ci := 8) (v := .ref t0) (C := RX8) (T := TX8) (N := 2) hx hb hts (fun _ h => List.mem_cons_of_mem _ (List.mem_append_right _ h)) hown hK hP 0 rfl rfl 0 kc_l_0_2 (hts (.fieldLink RX8 9 "NotEnded$Tape" "signs" "[C") (List.mem_cons_of_mem _ (List.mem_append_left _ (List.mem_of_getElem? (i := 1) rfl)))) (fun _ h9 => h9) rfl dX8_append_32 ?_
      refine lv_aload_n hx hb dX8_append_35 rfl (lv_at hl 2 rfl) ?_
      refine va_get (D := (dC, dI)) (ci := 8) (v := .int (nI (kt))) (C := RX8) (T := TX8) (N := 2) hx hb hts (fun _ h => List.mem_cons_of_mem _ (List.mem_append_right _ h)) hown hK hP 0 rfl rfl 1 kc_l_1_2 (hts (.fieldLink RX8 15 "NotEnded$Tape" "length" "I") (List.mem_cons_of_mem _ (List.mem_append_left _ (List.mem_of_getElem? (i := 0) rfl)))) (fun _ h9 => h9) rfl dX8_append_36 ?_
      refine lv_iload_n hx hb dX8_append_39 rfl (lv_at hl 0 rfl) ?_
      obtain ⟨x_376, ex_376⟩ : ∃ z : Int32, z = (Int32.toUInt32 x_3 % 65536).toInt32 := ⟨_, rfl⟩
      refine lv_i2c (v := x_376) hx hb dX8_append_40 ex_376.symm ?_
      have bd_378 : kt < 120 := by omega
      refine va_cast hx hb hK hP hD hS 1 0 rfl rfl (vp_in_nI (n := kt) (N := 120) bd_378 kc_31_120) dX8_append_41 (fun H locs hP hD hS => ?_)
      obtain ⟨f_377, ef_377⟩ : ∃ gg9 : Nat → Int32, gg9 = upd gT (Int32.toNatClampNeg (nI (kt))) (vp_nar .char x_376) := ⟨_, rfl⟩
      have hPD : kPD dC dI A [(jT, .inr (8, [.ref t0, .int (nI (kt))])), (t0, .inl (cC, 120, .inl f_377))] H := by rw [ef_377]; exact ⟨hP, hD⟩
      have hP := hPD.1
      have hD := hPD.2
      refine lv_aload_n hx hb dX8_append_42 rfl (lv_at hl 2 rfl) ?_
      refine lv_dup hx hb dX8_append_43 rfl ?_
      refine va_get (D := (dC, dI)) (ci := 8) (v := .int (nI (kt))) (C := RX8) (T := TX8) (N := 2) hx hb hts (fun _ h => List.mem_cons_of_mem _ (List.mem_append_right _ h)) hown hK hP 0 rfl rfl 1 kc_l_1_2 (hts (.fieldLink RX8 15 "NotEnded$Tape" "length" "I") (List.mem_cons_of_mem _ (List.mem_append_left _ (List.mem_of_getElem? (i := 0) rfl)))) (fun _ h9 => h9) rfl dX8_append_44 ?_
      refine lv_iconst (v := 1) hx hb dX8_append_47 kc_i_1 ?_
      refine lv_iadd hx hb dX8_append_48 ?_
      refine lv_topi (fun y_379 ey_379 => ?_)
      obtain rfl : y_379 = nI (kt + 1) := ey_379.trans (nI_add (kt) (1))
      refine va_put (D := (dC, dI)) (ci := 8) (v := .int (nI (kt + 1))) (ty := tyX8 1) (C := RX8) (T := TX8) (N := 2) hx hb hts (fun _ h => List.mem_cons_of_mem _ (List.mem_append_right _ h)) tyX8 tyX8_ok nmX8 hown hK hP hD hS 0 rfl rfl 1 kc_l_1_2 (hts (.fieldLink RX8 15 "NotEnded$Tape" "length" "I") (List.mem_cons_of_mem _ (List.mem_append_left _ (List.mem_of_getElem? (i := 0) rfl)))) (fun _ h9 => h9) rfl (tyX8_ok 1 kc_l_1_2) rfl rfl (Nat.le_of_ble_eq_true rfl) dX8_append_49 (fun H locs hP hD hS => ?_)
      have hPD : kPD dC dI A [(jT, .inr (8, [.ref t0, .int (nI (kt + 1))])), (t0, .inl (cC, 120, .inl f_377))] H := ⟨hP, hD⟩
      have hP := hPD.1
      have hD := hPD.2
      refine lv_iinc (v := 16) hx hb dX8_append_52 hl (k := 1) rfl (by decide) kc_l_2_4 (kTo [(2, .int 16), (3, .int x_3), (0, .ref jT), (1, .int p0)]) (fun ls hl => ?_)
      refine lv_goto (tgt := 3) hx hb dX8_append_55 kc_t_55_m52 ?_
      refine lv_iload_n hx hb dX8_append_3 rfl (lv_at hl 0 rfl) ?_
      refine lv_if_lt (tgt := 58) hx hb dX8_append_4 kc_t_4_54 (fun c_380 => absurd c_380 (by decide)) (fun c_380 => ?_)
      refine lv_iload_n hx hb dX8_append_7 rfl (lv_at hl 3 rfl) ?_
      refine lv_iload_n hx hb dX8_append_8 rfl (lv_at hl 0 rfl) ?_
      obtain ⟨x_381, ex_381⟩ : ∃ z : Int32, z = (Int32.toUInt32 p0 >>> (Int32.toUInt32 16 &&& Int32.toUInt32 31)).toInt32 := ⟨_, rfl⟩
      refine lv_iushr (v := x_381) hx hb dX8_append_9 ex_381.symm ?_
      refine lv_sipush (v := 255) hx hb dX8_append_10 kc_s_255 ?_
      refine lv_iand hx hb dX8_append_13 ?_
      refine lv_topi (fun x_382 ex_382 => ?_)
      refine lv_istore_n hx hb dX8_append_14 rfl hl kc_l_3_4 (kTo [(3, .int x_382), (2, .int 16), (0, .ref jT), (1, .int p0)]) (fun ls hl => ?_)
      refine lv_iload_n hx hb dX8_append_15 rfl (lv_at hl 0 rfl) ?_
      refine lv_if_eq (tgt := 52) hx hb dX8_append_16 kc_t_16_36 (fun c_383 => ?_) (fun c_383 => ?_)
      · refine lv_iinc (v := 8) hx hb dX8_append_52 hl (k := 1) rfl (by decide) kc_l_2_4 (kTo [(2, .int 8), (3, .int x_382), (0, .ref jT), (1, .int p0)]) (fun ls hl => ?_)
        refine lv_goto (tgt := 3) hx hb dX8_append_55 kc_t_55_m52 ?_
        refine lv_iload_n hx hb dX8_append_3 rfl (lv_at hl 0 rfl) ?_
        refine lv_if_lt (tgt := 58) hx hb dX8_append_4 kc_t_4_54 (fun c_384 => absurd c_384 (by decide)) (fun c_384 => ?_)
        refine lv_iload_n hx hb dX8_append_7 rfl (lv_at hl 3 rfl) ?_
        refine lv_iload_n hx hb dX8_append_8 rfl (lv_at hl 0 rfl) ?_
        obtain ⟨x_385, ex_385⟩ : ∃ z : Int32, z = (Int32.toUInt32 p0 >>> (Int32.toUInt32 8 &&& Int32.toUInt32 31)).toInt32 := ⟨_, rfl⟩
        refine lv_iushr (v := x_385) hx hb dX8_append_9 ex_385.symm ?_
        refine lv_sipush (v := 255) hx hb dX8_append_10 kc_s_255 ?_
        refine lv_iand hx hb dX8_append_13 ?_
        refine lv_topi (fun x_386 ex_386 => ?_)
        refine lv_istore_n hx hb dX8_append_14 rfl hl kc_l_3_4 (kTo [(3, .int x_386), (2, .int 8), (0, .ref jT), (1, .int p0)]) (fun ls hl => ?_)
        refine lv_iload_n hx hb dX8_append_15 rfl (lv_at hl 0 rfl) ?_
        refine lv_if_eq (tgt := 52) hx hb dX8_append_16 kc_t_16_36 (fun c_387 => ?_) (fun c_387 => ?_)
        · refine lv_iinc (v := 0) hx hb dX8_append_52 hl (k := 1) rfl (by decide) kc_l_2_4 (kTo [(2, .int 0), (3, .int x_386), (0, .ref jT), (1, .int p0)]) (fun ls hl => ?_)
          refine lv_goto (tgt := 3) hx hb dX8_append_55 kc_t_55_m52 ?_
          refine lv_iload_n hx hb dX8_append_3 rfl (lv_at hl 0 rfl) ?_
          refine lv_if_lt (tgt := 58) hx hb dX8_append_4 kc_t_4_54 (fun c_388 => absurd c_388 (by decide)) (fun c_388 => ?_)
          refine lv_iload_n hx hb dX8_append_7 rfl (lv_at hl 3 rfl) ?_
          refine lv_iload_n hx hb dX8_append_8 rfl (lv_at hl 0 rfl) ?_
          obtain ⟨x_389, ex_389⟩ : ∃ z : Int32, z = (Int32.toUInt32 p0 >>> (Int32.toUInt32 0 &&& Int32.toUInt32 31)).toInt32 := ⟨_, rfl⟩
          refine lv_iushr (v := x_389) hx hb dX8_append_9 ex_389.symm ?_
          refine lv_sipush (v := 255) hx hb dX8_append_10 kc_s_255 ?_
          refine lv_iand hx hb dX8_append_13 ?_
          refine lv_topi (fun x_390 ex_390 => ?_)
          refine lv_istore_n hx hb dX8_append_14 rfl hl kc_l_3_4 (kTo [(3, .int x_390), (2, .int 0), (0, .ref jT), (1, .int p0)]) (fun ls hl => ?_)
          refine lv_iload_n hx hb dX8_append_15 rfl (lv_at hl 0 rfl) ?_
          refine lv_if_eq (tgt := 52) hx hb dX8_append_16 kc_t_16_36 (fun c_391 => ?_) (fun c_391 => ?_)
          · refine lv_iinc (v := (-8)) hx hb dX8_append_52 hl (k := 1) rfl (by decide) kc_l_2_4 (kTo [(2, .int (-8)), (3, .int x_390), (0, .ref jT), (1, .int p0)]) (fun ls hl => ?_)
            refine lv_goto (tgt := 3) hx hb dX8_append_55 kc_t_55_m52 ?_
            refine lv_iload_n hx hb dX8_append_3 rfl (lv_at hl 0 rfl) ?_
            refine lv_if_lt (tgt := 58) hx hb dX8_append_4 kc_t_4_54 (fun c_392 => ?_) (fun c_392 => absurd (by decide) c_392)
            have hP9 := hP
            have hD9 := hD
            have hK9 := hK
            rw [hQ]
            exact W.vret hx hb hr (fun t ht hW => ⟨⟨(f_377, (kt + 1)), rfl, ⟨by omega, (kNarU ef_377 hgT)⟩,  by rw [ht]; exact hP9, va_K.moved hW.alike hK9, hD9⟩, hS.F ht⟩) hS.2.2 dX8_append_58
          · refine lv_aload_n hx hb dX8_append_19 rfl (lv_at hl 2 rfl) ?_
            refine va_get (D := (dC, dI)) (ci := 8) (v := .int (nI (kt + 1))) (C := RX8) (T := TX8) (N := 2) hx hb hts (fun _ h => List.mem_cons_of_mem _ (List.mem_append_right _ h)) hown hK hP 0 rfl rfl 1 kc_l_1_2 (hts (.fieldLink RX8 15 "NotEnded$Tape" "length" "I") (List.mem_cons_of_mem _ (List.mem_append_left _ (List.mem_of_getElem? (i := 0) rfl)))) (fun _ h9 => h9) rfl dX8_append_20 ?_
            refine lv_aload_n hx hb dX8_append_23 rfl (lv_at hl 2 rfl) ?_
            refine va_get (D := (dC, dI)) (ci := 8) (v := .ref t0) (C := RX8) (T := TX8) (N := 2) hx hb hts (fun _ h => List.mem_cons_of_mem _ (List.mem_append_right _ h)) hown hK hP 0 rfl rfl 0 kc_l_0_2 (hts (.fieldLink RX8 9 "NotEnded$Tape" "signs" "[C") (List.mem_cons_of_mem _ (List.mem_append_left _ (List.mem_of_getElem? (i := 1) rfl)))) (fun _ h9 => h9) rfl dX8_append_24 ?_
            refine va_alen hx hb hK hP 1 0 rfl rfl (v := 120) rfl dX8_append_27 ?_
            refine lv_icmp_ge (tgt := 52) hx hb dX8_append_28 kc_t_28_24 (fun c_393 => ?_) (fun c_393 => ?_)
            · have bd_395 : kt + 1 < 2147483648 := by omega
              have hn_394 := kle (a := 120) (b := kt + 1) kc_31_120 bd_395 c_393
              refine lv_iinc (v := (-8)) hx hb dX8_append_52 hl (k := 1) rfl (by decide) kc_l_2_4 (kTo [(2, .int (-8)), (3, .int x_390), (0, .ref jT), (1, .int p0)]) (fun ls hl => ?_)
              refine lv_goto (tgt := 3) hx hb dX8_append_55 kc_t_55_m52 ?_
              refine lv_iload_n hx hb dX8_append_3 rfl (lv_at hl 0 rfl) ?_
              refine lv_if_lt (tgt := 58) hx hb dX8_append_4 kc_t_4_54 (fun c_396 => ?_) (fun c_396 => absurd (by decide) c_396)
              have hP9 := hP
              have hD9 := hD
              have hK9 := hK
              rw [hQ]
              exact W.vret hx hb hr (fun t ht hW => ⟨⟨(f_377, (kt + 1)), rfl, ⟨by omega, (kNarU ef_377 hgT)⟩,  by rw [ht]; exact hP9, va_K.moved hW.alike hK9, hD9⟩, hS.F ht⟩) hS.2.2 dX8_append_58
            · have bd_398 : kt + 1 < 2147483648 := by omega
              have hn_397 := knle (a := 120) (b := kt + 1) kc_31_120 bd_398 c_393
              refine lv_aload_n hx hb dX8_append_31 rfl (lv_at hl 2 rfl) ?_
              refine va_get (D := (dC, dI)) (ci := 8) (v := .ref t0) (C := RX8) (T := TX8) (N := 2) hx hb hts (fun _ h => List.mem_cons_of_mem _ (List.mem_append_right _ h)) hown hK hP 0 rfl rfl 0 kc_l_0_2 (hts (.fieldLink RX8 9 "NotEnded$Tape" "signs" "[C") (List.mem_cons_of_mem _ (List.mem_append_left _ (List.mem_of_getElem? (i := 1) rfl)))) (fun _ h9 => h9) rfl dX8_append_32 ?_
              refine lv_aload_n hx hb dX8_append_35 rfl (lv_at hl 2 rfl) ?_
              refine va_get (D := (dC, dI)) (ci := 8) (v := .int (nI (kt + 1))) (C := RX8) (T := TX8) (N := 2) hx hb hts (fun _ h => List.mem_cons_of_mem _ (List.mem_append_right _ h)) hown hK hP 0 rfl rfl 1 kc_l_1_2 (hts (.fieldLink RX8 15 "NotEnded$Tape" "length" "I") (List.mem_cons_of_mem _ (List.mem_append_left _ (List.mem_of_getElem? (i := 0) rfl)))) (fun _ h9 => h9) rfl dX8_append_36 ?_
              refine lv_iload_n hx hb dX8_append_39 rfl (lv_at hl 0 rfl) ?_
              obtain ⟨x_399, ex_399⟩ : ∃ z : Int32, z = (Int32.toUInt32 x_390 % 65536).toInt32 := ⟨_, rfl⟩
              refine lv_i2c (v := x_399) hx hb dX8_append_40 ex_399.symm ?_
              have bd_401 : kt + 1 < 120 := by omega
              refine va_cast hx hb hK hP hD hS 1 0 rfl rfl (vp_in_nI (n := kt + 1) (N := 120) bd_401 kc_31_120) dX8_append_41 (fun H locs hP hD hS => ?_)
              obtain ⟨f_400, ef_400⟩ : ∃ gg9 : Nat → Int32, gg9 = upd f_377 (Int32.toNatClampNeg (nI (kt + 1))) (vp_nar .char x_399) := ⟨_, rfl⟩
              have hPD : kPD dC dI A [(jT, .inr (8, [.ref t0, .int (nI (kt + 1))])), (t0, .inl (cC, 120, .inl f_400))] H := by rw [ef_400]; exact ⟨hP, hD⟩
              have hP := hPD.1
              have hD := hPD.2
              refine lv_aload_n hx hb dX8_append_42 rfl (lv_at hl 2 rfl) ?_
              refine lv_dup hx hb dX8_append_43 rfl ?_
              refine va_get (D := (dC, dI)) (ci := 8) (v := .int (nI (kt + 1))) (C := RX8) (T := TX8) (N := 2) hx hb hts (fun _ h => List.mem_cons_of_mem _ (List.mem_append_right _ h)) hown hK hP 0 rfl rfl 1 kc_l_1_2 (hts (.fieldLink RX8 15 "NotEnded$Tape" "length" "I") (List.mem_cons_of_mem _ (List.mem_append_left _ (List.mem_of_getElem? (i := 0) rfl)))) (fun _ h9 => h9) rfl dX8_append_44 ?_
              refine lv_iconst (v := 1) hx hb dX8_append_47 kc_i_1 ?_
              refine lv_iadd hx hb dX8_append_48 ?_
              refine lv_topi (fun y_402 ey_402 => ?_)
              obtain rfl : y_402 = nI (kt + 1 + 1) := ey_402.trans (nI_add (kt + 1) (1))
              refine va_put (D := (dC, dI)) (ci := 8) (v := .int (nI (kt + 1 + 1))) (ty := tyX8 1) (C := RX8) (T := TX8) (N := 2) hx hb hts (fun _ h => List.mem_cons_of_mem _ (List.mem_append_right _ h)) tyX8 tyX8_ok nmX8 hown hK hP hD hS 0 rfl rfl 1 kc_l_1_2 (hts (.fieldLink RX8 15 "NotEnded$Tape" "length" "I") (List.mem_cons_of_mem _ (List.mem_append_left _ (List.mem_of_getElem? (i := 0) rfl)))) (fun _ h9 => h9) rfl (tyX8_ok 1 kc_l_1_2) rfl rfl (Nat.le_of_ble_eq_true rfl) dX8_append_49 (fun H locs hP hD hS => ?_)
              have hPD : kPD dC dI A [(jT, .inr (8, [.ref t0, .int (nI (kt + 1 + 1))])), (t0, .inl (cC, 120, .inl f_400))] H := ⟨hP, hD⟩
              have hP := hPD.1
              have hD := hPD.2
              refine lv_iinc (v := (-8)) hx hb dX8_append_52 hl (k := 1) rfl (by decide) kc_l_2_4 (kTo [(2, .int (-8)), (3, .int x_390), (0, .ref jT), (1, .int p0)]) (fun ls hl => ?_)
              refine lv_goto (tgt := 3) hx hb dX8_append_55 kc_t_55_m52 ?_
              refine lv_iload_n hx hb dX8_append_3 rfl (lv_at hl 0 rfl) ?_
              refine lv_if_lt (tgt := 58) hx hb dX8_append_4 kc_t_4_54 (fun c_403 => ?_) (fun c_403 => absurd (by decide) c_403)
              have hP9 := hP
              have hD9 := hD
              have hK9 := hK
              rw [hQ]
              exact W.vret hx hb hr (fun t ht hW => ⟨⟨(f_400, (kt + 1 + 1)), rfl, ⟨by omega, (kNarU ef_400 (kNarU ef_377 hgT))⟩,  by rw [ht]; exact hP9, va_K.moved hW.alike hK9, hD9⟩, hS.F ht⟩) hS.2.2 dX8_append_58
        · refine lv_aload_n hx hb dX8_append_19 rfl (lv_at hl 2 rfl) ?_
          refine va_get (D := (dC, dI)) (ci := 8) (v := .int (nI (kt + 1))) (C := RX8) (T := TX8) (N := 2) hx hb hts (fun _ h => List.mem_cons_of_mem _ (List.mem_append_right _ h)) hown hK hP 0 rfl rfl 1 kc_l_1_2 (hts (.fieldLink RX8 15 "NotEnded$Tape" "length" "I") (List.mem_cons_of_mem _ (List.mem_append_left _ (List.mem_of_getElem? (i := 0) rfl)))) (fun _ h9 => h9) rfl dX8_append_20 ?_
          refine lv_aload_n hx hb dX8_append_23 rfl (lv_at hl 2 rfl) ?_
          refine va_get (D := (dC, dI)) (ci := 8) (v := .ref t0) (C := RX8) (T := TX8) (N := 2) hx hb hts (fun _ h => List.mem_cons_of_mem _ (List.mem_append_right _ h)) hown hK hP 0 rfl rfl 0 kc_l_0_2 (hts (.fieldLink RX8 9 "NotEnded$Tape" "signs" "[C") (List.mem_cons_of_mem _ (List.mem_append_left _ (List.mem_of_getElem? (i := 1) rfl)))) (fun _ h9 => h9) rfl dX8_append_24 ?_
          refine va_alen hx hb hK hP 1 0 rfl rfl (v := 120) rfl dX8_append_27 ?_
          refine lv_icmp_ge (tgt := 52) hx hb dX8_append_28 kc_t_28_24 (fun c_404 => ?_) (fun c_404 => ?_)
          · have bd_406 : kt + 1 < 2147483648 := by omega
            have hn_405 := kle (a := 120) (b := kt + 1) kc_31_120 bd_406 c_404
            refine lv_iinc (v := 0) hx hb dX8_append_52 hl (k := 1) rfl (by decide) kc_l_2_4 (kTo [(2, .int 0), (3, .int x_386), (0, .ref jT), (1, .int p0)]) (fun ls hl => ?_)
            refine lv_goto (tgt := 3) hx hb dX8_append_55 kc_t_55_m52 ?_
            refine lv_iload_n hx hb dX8_append_3 rfl (lv_at hl 0 rfl) ?_
            refine lv_if_lt (tgt := 58) hx hb dX8_append_4 kc_t_4_54 (fun c_407 => absurd c_407 (by decide)) (fun c_407 => ?_)
            refine lv_iload_n hx hb dX8_append_7 rfl (lv_at hl 3 rfl) ?_
            refine lv_iload_n hx hb dX8_append_8 rfl (lv_at hl 0 rfl) ?_
            obtain ⟨x_408, ex_408⟩ : ∃ z : Int32, z = (Int32.toUInt32 p0 >>> (Int32.toUInt32 0 &&& Int32.toUInt32 31)).toInt32 := ⟨_, rfl⟩
            refine lv_iushr (v := x_408) hx hb dX8_append_9 ex_408.symm ?_
            refine lv_sipush (v := 255) hx hb dX8_append_10 kc_s_255 ?_
            refine lv_iand hx hb dX8_append_13 ?_
            refine lv_topi (fun x_409 ex_409 => ?_)
            refine lv_istore_n hx hb dX8_append_14 rfl hl kc_l_3_4 (kTo [(3, .int x_409), (2, .int 0), (0, .ref jT), (1, .int p0)]) (fun ls hl => ?_)
            refine lv_iload_n hx hb dX8_append_15 rfl (lv_at hl 0 rfl) ?_
            refine lv_if_eq (tgt := 52) hx hb dX8_append_16 kc_t_16_36 (fun c_410 => ?_) (fun c_410 => ?_)
            · refine lv_iinc (v := (-8)) hx hb dX8_append_52 hl (k := 1) rfl (by decide) kc_l_2_4 (kTo [(2, .int (-8)), (3, .int x_409), (0, .ref jT), (1, .int p0)]) (fun ls hl => ?_)
              refine lv_goto (tgt := 3) hx hb dX8_append_55 kc_t_55_m52 ?_
              refine lv_iload_n hx hb dX8_append_3 rfl (lv_at hl 0 rfl) ?_
              refine lv_if_lt (tgt := 58) hx hb dX8_append_4 kc_t_4_54 (fun c_411 => ?_) (fun c_411 => absurd (by decide) c_411)
              have hP9 := hP
              have hD9 := hD
              have hK9 := hK
              rw [hQ]
              exact W.vret hx hb hr (fun t ht hW => ⟨⟨(f_377, (kt + 1)), rfl, ⟨by omega, (kNarU ef_377 hgT)⟩,  by rw [ht]; exact hP9, va_K.moved hW.alike hK9, hD9⟩, hS.F ht⟩) hS.2.2 dX8_append_58
            · refine lv_aload_n hx hb dX8_append_19 rfl (lv_at hl 2 rfl) ?_
              refine va_get (D := (dC, dI)) (ci := 8) (v := .int (nI (kt + 1))) (C := RX8) (T := TX8) (N := 2) hx hb hts (fun _ h => List.mem_cons_of_mem _ (List.mem_append_right _ h)) hown hK hP 0 rfl rfl 1 kc_l_1_2 (hts (.fieldLink RX8 15 "NotEnded$Tape" "length" "I") (List.mem_cons_of_mem _ (List.mem_append_left _ (List.mem_of_getElem? (i := 0) rfl)))) (fun _ h9 => h9) rfl dX8_append_20 ?_
              refine lv_aload_n hx hb dX8_append_23 rfl (lv_at hl 2 rfl) ?_
              refine va_get (D := (dC, dI)) (ci := 8) (v := .ref t0) (C := RX8) (T := TX8) (N := 2) hx hb hts (fun _ h => List.mem_cons_of_mem _ (List.mem_append_right _ h)) hown hK hP 0 rfl rfl 0 kc_l_0_2 (hts (.fieldLink RX8 9 "NotEnded$Tape" "signs" "[C") (List.mem_cons_of_mem _ (List.mem_append_left _ (List.mem_of_getElem? (i := 1) rfl)))) (fun _ h9 => h9) rfl dX8_append_24 ?_
              refine va_alen hx hb hK hP 1 0 rfl rfl (v := 120) rfl dX8_append_27 ?_
              refine lv_icmp_ge (tgt := 52) hx hb dX8_append_28 kc_t_28_24 (fun c_412 => ?_) (fun c_412 => ?_)
              · have hn_413 := kle (a := 120) (b := kt + 1) kc_31_120 bd_406 c_412
                refine lv_iinc (v := (-8)) hx hb dX8_append_52 hl (k := 1) rfl (by decide) kc_l_2_4 (kTo [(2, .int (-8)), (3, .int x_409), (0, .ref jT), (1, .int p0)]) (fun ls hl => ?_)
                refine lv_goto (tgt := 3) hx hb dX8_append_55 kc_t_55_m52 ?_
                refine lv_iload_n hx hb dX8_append_3 rfl (lv_at hl 0 rfl) ?_
                refine lv_if_lt (tgt := 58) hx hb dX8_append_4 kc_t_4_54 (fun c_414 => ?_) (fun c_414 => absurd (by decide) c_414)
                have hP9 := hP
                have hD9 := hD
                have hK9 := hK
                rw [hQ]
                exact W.vret hx hb hr (fun t ht hW => ⟨⟨(f_377, (kt + 1)), rfl, ⟨by omega, (kNarU ef_377 hgT)⟩,  by rw [ht]; exact hP9, va_K.moved hW.alike hK9, hD9⟩, hS.F ht⟩) hS.2.2 dX8_append_58
              · have hn_415 := knle (a := 120) (b := kt + 1) kc_31_120 bd_406 c_412
                refine lv_aload_n hx hb dX8_append_31 rfl (lv_at hl 2 rfl) ?_
                refine va_get (D := (dC, dI)) (ci := 8) (v := .ref t0) (C := RX8) (T := TX8) (N := 2) hx hb hts (fun _ h => List.mem_cons_of_mem _ (List.mem_append_right _ h)) hown hK hP 0 rfl rfl 0 kc_l_0_2 (hts (.fieldLink RX8 9 "NotEnded$Tape" "signs" "[C") (List.mem_cons_of_mem _ (List.mem_append_left _ (List.mem_of_getElem? (i := 1) rfl)))) (fun _ h9 => h9) rfl dX8_append_32 ?_
                refine lv_aload_n hx hb dX8_append_35 rfl (lv_at hl 2 rfl) ?_
                refine va_get (D := (dC, dI)) (ci := 8) (v := .int (nI (kt + 1))) (C := RX8) (T := TX8) (N := 2) hx hb hts (fun _ h => List.mem_cons_of_mem _ (List.mem_append_right _ h)) hown hK hP 0 rfl rfl 1 kc_l_1_2 (hts (.fieldLink RX8 15 "NotEnded$Tape" "length" "I") (List.mem_cons_of_mem _ (List.mem_append_left _ (List.mem_of_getElem? (i := 0) rfl)))) (fun _ h9 => h9) rfl dX8_append_36 ?_
                refine lv_iload_n hx hb dX8_append_39 rfl (lv_at hl 0 rfl) ?_
                obtain ⟨x_416, ex_416⟩ : ∃ z : Int32, z = (Int32.toUInt32 x_409 % 65536).toInt32 := ⟨_, rfl⟩
                refine lv_i2c (v := x_416) hx hb dX8_append_40 ex_416.symm ?_
                have bd_418 : kt + 1 < 120 := by omega
                refine va_cast hx hb hK hP hD hS 1 0 rfl rfl (vp_in_nI (n := kt + 1) (N := 120) bd_418 kc_31_120) dX8_append_41 (fun H locs hP hD hS => ?_)
                obtain ⟨f_417, ef_417⟩ : ∃ gg9 : Nat → Int32, gg9 = upd f_377 (Int32.toNatClampNeg (nI (kt + 1))) (vp_nar .char x_416) := ⟨_, rfl⟩
                have hPD : kPD dC dI A [(jT, .inr (8, [.ref t0, .int (nI (kt + 1))])), (t0, .inl (cC, 120, .inl f_417))] H := by rw [ef_417]; exact ⟨hP, hD⟩
                have hP := hPD.1
                have hD := hPD.2
                refine lv_aload_n hx hb dX8_append_42 rfl (lv_at hl 2 rfl) ?_
                refine lv_dup hx hb dX8_append_43 rfl ?_
                refine va_get (D := (dC, dI)) (ci := 8) (v := .int (nI (kt + 1))) (C := RX8) (T := TX8) (N := 2) hx hb hts (fun _ h => List.mem_cons_of_mem _ (List.mem_append_right _ h)) hown hK hP 0 rfl rfl 1 kc_l_1_2 (hts (.fieldLink RX8 15 "NotEnded$Tape" "length" "I") (List.mem_cons_of_mem _ (List.mem_append_left _ (List.mem_of_getElem? (i := 0) rfl)))) (fun _ h9 => h9) rfl dX8_append_44 ?_
                refine lv_iconst (v := 1) hx hb dX8_append_47 kc_i_1 ?_
                refine lv_iadd hx hb dX8_append_48 ?_
                refine lv_topi (fun y_419 ey_419 => ?_)
                obtain rfl : y_419 = nI (kt + 1 + 1) := ey_419.trans (nI_add (kt + 1) (1))
                refine va_put (D := (dC, dI)) (ci := 8) (v := .int (nI (kt + 1 + 1))) (ty := tyX8 1) (C := RX8) (T := TX8) (N := 2) hx hb hts (fun _ h => List.mem_cons_of_mem _ (List.mem_append_right _ h)) tyX8 tyX8_ok nmX8 hown hK hP hD hS 0 rfl rfl 1 kc_l_1_2 (hts (.fieldLink RX8 15 "NotEnded$Tape" "length" "I") (List.mem_cons_of_mem _ (List.mem_append_left _ (List.mem_of_getElem? (i := 0) rfl)))) (fun _ h9 => h9) rfl (tyX8_ok 1 kc_l_1_2) rfl rfl (Nat.le_of_ble_eq_true rfl) dX8_append_49 (fun H locs hP hD hS => ?_)
                have hPD : kPD dC dI A [(jT, .inr (8, [.ref t0, .int (nI (kt + 1 + 1))])), (t0, .inl (cC, 120, .inl f_417))] H := ⟨hP, hD⟩
                have hP := hPD.1
                have hD := hPD.2
                refine lv_iinc (v := (-8)) hx hb dX8_append_52 hl (k := 1) rfl (by decide) kc_l_2_4 (kTo [(2, .int (-8)), (3, .int x_409), (0, .ref jT), (1, .int p0)]) (fun ls hl => ?_)
                refine lv_goto (tgt := 3) hx hb dX8_append_55 kc_t_55_m52 ?_
                refine lv_iload_n hx hb dX8_append_3 rfl (lv_at hl 0 rfl) ?_
                refine lv_if_lt (tgt := 58) hx hb dX8_append_4 kc_t_4_54 (fun c_420 => ?_) (fun c_420 => absurd (by decide) c_420)
                have hP9 := hP
                have hD9 := hD
                have hK9 := hK
                rw [hQ]
                exact W.vret hx hb hr (fun t ht hW => ⟨⟨(f_417, (kt + 1 + 1)), rfl, ⟨by omega, (kNarU ef_417 (kNarU ef_377 hgT))⟩,  by rw [ht]; exact hP9, va_K.moved hW.alike hK9, hD9⟩, hS.F ht⟩) hS.2.2 dX8_append_58
          · have bd_422 : kt + 1 < 2147483648 := by omega
            have hn_421 := knle (a := 120) (b := kt + 1) kc_31_120 bd_422 c_404
            refine lv_aload_n hx hb dX8_append_31 rfl (lv_at hl 2 rfl) ?_
            refine va_get (D := (dC, dI)) (ci := 8) (v := .ref t0) (C := RX8) (T := TX8) (N := 2) hx hb hts (fun _ h => List.mem_cons_of_mem _ (List.mem_append_right _ h)) hown hK hP 0 rfl rfl 0 kc_l_0_2 (hts (.fieldLink RX8 9 "NotEnded$Tape" "signs" "[C") (List.mem_cons_of_mem _ (List.mem_append_left _ (List.mem_of_getElem? (i := 1) rfl)))) (fun _ h9 => h9) rfl dX8_append_32 ?_
            refine lv_aload_n hx hb dX8_append_35 rfl (lv_at hl 2 rfl) ?_
            refine va_get (D := (dC, dI)) (ci := 8) (v := .int (nI (kt + 1))) (C := RX8) (T := TX8) (N := 2) hx hb hts (fun _ h => List.mem_cons_of_mem _ (List.mem_append_right _ h)) hown hK hP 0 rfl rfl 1 kc_l_1_2 (hts (.fieldLink RX8 15 "NotEnded$Tape" "length" "I") (List.mem_cons_of_mem _ (List.mem_append_left _ (List.mem_of_getElem? (i := 0) rfl)))) (fun _ h9 => h9) rfl dX8_append_36 ?_
            refine lv_iload_n hx hb dX8_append_39 rfl (lv_at hl 0 rfl) ?_
            obtain ⟨x_423, ex_423⟩ : ∃ z : Int32, z = (Int32.toUInt32 x_386 % 65536).toInt32 := ⟨_, rfl⟩
            refine lv_i2c (v := x_423) hx hb dX8_append_40 ex_423.symm ?_
            have bd_425 : kt + 1 < 120 := by omega
            refine va_cast hx hb hK hP hD hS 1 0 rfl rfl (vp_in_nI (n := kt + 1) (N := 120) bd_425 kc_31_120) dX8_append_41 (fun H locs hP hD hS => ?_)
            obtain ⟨f_424, ef_424⟩ : ∃ gg9 : Nat → Int32, gg9 = upd f_377 (Int32.toNatClampNeg (nI (kt + 1))) (vp_nar .char x_423) := ⟨_, rfl⟩
            have hPD : kPD dC dI A [(jT, .inr (8, [.ref t0, .int (nI (kt + 1))])), (t0, .inl (cC, 120, .inl f_424))] H := by rw [ef_424]; exact ⟨hP, hD⟩
            have hP := hPD.1
            have hD := hPD.2
            refine lv_aload_n hx hb dX8_append_42 rfl (lv_at hl 2 rfl) ?_
            refine lv_dup hx hb dX8_append_43 rfl ?_
            refine va_get (D := (dC, dI)) (ci := 8) (v := .int (nI (kt + 1))) (C := RX8) (T := TX8) (N := 2) hx hb hts (fun _ h => List.mem_cons_of_mem _ (List.mem_append_right _ h)) hown hK hP 0 rfl rfl 1 kc_l_1_2 (hts (.fieldLink RX8 15 "NotEnded$Tape" "length" "I") (List.mem_cons_of_mem _ (List.mem_append_left _ (List.mem_of_getElem? (i := 0) rfl)))) (fun _ h9 => h9) rfl dX8_append_44 ?_
            refine lv_iconst (v := 1) hx hb dX8_append_47 kc_i_1 ?_
            refine lv_iadd hx hb dX8_append_48 ?_
            refine lv_topi (fun y_426 ey_426 => ?_)
            obtain rfl : y_426 = nI (kt + 1 + 1) := ey_426.trans (nI_add (kt + 1) (1))
            refine va_put (D := (dC, dI)) (ci := 8) (v := .int (nI (kt + 1 + 1))) (ty := tyX8 1) (C := RX8) (T := TX8) (N := 2) hx hb hts (fun _ h => List.mem_cons_of_mem _ (List.mem_append_right _ h)) tyX8 tyX8_ok nmX8 hown hK hP hD hS 0 rfl rfl 1 kc_l_1_2 (hts (.fieldLink RX8 15 "NotEnded$Tape" "length" "I") (List.mem_cons_of_mem _ (List.mem_append_left _ (List.mem_of_getElem? (i := 0) rfl)))) (fun _ h9 => h9) rfl (tyX8_ok 1 kc_l_1_2) rfl rfl (Nat.le_of_ble_eq_true rfl) dX8_append_49 (fun H locs hP hD hS => ?_)
            have hPD : kPD dC dI A [(jT, .inr (8, [.ref t0, .int (nI (kt + 1 + 1))])), (t0, .inl (cC, 120, .inl f_424))] H := ⟨hP, hD⟩
            have hP := hPD.1
            have hD := hPD.2
            refine lv_iinc (v := 0) hx hb dX8_append_52 hl (k := 1) rfl (by decide) kc_l_2_4 (kTo [(2, .int 0), (3, .int x_386), (0, .ref jT), (1, .int p0)]) (fun ls hl => ?_)
            refine lv_goto (tgt := 3) hx hb dX8_append_55 kc_t_55_m52 ?_
            refine lv_iload_n hx hb dX8_append_3 rfl (lv_at hl 0 rfl) ?_
            refine lv_if_lt (tgt := 58) hx hb dX8_append_4 kc_t_4_54 (fun c_427 => absurd c_427 (by decide)) (fun c_427 => ?_)
            refine lv_iload_n hx hb dX8_append_7 rfl (lv_at hl 3 rfl) ?_
            refine lv_iload_n hx hb dX8_append_8 rfl (lv_at hl 0 rfl) ?_
            obtain ⟨x_428, ex_428⟩ : ∃ z : Int32, z = (Int32.toUInt32 p0 >>> (Int32.toUInt32 0 &&& Int32.toUInt32 31)).toInt32 := ⟨_, rfl⟩
            refine lv_iushr (v := x_428) hx hb dX8_append_9 ex_428.symm ?_
            refine lv_sipush (v := 255) hx hb dX8_append_10 kc_s_255 ?_
            refine lv_iand hx hb dX8_append_13 ?_
            refine lv_topi (fun x_429 ex_429 => ?_)
            refine lv_istore_n hx hb dX8_append_14 rfl hl kc_l_3_4 (kTo [(3, .int x_429), (2, .int 0), (0, .ref jT), (1, .int p0)]) (fun ls hl => ?_)
            refine lv_iload_n hx hb dX8_append_15 rfl (lv_at hl 0 rfl) ?_
            refine lv_if_eq (tgt := 52) hx hb dX8_append_16 kc_t_16_36 (fun c_430 => ?_) (fun c_430 => ?_)
            · refine lv_iinc (v := (-8)) hx hb dX8_append_52 hl (k := 1) rfl (by decide) kc_l_2_4 (kTo [(2, .int (-8)), (3, .int x_429), (0, .ref jT), (1, .int p0)]) (fun ls hl => ?_)
              refine lv_goto (tgt := 3) hx hb dX8_append_55 kc_t_55_m52 ?_
              refine lv_iload_n hx hb dX8_append_3 rfl (lv_at hl 0 rfl) ?_
              refine lv_if_lt (tgt := 58) hx hb dX8_append_4 kc_t_4_54 (fun c_431 => ?_) (fun c_431 => absurd (by decide) c_431)
              have hP9 := hP
              have hD9 := hD
              have hK9 := hK
              rw [hQ]
              exact W.vret hx hb hr (fun t ht hW => ⟨⟨(f_424, (kt + 1 + 1)), rfl, ⟨by omega, (kNarU ef_424 (kNarU ef_377 hgT))⟩,  by rw [ht]; exact hP9, va_K.moved hW.alike hK9, hD9⟩, hS.F ht⟩) hS.2.2 dX8_append_58
            · refine lv_aload_n hx hb dX8_append_19 rfl (lv_at hl 2 rfl) ?_
              refine va_get (D := (dC, dI)) (ci := 8) (v := .int (nI (kt + 1 + 1))) (C := RX8) (T := TX8) (N := 2) hx hb hts (fun _ h => List.mem_cons_of_mem _ (List.mem_append_right _ h)) hown hK hP 0 rfl rfl 1 kc_l_1_2 (hts (.fieldLink RX8 15 "NotEnded$Tape" "length" "I") (List.mem_cons_of_mem _ (List.mem_append_left _ (List.mem_of_getElem? (i := 0) rfl)))) (fun _ h9 => h9) rfl dX8_append_20 ?_
              refine lv_aload_n hx hb dX8_append_23 rfl (lv_at hl 2 rfl) ?_
              refine va_get (D := (dC, dI)) (ci := 8) (v := .ref t0) (C := RX8) (T := TX8) (N := 2) hx hb hts (fun _ h => List.mem_cons_of_mem _ (List.mem_append_right _ h)) hown hK hP 0 rfl rfl 0 kc_l_0_2 (hts (.fieldLink RX8 9 "NotEnded$Tape" "signs" "[C") (List.mem_cons_of_mem _ (List.mem_append_left _ (List.mem_of_getElem? (i := 1) rfl)))) (fun _ h9 => h9) rfl dX8_append_24 ?_
              refine va_alen hx hb hK hP 1 0 rfl rfl (v := 120) rfl dX8_append_27 ?_
              refine lv_icmp_ge (tgt := 52) hx hb dX8_append_28 kc_t_28_24 (fun c_432 => ?_) (fun c_432 => ?_)
              · have bd_434 : kt + 1 + 1 < 2147483648 := by omega
                have hn_433 := kle (a := 120) (b := kt + 1 + 1) kc_31_120 bd_434 c_432
                refine lv_iinc (v := (-8)) hx hb dX8_append_52 hl (k := 1) rfl (by decide) kc_l_2_4 (kTo [(2, .int (-8)), (3, .int x_429), (0, .ref jT), (1, .int p0)]) (fun ls hl => ?_)
                refine lv_goto (tgt := 3) hx hb dX8_append_55 kc_t_55_m52 ?_
                refine lv_iload_n hx hb dX8_append_3 rfl (lv_at hl 0 rfl) ?_
                refine lv_if_lt (tgt := 58) hx hb dX8_append_4 kc_t_4_54 (fun c_435 => ?_) (fun c_435 => absurd (by decide) c_435)
                have hP9 := hP
                have hD9 := hD
                have hK9 := hK
                rw [hQ]
                exact W.vret hx hb hr (fun t ht hW => ⟨⟨(f_424, (kt + 1 + 1)), rfl, ⟨by omega, (kNarU ef_424 (kNarU ef_377 hgT))⟩,  by rw [ht]; exact hP9, va_K.moved hW.alike hK9, hD9⟩, hS.F ht⟩) hS.2.2 dX8_append_58
              · have bd_437 : kt + 1 + 1 < 2147483648 := by omega
                have hn_436 := knle (a := 120) (b := kt + 1 + 1) kc_31_120 bd_437 c_432
                refine lv_aload_n hx hb dX8_append_31 rfl (lv_at hl 2 rfl) ?_
                refine va_get (D := (dC, dI)) (ci := 8) (v := .ref t0) (C := RX8) (T := TX8) (N := 2) hx hb hts (fun _ h => List.mem_cons_of_mem _ (List.mem_append_right _ h)) hown hK hP 0 rfl rfl 0 kc_l_0_2 (hts (.fieldLink RX8 9 "NotEnded$Tape" "signs" "[C") (List.mem_cons_of_mem _ (List.mem_append_left _ (List.mem_of_getElem? (i := 1) rfl)))) (fun _ h9 => h9) rfl dX8_append_32 ?_
                refine lv_aload_n hx hb dX8_append_35 rfl (lv_at hl 2 rfl) ?_
                refine va_get (D := (dC, dI)) (ci := 8) (v := .int (nI (kt + 1 + 1))) (C := RX8) (T := TX8) (N := 2) hx hb hts (fun _ h => List.mem_cons_of_mem _ (List.mem_append_right _ h)) hown hK hP 0 rfl rfl 1 kc_l_1_2 (hts (.fieldLink RX8 15 "NotEnded$Tape" "length" "I") (List.mem_cons_of_mem _ (List.mem_append_left _ (List.mem_of_getElem? (i := 0) rfl)))) (fun _ h9 => h9) rfl dX8_append_36 ?_
                refine lv_iload_n hx hb dX8_append_39 rfl (lv_at hl 0 rfl) ?_
                obtain ⟨x_438, ex_438⟩ : ∃ z : Int32, z = (Int32.toUInt32 x_429 % 65536).toInt32 := ⟨_, rfl⟩
                refine lv_i2c (v := x_438) hx hb dX8_append_40 ex_438.symm ?_
                have bd_440 : kt + 1 + 1 < 120 := by omega
                refine va_cast hx hb hK hP hD hS 1 0 rfl rfl (vp_in_nI (n := kt + 1 + 1) (N := 120) bd_440 kc_31_120) dX8_append_41 (fun H locs hP hD hS => ?_)
                obtain ⟨f_439, ef_439⟩ : ∃ gg9 : Nat → Int32, gg9 = upd f_424 (Int32.toNatClampNeg (nI (kt + 1 + 1))) (vp_nar .char x_438) := ⟨_, rfl⟩
                have hPD : kPD dC dI A [(jT, .inr (8, [.ref t0, .int (nI (kt + 1 + 1))])), (t0, .inl (cC, 120, .inl f_439))] H := by rw [ef_439]; exact ⟨hP, hD⟩
                have hP := hPD.1
                have hD := hPD.2
                refine lv_aload_n hx hb dX8_append_42 rfl (lv_at hl 2 rfl) ?_
                refine lv_dup hx hb dX8_append_43 rfl ?_
                refine va_get (D := (dC, dI)) (ci := 8) (v := .int (nI (kt + 1 + 1))) (C := RX8) (T := TX8) (N := 2) hx hb hts (fun _ h => List.mem_cons_of_mem _ (List.mem_append_right _ h)) hown hK hP 0 rfl rfl 1 kc_l_1_2 (hts (.fieldLink RX8 15 "NotEnded$Tape" "length" "I") (List.mem_cons_of_mem _ (List.mem_append_left _ (List.mem_of_getElem? (i := 0) rfl)))) (fun _ h9 => h9) rfl dX8_append_44 ?_
                refine lv_iconst (v := 1) hx hb dX8_append_47 kc_i_1 ?_
                refine lv_iadd hx hb dX8_append_48 ?_
                refine lv_topi (fun y_441 ey_441 => ?_)
                obtain rfl : y_441 = nI (kt + 1 + 1 + 1) := ey_441.trans (nI_add (kt + 1 + 1) (1))
                refine va_put (D := (dC, dI)) (ci := 8) (v := .int (nI (kt + 1 + 1 + 1))) (ty := tyX8 1) (C := RX8) (T := TX8) (N := 2) hx hb hts (fun _ h => List.mem_cons_of_mem _ (List.mem_append_right _ h)) tyX8 tyX8_ok nmX8 hown hK hP hD hS 0 rfl rfl 1 kc_l_1_2 (hts (.fieldLink RX8 15 "NotEnded$Tape" "length" "I") (List.mem_cons_of_mem _ (List.mem_append_left _ (List.mem_of_getElem? (i := 0) rfl)))) (fun _ h9 => h9) rfl (tyX8_ok 1 kc_l_1_2) rfl rfl (Nat.le_of_ble_eq_true rfl) dX8_append_49 (fun H locs hP hD hS => ?_)
                have hPD : kPD dC dI A [(jT, .inr (8, [.ref t0, .int (nI (kt + 1 + 1 + 1))])), (t0, .inl (cC, 120, .inl f_439))] H := ⟨hP, hD⟩
                have hP := hPD.1
                have hD := hPD.2
                refine lv_iinc (v := (-8)) hx hb dX8_append_52 hl (k := 1) rfl (by decide) kc_l_2_4 (kTo [(2, .int (-8)), (3, .int x_429), (0, .ref jT), (1, .int p0)]) (fun ls hl => ?_)
                refine lv_goto (tgt := 3) hx hb dX8_append_55 kc_t_55_m52 ?_
                refine lv_iload_n hx hb dX8_append_3 rfl (lv_at hl 0 rfl) ?_
                refine lv_if_lt (tgt := 58) hx hb dX8_append_4 kc_t_4_54 (fun c_442 => ?_) (fun c_442 => absurd (by decide) c_442)
                have hP9 := hP
                have hD9 := hD
                have hK9 := hK
                rw [hQ]
                exact W.vret hx hb hr (fun t ht hW => ⟨⟨(f_439, (kt + 1 + 1 + 1)), rfl, ⟨by omega, (kNarU ef_439 (kNarU ef_424 (kNarU ef_377 hgT)))⟩,  by rw [ht]; exact hP9, va_K.moved hW.alike hK9, hD9⟩, hS.F ht⟩) hS.2.2 dX8_append_58
      · refine lv_aload_n hx hb dX8_append_19 rfl (lv_at hl 2 rfl) ?_
        refine va_get (D := (dC, dI)) (ci := 8) (v := .int (nI (kt + 1))) (C := RX8) (T := TX8) (N := 2) hx hb hts (fun _ h => List.mem_cons_of_mem _ (List.mem_append_right _ h)) hown hK hP 0 rfl rfl 1 kc_l_1_2 (hts (.fieldLink RX8 15 "NotEnded$Tape" "length" "I") (List.mem_cons_of_mem _ (List.mem_append_left _ (List.mem_of_getElem? (i := 0) rfl)))) (fun _ h9 => h9) rfl dX8_append_20 ?_
        refine lv_aload_n hx hb dX8_append_23 rfl (lv_at hl 2 rfl) ?_
        refine va_get (D := (dC, dI)) (ci := 8) (v := .ref t0) (C := RX8) (T := TX8) (N := 2) hx hb hts (fun _ h => List.mem_cons_of_mem _ (List.mem_append_right _ h)) hown hK hP 0 rfl rfl 0 kc_l_0_2 (hts (.fieldLink RX8 9 "NotEnded$Tape" "signs" "[C") (List.mem_cons_of_mem _ (List.mem_append_left _ (List.mem_of_getElem? (i := 1) rfl)))) (fun _ h9 => h9) rfl dX8_append_24 ?_
        refine va_alen hx hb hK hP 1 0 rfl rfl (v := 120) rfl dX8_append_27 ?_
        refine lv_icmp_ge (tgt := 52) hx hb dX8_append_28 kc_t_28_24 (fun c_443 => ?_) (fun c_443 => ?_)
        · have bd_445 : kt + 1 < 2147483648 := by omega
          have hn_444 := kle (a := 120) (b := kt + 1) kc_31_120 bd_445 c_443
          refine lv_iinc (v := 8) hx hb dX8_append_52 hl (k := 1) rfl (by decide) kc_l_2_4 (kTo [(2, .int 8), (3, .int x_382), (0, .ref jT), (1, .int p0)]) (fun ls hl => ?_)
          refine lv_goto (tgt := 3) hx hb dX8_append_55 kc_t_55_m52 ?_
          refine lv_iload_n hx hb dX8_append_3 rfl (lv_at hl 0 rfl) ?_
          refine lv_if_lt (tgt := 58) hx hb dX8_append_4 kc_t_4_54 (fun c_446 => absurd c_446 (by decide)) (fun c_446 => ?_)
          refine lv_iload_n hx hb dX8_append_7 rfl (lv_at hl 3 rfl) ?_
          refine lv_iload_n hx hb dX8_append_8 rfl (lv_at hl 0 rfl) ?_
          obtain ⟨x_447, ex_447⟩ : ∃ z : Int32, z = (Int32.toUInt32 p0 >>> (Int32.toUInt32 8 &&& Int32.toUInt32 31)).toInt32 := ⟨_, rfl⟩
          refine lv_iushr (v := x_447) hx hb dX8_append_9 ex_447.symm ?_
          refine lv_sipush (v := 255) hx hb dX8_append_10 kc_s_255 ?_
          refine lv_iand hx hb dX8_append_13 ?_
          refine lv_topi (fun x_448 ex_448 => ?_)
          refine lv_istore_n hx hb dX8_append_14 rfl hl kc_l_3_4 (kTo [(3, .int x_448), (2, .int 8), (0, .ref jT), (1, .int p0)]) (fun ls hl => ?_)
          refine lv_iload_n hx hb dX8_append_15 rfl (lv_at hl 0 rfl) ?_
          refine lv_if_eq (tgt := 52) hx hb dX8_append_16 kc_t_16_36 (fun c_449 => ?_) (fun c_449 => ?_)
          · refine lv_iinc (v := 0) hx hb dX8_append_52 hl (k := 1) rfl (by decide) kc_l_2_4 (kTo [(2, .int 0), (3, .int x_448), (0, .ref jT), (1, .int p0)]) (fun ls hl => ?_)
            refine lv_goto (tgt := 3) hx hb dX8_append_55 kc_t_55_m52 ?_
            refine lv_iload_n hx hb dX8_append_3 rfl (lv_at hl 0 rfl) ?_
            refine lv_if_lt (tgt := 58) hx hb dX8_append_4 kc_t_4_54 (fun c_450 => absurd c_450 (by decide)) (fun c_450 => ?_)
            refine lv_iload_n hx hb dX8_append_7 rfl (lv_at hl 3 rfl) ?_
            refine lv_iload_n hx hb dX8_append_8 rfl (lv_at hl 0 rfl) ?_
            obtain ⟨x_451, ex_451⟩ : ∃ z : Int32, z = (Int32.toUInt32 p0 >>> (Int32.toUInt32 0 &&& Int32.toUInt32 31)).toInt32 := ⟨_, rfl⟩
            refine lv_iushr (v := x_451) hx hb dX8_append_9 ex_451.symm ?_
            refine lv_sipush (v := 255) hx hb dX8_append_10 kc_s_255 ?_
            refine lv_iand hx hb dX8_append_13 ?_
            refine lv_topi (fun x_452 ex_452 => ?_)
            refine lv_istore_n hx hb dX8_append_14 rfl hl kc_l_3_4 (kTo [(3, .int x_452), (2, .int 0), (0, .ref jT), (1, .int p0)]) (fun ls hl => ?_)
            refine lv_iload_n hx hb dX8_append_15 rfl (lv_at hl 0 rfl) ?_
            refine lv_if_eq (tgt := 52) hx hb dX8_append_16 kc_t_16_36 (fun c_453 => ?_) (fun c_453 => ?_)
            · refine lv_iinc (v := (-8)) hx hb dX8_append_52 hl (k := 1) rfl (by decide) kc_l_2_4 (kTo [(2, .int (-8)), (3, .int x_452), (0, .ref jT), (1, .int p0)]) (fun ls hl => ?_)
              refine lv_goto (tgt := 3) hx hb dX8_append_55 kc_t_55_m52 ?_
              refine lv_iload_n hx hb dX8_append_3 rfl (lv_at hl 0 rfl) ?_
              refine lv_if_lt (tgt := 58) hx hb dX8_append_4 kc_t_4_54 (fun c_454 => ?_) (fun c_454 => absurd (by decide) c_454)
              have hP9 := hP
              have hD9 := hD
              have hK9 := hK
              rw [hQ]
              exact W.vret hx hb hr (fun t ht hW => ⟨⟨(f_377, (kt + 1)), rfl, ⟨by omega, (kNarU ef_377 hgT)⟩,  by rw [ht]; exact hP9, va_K.moved hW.alike hK9, hD9⟩, hS.F ht⟩) hS.2.2 dX8_append_58
            · refine lv_aload_n hx hb dX8_append_19 rfl (lv_at hl 2 rfl) ?_
              refine va_get (D := (dC, dI)) (ci := 8) (v := .int (nI (kt + 1))) (C := RX8) (T := TX8) (N := 2) hx hb hts (fun _ h => List.mem_cons_of_mem _ (List.mem_append_right _ h)) hown hK hP 0 rfl rfl 1 kc_l_1_2 (hts (.fieldLink RX8 15 "NotEnded$Tape" "length" "I") (List.mem_cons_of_mem _ (List.mem_append_left _ (List.mem_of_getElem? (i := 0) rfl)))) (fun _ h9 => h9) rfl dX8_append_20 ?_
              refine lv_aload_n hx hb dX8_append_23 rfl (lv_at hl 2 rfl) ?_
              refine va_get (D := (dC, dI)) (ci := 8) (v := .ref t0) (C := RX8) (T := TX8) (N := 2) hx hb hts (fun _ h => List.mem_cons_of_mem _ (List.mem_append_right _ h)) hown hK hP 0 rfl rfl 0 kc_l_0_2 (hts (.fieldLink RX8 9 "NotEnded$Tape" "signs" "[C") (List.mem_cons_of_mem _ (List.mem_append_left _ (List.mem_of_getElem? (i := 1) rfl)))) (fun _ h9 => h9) rfl dX8_append_24 ?_
              refine va_alen hx hb hK hP 1 0 rfl rfl (v := 120) rfl dX8_append_27 ?_
              refine lv_icmp_ge (tgt := 52) hx hb dX8_append_28 kc_t_28_24 (fun c_455 => ?_) (fun c_455 => ?_)
              · have hn_456 := kle (a := 120) (b := kt + 1) kc_31_120 bd_445 c_455
                refine lv_iinc (v := (-8)) hx hb dX8_append_52 hl (k := 1) rfl (by decide) kc_l_2_4 (kTo [(2, .int (-8)), (3, .int x_452), (0, .ref jT), (1, .int p0)]) (fun ls hl => ?_)
                refine lv_goto (tgt := 3) hx hb dX8_append_55 kc_t_55_m52 ?_
                refine lv_iload_n hx hb dX8_append_3 rfl (lv_at hl 0 rfl) ?_
                refine lv_if_lt (tgt := 58) hx hb dX8_append_4 kc_t_4_54 (fun c_457 => ?_) (fun c_457 => absurd (by decide) c_457)
                have hP9 := hP
                have hD9 := hD
                have hK9 := hK
                rw [hQ]
                exact W.vret hx hb hr (fun t ht hW => ⟨⟨(f_377, (kt + 1)), rfl, ⟨by omega, (kNarU ef_377 hgT)⟩,  by rw [ht]; exact hP9, va_K.moved hW.alike hK9, hD9⟩, hS.F ht⟩) hS.2.2 dX8_append_58
              · have hn_458 := knle (a := 120) (b := kt + 1) kc_31_120 bd_445 c_455
                refine lv_aload_n hx hb dX8_append_31 rfl (lv_at hl 2 rfl) ?_
                refine va_get (D := (dC, dI)) (ci := 8) (v := .ref t0) (C := RX8) (T := TX8) (N := 2) hx hb hts (fun _ h => List.mem_cons_of_mem _ (List.mem_append_right _ h)) hown hK hP 0 rfl rfl 0 kc_l_0_2 (hts (.fieldLink RX8 9 "NotEnded$Tape" "signs" "[C") (List.mem_cons_of_mem _ (List.mem_append_left _ (List.mem_of_getElem? (i := 1) rfl)))) (fun _ h9 => h9) rfl dX8_append_32 ?_
                refine lv_aload_n hx hb dX8_append_35 rfl (lv_at hl 2 rfl) ?_
                refine va_get (D := (dC, dI)) (ci := 8) (v := .int (nI (kt + 1))) (C := RX8) (T := TX8) (N := 2) hx hb hts (fun _ h => List.mem_cons_of_mem _ (List.mem_append_right _ h)) hown hK hP 0 rfl rfl 1 kc_l_1_2 (hts (.fieldLink RX8 15 "NotEnded$Tape" "length" "I") (List.mem_cons_of_mem _ (List.mem_append_left _ (List.mem_of_getElem? (i := 0) rfl)))) (fun _ h9 => h9) rfl dX8_append_36 ?_
                refine lv_iload_n hx hb dX8_append_39 rfl (lv_at hl 0 rfl) ?_
                obtain ⟨x_459, ex_459⟩ : ∃ z : Int32, z = (Int32.toUInt32 x_452 % 65536).toInt32 := ⟨_, rfl⟩
                refine lv_i2c (v := x_459) hx hb dX8_append_40 ex_459.symm ?_
                have bd_461 : kt + 1 < 120 := by omega
                refine va_cast hx hb hK hP hD hS 1 0 rfl rfl (vp_in_nI (n := kt + 1) (N := 120) bd_461 kc_31_120) dX8_append_41 (fun H locs hP hD hS => ?_)
                obtain ⟨f_460, ef_460⟩ : ∃ gg9 : Nat → Int32, gg9 = upd f_377 (Int32.toNatClampNeg (nI (kt + 1))) (vp_nar .char x_459) := ⟨_, rfl⟩
                have hPD : kPD dC dI A [(jT, .inr (8, [.ref t0, .int (nI (kt + 1))])), (t0, .inl (cC, 120, .inl f_460))] H := by rw [ef_460]; exact ⟨hP, hD⟩
                have hP := hPD.1
                have hD := hPD.2
                refine lv_aload_n hx hb dX8_append_42 rfl (lv_at hl 2 rfl) ?_
                refine lv_dup hx hb dX8_append_43 rfl ?_
                refine va_get (D := (dC, dI)) (ci := 8) (v := .int (nI (kt + 1))) (C := RX8) (T := TX8) (N := 2) hx hb hts (fun _ h => List.mem_cons_of_mem _ (List.mem_append_right _ h)) hown hK hP 0 rfl rfl 1 kc_l_1_2 (hts (.fieldLink RX8 15 "NotEnded$Tape" "length" "I") (List.mem_cons_of_mem _ (List.mem_append_left _ (List.mem_of_getElem? (i := 0) rfl)))) (fun _ h9 => h9) rfl dX8_append_44 ?_
                refine lv_iconst (v := 1) hx hb dX8_append_47 kc_i_1 ?_
                refine lv_iadd hx hb dX8_append_48 ?_
                refine lv_topi (fun y_462 ey_462 => ?_)
                obtain rfl : y_462 = nI (kt + 1 + 1) := ey_462.trans (nI_add (kt + 1) (1))
                refine va_put (D := (dC, dI)) (ci := 8) (v := .int (nI (kt + 1 + 1))) (ty := tyX8 1) (C := RX8) (T := TX8) (N := 2) hx hb hts (fun _ h => List.mem_cons_of_mem _ (List.mem_append_right _ h)) tyX8 tyX8_ok nmX8 hown hK hP hD hS 0 rfl rfl 1 kc_l_1_2 (hts (.fieldLink RX8 15 "NotEnded$Tape" "length" "I") (List.mem_cons_of_mem _ (List.mem_append_left _ (List.mem_of_getElem? (i := 0) rfl)))) (fun _ h9 => h9) rfl (tyX8_ok 1 kc_l_1_2) rfl rfl (Nat.le_of_ble_eq_true rfl) dX8_append_49 (fun H locs hP hD hS => ?_)
                have hPD : kPD dC dI A [(jT, .inr (8, [.ref t0, .int (nI (kt + 1 + 1))])), (t0, .inl (cC, 120, .inl f_460))] H := ⟨hP, hD⟩
                have hP := hPD.1
                have hD := hPD.2
                refine lv_iinc (v := (-8)) hx hb dX8_append_52 hl (k := 1) rfl (by decide) kc_l_2_4 (kTo [(2, .int (-8)), (3, .int x_452), (0, .ref jT), (1, .int p0)]) (fun ls hl => ?_)
                refine lv_goto (tgt := 3) hx hb dX8_append_55 kc_t_55_m52 ?_
                refine lv_iload_n hx hb dX8_append_3 rfl (lv_at hl 0 rfl) ?_
                refine lv_if_lt (tgt := 58) hx hb dX8_append_4 kc_t_4_54 (fun c_463 => ?_) (fun c_463 => absurd (by decide) c_463)
                have hP9 := hP
                have hD9 := hD
                have hK9 := hK
                rw [hQ]
                exact W.vret hx hb hr (fun t ht hW => ⟨⟨(f_460, (kt + 1 + 1)), rfl, ⟨by omega, (kNarU ef_460 (kNarU ef_377 hgT))⟩,  by rw [ht]; exact hP9, va_K.moved hW.alike hK9, hD9⟩, hS.F ht⟩) hS.2.2 dX8_append_58
          · refine lv_aload_n hx hb dX8_append_19 rfl (lv_at hl 2 rfl) ?_
            refine va_get (D := (dC, dI)) (ci := 8) (v := .int (nI (kt + 1))) (C := RX8) (T := TX8) (N := 2) hx hb hts (fun _ h => List.mem_cons_of_mem _ (List.mem_append_right _ h)) hown hK hP 0 rfl rfl 1 kc_l_1_2 (hts (.fieldLink RX8 15 "NotEnded$Tape" "length" "I") (List.mem_cons_of_mem _ (List.mem_append_left _ (List.mem_of_getElem? (i := 0) rfl)))) (fun _ h9 => h9) rfl dX8_append_20 ?_
            refine lv_aload_n hx hb dX8_append_23 rfl (lv_at hl 2 rfl) ?_
            refine va_get (D := (dC, dI)) (ci := 8) (v := .ref t0) (C := RX8) (T := TX8) (N := 2) hx hb hts (fun _ h => List.mem_cons_of_mem _ (List.mem_append_right _ h)) hown hK hP 0 rfl rfl 0 kc_l_0_2 (hts (.fieldLink RX8 9 "NotEnded$Tape" "signs" "[C") (List.mem_cons_of_mem _ (List.mem_append_left _ (List.mem_of_getElem? (i := 1) rfl)))) (fun _ h9 => h9) rfl dX8_append_24 ?_
            refine va_alen hx hb hK hP 1 0 rfl rfl (v := 120) rfl dX8_append_27 ?_
            refine lv_icmp_ge (tgt := 52) hx hb dX8_append_28 kc_t_28_24 (fun c_464 => ?_) (fun c_464 => ?_)
            · have hn_465 := kle (a := 120) (b := kt + 1) kc_31_120 bd_445 c_464
              refine lv_iinc (v := 0) hx hb dX8_append_52 hl (k := 1) rfl (by decide) kc_l_2_4 (kTo [(2, .int 0), (3, .int x_448), (0, .ref jT), (1, .int p0)]) (fun ls hl => ?_)
              refine lv_goto (tgt := 3) hx hb dX8_append_55 kc_t_55_m52 ?_
              refine lv_iload_n hx hb dX8_append_3 rfl (lv_at hl 0 rfl) ?_
              refine lv_if_lt (tgt := 58) hx hb dX8_append_4 kc_t_4_54 (fun c_466 => absurd c_466 (by decide)) (fun c_466 => ?_)
              refine lv_iload_n hx hb dX8_append_7 rfl (lv_at hl 3 rfl) ?_
              refine lv_iload_n hx hb dX8_append_8 rfl (lv_at hl 0 rfl) ?_
              obtain ⟨x_467, ex_467⟩ : ∃ z : Int32, z = (Int32.toUInt32 p0 >>> (Int32.toUInt32 0 &&& Int32.toUInt32 31)).toInt32 := ⟨_, rfl⟩
              refine lv_iushr (v := x_467) hx hb dX8_append_9 ex_467.symm ?_
              refine lv_sipush (v := 255) hx hb dX8_append_10 kc_s_255 ?_
              refine lv_iand hx hb dX8_append_13 ?_
              refine lv_topi (fun x_468 ex_468 => ?_)
              refine lv_istore_n hx hb dX8_append_14 rfl hl kc_l_3_4 (kTo [(3, .int x_468), (2, .int 0), (0, .ref jT), (1, .int p0)]) (fun ls hl => ?_)
              refine lv_iload_n hx hb dX8_append_15 rfl (lv_at hl 0 rfl) ?_
              refine lv_if_eq (tgt := 52) hx hb dX8_append_16 kc_t_16_36 (fun c_469 => ?_) (fun c_469 => ?_)
              · refine lv_iinc (v := (-8)) hx hb dX8_append_52 hl (k := 1) rfl (by decide) kc_l_2_4 (kTo [(2, .int (-8)), (3, .int x_468), (0, .ref jT), (1, .int p0)]) (fun ls hl => ?_)
                refine lv_goto (tgt := 3) hx hb dX8_append_55 kc_t_55_m52 ?_
                refine lv_iload_n hx hb dX8_append_3 rfl (lv_at hl 0 rfl) ?_
                refine lv_if_lt (tgt := 58) hx hb dX8_append_4 kc_t_4_54 (fun c_470 => ?_) (fun c_470 => absurd (by decide) c_470)
                have hP9 := hP
                have hD9 := hD
                have hK9 := hK
                rw [hQ]
                exact W.vret hx hb hr (fun t ht hW => ⟨⟨(f_377, (kt + 1)), rfl, ⟨by omega, (kNarU ef_377 hgT)⟩,  by rw [ht]; exact hP9, va_K.moved hW.alike hK9, hD9⟩, hS.F ht⟩) hS.2.2 dX8_append_58
              · refine lv_aload_n hx hb dX8_append_19 rfl (lv_at hl 2 rfl) ?_
                refine va_get (D := (dC, dI)) (ci := 8) (v := .int (nI (kt + 1))) (C := RX8) (T := TX8) (N := 2) hx hb hts (fun _ h => List.mem_cons_of_mem _ (List.mem_append_right _ h)) hown hK hP 0 rfl rfl 1 kc_l_1_2 (hts (.fieldLink RX8 15 "NotEnded$Tape" "length" "I") (List.mem_cons_of_mem _ (List.mem_append_left _ (List.mem_of_getElem? (i := 0) rfl)))) (fun _ h9 => h9) rfl dX8_append_20 ?_
                refine lv_aload_n hx hb dX8_append_23 rfl (lv_at hl 2 rfl) ?_
                refine va_get (D := (dC, dI)) (ci := 8) (v := .ref t0) (C := RX8) (T := TX8) (N := 2) hx hb hts (fun _ h => List.mem_cons_of_mem _ (List.mem_append_right _ h)) hown hK hP 0 rfl rfl 0 kc_l_0_2 (hts (.fieldLink RX8 9 "NotEnded$Tape" "signs" "[C") (List.mem_cons_of_mem _ (List.mem_append_left _ (List.mem_of_getElem? (i := 1) rfl)))) (fun _ h9 => h9) rfl dX8_append_24 ?_
                refine va_alen hx hb hK hP 1 0 rfl rfl (v := 120) rfl dX8_append_27 ?_
                refine lv_icmp_ge (tgt := 52) hx hb dX8_append_28 kc_t_28_24 (fun c_471 => ?_) (fun c_471 => ?_)
                · have hn_472 := kle (a := 120) (b := kt + 1) kc_31_120 bd_445 c_471
                  refine lv_iinc (v := (-8)) hx hb dX8_append_52 hl (k := 1) rfl (by decide) kc_l_2_4 (kTo [(2, .int (-8)), (3, .int x_468), (0, .ref jT), (1, .int p0)]) (fun ls hl => ?_)
                  refine lv_goto (tgt := 3) hx hb dX8_append_55 kc_t_55_m52 ?_
                  refine lv_iload_n hx hb dX8_append_3 rfl (lv_at hl 0 rfl) ?_
                  refine lv_if_lt (tgt := 58) hx hb dX8_append_4 kc_t_4_54 (fun c_473 => ?_) (fun c_473 => absurd (by decide) c_473)
                  have hP9 := hP
                  have hD9 := hD
                  have hK9 := hK
                  rw [hQ]
                  exact W.vret hx hb hr (fun t ht hW => ⟨⟨(f_377, (kt + 1)), rfl, ⟨by omega, (kNarU ef_377 hgT)⟩,  by rw [ht]; exact hP9, va_K.moved hW.alike hK9, hD9⟩, hS.F ht⟩) hS.2.2 dX8_append_58
                · have hn_474 := knle (a := 120) (b := kt + 1) kc_31_120 bd_445 c_471
                  refine lv_aload_n hx hb dX8_append_31 rfl (lv_at hl 2 rfl) ?_
                  refine va_get (D := (dC, dI)) (ci := 8) (v := .ref t0) (C := RX8) (T := TX8) (N := 2) hx hb hts (fun _ h => List.mem_cons_of_mem _ (List.mem_append_right _ h)) hown hK hP 0 rfl rfl 0 kc_l_0_2 (hts (.fieldLink RX8 9 "NotEnded$Tape" "signs" "[C") (List.mem_cons_of_mem _ (List.mem_append_left _ (List.mem_of_getElem? (i := 1) rfl)))) (fun _ h9 => h9) rfl dX8_append_32 ?_
                  refine lv_aload_n hx hb dX8_append_35 rfl (lv_at hl 2 rfl) ?_
                  refine va_get (D := (dC, dI)) (ci := 8) (v := .int (nI (kt + 1))) (C := RX8) (T := TX8) (N := 2) hx hb hts (fun _ h => List.mem_cons_of_mem _ (List.mem_append_right _ h)) hown hK hP 0 rfl rfl 1 kc_l_1_2 (hts (.fieldLink RX8 15 "NotEnded$Tape" "length" "I") (List.mem_cons_of_mem _ (List.mem_append_left _ (List.mem_of_getElem? (i := 0) rfl)))) (fun _ h9 => h9) rfl dX8_append_36 ?_
                  refine lv_iload_n hx hb dX8_append_39 rfl (lv_at hl 0 rfl) ?_
                  obtain ⟨x_475, ex_475⟩ : ∃ z : Int32, z = (Int32.toUInt32 x_468 % 65536).toInt32 := ⟨_, rfl⟩
                  refine lv_i2c (v := x_475) hx hb dX8_append_40 ex_475.symm ?_
                  have bd_477 : kt + 1 < 120 := by omega
                  refine va_cast hx hb hK hP hD hS 1 0 rfl rfl (vp_in_nI (n := kt + 1) (N := 120) bd_477 kc_31_120) dX8_append_41 (fun H locs hP hD hS => ?_)
                  obtain ⟨f_476, ef_476⟩ : ∃ gg9 : Nat → Int32, gg9 = upd f_377 (Int32.toNatClampNeg (nI (kt + 1))) (vp_nar .char x_475) := ⟨_, rfl⟩
                  have hPD : kPD dC dI A [(jT, .inr (8, [.ref t0, .int (nI (kt + 1))])), (t0, .inl (cC, 120, .inl f_476))] H := by rw [ef_476]; exact ⟨hP, hD⟩
                  have hP := hPD.1
                  have hD := hPD.2
                  refine lv_aload_n hx hb dX8_append_42 rfl (lv_at hl 2 rfl) ?_
                  refine lv_dup hx hb dX8_append_43 rfl ?_
                  refine va_get (D := (dC, dI)) (ci := 8) (v := .int (nI (kt + 1))) (C := RX8) (T := TX8) (N := 2) hx hb hts (fun _ h => List.mem_cons_of_mem _ (List.mem_append_right _ h)) hown hK hP 0 rfl rfl 1 kc_l_1_2 (hts (.fieldLink RX8 15 "NotEnded$Tape" "length" "I") (List.mem_cons_of_mem _ (List.mem_append_left _ (List.mem_of_getElem? (i := 0) rfl)))) (fun _ h9 => h9) rfl dX8_append_44 ?_
                  refine lv_iconst (v := 1) hx hb dX8_append_47 kc_i_1 ?_
                  refine lv_iadd hx hb dX8_append_48 ?_
                  refine lv_topi (fun y_478 ey_478 => ?_)
                  obtain rfl : y_478 = nI (kt + 1 + 1) := ey_478.trans (nI_add (kt + 1) (1))
                  refine va_put (D := (dC, dI)) (ci := 8) (v := .int (nI (kt + 1 + 1))) (ty := tyX8 1) (C := RX8) (T := TX8) (N := 2) hx hb hts (fun _ h => List.mem_cons_of_mem _ (List.mem_append_right _ h)) tyX8 tyX8_ok nmX8 hown hK hP hD hS 0 rfl rfl 1 kc_l_1_2 (hts (.fieldLink RX8 15 "NotEnded$Tape" "length" "I") (List.mem_cons_of_mem _ (List.mem_append_left _ (List.mem_of_getElem? (i := 0) rfl)))) (fun _ h9 => h9) rfl (tyX8_ok 1 kc_l_1_2) rfl rfl (Nat.le_of_ble_eq_true rfl) dX8_append_49 (fun H locs hP hD hS => ?_)
                  have hPD : kPD dC dI A [(jT, .inr (8, [.ref t0, .int (nI (kt + 1 + 1))])), (t0, .inl (cC, 120, .inl f_476))] H := ⟨hP, hD⟩
                  have hP := hPD.1
                  have hD := hPD.2
                  refine lv_iinc (v := (-8)) hx hb dX8_append_52 hl (k := 1) rfl (by decide) kc_l_2_4 (kTo [(2, .int (-8)), (3, .int x_468), (0, .ref jT), (1, .int p0)]) (fun ls hl => ?_)
                  refine lv_goto (tgt := 3) hx hb dX8_append_55 kc_t_55_m52 ?_
                  refine lv_iload_n hx hb dX8_append_3 rfl (lv_at hl 0 rfl) ?_
                  refine lv_if_lt (tgt := 58) hx hb dX8_append_4 kc_t_4_54 (fun c_479 => ?_) (fun c_479 => absurd (by decide) c_479)
                  have hP9 := hP
                  have hD9 := hD
                  have hK9 := hK
                  rw [hQ]
                  exact W.vret hx hb hr (fun t ht hW => ⟨⟨(f_476, (kt + 1 + 1)), rfl, ⟨by omega, (kNarU ef_476 (kNarU ef_377 hgT))⟩,  by rw [ht]; exact hP9, va_K.moved hW.alike hK9, hD9⟩, hS.F ht⟩) hS.2.2 dX8_append_58
            · have hn_480 := knle (a := 120) (b := kt + 1) kc_31_120 bd_445 c_464
              refine lv_aload_n hx hb dX8_append_31 rfl (lv_at hl 2 rfl) ?_
              refine va_get (D := (dC, dI)) (ci := 8) (v := .ref t0) (C := RX8) (T := TX8) (N := 2) hx hb hts (fun _ h => List.mem_cons_of_mem _ (List.mem_append_right _ h)) hown hK hP 0 rfl rfl 0 kc_l_0_2 (hts (.fieldLink RX8 9 "NotEnded$Tape" "signs" "[C") (List.mem_cons_of_mem _ (List.mem_append_left _ (List.mem_of_getElem? (i := 1) rfl)))) (fun _ h9 => h9) rfl dX8_append_32 ?_
              refine lv_aload_n hx hb dX8_append_35 rfl (lv_at hl 2 rfl) ?_
              refine va_get (D := (dC, dI)) (ci := 8) (v := .int (nI (kt + 1))) (C := RX8) (T := TX8) (N := 2) hx hb hts (fun _ h => List.mem_cons_of_mem _ (List.mem_append_right _ h)) hown hK hP 0 rfl rfl 1 kc_l_1_2 (hts (.fieldLink RX8 15 "NotEnded$Tape" "length" "I") (List.mem_cons_of_mem _ (List.mem_append_left _ (List.mem_of_getElem? (i := 0) rfl)))) (fun _ h9 => h9) rfl dX8_append_36 ?_
              refine lv_iload_n hx hb dX8_append_39 rfl (lv_at hl 0 rfl) ?_
              obtain ⟨x_481, ex_481⟩ : ∃ z : Int32, z = (Int32.toUInt32 x_448 % 65536).toInt32 := ⟨_, rfl⟩
              refine lv_i2c (v := x_481) hx hb dX8_append_40 ex_481.symm ?_
              have bd_483 : kt + 1 < 120 := by omega
              refine va_cast hx hb hK hP hD hS 1 0 rfl rfl (vp_in_nI (n := kt + 1) (N := 120) bd_483 kc_31_120) dX8_append_41 (fun H locs hP hD hS => ?_)
              obtain ⟨f_482, ef_482⟩ : ∃ gg9 : Nat → Int32, gg9 = upd f_377 (Int32.toNatClampNeg (nI (kt + 1))) (vp_nar .char x_481) := ⟨_, rfl⟩
              have hPD : kPD dC dI A [(jT, .inr (8, [.ref t0, .int (nI (kt + 1))])), (t0, .inl (cC, 120, .inl f_482))] H := by rw [ef_482]; exact ⟨hP, hD⟩
              have hP := hPD.1
              have hD := hPD.2
              refine lv_aload_n hx hb dX8_append_42 rfl (lv_at hl 2 rfl) ?_
              refine lv_dup hx hb dX8_append_43 rfl ?_
              refine va_get (D := (dC, dI)) (ci := 8) (v := .int (nI (kt + 1))) (C := RX8) (T := TX8) (N := 2) hx hb hts (fun _ h => List.mem_cons_of_mem _ (List.mem_append_right _ h)) hown hK hP 0 rfl rfl 1 kc_l_1_2 (hts (.fieldLink RX8 15 "NotEnded$Tape" "length" "I") (List.mem_cons_of_mem _ (List.mem_append_left _ (List.mem_of_getElem? (i := 0) rfl)))) (fun _ h9 => h9) rfl dX8_append_44 ?_
              refine lv_iconst (v := 1) hx hb dX8_append_47 kc_i_1 ?_
              refine lv_iadd hx hb dX8_append_48 ?_
              refine lv_topi (fun y_484 ey_484 => ?_)
              obtain rfl : y_484 = nI (kt + 1 + 1) := ey_484.trans (nI_add (kt + 1) (1))
              refine va_put (D := (dC, dI)) (ci := 8) (v := .int (nI (kt + 1 + 1))) (ty := tyX8 1) (C := RX8) (T := TX8) (N := 2) hx hb hts (fun _ h => List.mem_cons_of_mem _ (List.mem_append_right _ h)) tyX8 tyX8_ok nmX8 hown hK hP hD hS 0 rfl rfl 1 kc_l_1_2 (hts (.fieldLink RX8 15 "NotEnded$Tape" "length" "I") (List.mem_cons_of_mem _ (List.mem_append_left _ (List.mem_of_getElem? (i := 0) rfl)))) (fun _ h9 => h9) rfl (tyX8_ok 1 kc_l_1_2) rfl rfl (Nat.le_of_ble_eq_true rfl) dX8_append_49 (fun H locs hP hD hS => ?_)
              have hPD : kPD dC dI A [(jT, .inr (8, [.ref t0, .int (nI (kt + 1 + 1))])), (t0, .inl (cC, 120, .inl f_482))] H := ⟨hP, hD⟩
              have hP := hPD.1
              have hD := hPD.2
              refine lv_iinc (v := 0) hx hb dX8_append_52 hl (k := 1) rfl (by decide) kc_l_2_4 (kTo [(2, .int 0), (3, .int x_448), (0, .ref jT), (1, .int p0)]) (fun ls hl => ?_)
              refine lv_goto (tgt := 3) hx hb dX8_append_55 kc_t_55_m52 ?_
              refine lv_iload_n hx hb dX8_append_3 rfl (lv_at hl 0 rfl) ?_
              refine lv_if_lt (tgt := 58) hx hb dX8_append_4 kc_t_4_54 (fun c_485 => absurd c_485 (by decide)) (fun c_485 => ?_)
              refine lv_iload_n hx hb dX8_append_7 rfl (lv_at hl 3 rfl) ?_
              refine lv_iload_n hx hb dX8_append_8 rfl (lv_at hl 0 rfl) ?_
              obtain ⟨x_486, ex_486⟩ : ∃ z : Int32, z = (Int32.toUInt32 p0 >>> (Int32.toUInt32 0 &&& Int32.toUInt32 31)).toInt32 := ⟨_, rfl⟩
              refine lv_iushr (v := x_486) hx hb dX8_append_9 ex_486.symm ?_
              refine lv_sipush (v := 255) hx hb dX8_append_10 kc_s_255 ?_
              refine lv_iand hx hb dX8_append_13 ?_
              refine lv_topi (fun x_487 ex_487 => ?_)
              refine lv_istore_n hx hb dX8_append_14 rfl hl kc_l_3_4 (kTo [(3, .int x_487), (2, .int 0), (0, .ref jT), (1, .int p0)]) (fun ls hl => ?_)
              refine lv_iload_n hx hb dX8_append_15 rfl (lv_at hl 0 rfl) ?_
              refine lv_if_eq (tgt := 52) hx hb dX8_append_16 kc_t_16_36 (fun c_488 => ?_) (fun c_488 => ?_)
              · refine lv_iinc (v := (-8)) hx hb dX8_append_52 hl (k := 1) rfl (by decide) kc_l_2_4 (kTo [(2, .int (-8)), (3, .int x_487), (0, .ref jT), (1, .int p0)]) (fun ls hl => ?_)
                refine lv_goto (tgt := 3) hx hb dX8_append_55 kc_t_55_m52 ?_
                refine lv_iload_n hx hb dX8_append_3 rfl (lv_at hl 0 rfl) ?_
                refine lv_if_lt (tgt := 58) hx hb dX8_append_4 kc_t_4_54 (fun c_489 => ?_) (fun c_489 => absurd (by decide) c_489)
                have hP9 := hP
                have hD9 := hD
                have hK9 := hK
                rw [hQ]
                exact W.vret hx hb hr (fun t ht hW => ⟨⟨(f_482, (kt + 1 + 1)), rfl, ⟨by omega, (kNarU ef_482 (kNarU ef_377 hgT))⟩,  by rw [ht]; exact hP9, va_K.moved hW.alike hK9, hD9⟩, hS.F ht⟩) hS.2.2 dX8_append_58
              · refine lv_aload_n hx hb dX8_append_19 rfl (lv_at hl 2 rfl) ?_
                refine va_get (D := (dC, dI)) (ci := 8) (v := .int (nI (kt + 1 + 1))) (C := RX8) (T := TX8) (N := 2) hx hb hts (fun _ h => List.mem_cons_of_mem _ (List.mem_append_right _ h)) hown hK hP 0 rfl rfl 1 kc_l_1_2 (hts (.fieldLink RX8 15 "NotEnded$Tape" "length" "I") (List.mem_cons_of_mem _ (List.mem_append_left _ (List.mem_of_getElem? (i := 0) rfl)))) (fun _ h9 => h9) rfl dX8_append_20 ?_
                refine lv_aload_n hx hb dX8_append_23 rfl (lv_at hl 2 rfl) ?_
                refine va_get (D := (dC, dI)) (ci := 8) (v := .ref t0) (C := RX8) (T := TX8) (N := 2) hx hb hts (fun _ h => List.mem_cons_of_mem _ (List.mem_append_right _ h)) hown hK hP 0 rfl rfl 0 kc_l_0_2 (hts (.fieldLink RX8 9 "NotEnded$Tape" "signs" "[C") (List.mem_cons_of_mem _ (List.mem_append_left _ (List.mem_of_getElem? (i := 1) rfl)))) (fun _ h9 => h9) rfl dX8_append_24 ?_
                refine va_alen hx hb hK hP 1 0 rfl rfl (v := 120) rfl dX8_append_27 ?_
                refine lv_icmp_ge (tgt := 52) hx hb dX8_append_28 kc_t_28_24 (fun c_490 => ?_) (fun c_490 => ?_)
                · have bd_492 : kt + 1 + 1 < 2147483648 := by omega
                  have hn_491 := kle (a := 120) (b := kt + 1 + 1) kc_31_120 bd_492 c_490
                  refine lv_iinc (v := (-8)) hx hb dX8_append_52 hl (k := 1) rfl (by decide) kc_l_2_4 (kTo [(2, .int (-8)), (3, .int x_487), (0, .ref jT), (1, .int p0)]) (fun ls hl => ?_)
                  refine lv_goto (tgt := 3) hx hb dX8_append_55 kc_t_55_m52 ?_
                  refine lv_iload_n hx hb dX8_append_3 rfl (lv_at hl 0 rfl) ?_
                  refine lv_if_lt (tgt := 58) hx hb dX8_append_4 kc_t_4_54 (fun c_493 => ?_) (fun c_493 => absurd (by decide) c_493)
                  have hP9 := hP
                  have hD9 := hD
                  have hK9 := hK
                  rw [hQ]
                  exact W.vret hx hb hr (fun t ht hW => ⟨⟨(f_482, (kt + 1 + 1)), rfl, ⟨by omega, (kNarU ef_482 (kNarU ef_377 hgT))⟩,  by rw [ht]; exact hP9, va_K.moved hW.alike hK9, hD9⟩, hS.F ht⟩) hS.2.2 dX8_append_58
                · have bd_495 : kt + 1 + 1 < 2147483648 := by omega
                  have hn_494 := knle (a := 120) (b := kt + 1 + 1) kc_31_120 bd_495 c_490
                  refine lv_aload_n hx hb dX8_append_31 rfl (lv_at hl 2 rfl) ?_
                  refine va_get (D := (dC, dI)) (ci := 8) (v := .ref t0) (C := RX8) (T := TX8) (N := 2) hx hb hts (fun _ h => List.mem_cons_of_mem _ (List.mem_append_right _ h)) hown hK hP 0 rfl rfl 0 kc_l_0_2 (hts (.fieldLink RX8 9 "NotEnded$Tape" "signs" "[C") (List.mem_cons_of_mem _ (List.mem_append_left _ (List.mem_of_getElem? (i := 1) rfl)))) (fun _ h9 => h9) rfl dX8_append_32 ?_
                  refine lv_aload_n hx hb dX8_append_35 rfl (lv_at hl 2 rfl) ?_
                  refine va_get (D := (dC, dI)) (ci := 8) (v := .int (nI (kt + 1 + 1))) (C := RX8) (T := TX8) (N := 2) hx hb hts (fun _ h => List.mem_cons_of_mem _ (List.mem_append_right _ h)) hown hK hP 0 rfl rfl 1 kc_l_1_2 (hts (.fieldLink RX8 15 "NotEnded$Tape" "length" "I") (List.mem_cons_of_mem _ (List.mem_append_left _ (List.mem_of_getElem? (i := 0) rfl)))) (fun _ h9 => h9) rfl dX8_append_36 ?_
                  refine lv_iload_n hx hb dX8_append_39 rfl (lv_at hl 0 rfl) ?_
                  obtain ⟨x_496, ex_496⟩ : ∃ z : Int32, z = (Int32.toUInt32 x_487 % 65536).toInt32 := ⟨_, rfl⟩
                  refine lv_i2c (v := x_496) hx hb dX8_append_40 ex_496.symm ?_
                  have bd_498 : kt + 1 + 1 < 120 := by omega
                  refine va_cast hx hb hK hP hD hS 1 0 rfl rfl (vp_in_nI (n := kt + 1 + 1) (N := 120) bd_498 kc_31_120) dX8_append_41 (fun H locs hP hD hS => ?_)
                  obtain ⟨f_497, ef_497⟩ : ∃ gg9 : Nat → Int32, gg9 = upd f_482 (Int32.toNatClampNeg (nI (kt + 1 + 1))) (vp_nar .char x_496) := ⟨_, rfl⟩
                  have hPD : kPD dC dI A [(jT, .inr (8, [.ref t0, .int (nI (kt + 1 + 1))])), (t0, .inl (cC, 120, .inl f_497))] H := by rw [ef_497]; exact ⟨hP, hD⟩
                  have hP := hPD.1
                  have hD := hPD.2
                  refine lv_aload_n hx hb dX8_append_42 rfl (lv_at hl 2 rfl) ?_
                  refine lv_dup hx hb dX8_append_43 rfl ?_
                  refine va_get (D := (dC, dI)) (ci := 8) (v := .int (nI (kt + 1 + 1))) (C := RX8) (T := TX8) (N := 2) hx hb hts (fun _ h => List.mem_cons_of_mem _ (List.mem_append_right _ h)) hown hK hP 0 rfl rfl 1 kc_l_1_2 (hts (.fieldLink RX8 15 "NotEnded$Tape" "length" "I") (List.mem_cons_of_mem _ (List.mem_append_left _ (List.mem_of_getElem? (i := 0) rfl)))) (fun _ h9 => h9) rfl dX8_append_44 ?_
                  refine lv_iconst (v := 1) hx hb dX8_append_47 kc_i_1 ?_
                  refine lv_iadd hx hb dX8_append_48 ?_
                  refine lv_topi (fun y_499 ey_499 => ?_)
                  obtain rfl : y_499 = nI (kt + 1 + 1 + 1) := ey_499.trans (nI_add (kt + 1 + 1) (1))
                  refine va_put (D := (dC, dI)) (ci := 8) (v := .int (nI (kt + 1 + 1 + 1))) (ty := tyX8 1) (C := RX8) (T := TX8) (N := 2) hx hb hts (fun _ h => List.mem_cons_of_mem _ (List.mem_append_right _ h)) tyX8 tyX8_ok nmX8 hown hK hP hD hS 0 rfl rfl 1 kc_l_1_2 (hts (.fieldLink RX8 15 "NotEnded$Tape" "length" "I") (List.mem_cons_of_mem _ (List.mem_append_left _ (List.mem_of_getElem? (i := 0) rfl)))) (fun _ h9 => h9) rfl (tyX8_ok 1 kc_l_1_2) rfl rfl (Nat.le_of_ble_eq_true rfl) dX8_append_49 (fun H locs hP hD hS => ?_)
                  have hPD : kPD dC dI A [(jT, .inr (8, [.ref t0, .int (nI (kt + 1 + 1 + 1))])), (t0, .inl (cC, 120, .inl f_497))] H := ⟨hP, hD⟩
                  have hP := hPD.1
                  have hD := hPD.2
                  refine lv_iinc (v := (-8)) hx hb dX8_append_52 hl (k := 1) rfl (by decide) kc_l_2_4 (kTo [(2, .int (-8)), (3, .int x_487), (0, .ref jT), (1, .int p0)]) (fun ls hl => ?_)
                  refine lv_goto (tgt := 3) hx hb dX8_append_55 kc_t_55_m52 ?_
                  refine lv_iload_n hx hb dX8_append_3 rfl (lv_at hl 0 rfl) ?_
                  refine lv_if_lt (tgt := 58) hx hb dX8_append_4 kc_t_4_54 (fun c_500 => ?_) (fun c_500 => absurd (by decide) c_500)
                  have hP9 := hP
                  have hD9 := hD
                  have hK9 := hK
                  rw [hQ]
                  exact W.vret hx hb hr (fun t ht hW => ⟨⟨(f_497, (kt + 1 + 1 + 1)), rfl, ⟨by omega, (kNarU ef_497 (kNarU ef_482 (kNarU ef_377 hgT)))⟩,  by rw [ht]; exact hP9, va_K.moved hW.alike hK9, hD9⟩, hS.F ht⟩) hS.2.2 dX8_append_58
        · have bd_502 : kt + 1 < 2147483648 := by omega
          have hn_501 := knle (a := 120) (b := kt + 1) kc_31_120 bd_502 c_443
          refine lv_aload_n hx hb dX8_append_31 rfl (lv_at hl 2 rfl) ?_
          refine va_get (D := (dC, dI)) (ci := 8) (v := .ref t0) (C := RX8) (T := TX8) (N := 2) hx hb hts (fun _ h => List.mem_cons_of_mem _ (List.mem_append_right _ h)) hown hK hP 0 rfl rfl 0 kc_l_0_2 (hts (.fieldLink RX8 9 "NotEnded$Tape" "signs" "[C") (List.mem_cons_of_mem _ (List.mem_append_left _ (List.mem_of_getElem? (i := 1) rfl)))) (fun _ h9 => h9) rfl dX8_append_32 ?_
          refine lv_aload_n hx hb dX8_append_35 rfl (lv_at hl 2 rfl) ?_
          refine va_get (D := (dC, dI)) (ci := 8) (v := .int (nI (kt + 1))) (C := RX8) (T := TX8) (N := 2) hx hb hts (fun _ h => List.mem_cons_of_mem _ (List.mem_append_right _ h)) hown hK hP 0 rfl rfl 1 kc_l_1_2 (hts (.fieldLink RX8 15 "NotEnded$Tape" "length" "I") (List.mem_cons_of_mem _ (List.mem_append_left _ (List.mem_of_getElem? (i := 0) rfl)))) (fun _ h9 => h9) rfl dX8_append_36 ?_
          refine lv_iload_n hx hb dX8_append_39 rfl (lv_at hl 0 rfl) ?_
          obtain ⟨x_503, ex_503⟩ : ∃ z : Int32, z = (Int32.toUInt32 x_382 % 65536).toInt32 := ⟨_, rfl⟩
          refine lv_i2c (v := x_503) hx hb dX8_append_40 ex_503.symm ?_
          have bd_505 : kt + 1 < 120 := by omega
          refine va_cast hx hb hK hP hD hS 1 0 rfl rfl (vp_in_nI (n := kt + 1) (N := 120) bd_505 kc_31_120) dX8_append_41 (fun H locs hP hD hS => ?_)
          obtain ⟨f_504, ef_504⟩ : ∃ gg9 : Nat → Int32, gg9 = upd f_377 (Int32.toNatClampNeg (nI (kt + 1))) (vp_nar .char x_503) := ⟨_, rfl⟩
          have hPD : kPD dC dI A [(jT, .inr (8, [.ref t0, .int (nI (kt + 1))])), (t0, .inl (cC, 120, .inl f_504))] H := by rw [ef_504]; exact ⟨hP, hD⟩
          have hP := hPD.1
          have hD := hPD.2
          refine lv_aload_n hx hb dX8_append_42 rfl (lv_at hl 2 rfl) ?_
          refine lv_dup hx hb dX8_append_43 rfl ?_
          refine va_get (D := (dC, dI)) (ci := 8) (v := .int (nI (kt + 1))) (C := RX8) (T := TX8) (N := 2) hx hb hts (fun _ h => List.mem_cons_of_mem _ (List.mem_append_right _ h)) hown hK hP 0 rfl rfl 1 kc_l_1_2 (hts (.fieldLink RX8 15 "NotEnded$Tape" "length" "I") (List.mem_cons_of_mem _ (List.mem_append_left _ (List.mem_of_getElem? (i := 0) rfl)))) (fun _ h9 => h9) rfl dX8_append_44 ?_
          refine lv_iconst (v := 1) hx hb dX8_append_47 kc_i_1 ?_
          refine lv_iadd hx hb dX8_append_48 ?_
          refine lv_topi (fun y_506 ey_506 => ?_)
          obtain rfl : y_506 = nI (kt + 1 + 1) := ey_506.trans (nI_add (kt + 1) (1))
          refine va_put (D := (dC, dI)) (ci := 8) (v := .int (nI (kt + 1 + 1))) (ty := tyX8 1) (C := RX8) (T := TX8) (N := 2) hx hb hts (fun _ h => List.mem_cons_of_mem _ (List.mem_append_right _ h)) tyX8 tyX8_ok nmX8 hown hK hP hD hS 0 rfl rfl 1 kc_l_1_2 (hts (.fieldLink RX8 15 "NotEnded$Tape" "length" "I") (List.mem_cons_of_mem _ (List.mem_append_left _ (List.mem_of_getElem? (i := 0) rfl)))) (fun _ h9 => h9) rfl (tyX8_ok 1 kc_l_1_2) rfl rfl (Nat.le_of_ble_eq_true rfl) dX8_append_49 (fun H locs hP hD hS => ?_)
          have hPD : kPD dC dI A [(jT, .inr (8, [.ref t0, .int (nI (kt + 1 + 1))])), (t0, .inl (cC, 120, .inl f_504))] H := ⟨hP, hD⟩
          have hP := hPD.1
          have hD := hPD.2
          refine lv_iinc (v := 8) hx hb dX8_append_52 hl (k := 1) rfl (by decide) kc_l_2_4 (kTo [(2, .int 8), (3, .int x_382), (0, .ref jT), (1, .int p0)]) (fun ls hl => ?_)
          refine lv_goto (tgt := 3) hx hb dX8_append_55 kc_t_55_m52 ?_
          refine lv_iload_n hx hb dX8_append_3 rfl (lv_at hl 0 rfl) ?_
          refine lv_if_lt (tgt := 58) hx hb dX8_append_4 kc_t_4_54 (fun c_507 => absurd c_507 (by decide)) (fun c_507 => ?_)
          refine lv_iload_n hx hb dX8_append_7 rfl (lv_at hl 3 rfl) ?_
          refine lv_iload_n hx hb dX8_append_8 rfl (lv_at hl 0 rfl) ?_
          obtain ⟨x_508, ex_508⟩ : ∃ z : Int32, z = (Int32.toUInt32 p0 >>> (Int32.toUInt32 8 &&& Int32.toUInt32 31)).toInt32 := ⟨_, rfl⟩
          refine lv_iushr (v := x_508) hx hb dX8_append_9 ex_508.symm ?_
          refine lv_sipush (v := 255) hx hb dX8_append_10 kc_s_255 ?_
          refine lv_iand hx hb dX8_append_13 ?_
          refine lv_topi (fun x_509 ex_509 => ?_)
          refine lv_istore_n hx hb dX8_append_14 rfl hl kc_l_3_4 (kTo [(3, .int x_509), (2, .int 8), (0, .ref jT), (1, .int p0)]) (fun ls hl => ?_)
          refine lv_iload_n hx hb dX8_append_15 rfl (lv_at hl 0 rfl) ?_
          refine lv_if_eq (tgt := 52) hx hb dX8_append_16 kc_t_16_36 (fun c_510 => ?_) (fun c_510 => ?_)
          · refine lv_iinc (v := 0) hx hb dX8_append_52 hl (k := 1) rfl (by decide) kc_l_2_4 (kTo [(2, .int 0), (3, .int x_509), (0, .ref jT), (1, .int p0)]) (fun ls hl => ?_)
            refine lv_goto (tgt := 3) hx hb dX8_append_55 kc_t_55_m52 ?_
            refine lv_iload_n hx hb dX8_append_3 rfl (lv_at hl 0 rfl) ?_
            refine lv_if_lt (tgt := 58) hx hb dX8_append_4 kc_t_4_54 (fun c_511 => absurd c_511 (by decide)) (fun c_511 => ?_)
            refine lv_iload_n hx hb dX8_append_7 rfl (lv_at hl 3 rfl) ?_
            refine lv_iload_n hx hb dX8_append_8 rfl (lv_at hl 0 rfl) ?_
            obtain ⟨x_512, ex_512⟩ : ∃ z : Int32, z = (Int32.toUInt32 p0 >>> (Int32.toUInt32 0 &&& Int32.toUInt32 31)).toInt32 := ⟨_, rfl⟩
            refine lv_iushr (v := x_512) hx hb dX8_append_9 ex_512.symm ?_
            refine lv_sipush (v := 255) hx hb dX8_append_10 kc_s_255 ?_
            refine lv_iand hx hb dX8_append_13 ?_
            refine lv_topi (fun x_513 ex_513 => ?_)
            refine lv_istore_n hx hb dX8_append_14 rfl hl kc_l_3_4 (kTo [(3, .int x_513), (2, .int 0), (0, .ref jT), (1, .int p0)]) (fun ls hl => ?_)
            refine lv_iload_n hx hb dX8_append_15 rfl (lv_at hl 0 rfl) ?_
            refine lv_if_eq (tgt := 52) hx hb dX8_append_16 kc_t_16_36 (fun c_514 => ?_) (fun c_514 => ?_)
            · refine lv_iinc (v := (-8)) hx hb dX8_append_52 hl (k := 1) rfl (by decide) kc_l_2_4 (kTo [(2, .int (-8)), (3, .int x_513), (0, .ref jT), (1, .int p0)]) (fun ls hl => ?_)
              refine lv_goto (tgt := 3) hx hb dX8_append_55 kc_t_55_m52 ?_
              refine lv_iload_n hx hb dX8_append_3 rfl (lv_at hl 0 rfl) ?_
              refine lv_if_lt (tgt := 58) hx hb dX8_append_4 kc_t_4_54 (fun c_515 => ?_) (fun c_515 => absurd (by decide) c_515)
              have hP9 := hP
              have hD9 := hD
              have hK9 := hK
              rw [hQ]
              exact W.vret hx hb hr (fun t ht hW => ⟨⟨(f_504, (kt + 1 + 1)), rfl, ⟨by omega, (kNarU ef_504 (kNarU ef_377 hgT))⟩,  by rw [ht]; exact hP9, va_K.moved hW.alike hK9, hD9⟩, hS.F ht⟩) hS.2.2 dX8_append_58
            · refine lv_aload_n hx hb dX8_append_19 rfl (lv_at hl 2 rfl) ?_
              refine va_get (D := (dC, dI)) (ci := 8) (v := .int (nI (kt + 1 + 1))) (C := RX8) (T := TX8) (N := 2) hx hb hts (fun _ h => List.mem_cons_of_mem _ (List.mem_append_right _ h)) hown hK hP 0 rfl rfl 1 kc_l_1_2 (hts (.fieldLink RX8 15 "NotEnded$Tape" "length" "I") (List.mem_cons_of_mem _ (List.mem_append_left _ (List.mem_of_getElem? (i := 0) rfl)))) (fun _ h9 => h9) rfl dX8_append_20 ?_
              refine lv_aload_n hx hb dX8_append_23 rfl (lv_at hl 2 rfl) ?_
              refine va_get (D := (dC, dI)) (ci := 8) (v := .ref t0) (C := RX8) (T := TX8) (N := 2) hx hb hts (fun _ h => List.mem_cons_of_mem _ (List.mem_append_right _ h)) hown hK hP 0 rfl rfl 0 kc_l_0_2 (hts (.fieldLink RX8 9 "NotEnded$Tape" "signs" "[C") (List.mem_cons_of_mem _ (List.mem_append_left _ (List.mem_of_getElem? (i := 1) rfl)))) (fun _ h9 => h9) rfl dX8_append_24 ?_
              refine va_alen hx hb hK hP 1 0 rfl rfl (v := 120) rfl dX8_append_27 ?_
              refine lv_icmp_ge (tgt := 52) hx hb dX8_append_28 kc_t_28_24 (fun c_516 => ?_) (fun c_516 => ?_)
              · have bd_518 : kt + 1 + 1 < 2147483648 := by omega
                have hn_517 := kle (a := 120) (b := kt + 1 + 1) kc_31_120 bd_518 c_516
                refine lv_iinc (v := (-8)) hx hb dX8_append_52 hl (k := 1) rfl (by decide) kc_l_2_4 (kTo [(2, .int (-8)), (3, .int x_513), (0, .ref jT), (1, .int p0)]) (fun ls hl => ?_)
                refine lv_goto (tgt := 3) hx hb dX8_append_55 kc_t_55_m52 ?_
                refine lv_iload_n hx hb dX8_append_3 rfl (lv_at hl 0 rfl) ?_
                refine lv_if_lt (tgt := 58) hx hb dX8_append_4 kc_t_4_54 (fun c_519 => ?_) (fun c_519 => absurd (by decide) c_519)
                have hP9 := hP
                have hD9 := hD
                have hK9 := hK
                rw [hQ]
                exact W.vret hx hb hr (fun t ht hW => ⟨⟨(f_504, (kt + 1 + 1)), rfl, ⟨by omega, (kNarU ef_504 (kNarU ef_377 hgT))⟩,  by rw [ht]; exact hP9, va_K.moved hW.alike hK9, hD9⟩, hS.F ht⟩) hS.2.2 dX8_append_58
              · have bd_521 : kt + 1 + 1 < 2147483648 := by omega
                have hn_520 := knle (a := 120) (b := kt + 1 + 1) kc_31_120 bd_521 c_516
                refine lv_aload_n hx hb dX8_append_31 rfl (lv_at hl 2 rfl) ?_
                refine va_get (D := (dC, dI)) (ci := 8) (v := .ref t0) (C := RX8) (T := TX8) (N := 2) hx hb hts (fun _ h => List.mem_cons_of_mem _ (List.mem_append_right _ h)) hown hK hP 0 rfl rfl 0 kc_l_0_2 (hts (.fieldLink RX8 9 "NotEnded$Tape" "signs" "[C") (List.mem_cons_of_mem _ (List.mem_append_left _ (List.mem_of_getElem? (i := 1) rfl)))) (fun _ h9 => h9) rfl dX8_append_32 ?_
                refine lv_aload_n hx hb dX8_append_35 rfl (lv_at hl 2 rfl) ?_
                refine va_get (D := (dC, dI)) (ci := 8) (v := .int (nI (kt + 1 + 1))) (C := RX8) (T := TX8) (N := 2) hx hb hts (fun _ h => List.mem_cons_of_mem _ (List.mem_append_right _ h)) hown hK hP 0 rfl rfl 1 kc_l_1_2 (hts (.fieldLink RX8 15 "NotEnded$Tape" "length" "I") (List.mem_cons_of_mem _ (List.mem_append_left _ (List.mem_of_getElem? (i := 0) rfl)))) (fun _ h9 => h9) rfl dX8_append_36 ?_
                refine lv_iload_n hx hb dX8_append_39 rfl (lv_at hl 0 rfl) ?_
                obtain ⟨x_522, ex_522⟩ : ∃ z : Int32, z = (Int32.toUInt32 x_513 % 65536).toInt32 := ⟨_, rfl⟩
                refine lv_i2c (v := x_522) hx hb dX8_append_40 ex_522.symm ?_
                have bd_524 : kt + 1 + 1 < 120 := by omega
                refine va_cast hx hb hK hP hD hS 1 0 rfl rfl (vp_in_nI (n := kt + 1 + 1) (N := 120) bd_524 kc_31_120) dX8_append_41 (fun H locs hP hD hS => ?_)
                obtain ⟨f_523, ef_523⟩ : ∃ gg9 : Nat → Int32, gg9 = upd f_504 (Int32.toNatClampNeg (nI (kt + 1 + 1))) (vp_nar .char x_522) := ⟨_, rfl⟩
                have hPD : kPD dC dI A [(jT, .inr (8, [.ref t0, .int (nI (kt + 1 + 1))])), (t0, .inl (cC, 120, .inl f_523))] H := by rw [ef_523]; exact ⟨hP, hD⟩
                have hP := hPD.1
                have hD := hPD.2
                refine lv_aload_n hx hb dX8_append_42 rfl (lv_at hl 2 rfl) ?_
                refine lv_dup hx hb dX8_append_43 rfl ?_
                refine va_get (D := (dC, dI)) (ci := 8) (v := .int (nI (kt + 1 + 1))) (C := RX8) (T := TX8) (N := 2) hx hb hts (fun _ h => List.mem_cons_of_mem _ (List.mem_append_right _ h)) hown hK hP 0 rfl rfl 1 kc_l_1_2 (hts (.fieldLink RX8 15 "NotEnded$Tape" "length" "I") (List.mem_cons_of_mem _ (List.mem_append_left _ (List.mem_of_getElem? (i := 0) rfl)))) (fun _ h9 => h9) rfl dX8_append_44 ?_
                refine lv_iconst (v := 1) hx hb dX8_append_47 kc_i_1 ?_
                refine lv_iadd hx hb dX8_append_48 ?_
                refine lv_topi (fun y_525 ey_525 => ?_)
                obtain rfl : y_525 = nI (kt + 1 + 1 + 1) := ey_525.trans (nI_add (kt + 1 + 1) (1))
                refine va_put (D := (dC, dI)) (ci := 8) (v := .int (nI (kt + 1 + 1 + 1))) (ty := tyX8 1) (C := RX8) (T := TX8) (N := 2) hx hb hts (fun _ h => List.mem_cons_of_mem _ (List.mem_append_right _ h)) tyX8 tyX8_ok nmX8 hown hK hP hD hS 0 rfl rfl 1 kc_l_1_2 (hts (.fieldLink RX8 15 "NotEnded$Tape" "length" "I") (List.mem_cons_of_mem _ (List.mem_append_left _ (List.mem_of_getElem? (i := 0) rfl)))) (fun _ h9 => h9) rfl (tyX8_ok 1 kc_l_1_2) rfl rfl (Nat.le_of_ble_eq_true rfl) dX8_append_49 (fun H locs hP hD hS => ?_)
                have hPD : kPD dC dI A [(jT, .inr (8, [.ref t0, .int (nI (kt + 1 + 1 + 1))])), (t0, .inl (cC, 120, .inl f_523))] H := ⟨hP, hD⟩
                have hP := hPD.1
                have hD := hPD.2
                refine lv_iinc (v := (-8)) hx hb dX8_append_52 hl (k := 1) rfl (by decide) kc_l_2_4 (kTo [(2, .int (-8)), (3, .int x_513), (0, .ref jT), (1, .int p0)]) (fun ls hl => ?_)
                refine lv_goto (tgt := 3) hx hb dX8_append_55 kc_t_55_m52 ?_
                refine lv_iload_n hx hb dX8_append_3 rfl (lv_at hl 0 rfl) ?_
                refine lv_if_lt (tgt := 58) hx hb dX8_append_4 kc_t_4_54 (fun c_526 => ?_) (fun c_526 => absurd (by decide) c_526)
                have hP9 := hP
                have hD9 := hD
                have hK9 := hK
                rw [hQ]
                exact W.vret hx hb hr (fun t ht hW => ⟨⟨(f_523, (kt + 1 + 1 + 1)), rfl, ⟨by omega, (kNarU ef_523 (kNarU ef_504 (kNarU ef_377 hgT)))⟩,  by rw [ht]; exact hP9, va_K.moved hW.alike hK9, hD9⟩, hS.F ht⟩) hS.2.2 dX8_append_58
          · refine lv_aload_n hx hb dX8_append_19 rfl (lv_at hl 2 rfl) ?_
            refine va_get (D := (dC, dI)) (ci := 8) (v := .int (nI (kt + 1 + 1))) (C := RX8) (T := TX8) (N := 2) hx hb hts (fun _ h => List.mem_cons_of_mem _ (List.mem_append_right _ h)) hown hK hP 0 rfl rfl 1 kc_l_1_2 (hts (.fieldLink RX8 15 "NotEnded$Tape" "length" "I") (List.mem_cons_of_mem _ (List.mem_append_left _ (List.mem_of_getElem? (i := 0) rfl)))) (fun _ h9 => h9) rfl dX8_append_20 ?_
            refine lv_aload_n hx hb dX8_append_23 rfl (lv_at hl 2 rfl) ?_
            refine va_get (D := (dC, dI)) (ci := 8) (v := .ref t0) (C := RX8) (T := TX8) (N := 2) hx hb hts (fun _ h => List.mem_cons_of_mem _ (List.mem_append_right _ h)) hown hK hP 0 rfl rfl 0 kc_l_0_2 (hts (.fieldLink RX8 9 "NotEnded$Tape" "signs" "[C") (List.mem_cons_of_mem _ (List.mem_append_left _ (List.mem_of_getElem? (i := 1) rfl)))) (fun _ h9 => h9) rfl dX8_append_24 ?_
            refine va_alen hx hb hK hP 1 0 rfl rfl (v := 120) rfl dX8_append_27 ?_
            refine lv_icmp_ge (tgt := 52) hx hb dX8_append_28 kc_t_28_24 (fun c_527 => ?_) (fun c_527 => ?_)
            · have bd_529 : kt + 1 + 1 < 2147483648 := by omega
              have hn_528 := kle (a := 120) (b := kt + 1 + 1) kc_31_120 bd_529 c_527
              refine lv_iinc (v := 0) hx hb dX8_append_52 hl (k := 1) rfl (by decide) kc_l_2_4 (kTo [(2, .int 0), (3, .int x_509), (0, .ref jT), (1, .int p0)]) (fun ls hl => ?_)
              refine lv_goto (tgt := 3) hx hb dX8_append_55 kc_t_55_m52 ?_
              refine lv_iload_n hx hb dX8_append_3 rfl (lv_at hl 0 rfl) ?_
              refine lv_if_lt (tgt := 58) hx hb dX8_append_4 kc_t_4_54 (fun c_530 => absurd c_530 (by decide)) (fun c_530 => ?_)
              refine lv_iload_n hx hb dX8_append_7 rfl (lv_at hl 3 rfl) ?_
              refine lv_iload_n hx hb dX8_append_8 rfl (lv_at hl 0 rfl) ?_
              obtain ⟨x_531, ex_531⟩ : ∃ z : Int32, z = (Int32.toUInt32 p0 >>> (Int32.toUInt32 0 &&& Int32.toUInt32 31)).toInt32 := ⟨_, rfl⟩
              refine lv_iushr (v := x_531) hx hb dX8_append_9 ex_531.symm ?_
              refine lv_sipush (v := 255) hx hb dX8_append_10 kc_s_255 ?_
              refine lv_iand hx hb dX8_append_13 ?_
              refine lv_topi (fun x_532 ex_532 => ?_)
              refine lv_istore_n hx hb dX8_append_14 rfl hl kc_l_3_4 (kTo [(3, .int x_532), (2, .int 0), (0, .ref jT), (1, .int p0)]) (fun ls hl => ?_)
              refine lv_iload_n hx hb dX8_append_15 rfl (lv_at hl 0 rfl) ?_
              refine lv_if_eq (tgt := 52) hx hb dX8_append_16 kc_t_16_36 (fun c_533 => ?_) (fun c_533 => ?_)
              · refine lv_iinc (v := (-8)) hx hb dX8_append_52 hl (k := 1) rfl (by decide) kc_l_2_4 (kTo [(2, .int (-8)), (3, .int x_532), (0, .ref jT), (1, .int p0)]) (fun ls hl => ?_)
                refine lv_goto (tgt := 3) hx hb dX8_append_55 kc_t_55_m52 ?_
                refine lv_iload_n hx hb dX8_append_3 rfl (lv_at hl 0 rfl) ?_
                refine lv_if_lt (tgt := 58) hx hb dX8_append_4 kc_t_4_54 (fun c_534 => ?_) (fun c_534 => absurd (by decide) c_534)
                have hP9 := hP
                have hD9 := hD
                have hK9 := hK
                rw [hQ]
                exact W.vret hx hb hr (fun t ht hW => ⟨⟨(f_504, (kt + 1 + 1)), rfl, ⟨by omega, (kNarU ef_504 (kNarU ef_377 hgT))⟩,  by rw [ht]; exact hP9, va_K.moved hW.alike hK9, hD9⟩, hS.F ht⟩) hS.2.2 dX8_append_58
              · refine lv_aload_n hx hb dX8_append_19 rfl (lv_at hl 2 rfl) ?_
                refine va_get (D := (dC, dI)) (ci := 8) (v := .int (nI (kt + 1 + 1))) (C := RX8) (T := TX8) (N := 2) hx hb hts (fun _ h => List.mem_cons_of_mem _ (List.mem_append_right _ h)) hown hK hP 0 rfl rfl 1 kc_l_1_2 (hts (.fieldLink RX8 15 "NotEnded$Tape" "length" "I") (List.mem_cons_of_mem _ (List.mem_append_left _ (List.mem_of_getElem? (i := 0) rfl)))) (fun _ h9 => h9) rfl dX8_append_20 ?_
                refine lv_aload_n hx hb dX8_append_23 rfl (lv_at hl 2 rfl) ?_
                refine va_get (D := (dC, dI)) (ci := 8) (v := .ref t0) (C := RX8) (T := TX8) (N := 2) hx hb hts (fun _ h => List.mem_cons_of_mem _ (List.mem_append_right _ h)) hown hK hP 0 rfl rfl 0 kc_l_0_2 (hts (.fieldLink RX8 9 "NotEnded$Tape" "signs" "[C") (List.mem_cons_of_mem _ (List.mem_append_left _ (List.mem_of_getElem? (i := 1) rfl)))) (fun _ h9 => h9) rfl dX8_append_24 ?_
                refine va_alen hx hb hK hP 1 0 rfl rfl (v := 120) rfl dX8_append_27 ?_
                refine lv_icmp_ge (tgt := 52) hx hb dX8_append_28 kc_t_28_24 (fun c_535 => ?_) (fun c_535 => ?_)
                · have hn_536 := kle (a := 120) (b := kt + 1 + 1) kc_31_120 bd_529 c_535
                  refine lv_iinc (v := (-8)) hx hb dX8_append_52 hl (k := 1) rfl (by decide) kc_l_2_4 (kTo [(2, .int (-8)), (3, .int x_532), (0, .ref jT), (1, .int p0)]) (fun ls hl => ?_)
                  refine lv_goto (tgt := 3) hx hb dX8_append_55 kc_t_55_m52 ?_
                  refine lv_iload_n hx hb dX8_append_3 rfl (lv_at hl 0 rfl) ?_
                  refine lv_if_lt (tgt := 58) hx hb dX8_append_4 kc_t_4_54 (fun c_537 => ?_) (fun c_537 => absurd (by decide) c_537)
                  have hP9 := hP
                  have hD9 := hD
                  have hK9 := hK
                  rw [hQ]
                  exact W.vret hx hb hr (fun t ht hW => ⟨⟨(f_504, (kt + 1 + 1)), rfl, ⟨by omega, (kNarU ef_504 (kNarU ef_377 hgT))⟩,  by rw [ht]; exact hP9, va_K.moved hW.alike hK9, hD9⟩, hS.F ht⟩) hS.2.2 dX8_append_58
                · have hn_538 := knle (a := 120) (b := kt + 1 + 1) kc_31_120 bd_529 c_535
                  refine lv_aload_n hx hb dX8_append_31 rfl (lv_at hl 2 rfl) ?_
                  refine va_get (D := (dC, dI)) (ci := 8) (v := .ref t0) (C := RX8) (T := TX8) (N := 2) hx hb hts (fun _ h => List.mem_cons_of_mem _ (List.mem_append_right _ h)) hown hK hP 0 rfl rfl 0 kc_l_0_2 (hts (.fieldLink RX8 9 "NotEnded$Tape" "signs" "[C") (List.mem_cons_of_mem _ (List.mem_append_left _ (List.mem_of_getElem? (i := 1) rfl)))) (fun _ h9 => h9) rfl dX8_append_32 ?_
                  refine lv_aload_n hx hb dX8_append_35 rfl (lv_at hl 2 rfl) ?_
                  refine va_get (D := (dC, dI)) (ci := 8) (v := .int (nI (kt + 1 + 1))) (C := RX8) (T := TX8) (N := 2) hx hb hts (fun _ h => List.mem_cons_of_mem _ (List.mem_append_right _ h)) hown hK hP 0 rfl rfl 1 kc_l_1_2 (hts (.fieldLink RX8 15 "NotEnded$Tape" "length" "I") (List.mem_cons_of_mem _ (List.mem_append_left _ (List.mem_of_getElem? (i := 0) rfl)))) (fun _ h9 => h9) rfl dX8_append_36 ?_
                  refine lv_iload_n hx hb dX8_append_39 rfl (lv_at hl 0 rfl) ?_
                  obtain ⟨x_539, ex_539⟩ : ∃ z : Int32, z = (Int32.toUInt32 x_532 % 65536).toInt32 := ⟨_, rfl⟩
                  refine lv_i2c (v := x_539) hx hb dX8_append_40 ex_539.symm ?_
                  have bd_541 : kt + 1 + 1 < 120 := by omega
                  refine va_cast hx hb hK hP hD hS 1 0 rfl rfl (vp_in_nI (n := kt + 1 + 1) (N := 120) bd_541 kc_31_120) dX8_append_41 (fun H locs hP hD hS => ?_)
                  obtain ⟨f_540, ef_540⟩ : ∃ gg9 : Nat → Int32, gg9 = upd f_504 (Int32.toNatClampNeg (nI (kt + 1 + 1))) (vp_nar .char x_539) := ⟨_, rfl⟩
                  have hPD : kPD dC dI A [(jT, .inr (8, [.ref t0, .int (nI (kt + 1 + 1))])), (t0, .inl (cC, 120, .inl f_540))] H := by rw [ef_540]; exact ⟨hP, hD⟩
                  have hP := hPD.1
                  have hD := hPD.2
                  refine lv_aload_n hx hb dX8_append_42 rfl (lv_at hl 2 rfl) ?_
                  refine lv_dup hx hb dX8_append_43 rfl ?_
                  refine va_get (D := (dC, dI)) (ci := 8) (v := .int (nI (kt + 1 + 1))) (C := RX8) (T := TX8) (N := 2) hx hb hts (fun _ h => List.mem_cons_of_mem _ (List.mem_append_right _ h)) hown hK hP 0 rfl rfl 1 kc_l_1_2 (hts (.fieldLink RX8 15 "NotEnded$Tape" "length" "I") (List.mem_cons_of_mem _ (List.mem_append_left _ (List.mem_of_getElem? (i := 0) rfl)))) (fun _ h9 => h9) rfl dX8_append_44 ?_
                  refine lv_iconst (v := 1) hx hb dX8_append_47 kc_i_1 ?_
                  refine lv_iadd hx hb dX8_append_48 ?_
                  refine lv_topi (fun y_542 ey_542 => ?_)
                  obtain rfl : y_542 = nI (kt + 1 + 1 + 1) := ey_542.trans (nI_add (kt + 1 + 1) (1))
                  refine va_put (D := (dC, dI)) (ci := 8) (v := .int (nI (kt + 1 + 1 + 1))) (ty := tyX8 1) (C := RX8) (T := TX8) (N := 2) hx hb hts (fun _ h => List.mem_cons_of_mem _ (List.mem_append_right _ h)) tyX8 tyX8_ok nmX8 hown hK hP hD hS 0 rfl rfl 1 kc_l_1_2 (hts (.fieldLink RX8 15 "NotEnded$Tape" "length" "I") (List.mem_cons_of_mem _ (List.mem_append_left _ (List.mem_of_getElem? (i := 0) rfl)))) (fun _ h9 => h9) rfl (tyX8_ok 1 kc_l_1_2) rfl rfl (Nat.le_of_ble_eq_true rfl) dX8_append_49 (fun H locs hP hD hS => ?_)
                  have hPD : kPD dC dI A [(jT, .inr (8, [.ref t0, .int (nI (kt + 1 + 1 + 1))])), (t0, .inl (cC, 120, .inl f_540))] H := ⟨hP, hD⟩
                  have hP := hPD.1
                  have hD := hPD.2
                  refine lv_iinc (v := (-8)) hx hb dX8_append_52 hl (k := 1) rfl (by decide) kc_l_2_4 (kTo [(2, .int (-8)), (3, .int x_532), (0, .ref jT), (1, .int p0)]) (fun ls hl => ?_)
                  refine lv_goto (tgt := 3) hx hb dX8_append_55 kc_t_55_m52 ?_
                  refine lv_iload_n hx hb dX8_append_3 rfl (lv_at hl 0 rfl) ?_
                  refine lv_if_lt (tgt := 58) hx hb dX8_append_4 kc_t_4_54 (fun c_543 => ?_) (fun c_543 => absurd (by decide) c_543)
                  have hP9 := hP
                  have hD9 := hD
                  have hK9 := hK
                  rw [hQ]
                  exact W.vret hx hb hr (fun t ht hW => ⟨⟨(f_540, (kt + 1 + 1 + 1)), rfl, ⟨by omega, (kNarU ef_540 (kNarU ef_504 (kNarU ef_377 hgT)))⟩,  by rw [ht]; exact hP9, va_K.moved hW.alike hK9, hD9⟩, hS.F ht⟩) hS.2.2 dX8_append_58
            · have bd_545 : kt + 1 + 1 < 2147483648 := by omega
              have hn_544 := knle (a := 120) (b := kt + 1 + 1) kc_31_120 bd_545 c_527
              refine lv_aload_n hx hb dX8_append_31 rfl (lv_at hl 2 rfl) ?_
              refine va_get (D := (dC, dI)) (ci := 8) (v := .ref t0) (C := RX8) (T := TX8) (N := 2) hx hb hts (fun _ h => List.mem_cons_of_mem _ (List.mem_append_right _ h)) hown hK hP 0 rfl rfl 0 kc_l_0_2 (hts (.fieldLink RX8 9 "NotEnded$Tape" "signs" "[C") (List.mem_cons_of_mem _ (List.mem_append_left _ (List.mem_of_getElem? (i := 1) rfl)))) (fun _ h9 => h9) rfl dX8_append_32 ?_
              refine lv_aload_n hx hb dX8_append_35 rfl (lv_at hl 2 rfl) ?_
              refine va_get (D := (dC, dI)) (ci := 8) (v := .int (nI (kt + 1 + 1))) (C := RX8) (T := TX8) (N := 2) hx hb hts (fun _ h => List.mem_cons_of_mem _ (List.mem_append_right _ h)) hown hK hP 0 rfl rfl 1 kc_l_1_2 (hts (.fieldLink RX8 15 "NotEnded$Tape" "length" "I") (List.mem_cons_of_mem _ (List.mem_append_left _ (List.mem_of_getElem? (i := 0) rfl)))) (fun _ h9 => h9) rfl dX8_append_36 ?_
              refine lv_iload_n hx hb dX8_append_39 rfl (lv_at hl 0 rfl) ?_
              obtain ⟨x_546, ex_546⟩ : ∃ z : Int32, z = (Int32.toUInt32 x_509 % 65536).toInt32 := ⟨_, rfl⟩
              refine lv_i2c (v := x_546) hx hb dX8_append_40 ex_546.symm ?_
              have bd_548 : kt + 1 + 1 < 120 := by omega
              refine va_cast hx hb hK hP hD hS 1 0 rfl rfl (vp_in_nI (n := kt + 1 + 1) (N := 120) bd_548 kc_31_120) dX8_append_41 (fun H locs hP hD hS => ?_)
              obtain ⟨f_547, ef_547⟩ : ∃ gg9 : Nat → Int32, gg9 = upd f_504 (Int32.toNatClampNeg (nI (kt + 1 + 1))) (vp_nar .char x_546) := ⟨_, rfl⟩
              have hPD : kPD dC dI A [(jT, .inr (8, [.ref t0, .int (nI (kt + 1 + 1))])), (t0, .inl (cC, 120, .inl f_547))] H := by rw [ef_547]; exact ⟨hP, hD⟩
              have hP := hPD.1
              have hD := hPD.2
              refine lv_aload_n hx hb dX8_append_42 rfl (lv_at hl 2 rfl) ?_
              refine lv_dup hx hb dX8_append_43 rfl ?_
              refine va_get (D := (dC, dI)) (ci := 8) (v := .int (nI (kt + 1 + 1))) (C := RX8) (T := TX8) (N := 2) hx hb hts (fun _ h => List.mem_cons_of_mem _ (List.mem_append_right _ h)) hown hK hP 0 rfl rfl 1 kc_l_1_2 (hts (.fieldLink RX8 15 "NotEnded$Tape" "length" "I") (List.mem_cons_of_mem _ (List.mem_append_left _ (List.mem_of_getElem? (i := 0) rfl)))) (fun _ h9 => h9) rfl dX8_append_44 ?_
              refine lv_iconst (v := 1) hx hb dX8_append_47 kc_i_1 ?_
              refine lv_iadd hx hb dX8_append_48 ?_
              refine lv_topi (fun y_549 ey_549 => ?_)
              obtain rfl : y_549 = nI (kt + 1 + 1 + 1) := ey_549.trans (nI_add (kt + 1 + 1) (1))
              refine va_put (D := (dC, dI)) (ci := 8) (v := .int (nI (kt + 1 + 1 + 1))) (ty := tyX8 1) (C := RX8) (T := TX8) (N := 2) hx hb hts (fun _ h => List.mem_cons_of_mem _ (List.mem_append_right _ h)) tyX8 tyX8_ok nmX8 hown hK hP hD hS 0 rfl rfl 1 kc_l_1_2 (hts (.fieldLink RX8 15 "NotEnded$Tape" "length" "I") (List.mem_cons_of_mem _ (List.mem_append_left _ (List.mem_of_getElem? (i := 0) rfl)))) (fun _ h9 => h9) rfl (tyX8_ok 1 kc_l_1_2) rfl rfl (Nat.le_of_ble_eq_true rfl) dX8_append_49 (fun H locs hP hD hS => ?_)
              have hPD : kPD dC dI A [(jT, .inr (8, [.ref t0, .int (nI (kt + 1 + 1 + 1))])), (t0, .inl (cC, 120, .inl f_547))] H := ⟨hP, hD⟩
              have hP := hPD.1
              have hD := hPD.2
              refine lv_iinc (v := 0) hx hb dX8_append_52 hl (k := 1) rfl (by decide) kc_l_2_4 (kTo [(2, .int 0), (3, .int x_509), (0, .ref jT), (1, .int p0)]) (fun ls hl => ?_)
              refine lv_goto (tgt := 3) hx hb dX8_append_55 kc_t_55_m52 ?_
              refine lv_iload_n hx hb dX8_append_3 rfl (lv_at hl 0 rfl) ?_
              refine lv_if_lt (tgt := 58) hx hb dX8_append_4 kc_t_4_54 (fun c_550 => absurd c_550 (by decide)) (fun c_550 => ?_)
              refine lv_iload_n hx hb dX8_append_7 rfl (lv_at hl 3 rfl) ?_
              refine lv_iload_n hx hb dX8_append_8 rfl (lv_at hl 0 rfl) ?_
              obtain ⟨x_551, ex_551⟩ : ∃ z : Int32, z = (Int32.toUInt32 p0 >>> (Int32.toUInt32 0 &&& Int32.toUInt32 31)).toInt32 := ⟨_, rfl⟩
              refine lv_iushr (v := x_551) hx hb dX8_append_9 ex_551.symm ?_
              refine lv_sipush (v := 255) hx hb dX8_append_10 kc_s_255 ?_
              refine lv_iand hx hb dX8_append_13 ?_
              refine lv_topi (fun x_552 ex_552 => ?_)
              refine lv_istore_n hx hb dX8_append_14 rfl hl kc_l_3_4 (kTo [(3, .int x_552), (2, .int 0), (0, .ref jT), (1, .int p0)]) (fun ls hl => ?_)
              refine lv_iload_n hx hb dX8_append_15 rfl (lv_at hl 0 rfl) ?_
              refine lv_if_eq (tgt := 52) hx hb dX8_append_16 kc_t_16_36 (fun c_553 => ?_) (fun c_553 => ?_)
              · refine lv_iinc (v := (-8)) hx hb dX8_append_52 hl (k := 1) rfl (by decide) kc_l_2_4 (kTo [(2, .int (-8)), (3, .int x_552), (0, .ref jT), (1, .int p0)]) (fun ls hl => ?_)
                refine lv_goto (tgt := 3) hx hb dX8_append_55 kc_t_55_m52 ?_
                refine lv_iload_n hx hb dX8_append_3 rfl (lv_at hl 0 rfl) ?_
                refine lv_if_lt (tgt := 58) hx hb dX8_append_4 kc_t_4_54 (fun c_554 => ?_) (fun c_554 => absurd (by decide) c_554)
                have hP9 := hP
                have hD9 := hD
                have hK9 := hK
                rw [hQ]
                exact W.vret hx hb hr (fun t ht hW => ⟨⟨(f_547, (kt + 1 + 1 + 1)), rfl, ⟨by omega, (kNarU ef_547 (kNarU ef_504 (kNarU ef_377 hgT)))⟩,  by rw [ht]; exact hP9, va_K.moved hW.alike hK9, hD9⟩, hS.F ht⟩) hS.2.2 dX8_append_58
              · refine lv_aload_n hx hb dX8_append_19 rfl (lv_at hl 2 rfl) ?_
                refine va_get (D := (dC, dI)) (ci := 8) (v := .int (nI (kt + 1 + 1 + 1))) (C := RX8) (T := TX8) (N := 2) hx hb hts (fun _ h => List.mem_cons_of_mem _ (List.mem_append_right _ h)) hown hK hP 0 rfl rfl 1 kc_l_1_2 (hts (.fieldLink RX8 15 "NotEnded$Tape" "length" "I") (List.mem_cons_of_mem _ (List.mem_append_left _ (List.mem_of_getElem? (i := 0) rfl)))) (fun _ h9 => h9) rfl dX8_append_20 ?_
                refine lv_aload_n hx hb dX8_append_23 rfl (lv_at hl 2 rfl) ?_
                refine va_get (D := (dC, dI)) (ci := 8) (v := .ref t0) (C := RX8) (T := TX8) (N := 2) hx hb hts (fun _ h => List.mem_cons_of_mem _ (List.mem_append_right _ h)) hown hK hP 0 rfl rfl 0 kc_l_0_2 (hts (.fieldLink RX8 9 "NotEnded$Tape" "signs" "[C") (List.mem_cons_of_mem _ (List.mem_append_left _ (List.mem_of_getElem? (i := 1) rfl)))) (fun _ h9 => h9) rfl dX8_append_24 ?_
                refine va_alen hx hb hK hP 1 0 rfl rfl (v := 120) rfl dX8_append_27 ?_
                refine lv_icmp_ge (tgt := 52) hx hb dX8_append_28 kc_t_28_24 (fun c_555 => ?_) (fun c_555 => ?_)
                · have bd_557 : kt + 1 + 1 + 1 < 2147483648 := by omega
                  have hn_556 := kle (a := 120) (b := kt + 1 + 1 + 1) kc_31_120 bd_557 c_555
                  refine lv_iinc (v := (-8)) hx hb dX8_append_52 hl (k := 1) rfl (by decide) kc_l_2_4 (kTo [(2, .int (-8)), (3, .int x_552), (0, .ref jT), (1, .int p0)]) (fun ls hl => ?_)
                  refine lv_goto (tgt := 3) hx hb dX8_append_55 kc_t_55_m52 ?_
                  refine lv_iload_n hx hb dX8_append_3 rfl (lv_at hl 0 rfl) ?_
                  refine lv_if_lt (tgt := 58) hx hb dX8_append_4 kc_t_4_54 (fun c_558 => ?_) (fun c_558 => absurd (by decide) c_558)
                  have hP9 := hP
                  have hD9 := hD
                  have hK9 := hK
                  rw [hQ]
                  exact W.vret hx hb hr (fun t ht hW => ⟨⟨(f_547, (kt + 1 + 1 + 1)), rfl, ⟨by omega, (kNarU ef_547 (kNarU ef_504 (kNarU ef_377 hgT)))⟩,  by rw [ht]; exact hP9, va_K.moved hW.alike hK9, hD9⟩, hS.F ht⟩) hS.2.2 dX8_append_58
                · have bd_560 : kt + 1 + 1 + 1 < 2147483648 := by omega
                  have hn_559 := knle (a := 120) (b := kt + 1 + 1 + 1) kc_31_120 bd_560 c_555
                  refine lv_aload_n hx hb dX8_append_31 rfl (lv_at hl 2 rfl) ?_
                  refine va_get (D := (dC, dI)) (ci := 8) (v := .ref t0) (C := RX8) (T := TX8) (N := 2) hx hb hts (fun _ h => List.mem_cons_of_mem _ (List.mem_append_right _ h)) hown hK hP 0 rfl rfl 0 kc_l_0_2 (hts (.fieldLink RX8 9 "NotEnded$Tape" "signs" "[C") (List.mem_cons_of_mem _ (List.mem_append_left _ (List.mem_of_getElem? (i := 1) rfl)))) (fun _ h9 => h9) rfl dX8_append_32 ?_
                  refine lv_aload_n hx hb dX8_append_35 rfl (lv_at hl 2 rfl) ?_
                  refine va_get (D := (dC, dI)) (ci := 8) (v := .int (nI (kt + 1 + 1 + 1))) (C := RX8) (T := TX8) (N := 2) hx hb hts (fun _ h => List.mem_cons_of_mem _ (List.mem_append_right _ h)) hown hK hP 0 rfl rfl 1 kc_l_1_2 (hts (.fieldLink RX8 15 "NotEnded$Tape" "length" "I") (List.mem_cons_of_mem _ (List.mem_append_left _ (List.mem_of_getElem? (i := 0) rfl)))) (fun _ h9 => h9) rfl dX8_append_36 ?_
                  refine lv_iload_n hx hb dX8_append_39 rfl (lv_at hl 0 rfl) ?_
                  obtain ⟨x_561, ex_561⟩ : ∃ z : Int32, z = (Int32.toUInt32 x_552 % 65536).toInt32 := ⟨_, rfl⟩
                  refine lv_i2c (v := x_561) hx hb dX8_append_40 ex_561.symm ?_
                  have bd_563 : kt + 1 + 1 + 1 < 120 := by omega
                  refine va_cast hx hb hK hP hD hS 1 0 rfl rfl (vp_in_nI (n := kt + 1 + 1 + 1) (N := 120) bd_563 kc_31_120) dX8_append_41 (fun H locs hP hD hS => ?_)
                  obtain ⟨f_562, ef_562⟩ : ∃ gg9 : Nat → Int32, gg9 = upd f_547 (Int32.toNatClampNeg (nI (kt + 1 + 1 + 1))) (vp_nar .char x_561) := ⟨_, rfl⟩
                  have hPD : kPD dC dI A [(jT, .inr (8, [.ref t0, .int (nI (kt + 1 + 1 + 1))])), (t0, .inl (cC, 120, .inl f_562))] H := by rw [ef_562]; exact ⟨hP, hD⟩
                  have hP := hPD.1
                  have hD := hPD.2
                  refine lv_aload_n hx hb dX8_append_42 rfl (lv_at hl 2 rfl) ?_
                  refine lv_dup hx hb dX8_append_43 rfl ?_
                  refine va_get (D := (dC, dI)) (ci := 8) (v := .int (nI (kt + 1 + 1 + 1))) (C := RX8) (T := TX8) (N := 2) hx hb hts (fun _ h => List.mem_cons_of_mem _ (List.mem_append_right _ h)) hown hK hP 0 rfl rfl 1 kc_l_1_2 (hts (.fieldLink RX8 15 "NotEnded$Tape" "length" "I") (List.mem_cons_of_mem _ (List.mem_append_left _ (List.mem_of_getElem? (i := 0) rfl)))) (fun _ h9 => h9) rfl dX8_append_44 ?_
                  refine lv_iconst (v := 1) hx hb dX8_append_47 kc_i_1 ?_
                  refine lv_iadd hx hb dX8_append_48 ?_
                  refine lv_topi (fun y_564 ey_564 => ?_)
                  obtain rfl : y_564 = nI (kt + 1 + 1 + 1 + 1) := ey_564.trans (nI_add (kt + 1 + 1 + 1) (1))
                  refine va_put (D := (dC, dI)) (ci := 8) (v := .int (nI (kt + 1 + 1 + 1 + 1))) (ty := tyX8 1) (C := RX8) (T := TX8) (N := 2) hx hb hts (fun _ h => List.mem_cons_of_mem _ (List.mem_append_right _ h)) tyX8 tyX8_ok nmX8 hown hK hP hD hS 0 rfl rfl 1 kc_l_1_2 (hts (.fieldLink RX8 15 "NotEnded$Tape" "length" "I") (List.mem_cons_of_mem _ (List.mem_append_left _ (List.mem_of_getElem? (i := 0) rfl)))) (fun _ h9 => h9) rfl (tyX8_ok 1 kc_l_1_2) rfl rfl (Nat.le_of_ble_eq_true rfl) dX8_append_49 (fun H locs hP hD hS => ?_)
                  have hPD : kPD dC dI A [(jT, .inr (8, [.ref t0, .int (nI (kt + 1 + 1 + 1 + 1))])), (t0, .inl (cC, 120, .inl f_562))] H := ⟨hP, hD⟩
                  have hP := hPD.1
                  have hD := hPD.2
                  refine lv_iinc (v := (-8)) hx hb dX8_append_52 hl (k := 1) rfl (by decide) kc_l_2_4 (kTo [(2, .int (-8)), (3, .int x_552), (0, .ref jT), (1, .int p0)]) (fun ls hl => ?_)
                  refine lv_goto (tgt := 3) hx hb dX8_append_55 kc_t_55_m52 ?_
                  refine lv_iload_n hx hb dX8_append_3 rfl (lv_at hl 0 rfl) ?_
                  refine lv_if_lt (tgt := 58) hx hb dX8_append_4 kc_t_4_54 (fun c_565 => ?_) (fun c_565 => absurd (by decide) c_565)
                  have hP9 := hP
                  have hD9 := hD
                  have hK9 := hK
                  rw [hQ]
                  exact W.vret hx hb hr (fun t ht hW => ⟨⟨(f_562, (kt + 1 + 1 + 1 + 1)), rfl, ⟨by omega, (kNarU ef_562 (kNarU ef_547 (kNarU ef_504 (kNarU ef_377 hgT))))⟩,  by rw [ht]; exact hP9, va_K.moved hW.alike hK9, hD9⟩, hS.F ht⟩) hS.2.2 dX8_append_58

def w_s_withinN9 : List Cond := .code yX9_within cX9_within 3 (some .int) :: ([])
theorem gw_s_withinN9 : (w_s_withinN9).all goodWord = true := kGc rfl kGn
set_option maxHeartbeats 4000000 in
set_option maxRecDepth 100000 in
theorem s_withinN9 (l : Launch) (dC : Nat → ClassId) (dI : Nat → Nat → Nat) (pa : Nat) (pb : Nat) (hpa : pa ≤ pb) (hpb : pb ≤ 1000) : Met l yX9_within w_s_withinN9 ({ frames := 1, cells := 0, slots := 0, locals := 60 }) (kR dC dI [.int (nI (pa)), .int 0, .int (nI (pb))] [] [] kT) (vp_Si (fun r : Int32 => r = nI pa)) 0 0 (fun _ => False) := by
  refine Met.ofW (cc := cX9_within) (maxL := 3) (ret := (some .int)) (by decide) rfl ?_
  intro p e s m args below meth c s₁ B hml hv
  obtain ⟨rfl, hP, hK, hX⟩ := hv
  have hx := B.exec
  have hb := B.bytes
  have hr := B.returns
  have hts := atoms_spec (ws := w_s_withinN9) B.pre
  have hown : s.vm.findClass RX9 = some m.cls := findClass_of_methodNamed B.named
  have hlocks := B.notSynchronized
  have hP : va_P (dC, dI) vwCl [] s.heap := hP
  have hl := lv_entry ([.int (nI (pa)), .int 0, .int (nI (pb))]) (n := 3) (Nat.le_of_ble_eq_true rfl)
  rw [lg_entry_eq]
  generalize (lg_sl ([.int (nI (pa)), .int 0, .int (nI (pb))]) ++ List.replicate (3 - (lg_sl ([.int (nI (pa)), .int 0, .int (nI (pb))])).length) Slot.unset).toArray = ls at hl ⊢
  have hl : lv_has ls 3 [(0, .int (nI (pa))), (1, .int 0), (2, .int (nI (pb)))] := hl
  refine kQ (fun Q hQ => ?_)
  refine lv_iload_n hx hb dX9_within_0 rfl (lv_at hl 0 rfl) ?_
  refine lv_iload_n hx hb dX9_within_1 rfl (lv_at hl 1 rfl) ?_
  refine lv_icmp_ge (tgt := 7) hx hb dX9_within_2 kc_t_2_5 (fun c_1 => ?_) (fun c_1 => absurd (nI_pos' (n := pa) (by omega)) c_1)
  refine lv_iload_n hx hb dX9_within_7 rfl (lv_at hl 0 rfl) ?_
  refine lv_iload_n hx hb dX9_within_8 rfl (lv_at hl 2 rfl) ?_
  refine lv_icmp_le (tgt := 16) hx hb dX9_within_9 kc_t_9_7 (fun c_2 => ?_) (fun c_2 => absurd (nI_le (a := pa) (b := pb) (by omega) (by omega)) c_2)
  refine lv_iload_n hx hb dX9_within_16 rfl (lv_at hl 0 rfl) ?_
  rw [hQ]
  exact W.iret (v := nI (pa)) hx hb hr (fun t ht hW => ⟨nI (pa), rfl, rfl, ht⟩) (fun _ h => nomatch h) dX9_within_17

theorem dX8_cutTo_0 : decode cX8_cutTo 0 = .ok (.aload_n 0, 1) := kDs0 kf_42 (by decide +kernel)
theorem dX8_cutTo_1 : decode cX8_cutTo 1 = .ok (.iload_n 1, 1) := kDs0 kf_27 (by decide +kernel)
theorem dX8_cutTo_2 : decode cX8_cutTo 2 = .ok (.iconst 0, 1) := kDs0 kf_3 (by decide +kernel)
theorem dX8_cutTo_3 : decode cX8_cutTo 3 = .ok (.aload_n 0, 1) := kDs0 kf_42 (by decide +kernel)
theorem dX8_cutTo_4 : decode cX8_cutTo 4 = .ok (.getfield 15, 3) := kDs2 kf_180 (by decide +kernel)
theorem dX8_cutTo_7 : decode cX8_cutTo 7 = .ok (.invokestatic 19, 3) := kDs2 kf_184 (by decide +kernel)
theorem dX8_cutTo_10 : decode cX8_cutTo 10 = .ok (.putfield 15, 3) := kDs2 kf_181 (by decide +kernel)
theorem dX8_cutTo_13 : decode cX8_cutTo 13 = .ok (.return_, 1) := kDs0 kf_177 (by decide +kernel)
def w_s_cutTo8 : List Cond := .code yX8_cutTo cX8_cutTo 2 none :: ([.fieldLink RX8 15 "NotEnded$Tape" "length" "I", .initialized RX9, .static yX9_within] ++ (wsX80 ++ (w_s_withinN9)))
theorem gw_s_cutTo8 : (w_s_cutTo8).all goodWord = true := kGc rfl (kGa (by decide +kernel) (kGa gw_wsX80 gw_s_withinN9))
theorem hd_X8_cutTo : yX8_cutTo.cls ≠ "java/lang/invoke/MethodHandle" ∧ yX8_cutTo.cls ≠ "java/lang/invoke/VarHandle" ∧ (parseMethodDescriptor yX8_cutTo.desc).map (fun d => d.parameters.length) = some 1 := by decide +kernel
set_option maxHeartbeats 4000000 in
set_option maxRecDepth 100000 in
theorem s_cutTo8 (l : Launch) (dC : Nat → ClassId) (dI : Nat → Nat → Nat) (jT : Nat) (t0 : Nat) (cC : ClassId) (gT : Nat → Int32) (kt : Nat) (hkt : kt ≤ 120) (hgT : ∀ j : Nat, narrow .char (.int (gT j)) = .int (gT j)) (pn : Nat) (hpn : pn ≤ kt) (sz : Nat) : Met l yX8_cutTo w_s_cutTo8 ({ frames := 2, cells := 0, slots := 0, locals := 120 }) (kW dC dI [.ref jT, .int (nI (pn))] [(jT, .inr (8, [.ref t0, .int (nI (kt))])), (t0, .inl (cC, 120, .inl gT))] [(cC, .char)] kNL sz) (va_Qv (fun (ku : Nat) => ku = pn) (fun (ku : Nat) => fun t : State => kB dC dI [(jT, .inr (8, [.ref t0, .int (nI (ku))])), (t0, .inl (cC, 120, .inl gT))] [(cC, .char)] (va_A [(jT, .inr (8, [.ref t0, .int (nI (kt))])), (t0, .inl (cC, 120, .inl gT))] sz) t) (va_A [(jT, .inr (8, [.ref t0, .int (nI (kt))])), (t0, .inl (cC, 120, .inl gT))] sz)) 0 0 (va_A [(jT, .inr (8, [.ref t0, .int (nI (kt))])), (t0, .inl (cC, 120, .inl gT))] sz) := by
  refine Met.ofW (cc := cX8_cutTo) (maxL := 2) (ret := none) (by decide) rfl ?_
  intro p e s m args below meth c s₁ B hml hv
  obtain ⟨rfl, hsz, hP, hK, hD0, hX⟩ := hv
  have hx := B.exec
  have hb := B.bytes
  have hr := B.returns
  have hts := atoms_spec (ws := w_s_cutTo8) B.pre
  have hown : s.vm.findClass RX8 = some m.cls := findClass_of_methodNamed B.named
  have hlocks := B.notSynchronized
  subst hsz
  have hD := hD0.self (sz := s.heap.size)
  generalize hAe : va_A [(jT, .inr (8, [.ref t0, .int (nI (kt))])), (t0, .inl (cC, 120, .inl gT))] s.heap.size = A at hD ⊢
  have hA : ∀ q : Nat, s.heap.size ≤ q → A q := fun q h => by rw [← hAe]; exact Or.inr h
  have hS : va_S A s.heap s.heap [] := va_S.rf
  have hP : va_P (dC, dI) vwCl [(jT, .inr (8, [.ref t0, .int (nI (kt))])), (t0, .inl (cC, 120, .inl gT))] s.heap := hP
  have hl := lv_entry ([.ref jT, .int (nI (pn))]) (n := 2) (Nat.le_of_ble_eq_true rfl)
  rw [lg_entry_eq]
  generalize (lg_sl ([.ref jT, .int (nI (pn))]) ++ List.replicate (2 - (lg_sl ([.ref jT, .int (nI (pn))])).length) Slot.unset).toArray = ls at hl ⊢
  have hl : lv_has ls 2 [(0, .ref jT), (1, .int (nI (pn)))] := hl
  refine kQ (fun Q hQ => ?_)
  refine lv_aload_n hx hb dX8_cutTo_0 rfl (lv_at hl 0 rfl) ?_
  refine lv_iload_n hx hb dX8_cutTo_1 rfl (lv_at hl 1 rfl) ?_
  refine lv_iconst (v := 0) hx hb dX8_cutTo_2 kc_i_0 ?_
  refine lv_aload_n hx hb dX8_cutTo_3 rfl (lv_at hl 0 rfl) ?_
  refine va_get (D := (dC, dI)) (ci := 8) (v := .int (nI (kt))) (C := RX8) (T := TX8) (N := 2) hx hb hts (fun _ h => List.mem_cons_of_mem _ (List.mem_append_right _ (List.mem_append_left _ h))) hown hK hP 0 rfl rfl 1 kc_l_1_2 (hts (.fieldLink RX8 15 "NotEnded$Tape" "length" "I") (List.mem_cons_of_mem _ (List.mem_append_left _ (List.mem_of_getElem? (i := 0) rfl)))) (fun _ h9 => h9) rfl dX8_cutTo_4 ?_
  have bd_1 : kt ≤ 1000 := by omega
  have hPc := hP.sb (ws2 := []) [] rfl
  have hKc := hK.sb (tys2 := []) [] rfl
  refine vp_callSi (va_runSN (As := [.int (nI (pn)), .int 0, .int (nI (kt))]) (rest := [.ref jT]) ⟨hx, hb, hml, hown, hts⟩ (s_withinN9 l dC dI pn kt hpn bd_1) (⟨va_cnB 3 hts (goodIn_sub (fun _ h => List.mem_cons_of_mem _ (List.mem_append_right _ (List.mem_append_right _ h))) gw_s_withinN9) rfl rfl rfl (hX _ (List.mem_of_getElem? (i := 9) rfl)) (hts (.initialized RX9) (List.mem_cons_of_mem _ (List.mem_append_left _ (List.mem_of_getElem? (i := 1) rfl)))) hd_X9_within ⟨(Nat.le_of_ble_eq_true rfl), (Nat.le_of_ble_eq_true rfl)⟩, (hts (.static yX9_within) (List.mem_cons_of_mem _ (List.mem_append_left _ (List.mem_of_getElem? (i := 2) rfl)))), trivial⟩) (kR_S kT_blind kT_give hPc hKc) rfl rfl hl.1 rfl (lv_room (Nat.le_of_ble_eq_true rfl)) dX8_cutTo_7 ⟨(Nat.le_of_ble_eq_true rfl), (Nat.le_of_ble_eq_true rfl)⟩).run (fun r_2 hw => ?_)
  obtain rfl : r_2 = nI (pn) := hw
  refine va_put (D := (dC, dI)) (ci := 8) (v := .int (nI (pn))) (ty := tyX8 1) (C := RX8) (T := TX8) (N := 2) hx hb hts (fun _ h => List.mem_cons_of_mem _ (List.mem_append_right _ (List.mem_append_left _ h))) tyX8 tyX8_ok nmX8 hown hK hP hD hS 0 rfl rfl 1 kc_l_1_2 (hts (.fieldLink RX8 15 "NotEnded$Tape" "length" "I") (List.mem_cons_of_mem _ (List.mem_append_left _ (List.mem_of_getElem? (i := 0) rfl)))) (fun _ h9 => h9) rfl (tyX8_ok 1 kc_l_1_2) rfl rfl (Nat.le_of_ble_eq_true rfl) dX8_cutTo_10 (fun H locs hP hD hS => ?_)
  have hPD : kPD dC dI A [(jT, .inr (8, [.ref t0, .int (nI (pn))])), (t0, .inl (cC, 120, .inl gT))] H := ⟨hP, hD⟩
  have hP := hPD.1
  have hD := hPD.2
  have hP9 := hP
  have hD9 := hD
  have hK9 := hK
  rw [hQ]
  exact W.vret hx hb hr (fun t ht hW => ⟨⟨pn, rfl, rfl,  by rw [ht]; exact hP9, va_K.moved hW.alike hK9, hD9⟩, hS.F ht⟩) hS.2.2 dX8_cutTo_13

theorem dJ0_isLatin1_aae02_0 : decode cJ0_isLatin1_aae02 0 = .ok (.getstatic 38, 3) := kDs2 kf_178 (by decide +kernel)
theorem dJ0_isLatin1_aae02_3 : decode cJ0_isLatin1_aae02 3 = .ok (.ifCond .eq 14, 3) := kDs4 kf_153 (by decide +kernel)
theorem dJ0_isLatin1_aae02_6 : decode cJ0_isLatin1_aae02 6 = .ok (.aload_n 0, 1) := kDs0 kf_42 (by decide +kernel)
theorem dJ0_isLatin1_aae02_7 : decode cJ0_isLatin1_aae02 7 = .ok (.getfield 15, 3) := kDs2 kf_180 (by decide +kernel)
theorem dJ0_isLatin1_aae02_10 : decode cJ0_isLatin1_aae02 10 = .ok (.ifCond .ne 7, 3) := kDs4 kf_154 (by decide +kernel)
theorem dJ0_isLatin1_aae02_13 : decode cJ0_isLatin1_aae02 13 = .ok (.iconst 1, 1) := kDs0 kf_4 (by decide +kernel)
theorem dJ0_isLatin1_aae02_14 : decode cJ0_isLatin1_aae02 14 = .ok (.goto 4, 3) := kDs4 kf_167 (by decide +kernel)
theorem dJ0_isLatin1_aae02_18 : decode cJ0_isLatin1_aae02 18 = .ok (.ireturn, 1) := kDs0 kf_172 (by decide +kernel)
def w_s_t_latin : List Cond := .code yJ0_isLatin1_aae02 cJ0_isLatin1_aae02 1 (some .boolean) :: ([.fieldLink RJ0 38 "java/lang/String" "COMPACT_STRINGS" "Z", .fieldLink RJ0 15 "java/lang/String" "coder" "B"] ++ [])
theorem gw_s_t_latin : (w_s_t_latin).all goodWord = true := kGc rfl (kGa (by decide +kernel) kGn)
theorem hd_J0_isLatin1_aae02 : yJ0_isLatin1_aae02.cls ≠ "java/lang/invoke/MethodHandle" ∧ yJ0_isLatin1_aae02.cls ≠ "java/lang/invoke/VarHandle" ∧ (parseMethodDescriptor yJ0_isLatin1_aae02.desc).map (fun d => d.parameters.length) = some 0 := by decide +kernel
set_option maxHeartbeats 4000000 in
set_option maxRecDepth 100000 in
theorem s_t_latin (l : Launch) (dC : Nat → ClassId) (dI : Nat → Nat → Nat) (q : Nat) (b : Nat) (n : Nat) (g : Nat → Int32) (hn : n ≤ 8) (A : Nat → Prop) : Met l yJ0_isLatin1_aae02 w_s_t_latin ({ frames := 1, cells := 0, slots := 0, locals := 60 }) (kR dC dI [.ref q] [] [] (kSt q b n g A)) (vp_Si (fun r : Int32 => r = 1)) 0 0 (fun _ => False) := by
  refine Met.ofW (cc := cJ0_isLatin1_aae02) (maxL := 1) (ret := (some .boolean)) (by decide) rfl ?_
  intro p e s m args below meth c s₁ B hml hv
  obtain ⟨rfl, hP, hK, hX⟩ := hv
  have hx := B.exec
  have hb := B.bytes
  have hr := B.returns
  have hts := atoms_spec (ws := w_s_t_latin) B.pre
  have hown : s.vm.findClass RJ0 = some m.cls := findClass_of_methodNamed B.named
  have hlocks := B.notSynchronized
  have hS : va_S A s.heap s.heap [] := va_S.rf
  have hP : va_P (dC, dI) vwCl [] s.heap := hP
  have hl := lv_entry ([.ref q]) (n := 1) (Nat.le_of_ble_eq_true rfl)
  rw [lg_entry_eq]
  generalize (lg_sl ([.ref q]) ++ List.replicate (1 - (lg_sl ([.ref q])).length) Slot.unset).toArray = ls at hl ⊢
  have hl : lv_has ls 1 [(0, .ref q)] := hl
  refine kQ (fun Q hQ => ?_)
  refine va_gets hx hb hX.2.2.2.2.1 hS hown (hts (.fieldLink RJ0 38 "java/lang/String" "COMPACT_STRINGS" "Z") (List.mem_cons_of_mem _ (List.mem_append_left _ (List.mem_of_getElem? (i := 0) rfl)))) (fun _ h9 => h9) dJ0_isLatin1_aae02_0 ?_
  refine lv_if_eq (tgt := 17) hx hb dJ0_isLatin1_aae02_3 kc_t_3_14 (fun c_1 => absurd c_1 (by decide)) (fun c_1 => ?_)
  refine lv_aload_n hx hb dJ0_isLatin1_aae02_6 rfl (lv_at hl 0 rfl) ?_
  refine vk_getf hx hb hX.2.1 hS hown (hts (.fieldLink RJ0 15 "java/lang/String" "coder" "B") (List.mem_cons_of_mem _ (List.mem_append_left _ (List.mem_of_getElem? (i := 1) rfl)))) (fun _ h9 => h9) dJ0_isLatin1_aae02_7 ?_
  refine lv_if_ne (tgt := 17) hx hb dJ0_isLatin1_aae02_10 kc_t_10_7 (fun c_2 => absurd (by decide) c_2) (fun c_2 => ?_)
  refine lv_iconst (v := 1) hx hb dJ0_isLatin1_aae02_13 kc_i_1 ?_
  refine lv_goto (tgt := 18) hx hb dJ0_isLatin1_aae02_14 kc_t_14_4 ?_
  rw [hQ]
  exact W.zret (v := 1) hx hb hr rfl (fun t ht hW => ⟨1, rfl, rfl, ht⟩) (fun _ h => nomatch h) dJ0_isLatin1_aae02_18

theorem dJ0_coder_7d493_0 : decode cJ0_coder_7d493 0 = .ok (.getstatic 38, 3) := kDs2 kf_178 (by decide +kernel)
theorem dJ0_coder_7d493_3 : decode cJ0_coder_7d493 3 = .ok (.ifCond .eq 10, 3) := kDs4 kf_153 (by decide +kernel)
theorem dJ0_coder_7d493_6 : decode cJ0_coder_7d493 6 = .ok (.aload_n 0, 1) := kDs0 kf_42 (by decide +kernel)
theorem dJ0_coder_7d493_7 : decode cJ0_coder_7d493 7 = .ok (.getfield 15, 3) := kDs2 kf_180 (by decide +kernel)
theorem dJ0_coder_7d493_10 : decode cJ0_coder_7d493 10 = .ok (.goto 4, 3) := kDs4 kf_167 (by decide +kernel)
theorem dJ0_coder_7d493_14 : decode cJ0_coder_7d493 14 = .ok (.ireturn, 1) := kDs0 kf_172 (by decide +kernel)
def w_s_t_coder : List Cond := .code yJ0_coder_7d493 cJ0_coder_7d493 1 (some .byte) :: ([.fieldLink RJ0 38 "java/lang/String" "COMPACT_STRINGS" "Z", .fieldLink RJ0 15 "java/lang/String" "coder" "B"] ++ [])
theorem gw_s_t_coder : (w_s_t_coder).all goodWord = true := kGc rfl (kGa (by decide +kernel) kGn)
theorem hd_J0_coder_7d493 : yJ0_coder_7d493.cls ≠ "java/lang/invoke/MethodHandle" ∧ yJ0_coder_7d493.cls ≠ "java/lang/invoke/VarHandle" ∧ (parseMethodDescriptor yJ0_coder_7d493.desc).map (fun d => d.parameters.length) = some 0 := by decide +kernel
set_option maxHeartbeats 4000000 in
set_option maxRecDepth 100000 in
theorem s_t_coder (l : Launch) (dC : Nat → ClassId) (dI : Nat → Nat → Nat) (q : Nat) (b : Nat) (n : Nat) (g : Nat → Int32) (hn : n ≤ 8) (A : Nat → Prop) : Met l yJ0_coder_7d493 w_s_t_coder ({ frames := 1, cells := 0, slots := 0, locals := 60 }) (kR dC dI [.ref q] [] [] (kSt q b n g A)) (vp_Si (fun r : Int32 => r = 0)) 0 0 (fun _ => False) := by
  refine Met.ofW (cc := cJ0_coder_7d493) (maxL := 1) (ret := (some .byte)) (by decide) rfl ?_
  intro p e s m args below meth c s₁ B hml hv
  obtain ⟨rfl, hP, hK, hX⟩ := hv
  have hx := B.exec
  have hb := B.bytes
  have hr := B.returns
  have hts := atoms_spec (ws := w_s_t_coder) B.pre
  have hown : s.vm.findClass RJ0 = some m.cls := findClass_of_methodNamed B.named
  have hlocks := B.notSynchronized
  have hS : va_S A s.heap s.heap [] := va_S.rf
  have hP : va_P (dC, dI) vwCl [] s.heap := hP
  have hl := lv_entry ([.ref q]) (n := 1) (Nat.le_of_ble_eq_true rfl)
  rw [lg_entry_eq]
  generalize (lg_sl ([.ref q]) ++ List.replicate (1 - (lg_sl ([.ref q])).length) Slot.unset).toArray = ls at hl ⊢
  have hl : lv_has ls 1 [(0, .ref q)] := hl
  refine kQ (fun Q hQ => ?_)
  refine va_gets hx hb hX.2.2.2.2.1 hS hown (hts (.fieldLink RJ0 38 "java/lang/String" "COMPACT_STRINGS" "Z") (List.mem_cons_of_mem _ (List.mem_append_left _ (List.mem_of_getElem? (i := 0) rfl)))) (fun _ h9 => h9) dJ0_coder_7d493_0 ?_
  refine lv_if_eq (tgt := 13) hx hb dJ0_coder_7d493_3 kc_t_3_10 (fun c_1 => absurd c_1 (by decide)) (fun c_1 => ?_)
  refine lv_aload_n hx hb dJ0_coder_7d493_6 rfl (lv_at hl 0 rfl) ?_
  refine vk_getf hx hb hX.2.1 hS hown (hts (.fieldLink RJ0 15 "java/lang/String" "coder" "B") (List.mem_cons_of_mem _ (List.mem_append_left _ (List.mem_of_getElem? (i := 1) rfl)))) (fun _ h9 => h9) dJ0_coder_7d493_7 ?_
  refine lv_goto (tgt := 14) hx hb dJ0_coder_7d493_10 kc_t_10_4 ?_
  rw [hQ]
  exact W.zret (v := 0) hx hb hr rfl (fun t ht hW => ⟨0, rfl, rfl, ht⟩) (fun _ h => nomatch h) dJ0_coder_7d493_14

theorem dJ0_length_8abf5_0 : decode cJ0_length_8abf5 0 = .ok (.aload_n 0, 1) := kDs0 kf_42 (by decide +kernel)
theorem dJ0_length_8abf5_1 : decode cJ0_length_8abf5 1 = .ok (.getfield 9, 3) := kDs2 kf_180 (by decide +kernel)
theorem dJ0_length_8abf5_4 : decode cJ0_length_8abf5 4 = .ok (.arraylength, 1) := kDs0 kf_190 (by decide +kernel)
theorem dJ0_length_8abf5_5 : decode cJ0_length_8abf5 5 = .ok (.aload_n 0, 1) := kDs0 kf_42 (by decide +kernel)
theorem dJ0_length_8abf5_6 : decode cJ0_length_8abf5 6 = .ok (.invokevirtual 335, 3) := kDs2 kf_182 (by decide +kernel)
theorem dJ0_length_8abf5_9 : decode cJ0_length_8abf5 9 = .ok (.ishr, 1) := kDs0 kf_122 (by decide +kernel)
theorem dJ0_length_8abf5_10 : decode cJ0_length_8abf5 10 = .ok (.ireturn, 1) := kDs0 kf_172 (by decide +kernel)
def w_s_t_length : List Cond := .code yJ0_length_8abf5 cJ0_length_8abf5 1 (some .int) :: ([.fieldLink RJ0 9 "java/lang/String" "value" "[B", .initialized RJ0, .selects RJ0 yJ0_coder_7d493 yJ0_coder_7d493, .instanceMethod yJ0_coder_7d493, .methodLink RJ0 335 yJ0_coder_7d493] ++ (w_s_t_coder))
theorem gw_s_t_length : (w_s_t_length).all goodWord = true := kGc rfl (kGa (by decide +kernel) gw_s_t_coder)
theorem hd_J0_length_8abf5 : yJ0_length_8abf5.cls ≠ "java/lang/invoke/MethodHandle" ∧ yJ0_length_8abf5.cls ≠ "java/lang/invoke/VarHandle" ∧ (parseMethodDescriptor yJ0_length_8abf5.desc).map (fun d => d.parameters.length) = some 0 := by decide +kernel
set_option maxHeartbeats 4000000 in
set_option maxRecDepth 100000 in
theorem s_t_length (l : Launch) (dC : Nat → ClassId) (dI : Nat → Nat → Nat) (q : Nat) (b : Nat) (n : Nat) (g : Nat → Int32) (hn : n ≤ 8) (A : Nat → Prop) : Met l yJ0_length_8abf5 w_s_t_length ({ frames := 2, cells := 0, slots := 0, locals := 120 }) (kR dC dI [.ref q] [] [] (kSt q b n g A)) (vp_Si (fun r : Int32 => r = nI n)) 0 0 (fun _ => False) := by
  refine Met.ofW (cc := cJ0_length_8abf5) (maxL := 1) (ret := (some .int)) (by decide) rfl ?_
  intro p e s m args below meth c s₁ B hml hv
  obtain ⟨rfl, hP, hK, hX⟩ := hv
  have hx := B.exec
  have hb := B.bytes
  have hr := B.returns
  have hts := atoms_spec (ws := w_s_t_length) B.pre
  have hown : s.vm.findClass RJ0 = some m.cls := findClass_of_methodNamed B.named
  have hlocks := B.notSynchronized
  have hS : va_S A s.heap s.heap [] := va_S.rf
  have hP : va_P (dC, dI) vwCl [] s.heap := hP
  have hl := lv_entry ([.ref q]) (n := 1) (Nat.le_of_ble_eq_true rfl)
  rw [lg_entry_eq]
  generalize (lg_sl ([.ref q]) ++ List.replicate (1 - (lg_sl ([.ref q])).length) Slot.unset).toArray = ls at hl ⊢
  have hl : lv_has ls 1 [(0, .ref q)] := hl
  refine kQ (fun Q hQ => ?_)
  refine lv_aload_n hx hb dJ0_length_8abf5_0 rfl (lv_at hl 0 rfl) ?_
  refine vk_getf hx hb hX.2.2.1 hS hown (hts (.fieldLink RJ0 9 "java/lang/String" "value" "[B") (List.mem_cons_of_mem _ (List.mem_append_left _ (List.mem_of_getElem? (i := 0) rfl)))) (fun _ h9 => h9) dJ0_length_8abf5_1 ?_
  refine va_tlen hx hb hX.2.2.2.1 hS (v := nI (n)) rfl dJ0_length_8abf5_4 ?_
  refine lv_aload_n hx hb dJ0_length_8abf5_5 rfl (lv_at hl 0 rfl) ?_
  have hPc := hP.sb (ws2 := []) [] rfl
  have hKc := hK.sb (tys2 := []) [] rfl
  refine vp_callSi (va_runV (As := []) (rest := [.int (nI (n))]) ⟨hx, hb, hml, hown, hts⟩ (s_t_coder l dC dI q b n g hn A) (cwV 0 hts (kG (List.forall_mem_cons.mpr ⟨(List.mem_cons_of_mem _ (List.mem_append_left _ (List.mem_of_getElem? (i := 4) rfl))), (List.forall_mem_cons.mpr ⟨(List.mem_cons_of_mem _ (List.mem_append_left _ (List.mem_of_getElem? (i := 3) rfl))), (List.forall_mem_cons.mpr ⟨(List.mem_cons_of_mem _ (List.mem_append_left _ (List.mem_of_getElem? (i := 2) rfl))), (List.forall_mem_cons.mpr ⟨(List.mem_cons_of_mem _ (List.mem_append_left _ (List.mem_of_getElem? (i := 1) rfl))), (fun _ h => absurd h List.not_mem_nil)⟩)⟩)⟩)⟩) (kGV _ _ _ _) (fun _ h => List.mem_cons_of_mem _ (List.mem_append_right _ h)) gw_s_t_coder) rfl rfl rfl ⟨rfl, hd_J0_coder_7d493⟩ ⟨(Nat.le_of_ble_eq_true rfl), (Nat.le_of_ble_eq_true rfl)⟩) (kR_V kSt_blind (kSt_give hX hS) (kSt_recv hX hS) hPc hKc) rfl rfl hl.1 rfl (lv_room (Nat.le_of_ble_eq_true rfl)) dJ0_length_8abf5_6 ⟨(Nat.le_of_ble_eq_true rfl), (Nat.le_of_ble_eq_true rfl)⟩).run (fun r_1 hw => ?_)
  obtain rfl : r_1 = 0 := hw
  refine lv_ishr hx hb dJ0_length_8abf5_9 ?_
  refine lv_topi (fun y_2 ey_2 => ?_)
  obtain rfl : y_2 = nI (n) := ey_2.trans (sc_shr0 (by omega))
  rw [hQ]
  exact W.iret (v := nI (n)) hx hb hr (fun t ht hW => ⟨nI (n), rfl, rfl, ht⟩) (fun _ h => nomatch h) dJ0_length_8abf5_10

theorem dJ1_indexOfChar_4cfef_0 : decode cJ1_indexOfChar_4cfef 0 = .ok (.iload_n 1, 1) := kDs0 kf_27 (by decide +kernel)
theorem dJ1_indexOfChar_4cfef_1 : decode cJ1_indexOfChar_4cfef 1 = .ok (.i2b, 1) := kDs0 kf_145 (by decide +kernel)
theorem dJ1_indexOfChar_4cfef_2 : decode cJ1_indexOfChar_4cfef 2 = .ok (.istore 4, 2) := kDs1 kf_54 (by decide +kernel)
theorem dJ1_indexOfChar_4cfef_4 : decode cJ1_indexOfChar_4cfef 4 = .ok (.iload_n 2, 1) := kDs0 kf_28 (by decide +kernel)
theorem dJ1_indexOfChar_4cfef_5 : decode cJ1_indexOfChar_4cfef 5 = .ok (.istore 5, 2) := kDs1 kf_54 (by decide +kernel)
theorem dJ1_indexOfChar_4cfef_7 : decode cJ1_indexOfChar_4cfef 7 = .ok (.iload 5, 2) := kDs1 kf_21 (by decide +kernel)
theorem dJ1_indexOfChar_4cfef_9 : decode cJ1_indexOfChar_4cfef 9 = .ok (.iload_n 3, 1) := kDs0 kf_29 (by decide +kernel)
theorem dJ1_indexOfChar_4cfef_10 : decode cJ1_indexOfChar_4cfef 10 = .ok (.if_icmp .ge 21, 3) := kDs4 kf_162 (by decide +kernel)
theorem dJ1_indexOfChar_4cfef_31 : decode cJ1_indexOfChar_4cfef 31 = .ok (.iconst (-1), 1) := kDs0 kf_2 (by decide +kernel)
theorem dJ1_indexOfChar_4cfef_32 : decode cJ1_indexOfChar_4cfef 32 = .ok (.ireturn, 1) := kDs0 kf_172 (by decide +kernel)
theorem dJ1_indexOfChar_4cfef_13 : decode cJ1_indexOfChar_4cfef 13 = .ok (.aload_n 0, 1) := kDs0 kf_42 (by decide +kernel)
theorem dJ1_indexOfChar_4cfef_14 : decode cJ1_indexOfChar_4cfef 14 = .ok (.iload 5, 2) := kDs1 kf_21 (by decide +kernel)
theorem dJ1_indexOfChar_4cfef_16 : decode cJ1_indexOfChar_4cfef 16 = .ok (.baload, 1) := kDs0 kf_51 (by decide +kernel)
theorem dJ1_indexOfChar_4cfef_17 : decode cJ1_indexOfChar_4cfef 17 = .ok (.iload 4, 2) := kDs1 kf_21 (by decide +kernel)
theorem dJ1_indexOfChar_4cfef_19 : decode cJ1_indexOfChar_4cfef 19 = .ok (.if_icmp .ne 6, 3) := kDs4 kf_160 (by decide +kernel)
theorem dJ1_indexOfChar_4cfef_25 : decode cJ1_indexOfChar_4cfef 25 = .ok (.iinc 5 1, 3) := kDs5 kf_132 (by decide +kernel)
theorem dJ1_indexOfChar_4cfef_28 : decode cJ1_indexOfChar_4cfef 28 = .ok (.goto (-21), 3) := kDs4 kf_167 (by decide +kernel)
theorem dJ1_indexOfChar_4cfef_22 : decode cJ1_indexOfChar_4cfef 22 = .ok (.iload 5, 2) := kDs1 kf_21 (by decide +kernel)
theorem dJ1_indexOfChar_4cfef_24 : decode cJ1_indexOfChar_4cfef 24 = .ok (.ireturn, 1) := kDs0 kf_172 (by decide +kernel)
def w_s_t_ixc : List Cond := .code yJ1_indexOfChar_4cfef cJ1_indexOfChar_4cfef 6 (some .int) :: ([])
theorem gw_s_t_ixc : (w_s_t_ixc).all goodWord = true := kGc rfl kGn
theorem hd_J1_indexOfChar_4cfef : yJ1_indexOfChar_4cfef.cls ≠ "java/lang/invoke/MethodHandle" ∧ yJ1_indexOfChar_4cfef.cls ≠ "java/lang/invoke/VarHandle" ∧ (parseMethodDescriptor yJ1_indexOfChar_4cfef.desc).map (fun d => d.parameters.length) = some 4 := by decide +kernel
set_option maxHeartbeats 4000000 in
set_option maxRecDepth 100000 in
theorem s_t_ixc (l : Launch) (dC : Nat → ClassId) (dI : Nat → Nat → Nat) (q : Nat) (b : Nat) (n : Nat) (g : Nat → Int32) (hn : n ≤ 8) (A : Nat → Prop) (p1 : Int32) : Met l yJ1_indexOfChar_4cfef w_s_t_ixc ({ frames := 1, cells := 0, slots := 0, locals := 60 }) (kR dC dI [.ref b, .int p1, .int 0, .int (nI (n))] [] [] (kSt q b n g A)) (vp_Si (fun r : Int32 => True)) 0 0 (fun _ => False) := by
  refine Met.ofW (cc := cJ1_indexOfChar_4cfef) (maxL := 6) (ret := (some .int)) (by decide) rfl ?_
  intro p e s m args below meth c s₁ B hml hv
  obtain ⟨rfl, hP, hK, hX⟩ := hv
  have hx := B.exec
  have hb := B.bytes
  have hr := B.returns
  have hts := atoms_spec (ws := w_s_t_ixc) B.pre
  have hown : s.vm.findClass RJ1 = some m.cls := findClass_of_methodNamed B.named
  have hlocks := B.notSynchronized
  have hS : va_S A s.heap s.heap [] := va_S.rf
  have hP : va_P (dC, dI) vwCl [] s.heap := hP
  have hl := lv_entry ([.ref b, .int p1, .int 0, .int (nI (n))]) (n := 6) (Nat.le_of_ble_eq_true rfl)
  rw [lg_entry_eq]
  generalize (lg_sl ([.ref b, .int p1, .int 0, .int (nI (n))]) ++ List.replicate (6 - (lg_sl ([.ref b, .int p1, .int 0, .int (nI (n))])).length) Slot.unset).toArray = ls at hl ⊢
  have hl : lv_has ls 6 [(0, .ref b), (1, .int p1), (2, .int 0), (3, .int (nI (n)))] := hl
  refine kQ (fun Q hQ => ?_)
  refine lv_iload_n hx hb dJ1_indexOfChar_4cfef_0 rfl (lv_at hl 1 rfl) ?_
  obtain ⟨x_1, ex_1⟩ : ∃ z : Int32, z = (Int32.toInt8 p1).toInt32 := ⟨_, rfl⟩
  refine lv_i2b (v := x_1) hx hb dJ1_indexOfChar_4cfef_1 ex_1.symm ?_
  refine lv_istore hx hb dJ1_indexOfChar_4cfef_2 hl kc_l_4_6 (kTo [(4, .int x_1), (0, .ref b), (1, .int p1), (2, .int 0), (3, .int (nI (n)))]) (fun ls hl => ?_)
  refine lv_iload_n hx hb dJ1_indexOfChar_4cfef_4 rfl (lv_at hl 3 rfl) ?_
  refine lv_istore hx hb dJ1_indexOfChar_4cfef_5 hl kc_l_5_6 (kTo [(5, .int 0), (4, .int x_1), (0, .ref b), (1, .int p1), (2, .int 0), (3, .int (nI (n)))]) (fun ls hl => ?_)
  have lp_k_2 : ∀ (n9 : Nat) (i : Nat) (ivk_2_0 : i ≤ n) (ls : Array Slot) (_ : lv_has ls 6 [(5, .int (nI (i))), (4, .int x_1), (0, .ref b), (1, .int p1), (2, .int 0), (3, .int (nI (n)))]) (_ : n - i < n9), W p l e (headSpec w_s_t_ixc ({ frames := 1, cells := 0, slots := 0, locals := 60 })).room s m (#[.ref b, .int p1, .int 0, .int (nI (n))] : Array Value) below meth c s.heap [] 0 0 Q (F0 m 7 ls []) := by
    intro n9
    induction n9 with
    | zero => intro i ivk_2_0 ls hl hm9; exact absurd hm9 (Nat.not_lt_zero _)
    | succ n9 ih_k_2 =>
      intro i ivk_2_0 ls hl hm9
      refine lv_iload hx hb dJ1_indexOfChar_4cfef_7 (lv_at hl 0 rfl) ?_
      refine lv_iload_n hx hb dJ1_indexOfChar_4cfef_9 rfl (lv_at hl 5 rfl) ?_
      refine lv_icmp_ge (tgt := 31) hx hb dJ1_indexOfChar_4cfef_10 kc_t_10_21 (fun c_3 => ?_) (fun c_3 => ?_)
      · have bd_5 : n < 2147483648 := by omega
        have bd_6 : i < 2147483648 := by omega
        have hn_4 := kle (a := n) (b := i) bd_5 bd_6 c_3
        refine lv_iconst (v := (-1)) hx hb dJ1_indexOfChar_4cfef_31 kc_i_m1 ?_
        rw [hQ]
        exact W.iret (v := (-1)) hx hb hr (fun t ht hW => ⟨(-1), rfl, trivial, ht⟩) (fun _ h => nomatch h) dJ1_indexOfChar_4cfef_32
      · have bd_8 : n < 2147483648 := by omega
        have bd_9 : i < 2147483648 := by omega
        have hn_7 := knle (a := n) (b := i) bd_8 bd_9 c_3
        refine lv_aload_n hx hb dJ1_indexOfChar_4cfef_13 rfl (lv_at hl 2 rfl) ?_
        refine lv_iload hx hb dJ1_indexOfChar_4cfef_14 (lv_at hl 0 rfl) ?_
        refine va_tb hx hb hX.2.2.2.1 hS (vp_in_nI (n := i) (N := n) (by omega) (by omega)) (v := .int (g (Int32.toNatClampNeg (nI (i))))) rfl dJ1_indexOfChar_4cfef_16 ?_
        refine lv_topi (fun x_10 ex_10 => ?_)
        refine lv_iload hx hb dJ1_indexOfChar_4cfef_17 (lv_at hl 1 rfl) ?_
        refine lv_icmp_ne (tgt := 25) hx hb dJ1_indexOfChar_4cfef_19 kc_t_19_6 (fun c_11 => ?_) (fun c_11 => ?_)
        · refine lv_iinc (v := nI (i + 1)) hx hb dJ1_indexOfChar_4cfef_25 hl (k := 0) rfl (kInc _ 1) kc_l_5_6 (kTo [(5, .int (nI (i + 1))), (4, .int x_1), (0, .ref b), (1, .int p1), (2, .int 0), (3, .int (nI (n)))]) (fun ls hl => ?_)
          refine lv_goto (tgt := 7) hx hb dJ1_indexOfChar_4cfef_28 kc_t_28_m21 ?_
          exact ih_k_2 (i + 1) (by omega) ls (lv_sub hl [0, 1, 2, 3, 4, 5] rfl) (by omega)
        · refine lv_iload hx hb dJ1_indexOfChar_4cfef_22 (lv_at hl 0 rfl) ?_
          rw [hQ]
          exact W.iret (v := nI (i)) hx hb hr (fun t ht hW => ⟨nI (i), rfl, trivial, ht⟩) (fun _ h => nomatch h) dJ1_indexOfChar_4cfef_24
  exact lp_k_2 (n - 0 + 1) 0 (by omega) ls (lv_sub hl [0, 1, 2, 3, 4, 5] rfl) (by omega)

theorem dJ1_canEncode_9a6ad_0 : decode cJ1_canEncode_9a6ad 0 = .ok (.iload_n 0, 1) := kDs0 kf_26 (by decide +kernel)
theorem dJ1_canEncode_9a6ad_1 : decode cJ1_canEncode_9a6ad 1 = .ok (.ifCond .lt 14, 3) := kDs4 kf_155 (by decide +kernel)
theorem dJ1_canEncode_9a6ad_15 : decode cJ1_canEncode_9a6ad 15 = .ok (.iconst 0, 1) := kDs0 kf_3 (by decide +kernel)
theorem dJ1_canEncode_9a6ad_16 : decode cJ1_canEncode_9a6ad 16 = .ok (.ireturn, 1) := kDs0 kf_172 (by decide +kernel)
theorem dJ1_canEncode_9a6ad_4 : decode cJ1_canEncode_9a6ad 4 = .ok (.iload_n 0, 1) := kDs0 kf_26 (by decide +kernel)
theorem dJ1_canEncode_9a6ad_5 : decode cJ1_canEncode_9a6ad 5 = .ok (.sipush 255, 3) := kDs4 kf_17 (by decide +kernel)
theorem dJ1_canEncode_9a6ad_8 : decode cJ1_canEncode_9a6ad 8 = .ok (.if_icmp .gt 7, 3) := kDs4 kf_163 (by decide +kernel)
theorem dJ1_canEncode_9a6ad_11 : decode cJ1_canEncode_9a6ad 11 = .ok (.iconst 1, 1) := kDs0 kf_4 (by decide +kernel)
theorem dJ1_canEncode_9a6ad_12 : decode cJ1_canEncode_9a6ad 12 = .ok (.goto 4, 3) := kDs4 kf_167 (by decide +kernel)
def w_s_can1 : List Cond := .code yJ1_canEncode_9a6ad cJ1_canEncode_9a6ad 1 (some .boolean) :: ([])
theorem gw_s_can1 : (w_s_can1).all goodWord = true := kGc rfl kGn
theorem hd_J1_canEncode_9a6ad : yJ1_canEncode_9a6ad.cls ≠ "java/lang/invoke/MethodHandle" ∧ yJ1_canEncode_9a6ad.cls ≠ "java/lang/invoke/VarHandle" ∧ (parseMethodDescriptor yJ1_canEncode_9a6ad.desc).map (fun d => d.parameters.length) = some 1 := by decide +kernel
set_option maxHeartbeats 4000000 in
set_option maxRecDepth 100000 in
theorem s_can1 (l : Launch) (dC : Nat → ClassId) (dI : Nat → Nat → Nat) (p0 : Int32) : Met l yJ1_canEncode_9a6ad w_s_can1 ({ frames := 1, cells := 0, slots := 0, locals := 60 }) (kR dC dI [.int p0] [] [] kT) (vp_Si (fun r : Int32 => (r = 0 ∨ r = 1))) 0 0 (fun _ => False) := by
  refine Met.ofW (cc := cJ1_canEncode_9a6ad) (maxL := 1) (ret := (some .boolean)) (by decide) rfl ?_
  intro p e s m args below meth c s₁ B hml hv
  obtain ⟨rfl, hP, hK, hX⟩ := hv
  have hx := B.exec
  have hb := B.bytes
  have hr := B.returns
  have hts := atoms_spec (ws := w_s_can1) B.pre
  have hown : s.vm.findClass RJ1 = some m.cls := findClass_of_methodNamed B.named
  have hlocks := B.notSynchronized
  have hP : va_P (dC, dI) vwCl [] s.heap := hP
  have hl := lv_entry ([.int p0]) (n := 1) (Nat.le_of_ble_eq_true rfl)
  rw [lg_entry_eq]
  generalize (lg_sl ([.int p0]) ++ List.replicate (1 - (lg_sl ([.int p0])).length) Slot.unset).toArray = ls at hl ⊢
  have hl : lv_has ls 1 [(0, .int p0)] := hl
  refine kQ (fun Q hQ => ?_)
  refine lv_iload_n hx hb dJ1_canEncode_9a6ad_0 rfl (lv_at hl 0 rfl) ?_
  refine lv_if_lt (tgt := 15) hx hb dJ1_canEncode_9a6ad_1 kc_t_1_14 (fun c_1 => ?_) (fun c_1 => ?_)
  · refine lv_iconst (v := 0) hx hb dJ1_canEncode_9a6ad_15 kc_i_0 ?_
    rw [hQ]
    exact W.zret (v := 0) hx hb hr rfl (fun t ht hW => ⟨0, rfl, (Or.inl rfl), ht⟩) (fun _ h => nomatch h) dJ1_canEncode_9a6ad_16
  · refine lv_iload_n hx hb dJ1_canEncode_9a6ad_4 rfl (lv_at hl 0 rfl) ?_
    refine lv_sipush (v := 255) hx hb dJ1_canEncode_9a6ad_5 kc_s_255 ?_
    refine lv_icmp_gt (tgt := 15) hx hb dJ1_canEncode_9a6ad_8 kc_t_8_7 (fun c_2 => ?_) (fun c_2 => ?_)
    · refine lv_iconst (v := 0) hx hb dJ1_canEncode_9a6ad_15 kc_i_0 ?_
      rw [hQ]
      exact W.zret (v := 0) hx hb hr rfl (fun t ht hW => ⟨0, rfl, (Or.inl rfl), ht⟩) (fun _ h => nomatch h) dJ1_canEncode_9a6ad_16
    · refine lv_iconst (v := 1) hx hb dJ1_canEncode_9a6ad_11 kc_i_1 ?_
      refine lv_goto (tgt := 16) hx hb dJ1_canEncode_9a6ad_12 kc_t_12_4 ?_
      rw [hQ]
      exact W.zret (v := 1) hx hb hr rfl (fun t ht hW => ⟨1, rfl, (Or.inr rfl), ht⟩) (fun _ h => nomatch h) dJ1_canEncode_9a6ad_16

theorem dJ1_indexOf_4cfef_0 : decode cJ1_indexOf_4cfef 0 = .ok (.iload_n 1, 1) := kDs0 kf_27 (by decide +kernel)
theorem dJ1_indexOf_4cfef_1 : decode cJ1_indexOf_4cfef 1 = .ok (.invokestatic 88, 3) := kDs2 kf_184 (by decide +kernel)
theorem dJ1_indexOf_4cfef_4 : decode cJ1_indexOf_4cfef 4 = .ok (.ifCond .ne 5, 3) := kDs4 kf_154 (by decide +kernel)
theorem dJ1_indexOf_4cfef_9 : decode cJ1_indexOf_4cfef 9 = .ok (.iload_n 2, 1) := kDs0 kf_28 (by decide +kernel)
theorem dJ1_indexOf_4cfef_10 : decode cJ1_indexOf_4cfef 10 = .ok (.iconst 0, 1) := kDs0 kf_3 (by decide +kernel)
theorem dJ1_indexOf_4cfef_11 : decode cJ1_indexOf_4cfef 11 = .ok (.invokestatic 92, 3) := kDs2 kf_184 (by decide +kernel)
theorem dJ1_indexOf_4cfef_14 : decode cJ1_indexOf_4cfef 14 = .ok (.istore_n 2, 1) := kDs0 kf_61 (by decide +kernel)
theorem dJ1_indexOf_4cfef_15 : decode cJ1_indexOf_4cfef 15 = .ok (.iload_n 3, 1) := kDs0 kf_29 (by decide +kernel)
theorem dJ1_indexOf_4cfef_16 : decode cJ1_indexOf_4cfef 16 = .ok (.aload_n 0, 1) := kDs0 kf_42 (by decide +kernel)
theorem dJ1_indexOf_4cfef_17 : decode cJ1_indexOf_4cfef 17 = .ok (.arraylength, 1) := kDs0 kf_190 (by decide +kernel)
theorem dJ1_indexOf_4cfef_18 : decode cJ1_indexOf_4cfef 18 = .ok (.invokestatic 38, 3) := kDs2 kf_184 (by decide +kernel)
theorem dJ1_indexOf_4cfef_21 : decode cJ1_indexOf_4cfef 21 = .ok (.istore_n 3, 1) := kDs0 kf_62 (by decide +kernel)
theorem dJ1_indexOf_4cfef_22 : decode cJ1_indexOf_4cfef 22 = .ok (.iload_n 2, 1) := kDs0 kf_28 (by decide +kernel)
theorem dJ1_indexOf_4cfef_23 : decode cJ1_indexOf_4cfef 23 = .ok (.iload_n 3, 1) := kDs0 kf_29 (by decide +kernel)
theorem dJ1_indexOf_4cfef_24 : decode cJ1_indexOf_4cfef 24 = .ok (.if_icmp .lt 5, 3) := kDs4 kf_161 (by decide +kernel)
theorem dJ1_indexOf_4cfef_29 : decode cJ1_indexOf_4cfef 29 = .ok (.aload_n 0, 1) := kDs0 kf_42 (by decide +kernel)
theorem dJ1_indexOf_4cfef_30 : decode cJ1_indexOf_4cfef 30 = .ok (.iload_n 1, 1) := kDs0 kf_27 (by decide +kernel)
theorem dJ1_indexOf_4cfef_31 : decode cJ1_indexOf_4cfef 31 = .ok (.iload_n 2, 1) := kDs0 kf_28 (by decide +kernel)
theorem dJ1_indexOf_4cfef_32 : decode cJ1_indexOf_4cfef 32 = .ok (.iload_n 3, 1) := kDs0 kf_29 (by decide +kernel)
theorem dJ1_indexOf_4cfef_33 : decode cJ1_indexOf_4cfef 33 = .ok (.invokestatic 95, 3) := kDs2 kf_184 (by decide +kernel)
theorem dJ1_indexOf_4cfef_36 : decode cJ1_indexOf_4cfef 36 = .ok (.ireturn, 1) := kDs0 kf_172 (by decide +kernel)
theorem dJ1_indexOf_4cfef_27 : decode cJ1_indexOf_4cfef 27 = .ok (.iconst (-1), 1) := kDs0 kf_2 (by decide +kernel)
theorem dJ1_indexOf_4cfef_28 : decode cJ1_indexOf_4cfef 28 = .ok (.ireturn, 1) := kDs0 kf_172 (by decide +kernel)
theorem dJ1_indexOf_4cfef_7 : decode cJ1_indexOf_4cfef 7 = .ok (.iconst (-1), 1) := kDs0 kf_2 (by decide +kernel)
theorem dJ1_indexOf_4cfef_8 : decode cJ1_indexOf_4cfef 8 = .ok (.ireturn, 1) := kDs0 kf_172 (by decide +kernel)
def w_s_t_ix1 : List Cond := .code yJ1_indexOf_4cfef cJ1_indexOf_4cfef 4 (some .int) :: ([.initialized RJ1, .static yJ1_canEncode_9a6ad, .methodLink RJ1 88 yJ1_canEncode_9a6ad, .methodLink RJ1 92 Lib.Math.max.name, .static Lib.Math.max.name, .initialized RJ9, .code Lib.Math.max.name Lib.Math.max.code 2 (some .int), .methodLink RJ1 38 Lib.Math.min.name, .static Lib.Math.min.name, .code Lib.Math.min.name Lib.Math.min.code 2 (some .int), .static yJ1_indexOfChar_4cfef, .methodLink RJ1 95 yJ1_indexOfChar_4cfef] ++ (w_s_can1 ++ (w_s_t_ixc)))
theorem gw_s_t_ix1 : (w_s_t_ix1).all goodWord = true := kGc rfl (kGa (by decide +kernel) (kGa gw_s_can1 gw_s_t_ixc))
theorem hd_J1_indexOf_4cfef : yJ1_indexOf_4cfef.cls ≠ "java/lang/invoke/MethodHandle" ∧ yJ1_indexOf_4cfef.cls ≠ "java/lang/invoke/VarHandle" ∧ (parseMethodDescriptor yJ1_indexOf_4cfef.desc).map (fun d => d.parameters.length) = some 4 := by decide +kernel
set_option maxHeartbeats 4000000 in
set_option maxRecDepth 100000 in
theorem s_t_ix1 (l : Launch) (dC : Nat → ClassId) (dI : Nat → Nat → Nat) (q : Nat) (b : Nat) (n : Nat) (g : Nat → Int32) (hn : n ≤ 8) (A : Nat → Prop) (p1 : Int32) : Met l yJ1_indexOf_4cfef w_s_t_ix1 ({ frames := 2, cells := 0, slots := 0, locals := 120 }) (kR dC dI [.ref b, .int p1, .int 0, .int (nI (n))] [] [] (kSt q b n g A)) (vp_Si (fun r : Int32 => True)) 0 0 (fun _ => False) := by
  refine Met.ofW (cc := cJ1_indexOf_4cfef) (maxL := 4) (ret := (some .int)) (by decide) rfl ?_
  intro p e s m args below meth c s₁ B hml hv
  obtain ⟨rfl, hP, hK, hX⟩ := hv
  have hx := B.exec
  have hb := B.bytes
  have hr := B.returns
  have hts := atoms_spec (ws := w_s_t_ix1) B.pre
  have hown : s.vm.findClass RJ1 = some m.cls := findClass_of_methodNamed B.named
  have hlocks := B.notSynchronized
  have hS : va_S A s.heap s.heap [] := va_S.rf
  have hP : va_P (dC, dI) vwCl [] s.heap := hP
  have hl := lv_entry ([.ref b, .int p1, .int 0, .int (nI (n))]) (n := 4) (Nat.le_of_ble_eq_true rfl)
  rw [lg_entry_eq]
  generalize (lg_sl ([.ref b, .int p1, .int 0, .int (nI (n))]) ++ List.replicate (4 - (lg_sl ([.ref b, .int p1, .int 0, .int (nI (n))])).length) Slot.unset).toArray = ls at hl ⊢
  have hl : lv_has ls 4 [(0, .ref b), (1, .int p1), (2, .int 0), (3, .int (nI (n)))] := hl
  refine kQ (fun Q hQ => ?_)
  refine lv_iload_n hx hb dJ1_indexOf_4cfef_0 rfl (lv_at hl 1 rfl) ?_
  have hPc := hP.sb (ws2 := []) [] rfl
  have hKc := hK.sb (tys2 := []) [] rfl
  refine vp_callSi (va_runS (As := [.int p1]) (rest := []) ⟨hx, hb, hml, hown, hts⟩ (s_can1 l dC dI p1) (va_cwS 1 hts (kG (List.forall_mem_cons.mpr ⟨(List.mem_cons_of_mem _ (List.mem_append_left _ (List.mem_of_getElem? (i := 2) rfl))), (List.forall_mem_cons.mpr ⟨(List.mem_cons_of_mem _ (List.mem_append_left _ (List.mem_of_getElem? (i := 1) rfl))), (List.forall_mem_cons.mpr ⟨(List.mem_cons_of_mem _ (List.mem_append_left _ (List.mem_of_getElem? (i := 0) rfl))), (fun _ h => absurd h List.not_mem_nil)⟩)⟩)⟩) (kGS _ _ _) (fun _ h => List.mem_cons_of_mem _ (List.mem_append_right _ (List.mem_append_left _ h))) gw_s_can1) rfl rfl rfl hd_J1_canEncode_9a6ad ⟨(Nat.le_of_ble_eq_true rfl), (Nat.le_of_ble_eq_true rfl)⟩) (kR_S kT_blind kT_give hPc hKc) rfl rfl hl.1 rfl (lv_room (Nat.le_of_ble_eq_true rfl)) dJ1_indexOf_4cfef_1 ⟨(Nat.le_of_ble_eq_true rfl), (Nat.le_of_ble_eq_true rfl)⟩).run (fun r_1 hw => ?_)
  have hw_2 := hw
  refine lv_if_ne (tgt := 9) hx hb dJ1_indexOf_4cfef_4 kc_t_4_5 (fun c_3 => ?_) (fun c_3 => ?_)
  · refine lv_iload_n hx hb dJ1_indexOf_4cfef_9 rfl (lv_at hl 2 rfl) ?_
    refine lv_iconst (v := 0) hx hb dJ1_indexOf_4cfef_10 kc_i_0 ?_
    refine va_mmax hx hb (hml.trans hl.1.symm) hown (hts (.methodLink RJ1 92 Lib.Math.max.name) (List.mem_cons_of_mem _ (List.mem_append_left _ (List.mem_of_getElem? (i := 3) rfl)))) (hts (.static Lib.Math.max.name) (List.mem_cons_of_mem _ (List.mem_append_left _ (List.mem_of_getElem? (i := 4) rfl)))) (hts (.initialized RJ9) (List.mem_cons_of_mem _ (List.mem_append_left _ (List.mem_of_getElem? (i := 5) rfl)))) (hts (.code Lib.Math.max.name Lib.Math.max.code 2 (some .int)) (List.mem_cons_of_mem _ (List.mem_append_left _ (List.mem_of_getElem? (i := 6) rfl)))) (Nat.le_of_ble_eq_true rfl) (Nat.le_of_ble_eq_true rfl) (Nat.le_of_ble_eq_true rfl) (Nat.le_of_ble_eq_true rfl) dJ1_indexOf_4cfef_11 ?_
    refine lv_topi (fun x_4 ex_4 => ?_)
    obtain rfl : x_4 = 0 := ex_4.trans (by decide)
    refine lv_istore_n hx hb dJ1_indexOf_4cfef_14 rfl hl kc_l_2_4 (kTo [(2, .int 0), (0, .ref b), (1, .int p1), (3, .int (nI (n)))]) (fun ls hl => ?_)
    refine lv_iload_n hx hb dJ1_indexOf_4cfef_15 rfl (lv_at hl 3 rfl) ?_
    refine lv_aload_n hx hb dJ1_indexOf_4cfef_16 rfl (lv_at hl 1 rfl) ?_
    refine va_tlen hx hb hX.2.2.2.1 hS (v := nI (n)) rfl dJ1_indexOf_4cfef_17 ?_
    refine va_mmin hx hb (hml.trans hl.1.symm) hown (hts (.methodLink RJ1 38 Lib.Math.min.name) (List.mem_cons_of_mem _ (List.mem_append_left _ (List.mem_of_getElem? (i := 7) rfl)))) (hts (.static Lib.Math.min.name) (List.mem_cons_of_mem _ (List.mem_append_left _ (List.mem_of_getElem? (i := 8) rfl)))) (hts (.initialized RJ9) (List.mem_cons_of_mem _ (List.mem_append_left _ (List.mem_of_getElem? (i := 5) rfl)))) (hts (.code Lib.Math.min.name Lib.Math.min.code 2 (some .int)) (List.mem_cons_of_mem _ (List.mem_append_left _ (List.mem_of_getElem? (i := 9) rfl)))) (Nat.le_of_ble_eq_true rfl) (Nat.le_of_ble_eq_true rfl) (Nat.le_of_ble_eq_true rfl) (Nat.le_of_ble_eq_true rfl) dJ1_indexOf_4cfef_18 ?_
    refine lv_topi (fun x_5 ex_5 => ?_)
    obtain rfl : x_5 = nI (n) := ex_5.trans (by split <;> rfl)
    refine lv_istore_n hx hb dJ1_indexOf_4cfef_21 rfl hl kc_l_3_4 (kTo [(3, .int (nI (n))), (2, .int 0), (0, .ref b), (1, .int p1)]) (fun ls hl => ?_)
    refine lv_iload_n hx hb dJ1_indexOf_4cfef_22 rfl (lv_at hl 1 rfl) ?_
    refine lv_iload_n hx hb dJ1_indexOf_4cfef_23 rfl (lv_at hl 0 rfl) ?_
    refine lv_icmp_lt (tgt := 29) hx hb dJ1_indexOf_4cfef_24 kc_t_24_5 (fun c_6 => ?_) (fun c_6 => ?_)
    · have bd_8 : n < 2147483648 := by omega
      have hn_7 := klt (a := 0) (b := n) kc_31_0 bd_8 c_6
      refine lv_aload_n hx hb dJ1_indexOf_4cfef_29 rfl (lv_at hl 2 rfl) ?_
      refine lv_iload_n hx hb dJ1_indexOf_4cfef_30 rfl (lv_at hl 3 rfl) ?_
      refine lv_iload_n hx hb dJ1_indexOf_4cfef_31 rfl (lv_at hl 1 rfl) ?_
      refine lv_iload_n hx hb dJ1_indexOf_4cfef_32 rfl (lv_at hl 0 rfl) ?_
      have hPc := hP.sb (ws2 := []) [] rfl
      have hKc := hK.sb (tys2 := []) [] rfl
      refine vp_callSi (va_runS (As := [.ref b, .int p1, .int 0, .int (nI (n))]) (rest := []) ⟨hx, hb, hml, hown, hts⟩ (s_t_ixc l dC dI q b n g hn A p1) (va_cwS 4 hts (kG (List.forall_mem_cons.mpr ⟨(List.mem_cons_of_mem _ (List.mem_append_left _ (List.mem_of_getElem? (i := 11) rfl))), (List.forall_mem_cons.mpr ⟨(List.mem_cons_of_mem _ (List.mem_append_left _ (List.mem_of_getElem? (i := 10) rfl))), (List.forall_mem_cons.mpr ⟨(List.mem_cons_of_mem _ (List.mem_append_left _ (List.mem_of_getElem? (i := 0) rfl))), (fun _ h => absurd h List.not_mem_nil)⟩)⟩)⟩) (kGS _ _ _) (fun _ h => List.mem_cons_of_mem _ (List.mem_append_right _ (List.mem_append_right _ h))) gw_s_t_ixc) rfl rfl rfl hd_J1_indexOfChar_4cfef ⟨(Nat.le_of_ble_eq_true rfl), (Nat.le_of_ble_eq_true rfl)⟩) (kR_S kSt_blind (kSt_give hX hS) hPc hKc) rfl rfl hl.1 rfl (lv_room (Nat.le_of_ble_eq_true rfl)) dJ1_indexOf_4cfef_33 ⟨(Nat.le_of_ble_eq_true rfl), (Nat.le_of_ble_eq_true rfl)⟩).run (fun r_9 hw => ?_)
      rw [hQ]
      exact W.iret (v := r_9) hx hb hr (fun t ht hW => ⟨r_9, rfl, trivial, ht⟩) (fun _ h => nomatch h) dJ1_indexOf_4cfef_36
    · have bd_11 : n < 2147483648 := by omega
      have hn_10 := knlt (a := 0) (b := n) kc_31_0 bd_11 c_6
      refine lv_iconst (v := (-1)) hx hb dJ1_indexOf_4cfef_27 kc_i_m1 ?_
      rw [hQ]
      exact W.iret (v := (-1)) hx hb hr (fun t ht hW => ⟨(-1), rfl, trivial, ht⟩) (fun _ h => nomatch h) dJ1_indexOf_4cfef_28
  · refine lv_iconst (v := (-1)) hx hb dJ1_indexOf_4cfef_7 kc_i_m1 ?_
    rw [hQ]
    exact W.iret (v := (-1)) hx hb hr (fun t ht hW => ⟨(-1), rfl, trivial, ht⟩) (fun _ h => nomatch h) dJ1_indexOf_4cfef_8

theorem dJ0_indexOf_7cf53_0 : decode cJ0_indexOf_7cf53 0 = .ok (.aload_n 0, 1) := kDs0 kf_42 (by decide +kernel)
theorem dJ0_indexOf_7cf53_1 : decode cJ0_indexOf_7cf53 1 = .ok (.invokevirtual 492, 3) := kDs2 kf_182 (by decide +kernel)
theorem dJ0_indexOf_7cf53_4 : decode cJ0_indexOf_7cf53 4 = .ok (.ifCond .eq 19, 3) := kDs4 kf_153 (by decide +kernel)
theorem dJ0_indexOf_7cf53_7 : decode cJ0_indexOf_7cf53 7 = .ok (.aload_n 0, 1) := kDs0 kf_42 (by decide +kernel)
theorem dJ0_indexOf_7cf53_8 : decode cJ0_indexOf_7cf53 8 = .ok (.getfield 9, 3) := kDs2 kf_180 (by decide +kernel)
theorem dJ0_indexOf_7cf53_11 : decode cJ0_indexOf_7cf53 11 = .ok (.iload_n 1, 1) := kDs0 kf_27 (by decide +kernel)
theorem dJ0_indexOf_7cf53_12 : decode cJ0_indexOf_7cf53 12 = .ok (.iload_n 2, 1) := kDs0 kf_28 (by decide +kernel)
theorem dJ0_indexOf_7cf53_13 : decode cJ0_indexOf_7cf53 13 = .ok (.aload_n 0, 1) := kDs0 kf_42 (by decide +kernel)
theorem dJ0_indexOf_7cf53_14 : decode cJ0_indexOf_7cf53 14 = .ok (.invokevirtual 505, 3) := kDs2 kf_182 (by decide +kernel)
theorem dJ0_indexOf_7cf53_17 : decode cJ0_indexOf_7cf53 17 = .ok (.invokestatic 637, 3) := kDs2 kf_184 (by decide +kernel)
theorem dJ0_indexOf_7cf53_20 : decode cJ0_indexOf_7cf53 20 = .ok (.goto 16, 3) := kDs4 kf_167 (by decide +kernel)
theorem dJ0_indexOf_7cf53_36 : decode cJ0_indexOf_7cf53 36 = .ok (.ireturn, 1) := kDs0 kf_172 (by decide +kernel)
def w_s_t_ix2 : List Cond := .code yJ0_indexOf_7cf53 cJ0_indexOf_7cf53 3 (some .int) :: ([.initialized RJ0, .selects RJ0 yJ0_isLatin1_aae02 yJ0_isLatin1_aae02, .instanceMethod yJ0_isLatin1_aae02, .methodLink RJ0 492 yJ0_isLatin1_aae02, .fieldLink RJ0 9 "java/lang/String" "value" "[B", .selects RJ0 yJ0_length_8abf5 yJ0_length_8abf5, .instanceMethod yJ0_length_8abf5, .methodLink RJ0 505 yJ0_length_8abf5, .initialized RJ1, .static yJ1_indexOf_4cfef, .methodLink RJ0 637 yJ1_indexOf_4cfef] ++ (w_s_t_latin ++ (w_s_t_length ++ (w_s_t_ix1))))
theorem gw_s_t_ix2 : (w_s_t_ix2).all goodWord = true := kGc rfl (kGa (by decide +kernel) (kGa gw_s_t_latin (kGa gw_s_t_length gw_s_t_ix1)))
theorem hd_J0_indexOf_7cf53 : yJ0_indexOf_7cf53.cls ≠ "java/lang/invoke/MethodHandle" ∧ yJ0_indexOf_7cf53.cls ≠ "java/lang/invoke/VarHandle" ∧ (parseMethodDescriptor yJ0_indexOf_7cf53.desc).map (fun d => d.parameters.length) = some 2 := by decide +kernel
set_option maxHeartbeats 4000000 in
set_option maxRecDepth 100000 in
theorem s_t_ix2 (l : Launch) (dC : Nat → ClassId) (dI : Nat → Nat → Nat) (q : Nat) (b : Nat) (n : Nat) (g : Nat → Int32) (hn : n ≤ 8) (A : Nat → Prop) (p1 : Int32) : Met l yJ0_indexOf_7cf53 w_s_t_ix2 ({ frames := 3, cells := 0, slots := 0, locals := 180 }) (kR dC dI [.ref q, .int p1, .int 0] [] [] (kSt q b n g A)) (vp_Si (fun r : Int32 => True)) 0 0 (fun _ => False) := by
  refine Met.ofW (cc := cJ0_indexOf_7cf53) (maxL := 3) (ret := (some .int)) (by decide) rfl ?_
  intro p e s m args below meth c s₁ B hml hv
  obtain ⟨rfl, hP, hK, hX⟩ := hv
  have hx := B.exec
  have hb := B.bytes
  have hr := B.returns
  have hts := atoms_spec (ws := w_s_t_ix2) B.pre
  have hown : s.vm.findClass RJ0 = some m.cls := findClass_of_methodNamed B.named
  have hlocks := B.notSynchronized
  have hS : va_S A s.heap s.heap [] := va_S.rf
  have hP : va_P (dC, dI) vwCl [] s.heap := hP
  have hl := lv_entry ([.ref q, .int p1, .int 0]) (n := 3) (Nat.le_of_ble_eq_true rfl)
  rw [lg_entry_eq]
  generalize (lg_sl ([.ref q, .int p1, .int 0]) ++ List.replicate (3 - (lg_sl ([.ref q, .int p1, .int 0])).length) Slot.unset).toArray = ls at hl ⊢
  have hl : lv_has ls 3 [(0, .ref q), (1, .int p1), (2, .int 0)] := hl
  refine kQ (fun Q hQ => ?_)
  refine lv_aload_n hx hb dJ0_indexOf_7cf53_0 rfl (lv_at hl 0 rfl) ?_
  have hPc := hP.sb (ws2 := []) [] rfl
  have hKc := hK.sb (tys2 := []) [] rfl
  refine vp_callSi (va_runV (As := []) (rest := []) ⟨hx, hb, hml, hown, hts⟩ (s_t_latin l dC dI q b n g hn A) (cwV 0 hts (kG (List.forall_mem_cons.mpr ⟨(List.mem_cons_of_mem _ (List.mem_append_left _ (List.mem_of_getElem? (i := 3) rfl))), (List.forall_mem_cons.mpr ⟨(List.mem_cons_of_mem _ (List.mem_append_left _ (List.mem_of_getElem? (i := 2) rfl))), (List.forall_mem_cons.mpr ⟨(List.mem_cons_of_mem _ (List.mem_append_left _ (List.mem_of_getElem? (i := 1) rfl))), (List.forall_mem_cons.mpr ⟨(List.mem_cons_of_mem _ (List.mem_append_left _ (List.mem_of_getElem? (i := 0) rfl))), (fun _ h => absurd h List.not_mem_nil)⟩)⟩)⟩)⟩) (kGV _ _ _ _) (fun _ h => List.mem_cons_of_mem _ (List.mem_append_right _ (List.mem_append_left _ h))) gw_s_t_latin) rfl rfl rfl ⟨rfl, hd_J0_isLatin1_aae02⟩ ⟨(Nat.le_of_ble_eq_true rfl), (Nat.le_of_ble_eq_true rfl)⟩) (kR_V kSt_blind (kSt_give hX hS) (kSt_recv hX hS) hPc hKc) rfl rfl hl.1 rfl (lv_room (Nat.le_of_ble_eq_true rfl)) dJ0_indexOf_7cf53_1 ⟨(Nat.le_of_ble_eq_true rfl), (Nat.le_of_ble_eq_true rfl)⟩).run (fun r_1 hw => ?_)
  obtain rfl : r_1 = 1 := hw
  refine lv_if_eq (tgt := 23) hx hb dJ0_indexOf_7cf53_4 kc_t_4_19 (fun c_2 => absurd c_2 (by decide)) (fun c_2 => ?_)
  refine lv_aload_n hx hb dJ0_indexOf_7cf53_7 rfl (lv_at hl 0 rfl) ?_
  refine vk_getf hx hb hX.2.2.1 hS hown (hts (.fieldLink RJ0 9 "java/lang/String" "value" "[B") (List.mem_cons_of_mem _ (List.mem_append_left _ (List.mem_of_getElem? (i := 4) rfl)))) (fun _ h9 => h9) dJ0_indexOf_7cf53_8 ?_
  refine lv_iload_n hx hb dJ0_indexOf_7cf53_11 rfl (lv_at hl 1 rfl) ?_
  refine lv_iload_n hx hb dJ0_indexOf_7cf53_12 rfl (lv_at hl 2 rfl) ?_
  refine lv_aload_n hx hb dJ0_indexOf_7cf53_13 rfl (lv_at hl 0 rfl) ?_
  have hPc := hP.sb (ws2 := []) [] rfl
  have hKc := hK.sb (tys2 := []) [] rfl
  refine vp_callSi (va_runV (As := []) (rest := [.int 0, .int p1, .ref b]) ⟨hx, hb, hml, hown, hts⟩ (s_t_length l dC dI q b n g hn A) (cwV 0 hts (kG (List.forall_mem_cons.mpr ⟨(List.mem_cons_of_mem _ (List.mem_append_left _ (List.mem_of_getElem? (i := 7) rfl))), (List.forall_mem_cons.mpr ⟨(List.mem_cons_of_mem _ (List.mem_append_left _ (List.mem_of_getElem? (i := 6) rfl))), (List.forall_mem_cons.mpr ⟨(List.mem_cons_of_mem _ (List.mem_append_left _ (List.mem_of_getElem? (i := 5) rfl))), (List.forall_mem_cons.mpr ⟨(List.mem_cons_of_mem _ (List.mem_append_left _ (List.mem_of_getElem? (i := 0) rfl))), (fun _ h => absurd h List.not_mem_nil)⟩)⟩)⟩)⟩) (kGV _ _ _ _) (fun _ h => List.mem_cons_of_mem _ (List.mem_append_right _ (List.mem_append_right _ (List.mem_append_left _ h)))) gw_s_t_length) rfl rfl rfl ⟨rfl, hd_J0_length_8abf5⟩ ⟨(Nat.le_of_ble_eq_true rfl), (Nat.le_of_ble_eq_true rfl)⟩) (kR_V kSt_blind (kSt_give hX hS) (kSt_recv hX hS) hPc hKc) rfl rfl hl.1 rfl (lv_room (Nat.le_of_ble_eq_true rfl)) dJ0_indexOf_7cf53_14 ⟨(Nat.le_of_ble_eq_true rfl), (Nat.le_of_ble_eq_true rfl)⟩).run (fun r_3 hw => ?_)
  obtain rfl : r_3 = nI (n) := hw
  have hPc := hP.sb (ws2 := []) [] rfl
  have hKc := hK.sb (tys2 := []) [] rfl
  refine vp_callSi (va_runS (As := [.ref b, .int p1, .int 0, .int (nI (n))]) (rest := []) ⟨hx, hb, hml, hown, hts⟩ (s_t_ix1 l dC dI q b n g hn A p1) (va_cwS 4 hts (kG (List.forall_mem_cons.mpr ⟨(List.mem_cons_of_mem _ (List.mem_append_left _ (List.mem_of_getElem? (i := 10) rfl))), (List.forall_mem_cons.mpr ⟨(List.mem_cons_of_mem _ (List.mem_append_left _ (List.mem_of_getElem? (i := 9) rfl))), (List.forall_mem_cons.mpr ⟨(List.mem_cons_of_mem _ (List.mem_append_left _ (List.mem_of_getElem? (i := 8) rfl))), (fun _ h => absurd h List.not_mem_nil)⟩)⟩)⟩) (kGS _ _ _) (fun _ h => List.mem_cons_of_mem _ (List.mem_append_right _ (List.mem_append_right _ (List.mem_append_right _ h)))) gw_s_t_ix1) rfl rfl rfl hd_J1_indexOf_4cfef ⟨(Nat.le_of_ble_eq_true rfl), (Nat.le_of_ble_eq_true rfl)⟩) (kR_S kSt_blind (kSt_give hX hS) hPc hKc) rfl rfl hl.1 rfl (lv_room (Nat.le_of_ble_eq_true rfl)) dJ0_indexOf_7cf53_17 ⟨(Nat.le_of_ble_eq_true rfl), (Nat.le_of_ble_eq_true rfl)⟩).run (fun r_4 hw => ?_)
  refine lv_goto (tgt := 36) hx hb dJ0_indexOf_7cf53_20 kc_t_20_16 ?_
  rw [hQ]
  exact W.iret (v := r_4) hx hb hr (fun t ht hW => ⟨r_4, rfl, trivial, ht⟩) (fun _ h => nomatch h) dJ0_indexOf_7cf53_36

theorem dJ0_indexOf_0f7a4_0 : decode cJ0_indexOf_0f7a4 0 = .ok (.aload_n 0, 1) := kDs0 kf_42 (by decide +kernel)
theorem dJ0_indexOf_0f7a4_1 : decode cJ0_indexOf_0f7a4 1 = .ok (.iload_n 1, 1) := kDs0 kf_27 (by decide +kernel)
theorem dJ0_indexOf_0f7a4_2 : decode cJ0_indexOf_0f7a4 2 = .ok (.iconst 0, 1) := kDs0 kf_3 (by decide +kernel)
theorem dJ0_indexOf_0f7a4_3 : decode cJ0_indexOf_0f7a4 3 = .ok (.invokevirtual 633, 3) := kDs2 kf_182 (by decide +kernel)
theorem dJ0_indexOf_0f7a4_6 : decode cJ0_indexOf_0f7a4 6 = .ok (.ireturn, 1) := kDs0 kf_172 (by decide +kernel)
def w_s_t_ix : List Cond := .code yJ0_indexOf_0f7a4 cJ0_indexOf_0f7a4 2 (some .int) :: ([.initialized RJ0, .selects RJ0 yJ0_indexOf_7cf53 yJ0_indexOf_7cf53, .instanceMethod yJ0_indexOf_7cf53, .methodLink RJ0 633 yJ0_indexOf_7cf53] ++ (w_s_t_ix2))
theorem gw_s_t_ix : (w_s_t_ix).all goodWord = true := kGc rfl (kGa (by decide +kernel) gw_s_t_ix2)
theorem hd_J0_indexOf_0f7a4 : yJ0_indexOf_0f7a4.cls ≠ "java/lang/invoke/MethodHandle" ∧ yJ0_indexOf_0f7a4.cls ≠ "java/lang/invoke/VarHandle" ∧ (parseMethodDescriptor yJ0_indexOf_0f7a4.desc).map (fun d => d.parameters.length) = some 1 := by decide +kernel
set_option maxHeartbeats 4000000 in
set_option maxRecDepth 100000 in
theorem s_t_ix (l : Launch) (dC : Nat → ClassId) (dI : Nat → Nat → Nat) (q : Nat) (b : Nat) (n : Nat) (g : Nat → Int32) (hn : n ≤ 8) (A : Nat → Prop) (p1 : Int32) : Met l yJ0_indexOf_0f7a4 w_s_t_ix ({ frames := 4, cells := 0, slots := 0, locals := 240 }) (kR dC dI [.ref q, .int p1] [] [] (kSt q b n g A)) (vp_Si (fun r : Int32 => True)) 0 0 (fun _ => False) := by
  refine Met.ofW (cc := cJ0_indexOf_0f7a4) (maxL := 2) (ret := (some .int)) (by decide) rfl ?_
  intro p e s m args below meth c s₁ B hml hv
  obtain ⟨rfl, hP, hK, hX⟩ := hv
  have hx := B.exec
  have hb := B.bytes
  have hr := B.returns
  have hts := atoms_spec (ws := w_s_t_ix) B.pre
  have hown : s.vm.findClass RJ0 = some m.cls := findClass_of_methodNamed B.named
  have hlocks := B.notSynchronized
  have hS : va_S A s.heap s.heap [] := va_S.rf
  have hP : va_P (dC, dI) vwCl [] s.heap := hP
  have hl := lv_entry ([.ref q, .int p1]) (n := 2) (Nat.le_of_ble_eq_true rfl)
  rw [lg_entry_eq]
  generalize (lg_sl ([.ref q, .int p1]) ++ List.replicate (2 - (lg_sl ([.ref q, .int p1])).length) Slot.unset).toArray = ls at hl ⊢
  have hl : lv_has ls 2 [(0, .ref q), (1, .int p1)] := hl
  refine kQ (fun Q hQ => ?_)
  refine lv_aload_n hx hb dJ0_indexOf_0f7a4_0 rfl (lv_at hl 0 rfl) ?_
  refine lv_iload_n hx hb dJ0_indexOf_0f7a4_1 rfl (lv_at hl 1 rfl) ?_
  refine lv_iconst (v := 0) hx hb dJ0_indexOf_0f7a4_2 kc_i_0 ?_
  have hPc := hP.sb (ws2 := []) [] rfl
  have hKc := hK.sb (tys2 := []) [] rfl
  refine vp_callSi (va_runV (As := [.int p1, .int 0]) (rest := []) ⟨hx, hb, hml, hown, hts⟩ (s_t_ix2 l dC dI q b n g hn A p1) (cwV 2 hts (kG (List.forall_mem_cons.mpr ⟨(List.mem_cons_of_mem _ (List.mem_append_left _ (List.mem_of_getElem? (i := 3) rfl))), (List.forall_mem_cons.mpr ⟨(List.mem_cons_of_mem _ (List.mem_append_left _ (List.mem_of_getElem? (i := 2) rfl))), (List.forall_mem_cons.mpr ⟨(List.mem_cons_of_mem _ (List.mem_append_left _ (List.mem_of_getElem? (i := 1) rfl))), (List.forall_mem_cons.mpr ⟨(List.mem_cons_of_mem _ (List.mem_append_left _ (List.mem_of_getElem? (i := 0) rfl))), (fun _ h => absurd h List.not_mem_nil)⟩)⟩)⟩)⟩) (kGV _ _ _ _) (fun _ h => List.mem_cons_of_mem _ (List.mem_append_right _ h)) gw_s_t_ix2) rfl rfl rfl ⟨rfl, hd_J0_indexOf_7cf53⟩ ⟨(Nat.le_of_ble_eq_true rfl), (Nat.le_of_ble_eq_true rfl)⟩) (kR_V kSt_blind (kSt_give hX hS) (kSt_recv hX hS) hPc hKc) rfl rfl hl.1 rfl (lv_room (Nat.le_of_ble_eq_true rfl)) dJ0_indexOf_0f7a4_3 ⟨(Nat.le_of_ble_eq_true rfl), (Nat.le_of_ble_eq_true rfl)⟩).run (fun r_1 hw => ?_)
  rw [hQ]
  exact W.iret (v := r_1) hx hb hr (fun t ht hW => ⟨r_1, rfl, trivial, ht⟩) (fun _ h => nomatch h) dJ0_indexOf_0f7a4_6
