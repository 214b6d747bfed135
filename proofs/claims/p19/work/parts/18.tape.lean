theorem dX8_length_0 : decode cX8_length 0 = .ok (.aload_n 0, 1) := by decide +kernel
theorem dX8_length_1 : decode cX8_length 1 = .ok (.getfield 15, 3) := by decide +kernel
theorem dX8_length_4 : decode cX8_length 4 = .ok (.ireturn, 1) := by decide +kernel
def w_s_length8 : List Cond := .code yX8_length cX8_length 1 (some .int) :: ([.fieldLink RX8 15 "NotEnded$Tape" "length" "I"] ++ (wsX80))
theorem gw_s_length8 : (w_s_length8).all goodWord = true := kGc rfl (kGa (by decide +kernel) gw_wsX80)
theorem hd_X8_length : yX8_length.cls ≠ "java/lang/invoke/MethodHandle" ∧ yX8_length.cls ≠ "java/lang/invoke/VarHandle" ∧ (parseMethodDescriptor yX8_length.desc).map (fun d => d.parameters.length) = some 0 := by decide +kernel
set_option maxHeartbeats 4000000 in
set_option maxRecDepth 100000 in
theorem s_length8 (l : Launch) (dC : Nat → ClassId) (dI : Nat → Nat → Nat) (jT : Nat) (t0 : Nat) (cC : ClassId) (gT : Nat → Int32) (kt : Nat) (hkt : kt ≤ 120) (hgT : ∀ j : Nat, narrow .char (.int (gT j)) = .int (gT j)) : Met l yX8_length w_s_length8 ({ frames := 1, cells := 0, slots := 0, locals := 60 }) (kR dC dI [.ref jT] [(jT, .inr (8, [.ref t0, .int (nI (kt))])), (t0, .inl (cC, 120, .inl gT))] [(cC, .char)] kT) (vp_Si (fun r : Int32 => r = nI kt)) 0 0 (fun _ => False) := by
  refine Met.ofW (cc := cX8_length) (maxL := 1) (ret := (some .int)) (by decide) rfl ?_
  intro p e s m args below meth c s₁ B hml hv
  obtain ⟨rfl, hP, hK, hX⟩ := hv
  have hx := B.exec
  have hb := B.bytes
  have hr := B.returns
  have hts := atoms_spec (ws := w_s_length8) B.pre
  have hown : s.vm.findClass RX8 = some m.cls := findClass_of_methodNamed B.named
  have hlocks := B.notSynchronized
  have hP : va_P (dC, dI) vwCl [(jT, .inr (8, [.ref t0, .int (nI (kt))])), (t0, .inl (cC, 120, .inl gT))] s.heap := hP
  have hl := lv_entry ([.ref jT]) (n := 1) (Nat.le_of_ble_eq_true rfl)
  rw [lg_entry_eq]
  generalize (lg_sl ([.ref jT]) ++ List.replicate (1 - (lg_sl ([.ref jT])).length) Slot.unset).toArray = ls at hl ⊢
  have hl : lv_has ls 1 [(0, .ref jT)] := hl
  refine kQ (fun Q hQ => ?_)
  refine lv_aload_n hx hb dX8_length_0 rfl (lv_at hl 0 rfl) ?_
  refine va_get (D := (dC, dI)) (ci := 8) (v := .int (nI (kt))) (C := RX8) (T := TX8) (N := 2) hx hb hts (fun _ h => List.mem_cons_of_mem _ (List.mem_append_right _ h)) hown hK hP 0 rfl rfl 1 (by decide) (hts (.fieldLink RX8 15 "NotEnded$Tape" "length" "I") (List.mem_cons_of_mem _ (List.mem_append_left _ (List.mem_of_getElem? (i := 0) rfl)))) (fun _ h9 => h9) rfl dX8_length_1 ?_
  rw [hQ]
  exact W.iret (v := nI (kt)) hx hb hr (fun t ht hW => ⟨nI (kt), rfl, rfl, ht⟩) (fun _ h => nomatch h) dX8_length_4

theorem dX8_at_0 : decode cX8_at 0 = .ok (.iload_n 1, 1) := by decide +kernel
theorem dX8_at_1 : decode cX8_at 1 = .ok (.ifCond .lt 29, 3) := by decide +kernel
theorem dX8_at_30 : decode cX8_at 30 = .ok (.iconst 0, 1) := by decide +kernel
theorem dX8_at_31 : decode cX8_at 31 = .ok (.ireturn, 1) := by decide +kernel
theorem dX8_at_4 : decode cX8_at 4 = .ok (.iload_n 1, 1) := by decide +kernel
theorem dX8_at_5 : decode cX8_at 5 = .ok (.aload_n 0, 1) := by decide +kernel
theorem dX8_at_6 : decode cX8_at 6 = .ok (.getfield 15, 3) := by decide +kernel
theorem dX8_at_9 : decode cX8_at 9 = .ok (.if_icmp .ge 21, 3) := by decide +kernel
theorem dX8_at_12 : decode cX8_at 12 = .ok (.iload_n 1, 1) := by decide +kernel
theorem dX8_at_13 : decode cX8_at 13 = .ok (.aload_n 0, 1) := by decide +kernel
theorem dX8_at_14 : decode cX8_at 14 = .ok (.getfield 9, 3) := by decide +kernel
theorem dX8_at_17 : decode cX8_at 17 = .ok (.arraylength, 1) := by decide +kernel
theorem dX8_at_18 : decode cX8_at 18 = .ok (.if_icmp .ge 12, 3) := by decide +kernel
theorem dX8_at_21 : decode cX8_at 21 = .ok (.aload_n 0, 1) := by decide +kernel
theorem dX8_at_22 : decode cX8_at 22 = .ok (.getfield 9, 3) := by decide +kernel
theorem dX8_at_25 : decode cX8_at 25 = .ok (.iload_n 1, 1) := by decide +kernel
theorem dX8_at_26 : decode cX8_at 26 = .ok (.caload, 1) := by decide +kernel
theorem dX8_at_27 : decode cX8_at 27 = .ok (.goto 4, 3) := by decide +kernel
def w_s_at8 : List Cond := .code yX8_at cX8_at 2 (some .char) :: ([.fieldLink RX8 15 "NotEnded$Tape" "length" "I", .fieldLink RX8 9 "NotEnded$Tape" "signs" "[C"] ++ (wsX80))
theorem gw_s_at8 : (w_s_at8).all goodWord = true := kGc rfl (kGa (by decide +kernel) gw_wsX80)
theorem hd_X8_at : yX8_at.cls ≠ "java/lang/invoke/MethodHandle" ∧ yX8_at.cls ≠ "java/lang/invoke/VarHandle" ∧ (parseMethodDescriptor yX8_at.desc).map (fun d => d.parameters.length) = some 1 := by decide +kernel
set_option maxHeartbeats 4000000 in
set_option maxRecDepth 100000 in
theorem s_at8 (l : Launch) (dC : Nat → ClassId) (dI : Nat → Nat → Nat) (jT : Nat) (t0 : Nat) (cC : ClassId) (gT : Nat → Int32) (kt : Nat) (hkt : kt ≤ 120) (hgT : ∀ j : Nat, narrow .char (.int (gT j)) = .int (gT j)) (p0 : Int32) : Met l yX8_at w_s_at8 ({ frames := 1, cells := 0, slots := 0, locals := 60 }) (kR dC dI [.ref jT, .int p0] [(jT, .inr (8, [.ref t0, .int (nI (kt))])), (t0, .inl (cC, 120, .inl gT))] [(cC, .char)] kT) (vp_Si (fun r : Int32 => (narrow .char (.int r) = .int r))) 0 0 (fun _ => False) := by
  refine Met.ofW (cc := cX8_at) (maxL := 2) (ret := (some .char)) (by decide) rfl ?_
  intro p e s m args below meth c s₁ B hml hv
  obtain ⟨rfl, hP, hK, hX⟩ := hv
  have hx := B.exec
  have hb := B.bytes
  have hr := B.returns
  have hts := atoms_spec (ws := w_s_at8) B.pre
  have hown : s.vm.findClass RX8 = some m.cls := findClass_of_methodNamed B.named
  have hlocks := B.notSynchronized
  have hP : va_P (dC, dI) vwCl [(jT, .inr (8, [.ref t0, .int (nI (kt))])), (t0, .inl (cC, 120, .inl gT))] s.heap := hP
  have hl := lv_entry ([.ref jT, .int p0]) (n := 2) (Nat.le_of_ble_eq_true rfl)
  rw [lg_entry_eq]
  generalize (lg_sl ([.ref jT, .int p0]) ++ List.replicate (2 - (lg_sl ([.ref jT, .int p0])).length) Slot.unset).toArray = ls at hl ⊢
  have hl : lv_has ls 2 [(0, .ref jT), (1, .int p0)] := hl
  refine kQ (fun Q hQ => ?_)
  refine lv_iload_n hx hb dX8_at_0 rfl (lv_at hl 1 rfl) ?_
  refine lv_if_lt (tgt := 30) hx hb dX8_at_1 (by decide) (fun c_1 => ?_) (fun c_1 => ?_)
  · refine lv_iconst (v := 0) hx hb dX8_at_30 (by decide) ?_
    rw [hQ]
    exact W.zret (v := 0) hx hb hr rfl (fun t ht hW => ⟨0, rfl, rfl, ht⟩) (fun _ h => nomatch h) dX8_at_31
  · obtain ⟨j_2, hj_2, ej_2⟩ := nI_of c_1
    subst ej_2
    refine lv_iload_n hx hb dX8_at_4 rfl (lv_at hl 1 rfl) ?_
    refine lv_aload_n hx hb dX8_at_5 rfl (lv_at hl 0 rfl) ?_
    refine va_get (D := (dC, dI)) (ci := 8) (v := .int (nI (kt))) (C := RX8) (T := TX8) (N := 2) hx hb hts (fun _ h => List.mem_cons_of_mem _ (List.mem_append_right _ h)) hown hK hP 0 rfl rfl 1 (by decide) (hts (.fieldLink RX8 15 "NotEnded$Tape" "length" "I") (List.mem_cons_of_mem _ (List.mem_append_left _ (List.mem_of_getElem? (i := 0) rfl)))) (fun _ h9 => h9) rfl dX8_at_6 ?_
    refine lv_icmp_ge (tgt := 30) hx hb dX8_at_9 (by decide) (fun c_3 => ?_) (fun c_3 => ?_)
    · have hn_4 := kle (a := kt) (b := j_2) (by omega) (by omega) c_3
      refine lv_iconst (v := 0) hx hb dX8_at_30 (by decide) ?_
      rw [hQ]
      exact W.zret (v := 0) hx hb hr rfl (fun t ht hW => ⟨0, rfl, rfl, ht⟩) (fun _ h => nomatch h) dX8_at_31
    · have hn_5 := knle (a := kt) (b := j_2) (by omega) (by omega) c_3
      refine lv_iload_n hx hb dX8_at_12 rfl (lv_at hl 1 rfl) ?_
      refine lv_aload_n hx hb dX8_at_13 rfl (lv_at hl 0 rfl) ?_
      refine va_get (D := (dC, dI)) (ci := 8) (v := .ref t0) (C := RX8) (T := TX8) (N := 2) hx hb hts (fun _ h => List.mem_cons_of_mem _ (List.mem_append_right _ h)) hown hK hP 0 rfl rfl 0 (by decide) (hts (.fieldLink RX8 9 "NotEnded$Tape" "signs" "[C") (List.mem_cons_of_mem _ (List.mem_append_left _ (List.mem_of_getElem? (i := 1) rfl)))) (fun _ h9 => h9) rfl dX8_at_14 ?_
      refine va_alen hx hb hK hP 1 0 rfl rfl (v := 120) rfl dX8_at_17 ?_
      refine lv_icmp_ge (tgt := 30) hx hb dX8_at_18 (by decide) (fun c_6 => ?_) (fun c_6 => ?_)
      · have hn_7 := kle (a := 120) (b := j_2) (by omega) (by omega) c_6
        refine lv_iconst (v := 0) hx hb dX8_at_30 (by decide) ?_
        rw [hQ]
        exact W.zret (v := 0) hx hb hr rfl (fun t ht hW => ⟨0, rfl, rfl, ht⟩) (fun _ h => nomatch h) dX8_at_31
      · have hn_8 := knle (a := 120) (b := j_2) (by omega) (by omega) c_6
        refine lv_aload_n hx hb dX8_at_21 rfl (lv_at hl 0 rfl) ?_
        refine va_get (D := (dC, dI)) (ci := 8) (v := .ref t0) (C := RX8) (T := TX8) (N := 2) hx hb hts (fun _ h => List.mem_cons_of_mem _ (List.mem_append_right _ h)) hown hK hP 0 rfl rfl 0 (by decide) (hts (.fieldLink RX8 9 "NotEnded$Tape" "signs" "[C") (List.mem_cons_of_mem _ (List.mem_append_left _ (List.mem_of_getElem? (i := 1) rfl)))) (fun _ h9 => h9) rfl dX8_at_22 ?_
        refine lv_iload_n hx hb dX8_at_25 rfl (lv_at hl 1 rfl) ?_
        refine va_cald hx hb hK hP 1 0 rfl rfl (vp_in_nI (n := j_2) (N := 120) (by omega) (by omega)) dX8_at_26 ?_
        refine lv_topi (fun x_9 ex_9 => ?_)
        refine lv_goto (tgt := 31) hx hb dX8_at_27 (by decide) ?_
        rw [hQ]
        exact W.zret (v := x_9) hx hb hr (by rw [ex_9]; exact hgT _) (fun t ht hW => ⟨x_9, rfl, (by rw [ex_9]; exact hgT _), ht⟩) (fun _ h => nomatch h) dX8_at_31

theorem dX8_bytesIn_0 : decode cX8_bytesIn 0 = .ok (.iconst 0, 1) := by decide +kernel
theorem dX8_bytesIn_1 : decode cX8_bytesIn 1 = .ok (.istore_n 1, 1) := by decide +kernel
theorem dX8_bytesIn_2 : decode cX8_bytesIn 2 = .ok (.bipush 24, 2) := by decide +kernel
theorem dX8_bytesIn_4 : decode cX8_bytesIn 4 = .ok (.istore_n 2, 1) := by decide +kernel
theorem dX8_bytesIn_5 : decode cX8_bytesIn 5 = .ok (.iload_n 2, 1) := by decide +kernel
theorem dX8_bytesIn_6 : decode cX8_bytesIn 6 = .ok (.ifCond .lt 22, 3) := by decide +kernel
theorem dX8_bytesIn_9 : decode cX8_bytesIn 9 = .ok (.iload_n 0, 1) := by decide +kernel
theorem dX8_bytesIn_10 : decode cX8_bytesIn 10 = .ok (.iload_n 2, 1) := by decide +kernel
theorem dX8_bytesIn_11 : decode cX8_bytesIn 11 = .ok (.iushr, 1) := by decide +kernel
theorem dX8_bytesIn_12 : decode cX8_bytesIn 12 = .ok (.sipush 255, 3) := by decide +kernel
theorem dX8_bytesIn_15 : decode cX8_bytesIn 15 = .ok (.iand, 1) := by decide +kernel
theorem dX8_bytesIn_16 : decode cX8_bytesIn 16 = .ok (.ifCond .eq 6, 3) := by decide +kernel
theorem dX8_bytesIn_22 : decode cX8_bytesIn 22 = .ok (.iinc 2 (-8), 3) := by decide +kernel
theorem dX8_bytesIn_25 : decode cX8_bytesIn 25 = .ok (.goto (-20), 3) := by decide +kernel
theorem dX8_bytesIn_28 : decode cX8_bytesIn 28 = .ok (.iload_n 1, 1) := by decide +kernel
theorem dX8_bytesIn_29 : decode cX8_bytesIn 29 = .ok (.ireturn, 1) := by decide +kernel
theorem dX8_bytesIn_19 : decode cX8_bytesIn 19 = .ok (.iinc 1 1, 3) := by decide +kernel
def w_s_bytes8 : List Cond := .code yX8_bytesIn cX8_bytesIn 3 (some .int) :: ([])
theorem gw_s_bytes8 : (w_s_bytes8).all goodWord = true := kGc rfl kGn
theorem hd_X8_bytesIn : yX8_bytesIn.cls ≠ "java/lang/invoke/MethodHandle" ∧ yX8_bytesIn.cls ≠ "java/lang/invoke/VarHandle" ∧ (parseMethodDescriptor yX8_bytesIn.desc).map (fun d => d.parameters.length) = some 1 := by decide +kernel
set_option maxHeartbeats 4000000 in
set_option maxRecDepth 100000 in
theorem s_bytes8 (l : Launch) (dC : Nat → ClassId) (dI : Nat → Nat → Nat) (p0 : Int32) : Met l yX8_bytesIn w_s_bytes8 ({ frames := 1, cells := 0, slots := 0, locals := 60 }) (kR dC dI [.int p0] [] [] kT) (vp_Si (fun r : Int32 => True)) 0 0 (fun _ => False) := by
  refine Met.ofW (cc := cX8_bytesIn) (maxL := 3) (ret := (some .int)) (by decide) rfl ?_
  intro p e s m args below meth c s₁ B hml hv
  obtain ⟨rfl, hP, hK, hX⟩ := hv
  have hx := B.exec
  have hb := B.bytes
  have hr := B.returns
  have hts := atoms_spec (ws := w_s_bytes8) B.pre
  have hown : s.vm.findClass RX8 = some m.cls := findClass_of_methodNamed B.named
  have hlocks := B.notSynchronized
  have hP : va_P (dC, dI) vwCl [] s.heap := hP
  have hl := lv_entry ([.int p0]) (n := 3) (Nat.le_of_ble_eq_true rfl)
  rw [lg_entry_eq]
  generalize (lg_sl ([.int p0]) ++ List.replicate (3 - (lg_sl ([.int p0])).length) Slot.unset).toArray = ls at hl ⊢
  have hl : lv_has ls 3 [(0, .int p0)] := hl
  refine kQ (fun Q hQ => ?_)
  refine lv_iconst (v := 0) hx hb dX8_bytesIn_0 (by decide) ?_
  refine lv_istore_n hx hb dX8_bytesIn_1 rfl hl (by decide) (kTo [(1, .int 0), (0, .int p0)]) (fun ls hl => ?_)
  refine lv_bipush (v := 24) hx hb dX8_bytesIn_2 (by decide) ?_
  refine lv_istore_n hx hb dX8_bytesIn_4 rfl hl (by decide) (kTo [(2, .int 24), (1, .int 0), (0, .int p0)]) (fun ls hl => ?_)
  refine lv_iload_n hx hb dX8_bytesIn_5 rfl (lv_at hl 0 rfl) ?_
  refine lv_if_lt (tgt := 28) hx hb dX8_bytesIn_6 (by decide) (fun c_1 => absurd c_1 (by decide)) (fun c_1 => ?_)
  refine lv_iload_n hx hb dX8_bytesIn_9 rfl (lv_at hl 2 rfl) ?_
  refine lv_iload_n hx hb dX8_bytesIn_10 rfl (lv_at hl 0 rfl) ?_
  obtain ⟨x_2, ex_2⟩ : ∃ z : Int32, z = (Int32.toUInt32 p0 >>> (Int32.toUInt32 24 &&& Int32.toUInt32 31)).toInt32 := ⟨_, rfl⟩
  refine lv_iushr (v := x_2) hx hb dX8_bytesIn_11 ex_2.symm ?_
  refine lv_sipush (v := 255) hx hb dX8_bytesIn_12 (by decide) ?_
  refine lv_iand hx hb dX8_bytesIn_15 ?_
  refine lv_topi (fun x_3 ex_3 => ?_)
  refine lv_if_eq (tgt := 22) hx hb dX8_bytesIn_16 (by decide) (fun c_4 => ?_) (fun c_4 => ?_)
  · refine lv_iinc (v := 16) hx hb dX8_bytesIn_22 hl (k := 0) rfl (by decide) (by decide) (kTo [(2, .int 16), (1, .int 0), (0, .int p0)]) (fun ls hl => ?_)
    refine lv_goto (tgt := 5) hx hb dX8_bytesIn_25 (by decide) ?_
    refine lv_iload_n hx hb dX8_bytesIn_5 rfl (lv_at hl 0 rfl) ?_
    refine lv_if_lt (tgt := 28) hx hb dX8_bytesIn_6 (by decide) (fun c_5 => absurd c_5 (by decide)) (fun c_5 => ?_)
    refine lv_iload_n hx hb dX8_bytesIn_9 rfl (lv_at hl 2 rfl) ?_
    refine lv_iload_n hx hb dX8_bytesIn_10 rfl (lv_at hl 0 rfl) ?_
    obtain ⟨x_6, ex_6⟩ : ∃ z : Int32, z = (Int32.toUInt32 p0 >>> (Int32.toUInt32 16 &&& Int32.toUInt32 31)).toInt32 := ⟨_, rfl⟩
    refine lv_iushr (v := x_6) hx hb dX8_bytesIn_11 ex_6.symm ?_
    refine lv_sipush (v := 255) hx hb dX8_bytesIn_12 (by decide) ?_
    refine lv_iand hx hb dX8_bytesIn_15 ?_
    refine lv_topi (fun x_7 ex_7 => ?_)
    refine lv_if_eq (tgt := 22) hx hb dX8_bytesIn_16 (by decide) (fun c_8 => ?_) (fun c_8 => ?_)
    · refine lv_iinc (v := 8) hx hb dX8_bytesIn_22 hl (k := 0) rfl (by decide) (by decide) (kTo [(2, .int 8), (1, .int 0), (0, .int p0)]) (fun ls hl => ?_)
      refine lv_goto (tgt := 5) hx hb dX8_bytesIn_25 (by decide) ?_
      refine lv_iload_n hx hb dX8_bytesIn_5 rfl (lv_at hl 0 rfl) ?_
      refine lv_if_lt (tgt := 28) hx hb dX8_bytesIn_6 (by decide) (fun c_9 => absurd c_9 (by decide)) (fun c_9 => ?_)
      refine lv_iload_n hx hb dX8_bytesIn_9 rfl (lv_at hl 2 rfl) ?_
      refine lv_iload_n hx hb dX8_bytesIn_10 rfl (lv_at hl 0 rfl) ?_
      obtain ⟨x_10, ex_10⟩ : ∃ z : Int32, z = (Int32.toUInt32 p0 >>> (Int32.toUInt32 8 &&& Int32.toUInt32 31)).toInt32 := ⟨_, rfl⟩
      refine lv_iushr (v := x_10) hx hb dX8_bytesIn_11 ex_10.symm ?_
      refine lv_sipush (v := 255) hx hb dX8_bytesIn_12 (by decide) ?_
      refine lv_iand hx hb dX8_bytesIn_15 ?_
      refine lv_topi (fun x_11 ex_11 => ?_)
      refine lv_if_eq (tgt := 22) hx hb dX8_bytesIn_16 (by decide) (fun c_12 => ?_) (fun c_12 => ?_)
      · refine lv_iinc (v := 0) hx hb dX8_bytesIn_22 hl (k := 0) rfl (by decide) (by decide) (kTo [(2, .int 0), (1, .int 0), (0, .int p0)]) (fun ls hl => ?_)
        refine lv_goto (tgt := 5) hx hb dX8_bytesIn_25 (by decide) ?_
        refine lv_iload_n hx hb dX8_bytesIn_5 rfl (lv_at hl 0 rfl) ?_
        refine lv_if_lt (tgt := 28) hx hb dX8_bytesIn_6 (by decide) (fun c_13 => absurd c_13 (by decide)) (fun c_13 => ?_)
        refine lv_iload_n hx hb dX8_bytesIn_9 rfl (lv_at hl 2 rfl) ?_
        refine lv_iload_n hx hb dX8_bytesIn_10 rfl (lv_at hl 0 rfl) ?_
        obtain ⟨x_14, ex_14⟩ : ∃ z : Int32, z = (Int32.toUInt32 p0 >>> (Int32.toUInt32 0 &&& Int32.toUInt32 31)).toInt32 := ⟨_, rfl⟩
        refine lv_iushr (v := x_14) hx hb dX8_bytesIn_11 ex_14.symm ?_
        refine lv_sipush (v := 255) hx hb dX8_bytesIn_12 (by decide) ?_
        refine lv_iand hx hb dX8_bytesIn_15 ?_
        refine lv_topi (fun x_15 ex_15 => ?_)
        refine lv_if_eq (tgt := 22) hx hb dX8_bytesIn_16 (by decide) (fun c_16 => ?_) (fun c_16 => ?_)
        · refine lv_iinc (v := (-8)) hx hb dX8_bytesIn_22 hl (k := 0) rfl (by decide) (by decide) (kTo [(2, .int (-8)), (1, .int 0), (0, .int p0)]) (fun ls hl => ?_)
          refine lv_goto (tgt := 5) hx hb dX8_bytesIn_25 (by decide) ?_
          refine lv_iload_n hx hb dX8_bytesIn_5 rfl (lv_at hl 0 rfl) ?_
          refine lv_if_lt (tgt := 28) hx hb dX8_bytesIn_6 (by decide) (fun c_17 => ?_) (fun c_17 => absurd (by decide) c_17)
          refine lv_iload_n hx hb dX8_bytesIn_28 rfl (lv_at hl 1 rfl) ?_
          rw [hQ]
          exact W.iret (v := 0) hx hb hr (fun t ht hW => ⟨0, rfl, trivial, ht⟩) (fun _ h => nomatch h) dX8_bytesIn_29
        · refine lv_iinc (v := 1) hx hb dX8_bytesIn_19 hl (k := 1) rfl (by decide) (by decide) (kTo [(1, .int 1), (2, .int 0), (0, .int p0)]) (fun ls hl => ?_)
          refine lv_iinc (v := (-8)) hx hb dX8_bytesIn_22 hl (k := 1) rfl (by decide) (by decide) (kTo [(2, .int (-8)), (1, .int 1), (0, .int p0)]) (fun ls hl => ?_)
          refine lv_goto (tgt := 5) hx hb dX8_bytesIn_25 (by decide) ?_
          refine lv_iload_n hx hb dX8_bytesIn_5 rfl (lv_at hl 0 rfl) ?_
          refine lv_if_lt (tgt := 28) hx hb dX8_bytesIn_6 (by decide) (fun c_18 => ?_) (fun c_18 => absurd (by decide) c_18)
          refine lv_iload_n hx hb dX8_bytesIn_28 rfl (lv_at hl 1 rfl) ?_
          rw [hQ]
          exact W.iret (v := 1) hx hb hr (fun t ht hW => ⟨1, rfl, trivial, ht⟩) (fun _ h => nomatch h) dX8_bytesIn_29
      · refine lv_iinc (v := 1) hx hb dX8_bytesIn_19 hl (k := 1) rfl (by decide) (by decide) (kTo [(1, .int 1), (2, .int 8), (0, .int p0)]) (fun ls hl => ?_)
        refine lv_iinc (v := 0) hx hb dX8_bytesIn_22 hl (k := 1) rfl (by decide) (by decide) (kTo [(2, .int 0), (1, .int 1), (0, .int p0)]) (fun ls hl => ?_)
        refine lv_goto (tgt := 5) hx hb dX8_bytesIn_25 (by decide) ?_
        refine lv_iload_n hx hb dX8_bytesIn_5 rfl (lv_at hl 0 rfl) ?_
        refine lv_if_lt (tgt := 28) hx hb dX8_bytesIn_6 (by decide) (fun c_19 => absurd c_19 (by decide)) (fun c_19 => ?_)
        refine lv_iload_n hx hb dX8_bytesIn_9 rfl (lv_at hl 2 rfl) ?_
        refine lv_iload_n hx hb dX8_bytesIn_10 rfl (lv_at hl 0 rfl) ?_
        obtain ⟨x_20, ex_20⟩ : ∃ z : Int32, z = (Int32.toUInt32 p0 >>> (Int32.toUInt32 0 &&& Int32.toUInt32 31)).toInt32 := ⟨_, rfl⟩
        refine lv_iushr (v := x_20) hx hb dX8_bytesIn_11 ex_20.symm ?_
        refine lv_sipush (v := 255) hx hb dX8_bytesIn_12 (by decide) ?_
        refine lv_iand hx hb dX8_bytesIn_15 ?_
        refine lv_topi (fun x_21 ex_21 => ?_)
        refine lv_if_eq (tgt := 22) hx hb dX8_bytesIn_16 (by decide) (fun c_22 => ?_) (fun c_22 => ?_)
        · refine lv_iinc (v := (-8)) hx hb dX8_bytesIn_22 hl (k := 0) rfl (by decide) (by decide) (kTo [(2, .int (-8)), (1, .int 1), (0, .int p0)]) (fun ls hl => ?_)
          refine lv_goto (tgt := 5) hx hb dX8_bytesIn_25 (by decide) ?_
          refine lv_iload_n hx hb dX8_bytesIn_5 rfl (lv_at hl 0 rfl) ?_
          refine lv_if_lt (tgt := 28) hx hb dX8_bytesIn_6 (by decide) (fun c_23 => ?_) (fun c_23 => absurd (by decide) c_23)
          refine lv_iload_n hx hb dX8_bytesIn_28 rfl (lv_at hl 1 rfl) ?_
          rw [hQ]
          exact W.iret (v := 1) hx hb hr (fun t ht hW => ⟨1, rfl, trivial, ht⟩) (fun _ h => nomatch h) dX8_bytesIn_29
        · refine lv_iinc (v := 2) hx hb dX8_bytesIn_19 hl (k := 1) rfl (by decide) (by decide) (kTo [(1, .int 2), (2, .int 0), (0, .int p0)]) (fun ls hl => ?_)
          refine lv_iinc (v := (-8)) hx hb dX8_bytesIn_22 hl (k := 1) rfl (by decide) (by decide) (kTo [(2, .int (-8)), (1, .int 2), (0, .int p0)]) (fun ls hl => ?_)
          refine lv_goto (tgt := 5) hx hb dX8_bytesIn_25 (by decide) ?_
          refine lv_iload_n hx hb dX8_bytesIn_5 rfl (lv_at hl 0 rfl) ?_
          refine lv_if_lt (tgt := 28) hx hb dX8_bytesIn_6 (by decide) (fun c_24 => ?_) (fun c_24 => absurd (by decide) c_24)
          refine lv_iload_n hx hb dX8_bytesIn_28 rfl (lv_at hl 1 rfl) ?_
          rw [hQ]
          exact W.iret (v := 2) hx hb hr (fun t ht hW => ⟨2, rfl, trivial, ht⟩) (fun _ h => nomatch h) dX8_bytesIn_29
    · refine lv_iinc (v := 1) hx hb dX8_bytesIn_19 hl (k := 1) rfl (by decide) (by decide) (kTo [(1, .int 1), (2, .int 16), (0, .int p0)]) (fun ls hl => ?_)
      refine lv_iinc (v := 8) hx hb dX8_bytesIn_22 hl (k := 1) rfl (by decide) (by decide) (kTo [(2, .int 8), (1, .int 1), (0, .int p0)]) (fun ls hl => ?_)
      refine lv_goto (tgt := 5) hx hb dX8_bytesIn_25 (by decide) ?_
      refine lv_iload_n hx hb dX8_bytesIn_5 rfl (lv_at hl 0 rfl) ?_
      refine lv_if_lt (tgt := 28) hx hb dX8_bytesIn_6 (by decide) (fun c_25 => absurd c_25 (by decide)) (fun c_25 => ?_)
      refine lv_iload_n hx hb dX8_bytesIn_9 rfl (lv_at hl 2 rfl) ?_
      refine lv_iload_n hx hb dX8_bytesIn_10 rfl (lv_at hl 0 rfl) ?_
      obtain ⟨x_26, ex_26⟩ : ∃ z : Int32, z = (Int32.toUInt32 p0 >>> (Int32.toUInt32 8 &&& Int32.toUInt32 31)).toInt32 := ⟨_, rfl⟩
      refine lv_iushr (v := x_26) hx hb dX8_bytesIn_11 ex_26.symm ?_
      refine lv_sipush (v := 255) hx hb dX8_bytesIn_12 (by decide) ?_
      refine lv_iand hx hb dX8_bytesIn_15 ?_
      refine lv_topi (fun x_27 ex_27 => ?_)
      refine lv_if_eq (tgt := 22) hx hb dX8_bytesIn_16 (by decide) (fun c_28 => ?_) (fun c_28 => ?_)
      · refine lv_iinc (v := 0) hx hb dX8_bytesIn_22 hl (k := 0) rfl (by decide) (by decide) (kTo [(2, .int 0), (1, .int 1), (0, .int p0)]) (fun ls hl => ?_)
        refine lv_goto (tgt := 5) hx hb dX8_bytesIn_25 (by decide) ?_
        refine lv_iload_n hx hb dX8_bytesIn_5 rfl (lv_at hl 0 rfl) ?_
        refine lv_if_lt (tgt := 28) hx hb dX8_bytesIn_6 (by decide) (fun c_29 => absurd c_29 (by decide)) (fun c_29 => ?_)
        refine lv_iload_n hx hb dX8_bytesIn_9 rfl (lv_at hl 2 rfl) ?_
        refine lv_iload_n hx hb dX8_bytesIn_10 rfl (lv_at hl 0 rfl) ?_
        obtain ⟨x_30, ex_30⟩ : ∃ z : Int32, z = (Int32.toUInt32 p0 >>> (Int32.toUInt32 0 &&& Int32.toUInt32 31)).toInt32 := ⟨_, rfl⟩
        refine lv_iushr (v := x_30) hx hb dX8_bytesIn_11 ex_30.symm ?_
        refine lv_sipush (v := 255) hx hb dX8_bytesIn_12 (by decide) ?_
        refine lv_iand hx hb dX8_bytesIn_15 ?_
        refine lv_topi (fun x_31 ex_31 => ?_)
        refine lv_if_eq (tgt := 22) hx hb dX8_bytesIn_16 (by decide) (fun c_32 => ?_) (fun c_32 => ?_)
        · refine lv_iinc (v := (-8)) hx hb dX8_bytesIn_22 hl (k := 0) rfl (by decide) (by decide) (kTo [(2, .int (-8)), (1, .int 1), (0, .int p0)]) (fun ls hl => ?_)
          refine lv_goto (tgt := 5) hx hb dX8_bytesIn_25 (by decide) ?_
          refine lv_iload_n hx hb dX8_bytesIn_5 rfl (lv_at hl 0 rfl) ?_
          refine lv_if_lt (tgt := 28) hx hb dX8_bytesIn_6 (by decide) (fun c_33 => ?_) (fun c_33 => absurd (by decide) c_33)
          refine lv_iload_n hx hb dX8_bytesIn_28 rfl (lv_at hl 1 rfl) ?_
          rw [hQ]
          exact W.iret (v := 1) hx hb hr (fun t ht hW => ⟨1, rfl, trivial, ht⟩) (fun _ h => nomatch h) dX8_bytesIn_29
        · refine lv_iinc (v := 2) hx hb dX8_bytesIn_19 hl (k := 1) rfl (by decide) (by decide) (kTo [(1, .int 2), (2, .int 0), (0, .int p0)]) (fun ls hl => ?_)
          refine lv_iinc (v := (-8)) hx hb dX8_bytesIn_22 hl (k := 1) rfl (by decide) (by decide) (kTo [(2, .int (-8)), (1, .int 2), (0, .int p0)]) (fun ls hl => ?_)
          refine lv_goto (tgt := 5) hx hb dX8_bytesIn_25 (by decide) ?_
          refine lv_iload_n hx hb dX8_bytesIn_5 rfl (lv_at hl 0 rfl) ?_
          refine lv_if_lt (tgt := 28) hx hb dX8_bytesIn_6 (by decide) (fun c_34 => ?_) (fun c_34 => absurd (by decide) c_34)
          refine lv_iload_n hx hb dX8_bytesIn_28 rfl (lv_at hl 1 rfl) ?_
          rw [hQ]
          exact W.iret (v := 2) hx hb hr (fun t ht hW => ⟨2, rfl, trivial, ht⟩) (fun _ h => nomatch h) dX8_bytesIn_29
      · refine lv_iinc (v := 2) hx hb dX8_bytesIn_19 hl (k := 1) rfl (by decide) (by decide) (kTo [(1, .int 2), (2, .int 8), (0, .int p0)]) (fun ls hl => ?_)
        refine lv_iinc (v := 0) hx hb dX8_bytesIn_22 hl (k := 1) rfl (by decide) (by decide) (kTo [(2, .int 0), (1, .int 2), (0, .int p0)]) (fun ls hl => ?_)
        refine lv_goto (tgt := 5) hx hb dX8_bytesIn_25 (by decide) ?_
        refine lv_iload_n hx hb dX8_bytesIn_5 rfl (lv_at hl 0 rfl) ?_
        refine lv_if_lt (tgt := 28) hx hb dX8_bytesIn_6 (by decide) (fun c_35 => absurd c_35 (by decide)) (fun c_35 => ?_)
        refine lv_iload_n hx hb dX8_bytesIn_9 rfl (lv_at hl 2 rfl) ?_
        refine lv_iload_n hx hb dX8_bytesIn_10 rfl (lv_at hl 0 rfl) ?_
        obtain ⟨x_36, ex_36⟩ : ∃ z : Int32, z = (Int32.toUInt32 p0 >>> (Int32.toUInt32 0 &&& Int32.toUInt32 31)).toInt32 := ⟨_, rfl⟩
        refine lv_iushr (v := x_36) hx hb dX8_bytesIn_11 ex_36.symm ?_
        refine lv_sipush (v := 255) hx hb dX8_bytesIn_12 (by decide) ?_
        refine lv_iand hx hb dX8_bytesIn_15 ?_
        refine lv_topi (fun x_37 ex_37 => ?_)
        refine lv_if_eq (tgt := 22) hx hb dX8_bytesIn_16 (by decide) (fun c_38 => ?_) (fun c_38 => ?_)
        · refine lv_iinc (v := (-8)) hx hb dX8_bytesIn_22 hl (k := 0) rfl (by decide) (by decide) (kTo [(2, .int (-8)), (1, .int 2), (0, .int p0)]) (fun ls hl => ?_)
          refine lv_goto (tgt := 5) hx hb dX8_bytesIn_25 (by decide) ?_
          refine lv_iload_n hx hb dX8_bytesIn_5 rfl (lv_at hl 0 rfl) ?_
          refine lv_if_lt (tgt := 28) hx hb dX8_bytesIn_6 (by decide) (fun c_39 => ?_) (fun c_39 => absurd (by decide) c_39)
          refine lv_iload_n hx hb dX8_bytesIn_28 rfl (lv_at hl 1 rfl) ?_
          rw [hQ]
          exact W.iret (v := 2) hx hb hr (fun t ht hW => ⟨2, rfl, trivial, ht⟩) (fun _ h => nomatch h) dX8_bytesIn_29
        · refine lv_iinc (v := 3) hx hb dX8_bytesIn_19 hl (k := 1) rfl (by decide) (by decide) (kTo [(1, .int 3), (2, .int 0), (0, .int p0)]) (fun ls hl => ?_)
          refine lv_iinc (v := (-8)) hx hb dX8_bytesIn_22 hl (k := 1) rfl (by decide) (by decide) (kTo [(2, .int (-8)), (1, .int 3), (0, .int p0)]) (fun ls hl => ?_)
          refine lv_goto (tgt := 5) hx hb dX8_bytesIn_25 (by decide) ?_
          refine lv_iload_n hx hb dX8_bytesIn_5 rfl (lv_at hl 0 rfl) ?_
          refine lv_if_lt (tgt := 28) hx hb dX8_bytesIn_6 (by decide) (fun c_40 => ?_) (fun c_40 => absurd (by decide) c_40)
          refine lv_iload_n hx hb dX8_bytesIn_28 rfl (lv_at hl 1 rfl) ?_
          rw [hQ]
          exact W.iret (v := 3) hx hb hr (fun t ht hW => ⟨3, rfl, trivial, ht⟩) (fun _ h => nomatch h) dX8_bytesIn_29
  · refine lv_iinc (v := 1) hx hb dX8_bytesIn_19 hl (k := 1) rfl (by decide) (by decide) (kTo [(1, .int 1), (2, .int 24), (0, .int p0)]) (fun ls hl => ?_)
    refine lv_iinc (v := 16) hx hb dX8_bytesIn_22 hl (k := 1) rfl (by decide) (by decide) (kTo [(2, .int 16), (1, .int 1), (0, .int p0)]) (fun ls hl => ?_)
    refine lv_goto (tgt := 5) hx hb dX8_bytesIn_25 (by decide) ?_
    refine lv_iload_n hx hb dX8_bytesIn_5 rfl (lv_at hl 0 rfl) ?_
    refine lv_if_lt (tgt := 28) hx hb dX8_bytesIn_6 (by decide) (fun c_41 => absurd c_41 (by decide)) (fun c_41 => ?_)
    refine lv_iload_n hx hb dX8_bytesIn_9 rfl (lv_at hl 2 rfl) ?_
    refine lv_iload_n hx hb dX8_bytesIn_10 rfl (lv_at hl 0 rfl) ?_
    obtain ⟨x_42, ex_42⟩ : ∃ z : Int32, z = (Int32.toUInt32 p0 >>> (Int32.toUInt32 16 &&& Int32.toUInt32 31)).toInt32 := ⟨_, rfl⟩
    refine lv_iushr (v := x_42) hx hb dX8_bytesIn_11 ex_42.symm ?_
    refine lv_sipush (v := 255) hx hb dX8_bytesIn_12 (by decide) ?_
    refine lv_iand hx hb dX8_bytesIn_15 ?_
    refine lv_topi (fun x_43 ex_43 => ?_)
    refine lv_if_eq (tgt := 22) hx hb dX8_bytesIn_16 (by decide) (fun c_44 => ?_) (fun c_44 => ?_)
    · refine lv_iinc (v := 8) hx hb dX8_bytesIn_22 hl (k := 0) rfl (by decide) (by decide) (kTo [(2, .int 8), (1, .int 1), (0, .int p0)]) (fun ls hl => ?_)
      refine lv_goto (tgt := 5) hx hb dX8_bytesIn_25 (by decide) ?_
      refine lv_iload_n hx hb dX8_bytesIn_5 rfl (lv_at hl 0 rfl) ?_
      refine lv_if_lt (tgt := 28) hx hb dX8_bytesIn_6 (by decide) (fun c_45 => absurd c_45 (by decide)) (fun c_45 => ?_)
      refine lv_iload_n hx hb dX8_bytesIn_9 rfl (lv_at hl 2 rfl) ?_
      refine lv_iload_n hx hb dX8_bytesIn_10 rfl (lv_at hl 0 rfl) ?_
      obtain ⟨x_46, ex_46⟩ : ∃ z : Int32, z = (Int32.toUInt32 p0 >>> (Int32.toUInt32 8 &&& Int32.toUInt32 31)).toInt32 := ⟨_, rfl⟩
      refine lv_iushr (v := x_46) hx hb dX8_bytesIn_11 ex_46.symm ?_
      refine lv_sipush (v := 255) hx hb dX8_bytesIn_12 (by decide) ?_
      refine lv_iand hx hb dX8_bytesIn_15 ?_
      refine lv_topi (fun x_47 ex_47 => ?_)
      refine lv_if_eq (tgt := 22) hx hb dX8_bytesIn_16 (by decide) (fun c_48 => ?_) (fun c_48 => ?_)
      · refine lv_iinc (v := 0) hx hb dX8_bytesIn_22 hl (k := 0) rfl (by decide) (by decide) (kTo [(2, .int 0), (1, .int 1), (0, .int p0)]) (fun ls hl => ?_)
        refine lv_goto (tgt := 5) hx hb dX8_bytesIn_25 (by decide) ?_
        refine lv_iload_n hx hb dX8_bytesIn_5 rfl (lv_at hl 0 rfl) ?_
        refine lv_if_lt (tgt := 28) hx hb dX8_bytesIn_6 (by decide) (fun c_49 => absurd c_49 (by decide)) (fun c_49 => ?_)
        refine lv_iload_n hx hb dX8_bytesIn_9 rfl (lv_at hl 2 rfl) ?_
        refine lv_iload_n hx hb dX8_bytesIn_10 rfl (lv_at hl 0 rfl) ?_
        obtain ⟨x_50, ex_50⟩ : ∃ z : Int32, z = (Int32.toUInt32 p0 >>> (Int32.toUInt32 0 &&& Int32.toUInt32 31)).toInt32 := ⟨_, rfl⟩
        refine lv_iushr (v := x_50) hx hb dX8_bytesIn_11 ex_50.symm ?_
        refine lv_sipush (v := 255) hx hb dX8_bytesIn_12 (by decide) ?_
        refine lv_iand hx hb dX8_bytesIn_15 ?_
        refine lv_topi (fun x_51 ex_51 => ?_)
        refine lv_if_eq (tgt := 22) hx hb dX8_bytesIn_16 (by decide) (fun c_52 => ?_) (fun c_52 => ?_)
        · refine lv_iinc (v := (-8)) hx hb dX8_bytesIn_22 hl (k := 0) rfl (by decide) (by decide) (kTo [(2, .int (-8)), (1, .int 1), (0, .int p0)]) (fun ls hl => ?_)
          refine lv_goto (tgt := 5) hx hb dX8_bytesIn_25 (by decide) ?_
          refine lv_iload_n hx hb dX8_bytesIn_5 rfl (lv_at hl 0 rfl) ?_
          refine lv_if_lt (tgt := 28) hx hb dX8_bytesIn_6 (by decide) (fun c_53 => ?_) (fun c_53 => absurd (by decide) c_53)
          refine lv_iload_n hx hb dX8_bytesIn_28 rfl (lv_at hl 1 rfl) ?_
          rw [hQ]
          exact W.iret (v := 1) hx hb hr (fun t ht hW => ⟨1, rfl, trivial, ht⟩) (fun _ h => nomatch h) dX8_bytesIn_29
        · refine lv_iinc (v := 2) hx hb dX8_bytesIn_19 hl (k := 1) rfl (by decide) (by decide) (kTo [(1, .int 2), (2, .int 0), (0, .int p0)]) (fun ls hl => ?_)
          refine lv_iinc (v := (-8)) hx hb dX8_bytesIn_22 hl (k := 1) rfl (by decide) (by decide) (kTo [(2, .int (-8)), (1, .int 2), (0, .int p0)]) (fun ls hl => ?_)
          refine lv_goto (tgt := 5) hx hb dX8_bytesIn_25 (by decide) ?_
          refine lv_iload_n hx hb dX8_bytesIn_5 rfl (lv_at hl 0 rfl) ?_
          refine lv_if_lt (tgt := 28) hx hb dX8_bytesIn_6 (by decide) (fun c_54 => ?_) (fun c_54 => absurd (by decide) c_54)
          refine lv_iload_n hx hb dX8_bytesIn_28 rfl (lv_at hl 1 rfl) ?_
          rw [hQ]
          exact W.iret (v := 2) hx hb hr (fun t ht hW => ⟨2, rfl, trivial, ht⟩) (fun _ h => nomatch h) dX8_bytesIn_29
      · refine lv_iinc (v := 2) hx hb dX8_bytesIn_19 hl (k := 1) rfl (by decide) (by decide) (kTo [(1, .int 2), (2, .int 8), (0, .int p0)]) (fun ls hl => ?_)
        refine lv_iinc (v := 0) hx hb dX8_bytesIn_22 hl (k := 1) rfl (by decide) (by decide) (kTo [(2, .int 0), (1, .int 2), (0, .int p0)]) (fun ls hl => ?_)
        refine lv_goto (tgt := 5) hx hb dX8_bytesIn_25 (by decide) ?_
        refine lv_iload_n hx hb dX8_bytesIn_5 rfl (lv_at hl 0 rfl) ?_
        refine lv_if_lt (tgt := 28) hx hb dX8_bytesIn_6 (by decide) (fun c_55 => absurd c_55 (by decide)) (fun c_55 => ?_)
        refine lv_iload_n hx hb dX8_bytesIn_9 rfl (lv_at hl 2 rfl) ?_
        refine lv_iload_n hx hb dX8_bytesIn_10 rfl (lv_at hl 0 rfl) ?_
        obtain ⟨x_56, ex_56⟩ : ∃ z : Int32, z = (Int32.toUInt32 p0 >>> (Int32.toUInt32 0 &&& Int32.toUInt32 31)).toInt32 := ⟨_, rfl⟩
        refine lv_iushr (v := x_56) hx hb dX8_bytesIn_11 ex_56.symm ?_
        refine lv_sipush (v := 255) hx hb dX8_bytesIn_12 (by decide) ?_
        refine lv_iand hx hb dX8_bytesIn_15 ?_
        refine lv_topi (fun x_57 ex_57 => ?_)
        refine lv_if_eq (tgt := 22) hx hb dX8_bytesIn_16 (by decide) (fun c_58 => ?_) (fun c_58 => ?_)
        · refine lv_iinc (v := (-8)) hx hb dX8_bytesIn_22 hl (k := 0) rfl (by decide) (by decide) (kTo [(2, .int (-8)), (1, .int 2), (0, .int p0)]) (fun ls hl => ?_)
          refine lv_goto (tgt := 5) hx hb dX8_bytesIn_25 (by decide) ?_
          refine lv_iload_n hx hb dX8_bytesIn_5 rfl (lv_at hl 0 rfl) ?_
          refine lv_if_lt (tgt := 28) hx hb dX8_bytesIn_6 (by decide) (fun c_59 => ?_) (fun c_59 => absurd (by decide) c_59)
          refine lv_iload_n hx hb dX8_bytesIn_28 rfl (lv_at hl 1 rfl) ?_
          rw [hQ]
          exact W.iret (v := 2) hx hb hr (fun t ht hW => ⟨2, rfl, trivial, ht⟩) (fun _ h => nomatch h) dX8_bytesIn_29
        · refine lv_iinc (v := 3) hx hb dX8_bytesIn_19 hl (k := 1) rfl (by decide) (by decide) (kTo [(1, .int 3), (2, .int 0), (0, .int p0)]) (fun ls hl => ?_)
          refine lv_iinc (v := (-8)) hx hb dX8_bytesIn_22 hl (k := 1) rfl (by decide) (by decide) (kTo [(2, .int (-8)), (1, .int 3), (0, .int p0)]) (fun ls hl => ?_)
          refine lv_goto (tgt := 5) hx hb dX8_bytesIn_25 (by decide) ?_
          refine lv_iload_n hx hb dX8_bytesIn_5 rfl (lv_at hl 0 rfl) ?_
          refine lv_if_lt (tgt := 28) hx hb dX8_bytesIn_6 (by decide) (fun c_60 => ?_) (fun c_60 => absurd (by decide) c_60)
          refine lv_iload_n hx hb dX8_bytesIn_28 rfl (lv_at hl 1 rfl) ?_
          rw [hQ]
          exact W.iret (v := 3) hx hb hr (fun t ht hW => ⟨3, rfl, trivial, ht⟩) (fun _ h => nomatch h) dX8_bytesIn_29
    · refine lv_iinc (v := 2) hx hb dX8_bytesIn_19 hl (k := 1) rfl (by decide) (by decide) (kTo [(1, .int 2), (2, .int 16), (0, .int p0)]) (fun ls hl => ?_)
      refine lv_iinc (v := 8) hx hb dX8_bytesIn_22 hl (k := 1) rfl (by decide) (by decide) (kTo [(2, .int 8), (1, .int 2), (0, .int p0)]) (fun ls hl => ?_)
      refine lv_goto (tgt := 5) hx hb dX8_bytesIn_25 (by decide) ?_
      refine lv_iload_n hx hb dX8_bytesIn_5 rfl (lv_at hl 0 rfl) ?_
      refine lv_if_lt (tgt := 28) hx hb dX8_bytesIn_6 (by decide) (fun c_61 => absurd c_61 (by decide)) (fun c_61 => ?_)
      refine lv_iload_n hx hb dX8_bytesIn_9 rfl (lv_at hl 2 rfl) ?_
      refine lv_iload_n hx hb dX8_bytesIn_10 rfl (lv_at hl 0 rfl) ?_
      obtain ⟨x_62, ex_62⟩ : ∃ z : Int32, z = (Int32.toUInt32 p0 >>> (Int32.toUInt32 8 &&& Int32.toUInt32 31)).toInt32 := ⟨_, rfl⟩
      refine lv_iushr (v := x_62) hx hb dX8_bytesIn_11 ex_62.symm ?_
      refine lv_sipush (v := 255) hx hb dX8_bytesIn_12 (by decide) ?_
      refine lv_iand hx hb dX8_bytesIn_15 ?_
      refine lv_topi (fun x_63 ex_63 => ?_)
      refine lv_if_eq (tgt := 22) hx hb dX8_bytesIn_16 (by decide) (fun c_64 => ?_) (fun c_64 => ?_)
      · refine lv_iinc (v := 0) hx hb dX8_bytesIn_22 hl (k := 0) rfl (by decide) (by decide) (kTo [(2, .int 0), (1, .int 2), (0, .int p0)]) (fun ls hl => ?_)
        refine lv_goto (tgt := 5) hx hb dX8_bytesIn_25 (by decide) ?_
        refine lv_iload_n hx hb dX8_bytesIn_5 rfl (lv_at hl 0 rfl) ?_
        refine lv_if_lt (tgt := 28) hx hb dX8_bytesIn_6 (by decide) (fun c_65 => absurd c_65 (by decide)) (fun c_65 => ?_)
        refine lv_iload_n hx hb dX8_bytesIn_9 rfl (lv_at hl 2 rfl) ?_
        refine lv_iload_n hx hb dX8_bytesIn_10 rfl (lv_at hl 0 rfl) ?_
        obtain ⟨x_66, ex_66⟩ : ∃ z : Int32, z = (Int32.toUInt32 p0 >>> (Int32.toUInt32 0 &&& Int32.toUInt32 31)).toInt32 := ⟨_, rfl⟩
        refine lv_iushr (v := x_66) hx hb dX8_bytesIn_11 ex_66.symm ?_
        refine lv_sipush (v := 255) hx hb dX8_bytesIn_12 (by decide) ?_
        refine lv_iand hx hb dX8_bytesIn_15 ?_
        refine lv_topi (fun x_67 ex_67 => ?_)
        refine lv_if_eq (tgt := 22) hx hb dX8_bytesIn_16 (by decide) (fun c_68 => ?_) (fun c_68 => ?_)
        · refine lv_iinc (v := (-8)) hx hb dX8_bytesIn_22 hl (k := 0) rfl (by decide) (by decide) (kTo [(2, .int (-8)), (1, .int 2), (0, .int p0)]) (fun ls hl => ?_)
          refine lv_goto (tgt := 5) hx hb dX8_bytesIn_25 (by decide) ?_
          refine lv_iload_n hx hb dX8_bytesIn_5 rfl (lv_at hl 0 rfl) ?_
          refine lv_if_lt (tgt := 28) hx hb dX8_bytesIn_6 (by decide) (fun c_69 => ?_) (fun c_69 => absurd (by decide) c_69)
          refine lv_iload_n hx hb dX8_bytesIn_28 rfl (lv_at hl 1 rfl) ?_
          rw [hQ]
          exact W.iret (v := 2) hx hb hr (fun t ht hW => ⟨2, rfl, trivial, ht⟩) (fun _ h => nomatch h) dX8_bytesIn_29
        · refine lv_iinc (v := 3) hx hb dX8_bytesIn_19 hl (k := 1) rfl (by decide) (by decide) (kTo [(1, .int 3), (2, .int 0), (0, .int p0)]) (fun ls hl => ?_)
          refine lv_iinc (v := (-8)) hx hb dX8_bytesIn_22 hl (k := 1) rfl (by decide) (by decide) (kTo [(2, .int (-8)), (1, .int 3), (0, .int p0)]) (fun ls hl => ?_)
          refine lv_goto (tgt := 5) hx hb dX8_bytesIn_25 (by decide) ?_
          refine lv_iload_n hx hb dX8_bytesIn_5 rfl (lv_at hl 0 rfl) ?_
          refine lv_if_lt (tgt := 28) hx hb dX8_bytesIn_6 (by decide) (fun c_70 => ?_) (fun c_70 => absurd (by decide) c_70)
          refine lv_iload_n hx hb dX8_bytesIn_28 rfl (lv_at hl 1 rfl) ?_
          rw [hQ]
          exact W.iret (v := 3) hx hb hr (fun t ht hW => ⟨3, rfl, trivial, ht⟩) (fun _ h => nomatch h) dX8_bytesIn_29
      · refine lv_iinc (v := 3) hx hb dX8_bytesIn_19 hl (k := 1) rfl (by decide) (by decide) (kTo [(1, .int 3), (2, .int 8), (0, .int p0)]) (fun ls hl => ?_)
        refine lv_iinc (v := 0) hx hb dX8_bytesIn_22 hl (k := 1) rfl (by decide) (by decide) (kTo [(2, .int 0), (1, .int 3), (0, .int p0)]) (fun ls hl => ?_)
        refine lv_goto (tgt := 5) hx hb dX8_bytesIn_25 (by decide) ?_
        refine lv_iload_n hx hb dX8_bytesIn_5 rfl (lv_at hl 0 rfl) ?_
        refine lv_if_lt (tgt := 28) hx hb dX8_bytesIn_6 (by decide) (fun c_71 => absurd c_71 (by decide)) (fun c_71 => ?_)
        refine lv_iload_n hx hb dX8_bytesIn_9 rfl (lv_at hl 2 rfl) ?_
        refine lv_iload_n hx hb dX8_bytesIn_10 rfl (lv_at hl 0 rfl) ?_
        obtain ⟨x_72, ex_72⟩ : ∃ z : Int32, z = (Int32.toUInt32 p0 >>> (Int32.toUInt32 0 &&& Int32.toUInt32 31)).toInt32 := ⟨_, rfl⟩
        refine lv_iushr (v := x_72) hx hb dX8_bytesIn_11 ex_72.symm ?_
        refine lv_sipush (v := 255) hx hb dX8_bytesIn_12 (by decide) ?_
        refine lv_iand hx hb dX8_bytesIn_15 ?_
        refine lv_topi (fun x_73 ex_73 => ?_)
        refine lv_if_eq (tgt := 22) hx hb dX8_bytesIn_16 (by decide) (fun c_74 => ?_) (fun c_74 => ?_)
        · refine lv_iinc (v := (-8)) hx hb dX8_bytesIn_22 hl (k := 0) rfl (by decide) (by decide) (kTo [(2, .int (-8)), (1, .int 3), (0, .int p0)]) (fun ls hl => ?_)
          refine lv_goto (tgt := 5) hx hb dX8_bytesIn_25 (by decide) ?_
          refine lv_iload_n hx hb dX8_bytesIn_5 rfl (lv_at hl 0 rfl) ?_
          refine lv_if_lt (tgt := 28) hx hb dX8_bytesIn_6 (by decide) (fun c_75 => ?_) (fun c_75 => absurd (by decide) c_75)
          refine lv_iload_n hx hb dX8_bytesIn_28 rfl (lv_at hl 1 rfl) ?_
          rw [hQ]
          exact W.iret (v := 3) hx hb hr (fun t ht hW => ⟨3, rfl, trivial, ht⟩) (fun _ h => nomatch h) dX8_bytesIn_29
        · refine lv_iinc (v := 4) hx hb dX8_bytesIn_19 hl (k := 1) rfl (by decide) (by decide) (kTo [(1, .int 4), (2, .int 0), (0, .int p0)]) (fun ls hl => ?_)
          refine lv_iinc (v := (-8)) hx hb dX8_bytesIn_22 hl (k := 1) rfl (by decide) (by decide) (kTo [(2, .int (-8)), (1, .int 4), (0, .int p0)]) (fun ls hl => ?_)
          refine lv_goto (tgt := 5) hx hb dX8_bytesIn_25 (by decide) ?_
          refine lv_iload_n hx hb dX8_bytesIn_5 rfl (lv_at hl 0 rfl) ?_
          refine lv_if_lt (tgt := 28) hx hb dX8_bytesIn_6 (by decide) (fun c_76 => ?_) (fun c_76 => absurd (by decide) c_76)
          refine lv_iload_n hx hb dX8_bytesIn_28 rfl (lv_at hl 1 rfl) ?_
          rw [hQ]
          exact W.iret (v := 4) hx hb hr (fun t ht hW => ⟨4, rfl, trivial, ht⟩) (fun _ h => nomatch h) dX8_bytesIn_29

theorem dX8_append_0 : decode cX8_append 0 = .ok (.bipush 24, 2) := by decide +kernel
theorem dX8_append_2 : decode cX8_append 2 = .ok (.istore_n 2, 1) := by decide +kernel
theorem dX8_append_3 : decode cX8_append 3 = .ok (.iload_n 2, 1) := by decide +kernel
theorem dX8_append_4 : decode cX8_append 4 = .ok (.ifCond .lt 54, 3) := by decide +kernel
theorem dX8_append_7 : decode cX8_append 7 = .ok (.iload_n 1, 1) := by decide +kernel
theorem dX8_append_8 : decode cX8_append 8 = .ok (.iload_n 2, 1) := by decide +kernel
theorem dX8_append_9 : decode cX8_append 9 = .ok (.iushr, 1) := by decide +kernel
theorem dX8_append_10 : decode cX8_append 10 = .ok (.sipush 255, 3) := by decide +kernel
theorem dX8_append_13 : decode cX8_append 13 = .ok (.iand, 1) := by decide +kernel
theorem dX8_append_14 : decode cX8_append 14 = .ok (.istore_n 3, 1) := by decide +kernel
theorem dX8_append_15 : decode cX8_append 15 = .ok (.iload_n 3, 1) := by decide +kernel
theorem dX8_append_16 : decode cX8_append 16 = .ok (.ifCond .eq 36, 3) := by decide +kernel
theorem dX8_append_52 : decode cX8_append 52 = .ok (.iinc 2 (-8), 3) := by decide +kernel
theorem dX8_append_55 : decode cX8_append 55 = .ok (.goto (-52), 3) := by decide +kernel
theorem dX8_append_58 : decode cX8_append 58 = .ok (.return_, 1) := by decide +kernel
theorem dX8_append_19 : decode cX8_append 19 = .ok (.aload_n 0, 1) := by decide +kernel
theorem dX8_append_20 : decode cX8_append 20 = .ok (.getfield 15, 3) := by decide +kernel
theorem dX8_append_23 : decode cX8_append 23 = .ok (.aload_n 0, 1) := by decide +kernel
theorem dX8_append_24 : decode cX8_append 24 = .ok (.getfield 9, 3) := by decide +kernel
theorem dX8_append_27 : decode cX8_append 27 = .ok (.arraylength, 1) := by decide +kernel
theorem dX8_append_28 : decode cX8_append 28 = .ok (.if_icmp .ge 24, 3) := by decide +kernel
theorem dX8_append_31 : decode cX8_append 31 = .ok (.aload_n 0, 1) := by decide +kernel
theorem dX8_append_32 : decode cX8_append 32 = .ok (.getfield 9, 3) := by decide +kernel
theorem dX8_append_35 : decode cX8_append 35 = .ok (.aload_n 0, 1) := by decide +kernel
theorem dX8_append_36 : decode cX8_append 36 = .ok (.getfield 15, 3) := by decide +kernel
theorem dX8_append_39 : decode cX8_append 39 = .ok (.iload_n 3, 1) := by decide +kernel
theorem dX8_append_40 : decode cX8_append 40 = .ok (.i2c, 1) := by decide +kernel
theorem dX8_append_41 : decode cX8_append 41 = .ok (.castore, 1) := by decide +kernel
theorem dX8_append_42 : decode cX8_append 42 = .ok (.aload_n 0, 1) := by decide +kernel
theorem dX8_append_43 : decode cX8_append 43 = .ok (.dup, 1) := by decide +kernel
theorem dX8_append_44 : decode cX8_append 44 = .ok (.getfield 15, 3) := by decide +kernel
theorem dX8_append_47 : decode cX8_append 47 = .ok (.iconst 1, 1) := by decide +kernel
theorem dX8_append_48 : decode cX8_append 48 = .ok (.iadd, 1) := by decide +kernel
theorem dX8_append_49 : decode cX8_append 49 = .ok (.putfield 15, 3) := by decide +kernel
def w_s_append8 : List Cond := .code yX8_append cX8_append 4 none :: ([.fieldLink RX8 15 "NotEnded$Tape" "length" "I", .fieldLink RX8 9 "NotEnded$Tape" "signs" "[C"] ++ (wsX80))
theorem gw_s_append8 : (w_s_append8).all goodWord = true := kGc rfl (kGa (by decide +kernel) gw_wsX80)
theorem hd_X8_append : yX8_append.cls ≠ "java/lang/invoke/MethodHandle" ∧ yX8_append.cls ≠ "java/lang/invoke/VarHandle" ∧ (parseMethodDescriptor yX8_append.desc).map (fun d => d.parameters.length) = some 1 := by decide +kernel
set_option maxHeartbeats 4000000 in
set_option maxRecDepth 100000 in
theorem s_append8 (l : Launch) (dC : Nat → ClassId) (dI : Nat → Nat → Nat) (jT : Nat) (t0 : Nat) (cC : ClassId) (gT : Nat → Int32) (kt : Nat) (hkt : kt ≤ 120) (hgT : ∀ j : Nat, narrow .char (.int (gT j)) = .int (gT j)) (p0 : Int32) (sz : Nat) : Met l yX8_append w_s_append8 ({ frames := 1, cells := 0, slots := 0, locals := 60 }) (kW dC dI [.ref jT, .int p0] [(jT, .inr (8, [.ref t0, .int (nI (kt))])), (t0, .inl (cC, 120, .inl gT))] [(cC, .char)] kT sz) (va_Qv (fun (u : (Nat → Int32) × Nat) => match u with | (gU, ku) => (ku ≤ 120 ∧ ∀ j : Nat, narrow .char (.int (gU j)) = .int (gU j))) (fun (u : (Nat → Int32) × Nat) => match u with | (gU, ku) => fun t : State => kB dC dI [(jT, .inr (8, [.ref t0, .int (nI (ku))])), (t0, .inl (cC, 120, .inl gU))] [(cC, .char)] (va_A [(jT, .inr (8, [.ref t0, .int (nI (kt))])), (t0, .inl (cC, 120, .inl gT))] sz) t) (va_A [(jT, .inr (8, [.ref t0, .int (nI (kt))])), (t0, .inl (cC, 120, .inl gT))] sz)) 0 0 (va_A [(jT, .inr (8, [.ref t0, .int (nI (kt))])), (t0, .inl (cC, 120, .inl gT))] sz) := by
  refine Met.ofW (cc := cX8_append) (maxL := 4) (ret := none) (by decide) rfl ?_
  intro p e s m args below meth c s₁ B hml hv
  obtain ⟨rfl, hsz, hP, hK, hD0, hX⟩ := hv
  have hx := B.exec
  have hb := B.bytes
  have hr := B.returns
  have hts := atoms_spec (ws := w_s_append8) B.pre
  have hown : s.vm.findClass RX8 = some m.cls := findClass_of_methodNamed B.named
  have hlocks := B.notSynchronized
  subst hsz
  have hD := hD0.self (sz := s.heap.size)
  generalize hAe : va_A [(jT, .inr (8, [.ref t0, .int (nI (kt))])), (t0, .inl (cC, 120, .inl gT))] s.heap.size = A at hD ⊢
  have hA : ∀ q : Nat, s.heap.size ≤ q → A q := fun q h => by rw [← hAe]; exact Or.inr h
  have hS : va_S A s.heap s.heap [] := va_S.rf
  have hP : va_P (dC, dI) vwCl [(jT, .inr (8, [.ref t0, .int (nI (kt))])), (t0, .inl (cC, 120, .inl gT))] s.heap := hP
  have hl := lv_entry ([.ref jT, .int p0]) (n := 4) (Nat.le_of_ble_eq_true rfl)
  rw [lg_entry_eq]
  generalize (lg_sl ([.ref jT, .int p0]) ++ List.replicate (4 - (lg_sl ([.ref jT, .int p0])).length) Slot.unset).toArray = ls at hl ⊢
  have hl : lv_has ls 4 [(0, .ref jT), (1, .int p0)] := hl
  refine kQ (fun Q hQ => ?_)
  refine lv_bipush (v := 24) hx hb dX8_append_0 (by decide) ?_
  refine lv_istore_n hx hb dX8_append_2 rfl hl (by decide) (kTo [(2, .int 24), (0, .ref jT), (1, .int p0)]) (fun ls hl => ?_)
  refine lv_iload_n hx hb dX8_append_3 rfl (lv_at hl 0 rfl) ?_
  refine lv_if_lt (tgt := 58) hx hb dX8_append_4 (by decide) (fun c_1 => absurd c_1 (by decide)) (fun c_1 => ?_)
  refine lv_iload_n hx hb dX8_append_7 rfl (lv_at hl 2 rfl) ?_
  refine lv_iload_n hx hb dX8_append_8 rfl (lv_at hl 0 rfl) ?_
  obtain ⟨x_2, ex_2⟩ : ∃ z : Int32, z = (Int32.toUInt32 p0 >>> (Int32.toUInt32 24 &&& Int32.toUInt32 31)).toInt32 := ⟨_, rfl⟩
  refine lv_iushr (v := x_2) hx hb dX8_append_9 ex_2.symm ?_
  refine lv_sipush (v := 255) hx hb dX8_append_10 (by decide) ?_
  refine lv_iand hx hb dX8_append_13 ?_
  refine lv_topi (fun x_3 ex_3 => ?_)
  refine lv_istore_n hx hb dX8_append_14 rfl hl (by decide) (kTo [(3, .int x_3), (2, .int 24), (0, .ref jT), (1, .int p0)]) (fun ls hl => ?_)
  refine lv_iload_n hx hb dX8_append_15 rfl (lv_at hl 0 rfl) ?_
  refine lv_if_eq (tgt := 52) hx hb dX8_append_16 (by decide) (fun c_4 => ?_) (fun c_4 => ?_)
  · refine lv_iinc (v := 16) hx hb dX8_append_52 hl (k := 1) rfl (by decide) (by decide) (kTo [(2, .int 16), (3, .int x_3), (0, .ref jT), (1, .int p0)]) (fun ls hl => ?_)
    refine lv_goto (tgt := 3) hx hb dX8_append_55 (by decide) ?_
    refine lv_iload_n hx hb dX8_append_3 rfl (lv_at hl 0 rfl) ?_
    refine lv_if_lt (tgt := 58) hx hb dX8_append_4 (by decide) (fun c_5 => absurd c_5 (by decide)) (fun c_5 => ?_)
    refine lv_iload_n hx hb dX8_append_7 rfl (lv_at hl 3 rfl) ?_
    refine lv_iload_n hx hb dX8_append_8 rfl (lv_at hl 0 rfl) ?_
    obtain ⟨x_6, ex_6⟩ : ∃ z : Int32, z = (Int32.toUInt32 p0 >>> (Int32.toUInt32 16 &&& Int32.toUInt32 31)).toInt32 := ⟨_, rfl⟩
    refine lv_iushr (v := x_6) hx hb dX8_append_9 ex_6.symm ?_
    refine lv_sipush (v := 255) hx hb dX8_append_10 (by decide) ?_
    refine lv_iand hx hb dX8_append_13 ?_
    refine lv_topi (fun x_7 ex_7 => ?_)
    refine lv_istore_n hx hb dX8_append_14 rfl hl (by decide) (kTo [(3, .int x_7), (2, .int 16), (0, .ref jT), (1, .int p0)]) (fun ls hl => ?_)
    refine lv_iload_n hx hb dX8_append_15 rfl (lv_at hl 0 rfl) ?_
    refine lv_if_eq (tgt := 52) hx hb dX8_append_16 (by decide) (fun c_8 => ?_) (fun c_8 => ?_)
    · refine lv_iinc (v := 8) hx hb dX8_append_52 hl (k := 1) rfl (by decide) (by decide) (kTo [(2, .int 8), (3, .int x_7), (0, .ref jT), (1, .int p0)]) (fun ls hl => ?_)
      refine lv_goto (tgt := 3) hx hb dX8_append_55 (by decide) ?_
      refine lv_iload_n hx hb dX8_append_3 rfl (lv_at hl 0 rfl) ?_
      refine lv_if_lt (tgt := 58) hx hb dX8_append_4 (by decide) (fun c_9 => absurd c_9 (by decide)) (fun c_9 => ?_)
      refine lv_iload_n hx hb dX8_append_7 rfl (lv_at hl 3 rfl) ?_
      refine lv_iload_n hx hb dX8_append_8 rfl (lv_at hl 0 rfl) ?_
      obtain ⟨x_10, ex_10⟩ : ∃ z : Int32, z = (Int32.toUInt32 p0 >>> (Int32.toUInt32 8 &&& Int32.toUInt32 31)).toInt32 := ⟨_, rfl⟩
      refine lv_iushr (v := x_10) hx hb dX8_append_9 ex_10.symm ?_
      refine lv_sipush (v := 255) hx hb dX8_append_10 (by decide) ?_
      refine lv_iand hx hb dX8_append_13 ?_
      refine lv_topi (fun x_11 ex_11 => ?_)
      refine lv_istore_n hx hb dX8_append_14 rfl hl (by decide) (kTo [(3, .int x_11), (2, .int 8), (0, .ref jT), (1, .int p0)]) (fun ls hl => ?_)
      refine lv_iload_n hx hb dX8_append_15 rfl (lv_at hl 0 rfl) ?_
      refine lv_if_eq (tgt := 52) hx hb dX8_append_16 (by decide) (fun c_12 => ?_) (fun c_12 => ?_)
      · refine lv_iinc (v := 0) hx hb dX8_append_52 hl (k := 1) rfl (by decide) (by decide) (kTo [(2, .int 0), (3, .int x_11), (0, .ref jT), (1, .int p0)]) (fun ls hl => ?_)
        refine lv_goto (tgt := 3) hx hb dX8_append_55 (by decide) ?_
        refine lv_iload_n hx hb dX8_append_3 rfl (lv_at hl 0 rfl) ?_
        refine lv_if_lt (tgt := 58) hx hb dX8_append_4 (by decide) (fun c_13 => absurd c_13 (by decide)) (fun c_13 => ?_)
        refine lv_iload_n hx hb dX8_append_7 rfl (lv_at hl 3 rfl) ?_
        refine lv_iload_n hx hb dX8_append_8 rfl (lv_at hl 0 rfl) ?_
        obtain ⟨x_14, ex_14⟩ : ∃ z : Int32, z = (Int32.toUInt32 p0 >>> (Int32.toUInt32 0 &&& Int32.toUInt32 31)).toInt32 := ⟨_, rfl⟩
        refine lv_iushr (v := x_14) hx hb dX8_append_9 ex_14.symm ?_
        refine lv_sipush (v := 255) hx hb dX8_append_10 (by decide) ?_
        refine lv_iand hx hb dX8_append_13 ?_
        refine lv_topi (fun x_15 ex_15 => ?_)
        refine lv_istore_n hx hb dX8_append_14 rfl hl (by decide) (kTo [(3, .int x_15), (2, .int 0), (0, .ref jT), (1, .int p0)]) (fun ls hl => ?_)
        refine lv_iload_n hx hb dX8_append_15 rfl (lv_at hl 0 rfl) ?_
        refine lv_if_eq (tgt := 52) hx hb dX8_append_16 (by decide) (fun c_16 => ?_) (fun c_16 => ?_)
        · refine lv_iinc (v := (-8)) hx hb dX8_append_52 hl (k := 1) rfl (by decide) (by decide) (kTo [(2, .int (-8)), (3, .int x_15), (0, .ref jT), (1, .int p0)]) (fun ls hl => ?_)
          refine lv_goto (tgt := 3) hx hb dX8_append_55 (by decide) ?_
          refine lv_iload_n hx hb dX8_append_3 rfl (lv_at hl 0 rfl) ?_
          refine lv_if_lt (tgt := 58) hx hb dX8_append_4 (by decide) (fun c_17 => ?_) (fun c_17 => absurd (by decide) c_17)
          have hP9 := hP
          have hD9 := hD
          have hK9 := hK
          rw [hQ]
          exact W.vret hx hb hr (fun t ht hW => ⟨⟨(gT, kt), rfl, ⟨by omega, hgT⟩,  by rw [ht]; exact hP9, va_K.moved hW.alike hK9, hD9⟩, hS.F ht⟩) hS.2.2 dX8_append_58
        · refine lv_aload_n hx hb dX8_append_19 rfl (lv_at hl 2 rfl) ?_
          refine va_get (D := (dC, dI)) (ci := 8) (v := .int (nI (kt))) (C := RX8) (T := TX8) (N := 2) hx hb hts (fun _ h => List.mem_cons_of_mem _ (List.mem_append_right _ h)) hown hK hP 0 rfl rfl 1 (by decide) (hts (.fieldLink RX8 15 "NotEnded$Tape" "length" "I") (List.mem_cons_of_mem _ (List.mem_append_left _ (List.mem_of_getElem? (i := 0) rfl)))) (fun _ h9 => h9) rfl dX8_append_20 ?_
          refine lv_aload_n hx hb dX8_append_23 rfl (lv_at hl 2 rfl) ?_
          refine va_get (D := (dC, dI)) (ci := 8) (v := .ref t0) (C := RX8) (T := TX8) (N := 2) hx hb hts (fun _ h => List.mem_cons_of_mem _ (List.mem_append_right _ h)) hown hK hP 0 rfl rfl 0 (by decide) (hts (.fieldLink RX8 9 "NotEnded$Tape" "signs" "[C") (List.mem_cons_of_mem _ (List.mem_append_left _ (List.mem_of_getElem? (i := 1) rfl)))) (fun _ h9 => h9) rfl dX8_append_24 ?_
          refine va_alen hx hb hK hP 1 0 rfl rfl (v := 120) rfl dX8_append_27 ?_
          refine lv_icmp_ge (tgt := 52) hx hb dX8_append_28 (by decide) (fun c_18 => ?_) (fun c_18 => ?_)
          · have hn_19 := kle (a := 120) (b := kt) (by omega) (by omega) c_18
            refine lv_iinc (v := (-8)) hx hb dX8_append_52 hl (k := 1) rfl (by decide) (by decide) (kTo [(2, .int (-8)), (3, .int x_15), (0, .ref jT), (1, .int p0)]) (fun ls hl => ?_)
            refine lv_goto (tgt := 3) hx hb dX8_append_55 (by decide) ?_
            refine lv_iload_n hx hb dX8_append_3 rfl (lv_at hl 0 rfl) ?_
            refine lv_if_lt (tgt := 58) hx hb dX8_append_4 (by decide) (fun c_20 => ?_) (fun c_20 => absurd (by decide) c_20)
            have hP9 := hP
            have hD9 := hD
            have hK9 := hK
            rw [hQ]
            exact W.vret hx hb hr (fun t ht hW => ⟨⟨(gT, kt), rfl, ⟨by omega, hgT⟩,  by rw [ht]; exact hP9, va_K.moved hW.alike hK9, hD9⟩, hS.F ht⟩) hS.2.2 dX8_append_58
          · have hn_21 := knle (a := 120) (b := kt) (by omega) (by omega) c_18
            refine lv_aload_n hx hb dX8_append_31 rfl (lv_at hl 2 rfl) ?_
            refine va_get (D := (dC, dI)) (ci := 8) (v := .ref t0) (C := RX8) (T := TX8) (N := 2) hx hb hts (fun _ h => List.mem_cons_of_mem _ (List.mem_append_right _ h)) hown hK hP 0 rfl rfl 0 (by decide) (hts (.fieldLink RX8 9 "NotEnded$Tape" "signs" "[C") (List.mem_cons_of_mem _ (List.mem_append_left _ (List.mem_of_getElem? (i := 1) rfl)))) (fun _ h9 => h9) rfl dX8_append_32 ?_
            refine lv_aload_n hx hb dX8_append_35 rfl (lv_at hl 2 rfl) ?_
            refine va_get (D := (dC, dI)) (ci := 8) (v := .int (nI (kt))) (C := RX8) (T := TX8) (N := 2) hx hb hts (fun _ h => List.mem_cons_of_mem _ (List.mem_append_right _ h)) hown hK hP 0 rfl rfl 1 (by decide) (hts (.fieldLink RX8 15 "NotEnded$Tape" "length" "I") (List.mem_cons_of_mem _ (List.mem_append_left _ (List.mem_of_getElem? (i := 0) rfl)))) (fun _ h9 => h9) rfl dX8_append_36 ?_
            refine lv_iload_n hx hb dX8_append_39 rfl (lv_at hl 0 rfl) ?_
            obtain ⟨x_22, ex_22⟩ : ∃ z : Int32, z = (Int32.toUInt32 x_15 % 65536).toInt32 := ⟨_, rfl⟩
            refine lv_i2c (v := x_22) hx hb dX8_append_40 ex_22.symm ?_
            refine va_cast hx hb hK hP hD hS 1 0 rfl rfl (vp_in_nI (n := kt) (N := 120) (by omega) (by omega)) dX8_append_41 (fun H locs hP hD hS => ?_)
            obtain ⟨f_23, ef_23⟩ : ∃ gg9 : Nat → Int32, gg9 = upd gT (Int32.toNatClampNeg (nI (kt))) (vp_nar .char x_22) := ⟨_, rfl⟩
            obtain ⟨hP, hD⟩ : kPD dC dI A [(jT, .inr (8, [.ref t0, .int (nI (kt))])), (t0, .inl (cC, 120, .inl f_23))] H := by rw [ef_23]; exact ⟨hP, hD⟩
            refine lv_aload_n hx hb dX8_append_42 rfl (lv_at hl 2 rfl) ?_
            refine lv_dup hx hb dX8_append_43 rfl ?_
            refine va_get (D := (dC, dI)) (ci := 8) (v := .int (nI (kt))) (C := RX8) (T := TX8) (N := 2) hx hb hts (fun _ h => List.mem_cons_of_mem _ (List.mem_append_right _ h)) hown hK hP 0 rfl rfl 1 (by decide) (hts (.fieldLink RX8 15 "NotEnded$Tape" "length" "I") (List.mem_cons_of_mem _ (List.mem_append_left _ (List.mem_of_getElem? (i := 0) rfl)))) (fun _ h9 => h9) rfl dX8_append_44 ?_
            refine lv_iconst (v := 1) hx hb dX8_append_47 (by decide) ?_
            refine lv_iadd hx hb dX8_append_48 ?_
            refine lv_topi (fun y_24 ey_24 => ?_)
            obtain rfl : y_24 = nI (kt + 1) := ey_24.trans (nI_add (kt) (1))
            refine va_put (D := (dC, dI)) (ci := 8) (v := .int (nI (kt + 1))) (ty := tyX8 1) (C := RX8) (T := TX8) (N := 2) hx hb hts (fun _ h => List.mem_cons_of_mem _ (List.mem_append_right _ h)) tyX8 tyX8_ok nmX8 hown hK hP hD hS 0 rfl rfl 1 (by decide) (hts (.fieldLink RX8 15 "NotEnded$Tape" "length" "I") (List.mem_cons_of_mem _ (List.mem_append_left _ (List.mem_of_getElem? (i := 0) rfl)))) (fun _ h9 => h9) rfl (tyX8_ok 1 (by decide)) rfl rfl (Nat.le_of_ble_eq_true rfl) dX8_append_49 (fun H locs hP hD hS => ?_)
            obtain ⟨hP, hD⟩ : kPD dC dI A [(jT, .inr (8, [.ref t0, .int (nI (kt + 1))])), (t0, .inl (cC, 120, .inl f_23))] H := ⟨hP, hD⟩
            refine lv_iinc (v := (-8)) hx hb dX8_append_52 hl (k := 1) rfl (by decide) (by decide) (kTo [(2, .int (-8)), (3, .int x_15), (0, .ref jT), (1, .int p0)]) (fun ls hl => ?_)
            refine lv_goto (tgt := 3) hx hb dX8_append_55 (by decide) ?_
            refine lv_iload_n hx hb dX8_append_3 rfl (lv_at hl 0 rfl) ?_
            refine lv_if_lt (tgt := 58) hx hb dX8_append_4 (by decide) (fun c_25 => ?_) (fun c_25 => absurd (by decide) c_25)
            have hP9 := hP
            have hD9 := hD
            have hK9 := hK
            rw [hQ]
            exact W.vret hx hb hr (fun t ht hW => ⟨⟨(f_23, (kt + 1)), rfl, ⟨by omega, (kNarU ef_23 hgT)⟩,  by rw [ht]; exact hP9, va_K.moved hW.alike hK9, hD9⟩, hS.F ht⟩) hS.2.2 dX8_append_58
      · refine lv_aload_n hx hb dX8_append_19 rfl (lv_at hl 2 rfl) ?_
        refine va_get (D := (dC, dI)) (ci := 8) (v := .int (nI (kt))) (C := RX8) (T := TX8) (N := 2) hx hb hts (fun _ h => List.mem_cons_of_mem _ (List.mem_append_right _ h)) hown hK hP 0 rfl rfl 1 (by decide) (hts (.fieldLink RX8 15 "NotEnded$Tape" "length" "I") (List.mem_cons_of_mem _ (List.mem_append_left _ (List.mem_of_getElem? (i := 0) rfl)))) (fun _ h9 => h9) rfl dX8_append_20 ?_
        refine lv_aload_n hx hb dX8_append_23 rfl (lv_at hl 2 rfl) ?_
        refine va_get (D := (dC, dI)) (ci := 8) (v := .ref t0) (C := RX8) (T := TX8) (N := 2) hx hb hts (fun _ h => List.mem_cons_of_mem _ (List.mem_append_right _ h)) hown hK hP 0 rfl rfl 0 (by decide) (hts (.fieldLink RX8 9 "NotEnded$Tape" "signs" "[C") (List.mem_cons_of_mem _ (List.mem_append_left _ (List.mem_of_getElem? (i := 1) rfl)))) (fun _ h9 => h9) rfl dX8_append_24 ?_
        refine va_alen hx hb hK hP 1 0 rfl rfl (v := 120) rfl dX8_append_27 ?_
        refine lv_icmp_ge (tgt := 52) hx hb dX8_append_28 (by decide) (fun c_26 => ?_) (fun c_26 => ?_)
        · have hn_27 := kle (a := 120) (b := kt) (by omega) (by omega) c_26
          refine lv_iinc (v := 0) hx hb dX8_append_52 hl (k := 1) rfl (by decide) (by decide) (kTo [(2, .int 0), (3, .int x_11), (0, .ref jT), (1, .int p0)]) (fun ls hl => ?_)
          refine lv_goto (tgt := 3) hx hb dX8_append_55 (by decide) ?_
          refine lv_iload_n hx hb dX8_append_3 rfl (lv_at hl 0 rfl) ?_
          refine lv_if_lt (tgt := 58) hx hb dX8_append_4 (by decide) (fun c_28 => absurd c_28 (by decide)) (fun c_28 => ?_)
          refine lv_iload_n hx hb dX8_append_7 rfl (lv_at hl 3 rfl) ?_
          refine lv_iload_n hx hb dX8_append_8 rfl (lv_at hl 0 rfl) ?_
          obtain ⟨x_29, ex_29⟩ : ∃ z : Int32, z = (Int32.toUInt32 p0 >>> (Int32.toUInt32 0 &&& Int32.toUInt32 31)).toInt32 := ⟨_, rfl⟩
          refine lv_iushr (v := x_29) hx hb dX8_append_9 ex_29.symm ?_
          refine lv_sipush (v := 255) hx hb dX8_append_10 (by decide) ?_
          refine lv_iand hx hb dX8_append_13 ?_
          refine lv_topi (fun x_30 ex_30 => ?_)
          refine lv_istore_n hx hb dX8_append_14 rfl hl (by decide) (kTo [(3, .int x_30), (2, .int 0), (0, .ref jT), (1, .int p0)]) (fun ls hl => ?_)
          refine lv_iload_n hx hb dX8_append_15 rfl (lv_at hl 0 rfl) ?_
          refine lv_if_eq (tgt := 52) hx hb dX8_append_16 (by decide) (fun c_31 => ?_) (fun c_31 => ?_)
          · refine lv_iinc (v := (-8)) hx hb dX8_append_52 hl (k := 1) rfl (by decide) (by decide) (kTo [(2, .int (-8)), (3, .int x_30), (0, .ref jT), (1, .int p0)]) (fun ls hl => ?_)
            refine lv_goto (tgt := 3) hx hb dX8_append_55 (by decide) ?_
            refine lv_iload_n hx hb dX8_append_3 rfl (lv_at hl 0 rfl) ?_
            refine lv_if_lt (tgt := 58) hx hb dX8_append_4 (by decide) (fun c_32 => ?_) (fun c_32 => absurd (by decide) c_32)
            have hP9 := hP
            have hD9 := hD
            have hK9 := hK
            rw [hQ]
            exact W.vret hx hb hr (fun t ht hW => ⟨⟨(gT, kt), rfl, ⟨by omega, hgT⟩,  by rw [ht]; exact hP9, va_K.moved hW.alike hK9, hD9⟩, hS.F ht⟩) hS.2.2 dX8_append_58
          · refine lv_aload_n hx hb dX8_append_19 rfl (lv_at hl 2 rfl) ?_
            refine va_get (D := (dC, dI)) (ci := 8) (v := .int (nI (kt))) (C := RX8) (T := TX8) (N := 2) hx hb hts (fun _ h => List.mem_cons_of_mem _ (List.mem_append_right _ h)) hown hK hP 0 rfl rfl 1 (by decide) (hts (.fieldLink RX8 15 "NotEnded$Tape" "length" "I") (List.mem_cons_of_mem _ (List.mem_append_left _ (List.mem_of_getElem? (i := 0) rfl)))) (fun _ h9 => h9) rfl dX8_append_20 ?_
            refine lv_aload_n hx hb dX8_append_23 rfl (lv_at hl 2 rfl) ?_
            refine va_get (D := (dC, dI)) (ci := 8) (v := .ref t0) (C := RX8) (T := TX8) (N := 2) hx hb hts (fun _ h => List.mem_cons_of_mem _ (List.mem_append_right _ h)) hown hK hP 0 rfl rfl 0 (by decide) (hts (.fieldLink RX8 9 "NotEnded$Tape" "signs" "[C") (List.mem_cons_of_mem _ (List.mem_append_left _ (List.mem_of_getElem? (i := 1) rfl)))) (fun _ h9 => h9) rfl dX8_append_24 ?_
            refine va_alen hx hb hK hP 1 0 rfl rfl (v := 120) rfl dX8_append_27 ?_
            refine lv_icmp_ge (tgt := 52) hx hb dX8_append_28 (by decide) (fun c_33 => ?_) (fun c_33 => ?_)
            · have hn_34 := kle (a := 120) (b := kt) (by omega) (by omega) c_33
              refine lv_iinc (v := (-8)) hx hb dX8_append_52 hl (k := 1) rfl (by decide) (by decide) (kTo [(2, .int (-8)), (3, .int x_30), (0, .ref jT), (1, .int p0)]) (fun ls hl => ?_)
              refine lv_goto (tgt := 3) hx hb dX8_append_55 (by decide) ?_
              refine lv_iload_n hx hb dX8_append_3 rfl (lv_at hl 0 rfl) ?_
              refine lv_if_lt (tgt := 58) hx hb dX8_append_4 (by decide) (fun c_35 => ?_) (fun c_35 => absurd (by decide) c_35)
              have hP9 := hP
              have hD9 := hD
              have hK9 := hK
              rw [hQ]
              exact W.vret hx hb hr (fun t ht hW => ⟨⟨(gT, kt), rfl, ⟨by omega, hgT⟩,  by rw [ht]; exact hP9, va_K.moved hW.alike hK9, hD9⟩, hS.F ht⟩) hS.2.2 dX8_append_58
            · have hn_36 := knle (a := 120) (b := kt) (by omega) (by omega) c_33
              refine lv_aload_n hx hb dX8_append_31 rfl (lv_at hl 2 rfl) ?_
              refine va_get (D := (dC, dI)) (ci := 8) (v := .ref t0) (C := RX8) (T := TX8) (N := 2) hx hb hts (fun _ h => List.mem_cons_of_mem _ (List.mem_append_right _ h)) hown hK hP 0 rfl rfl 0 (by decide) (hts (.fieldLink RX8 9 "NotEnded$Tape" "signs" "[C") (List.mem_cons_of_mem _ (List.mem_append_left _ (List.mem_of_getElem? (i := 1) rfl)))) (fun _ h9 => h9) rfl dX8_append_32 ?_
              refine lv_aload_n hx hb dX8_append_35 rfl (lv_at hl 2 rfl) ?_
              refine va_get (D := (dC, dI)) (ci := 8) (v := .int (nI (kt))) (C := RX8) (T := TX8) (N := 2) hx hb hts (fun _ h => List.mem_cons_of_mem _ (List.mem_append_right _ h)) hown hK hP 0 rfl rfl 1 (by decide) (hts (.fieldLink RX8 15 "NotEnded$Tape" "length" "I") (List.mem_cons_of_mem _ (List.mem_append_left _ (List.mem_of_getElem? (i := 0) rfl)))) (fun _ h9 => h9) rfl dX8_append_36 ?_
              refine lv_iload_n hx hb dX8_append_39 rfl (lv_at hl 0 rfl) ?_
              obtain ⟨x_37, ex_37⟩ : ∃ z : Int32, z = (Int32.toUInt32 x_30 % 65536).toInt32 := ⟨_, rfl⟩
              refine lv_i2c (v := x_37) hx hb dX8_append_40 ex_37.symm ?_
              refine va_cast hx hb hK hP hD hS 1 0 rfl rfl (vp_in_nI (n := kt) (N := 120) (by omega) (by omega)) dX8_append_41 (fun H locs hP hD hS => ?_)
              obtain ⟨f_38, ef_38⟩ : ∃ gg9 : Nat → Int32, gg9 = upd gT (Int32.toNatClampNeg (nI (kt))) (vp_nar .char x_37) := ⟨_, rfl⟩
              obtain ⟨hP, hD⟩ : kPD dC dI A [(jT, .inr (8, [.ref t0, .int (nI (kt))])), (t0, .inl (cC, 120, .inl f_38))] H := by rw [ef_38]; exact ⟨hP, hD⟩
              refine lv_aload_n hx hb dX8_append_42 rfl (lv_at hl 2 rfl) ?_
              refine lv_dup hx hb dX8_append_43 rfl ?_
              refine va_get (D := (dC, dI)) (ci := 8) (v := .int (nI (kt))) (C := RX8) (T := TX8) (N := 2) hx hb hts (fun _ h => List.mem_cons_of_mem _ (List.mem_append_right _ h)) hown hK hP 0 rfl rfl 1 (by decide) (hts (.fieldLink RX8 15 "NotEnded$Tape" "length" "I") (List.mem_cons_of_mem _ (List.mem_append_left _ (List.mem_of_getElem? (i := 0) rfl)))) (fun _ h9 => h9) rfl dX8_append_44 ?_
              refine lv_iconst (v := 1) hx hb dX8_append_47 (by decide) ?_
              refine lv_iadd hx hb dX8_append_48 ?_
              refine lv_topi (fun y_39 ey_39 => ?_)
              obtain rfl : y_39 = nI (kt + 1) := ey_39.trans (nI_add (kt) (1))
              refine va_put (D := (dC, dI)) (ci := 8) (v := .int (nI (kt + 1))) (ty := tyX8 1) (C := RX8) (T := TX8) (N := 2) hx hb hts (fun _ h => List.mem_cons_of_mem _ (List.mem_append_right _ h)) tyX8 tyX8_ok nmX8 hown hK hP hD hS 0 rfl rfl 1 (by decide) (hts (.fieldLink RX8 15 "NotEnded$Tape" "length" "I") (List.mem_cons_of_mem _ (List.mem_append_left _ (List.mem_of_getElem? (i := 0) rfl)))) (fun _ h9 => h9) rfl (tyX8_ok 1 (by decide)) rfl rfl (Nat.le_of_ble_eq_true rfl) dX8_append_49 (fun H locs hP hD hS => ?_)
              obtain ⟨hP, hD⟩ : kPD dC dI A [(jT, .inr (8, [.ref t0, .int (nI (kt + 1))])), (t0, .inl (cC, 120, .inl f_38))] H := ⟨hP, hD⟩
              refine lv_iinc (v := (-8)) hx hb dX8_append_52 hl (k := 1) rfl (by decide) (by decide) (kTo [(2, .int (-8)), (3, .int x_30), (0, .ref jT), (1, .int p0)]) (fun ls hl => ?_)
              refine lv_goto (tgt := 3) hx hb dX8_append_55 (by decide) ?_
              refine lv_iload_n hx hb dX8_append_3 rfl (lv_at hl 0 rfl) ?_
              refine lv_if_lt (tgt := 58) hx hb dX8_append_4 (by decide) (fun c_40 => ?_) (fun c_40 => absurd (by decide) c_40)
              have hP9 := hP
              have hD9 := hD
              have hK9 := hK
              rw [hQ]
              exact W.vret hx hb hr (fun t ht hW => ⟨⟨(f_38, (kt + 1)), rfl, ⟨by omega, (kNarU ef_38 hgT)⟩,  by rw [ht]; exact hP9, va_K.moved hW.alike hK9, hD9⟩, hS.F ht⟩) hS.2.2 dX8_append_58
        · have hn_41 := knle (a := 120) (b := kt) (by omega) (by omega) c_26
          refine lv_aload_n hx hb dX8_append_31 rfl (lv_at hl 2 rfl) ?_
          refine va_get (D := (dC, dI)) (ci := 8) (v := .ref t0) (C := RX8) (T := TX8) (N := 2) hx hb hts (fun _ h => List.mem_cons_of_mem _ (List.mem_append_right _ h)) hown hK hP 0 rfl rfl 0 (by decide) (hts (.fieldLink RX8 9 "NotEnded$Tape" "signs" "[C") (List.mem_cons_of_mem _ (List.mem_append_left _ (List.mem_of_getElem? (i := 1) rfl)))) (fun _ h9 => h9) rfl dX8_append_32 ?_
          refine lv_aload_n hx hb dX8_append_35 rfl (lv_at hl 2 rfl) ?_
          refine va_get (D := (dC, dI)) (ci := 8) (v := .int (nI (kt))) (C := RX8) (T := TX8) (N := 2) hx hb hts (fun _ h => List.mem_cons_of_mem _ (List.mem_append_right _ h)) hown hK hP 0 rfl rfl 1 (by decide) (hts (.fieldLink RX8 15 "NotEnded$Tape" "length" "I") (List.mem_cons_of_mem _ (List.mem_append_left _ (List.mem_of_getElem? (i := 0) rfl)))) (fun _ h9 => h9) rfl dX8_append_36 ?_
          refine lv_iload_n hx hb dX8_append_39 rfl (lv_at hl 0 rfl) ?_
          obtain ⟨x_42, ex_42⟩ : ∃ z : Int32, z = (Int32.toUInt32 x_11 % 65536).toInt32 := ⟨_, rfl⟩
          refine lv_i2c (v := x_42) hx hb dX8_append_40 ex_42.symm ?_
          refine va_cast hx hb hK hP hD hS 1 0 rfl rfl (vp_in_nI (n := kt) (N := 120) (by omega) (by omega)) dX8_append_41 (fun H locs hP hD hS => ?_)
          obtain ⟨f_43, ef_43⟩ : ∃ gg9 : Nat → Int32, gg9 = upd gT (Int32.toNatClampNeg (nI (kt))) (vp_nar .char x_42) := ⟨_, rfl⟩
          obtain ⟨hP, hD⟩ : kPD dC dI A [(jT, .inr (8, [.ref t0, .int (nI (kt))])), (t0, .inl (cC, 120, .inl f_43))] H := by rw [ef_43]; exact ⟨hP, hD⟩
          refine lv_aload_n hx hb dX8_append_42 rfl (lv_at hl 2 rfl) ?_
          refine lv_dup hx hb dX8_append_43 rfl ?_
          refine va_get (D := (dC, dI)) (ci := 8) (v := .int (nI (kt))) (C := RX8) (T := TX8) (N := 2) hx hb hts (fun _ h => List.mem_cons_of_mem _ (List.mem_append_right _ h)) hown hK hP 0 rfl rfl 1 (by decide) (hts (.fieldLink RX8 15 "NotEnded$Tape" "length" "I") (List.mem_cons_of_mem _ (List.mem_append_left _ (List.mem_of_getElem? (i := 0) rfl)))) (fun _ h9 => h9) rfl dX8_append_44 ?_
          refine lv_iconst (v := 1) hx hb dX8_append_47 (by decide) ?_
          refine lv_iadd hx hb dX8_append_48 ?_
          refine lv_topi (fun y_44 ey_44 => ?_)
          obtain rfl : y_44 = nI (kt + 1) := ey_44.trans (nI_add (kt) (1))
          refine va_put (D := (dC, dI)) (ci := 8) (v := .int (nI (kt + 1))) (ty := tyX8 1) (C := RX8) (T := TX8) (N := 2) hx hb hts (fun _ h => List.mem_cons_of_mem _ (List.mem_append_right _ h)) tyX8 tyX8_ok nmX8 hown hK hP hD hS 0 rfl rfl 1 (by decide) (hts (.fieldLink RX8 15 "NotEnded$Tape" "length" "I") (List.mem_cons_of_mem _ (List.mem_append_left _ (List.mem_of_getElem? (i := 0) rfl)))) (fun _ h9 => h9) rfl (tyX8_ok 1 (by decide)) rfl rfl (Nat.le_of_ble_eq_true rfl) dX8_append_49 (fun H locs hP hD hS => ?_)
          obtain ⟨hP, hD⟩ : kPD dC dI A [(jT, .inr (8, [.ref t0, .int (nI (kt + 1))])), (t0, .inl (cC, 120, .inl f_43))] H := ⟨hP, hD⟩
          refine lv_iinc (v := 0) hx hb dX8_append_52 hl (k := 1) rfl (by decide) (by decide) (kTo [(2, .int 0), (3, .int x_11), (0, .ref jT), (1, .int p0)]) (fun ls hl => ?_)
          refine lv_goto (tgt := 3) hx hb dX8_append_55 (by decide) ?_
          refine lv_iload_n hx hb dX8_append_3 rfl (lv_at hl 0 rfl) ?_
          refine lv_if_lt (tgt := 58) hx hb dX8_append_4 (by decide) (fun c_45 => absurd c_45 (by decide)) (fun c_45 => ?_)
          refine lv_iload_n hx hb dX8_append_7 rfl (lv_at hl 3 rfl) ?_
          refine lv_iload_n hx hb dX8_append_8 rfl (lv_at hl 0 rfl) ?_
          obtain ⟨x_46, ex_46⟩ : ∃ z : Int32, z = (Int32.toUInt32 p0 >>> (Int32.toUInt32 0 &&& Int32.toUInt32 31)).toInt32 := ⟨_, rfl⟩
          refine lv_iushr (v := x_46) hx hb dX8_append_9 ex_46.symm ?_
          refine lv_sipush (v := 255) hx hb dX8_append_10 (by decide) ?_
          refine lv_iand hx hb dX8_append_13 ?_
          refine lv_topi (fun x_47 ex_47 => ?_)
          refine lv_istore_n hx hb dX8_append_14 rfl hl (by decide) (kTo [(3, .int x_47), (2, .int 0), (0, .ref jT), (1, .int p0)]) (fun ls hl => ?_)
          refine lv_iload_n hx hb dX8_append_15 rfl (lv_at hl 0 rfl) ?_
          refine lv_if_eq (tgt := 52) hx hb dX8_append_16 (by decide) (fun c_48 => ?_) (fun c_48 => ?_)
          · refine lv_iinc (v := (-8)) hx hb dX8_append_52 hl (k := 1) rfl (by decide) (by decide) (kTo [(2, .int (-8)), (3, .int x_47), (0, .ref jT), (1, .int p0)]) (fun ls hl => ?_)
            refine lv_goto (tgt := 3) hx hb dX8_append_55 (by decide) ?_
            refine lv_iload_n hx hb dX8_append_3 rfl (lv_at hl 0 rfl) ?_
            refine lv_if_lt (tgt := 58) hx hb dX8_append_4 (by decide) (fun c_49 => ?_) (fun c_49 => absurd (by decide) c_49)
            have hP9 := hP
            have hD9 := hD
            have hK9 := hK
            rw [hQ]
            exact W.vret hx hb hr (fun t ht hW => ⟨⟨(f_43, (kt + 1)), rfl, ⟨by omega, (kNarU ef_43 hgT)⟩,  by rw [ht]; exact hP9, va_K.moved hW.alike hK9, hD9⟩, hS.F ht⟩) hS.2.2 dX8_append_58
          · refine lv_aload_n hx hb dX8_append_19 rfl (lv_at hl 2 rfl) ?_
            refine va_get (D := (dC, dI)) (ci := 8) (v := .int (nI (kt + 1))) (C := RX8) (T := TX8) (N := 2) hx hb hts (fun _ h => List.mem_cons_of_mem _ (List.mem_append_right _ h)) hown hK hP 0 rfl rfl 1 (by decide) (hts (.fieldLink RX8 15 "NotEnded$Tape" "length" "I") (List.mem_cons_of_mem _ (List.mem_append_left _ (List.mem_of_getElem? (i := 0) rfl)))) (fun _ h9 => h9) rfl dX8_append_20 ?_
            refine lv_aload_n hx hb dX8_append_23 rfl (lv_at hl 2 rfl) ?_
            refine va_get (D := (dC, dI)) (ci := 8) (v := .ref t0) (C := RX8) (T := TX8) (N := 2) hx hb hts (fun _ h => List.mem_cons_of_mem _ (List.mem_append_right _ h)) hown hK hP 0 rfl rfl 0 (by decide) (hts (.fieldLink RX8 9 "NotEnded$Tape" "signs" "[C") (List.mem_cons_of_mem _ (List.mem_append_left _ (List.mem_of_getElem? (i := 1) rfl)))) (fun _ h9 => h9) rfl dX8_append_24 ?_
            refine va_alen hx hb hK hP 1 0 rfl rfl (v := 120) rfl dX8_append_27 ?_
            refine lv_icmp_ge (tgt := 52) hx hb dX8_append_28 (by decide) (fun c_50 => ?_) (fun c_50 => ?_)
            · have hn_51 := kle (a := 120) (b := kt + 1) (by omega) (by omega) c_50
              refine lv_iinc (v := (-8)) hx hb dX8_append_52 hl (k := 1) rfl (by decide) (by decide) (kTo [(2, .int (-8)), (3, .int x_47), (0, .ref jT), (1, .int p0)]) (fun ls hl => ?_)
              refine lv_goto (tgt := 3) hx hb dX8_append_55 (by decide) ?_
              refine lv_iload_n hx hb dX8_append_3 rfl (lv_at hl 0 rfl) ?_
              refine lv_if_lt (tgt := 58) hx hb dX8_append_4 (by decide) (fun c_52 => ?_) (fun c_52 => absurd (by decide) c_52)
              have hP9 := hP
              have hD9 := hD
              have hK9 := hK
              rw [hQ]
              exact W.vret hx hb hr (fun t ht hW => ⟨⟨(f_43, (kt + 1)), rfl, ⟨by omega, (kNarU ef_43 hgT)⟩,  by rw [ht]; exact hP9, va_K.moved hW.alike hK9, hD9⟩, hS.F ht⟩) hS.2.2 dX8_append_58
            · have hn_53 := knle (a := 120) (b := kt + 1) (by omega) (by omega) c_50
              refine lv_aload_n hx hb dX8_append_31 rfl (lv_at hl 2 rfl) ?_
              refine va_get (D := (dC, dI)) (ci := 8) (v := .ref t0) (C := RX8) (T := TX8) (N := 2) hx hb hts (fun _ h => List.mem_cons_of_mem _ (List.mem_append_right _ h)) hown hK hP 0 rfl rfl 0 (by decide) (hts (.fieldLink RX8 9 "NotEnded$Tape" "signs" "[C") (List.mem_cons_of_mem _ (List.mem_append_left _ (List.mem_of_getElem? (i := 1) rfl)))) (fun _ h9 => h9) rfl dX8_append_32 ?_
              refine lv_aload_n hx hb dX8_append_35 rfl (lv_at hl 2 rfl) ?_
              refine va_get (D := (dC, dI)) (ci := 8) (v := .int (nI (kt + 1))) (C := RX8) (T := TX8) (N := 2) hx hb hts (fun _ h => List.mem_cons_of_mem _ (List.mem_append_right _ h)) hown hK hP 0 rfl rfl 1 (by decide) (hts (.fieldLink RX8 15 "NotEnded$Tape" "length" "I") (List.mem_cons_of_mem _ (List.mem_append_left _ (List.mem_of_getElem? (i := 0) rfl)))) (fun _ h9 => h9) rfl dX8_append_36 ?_
              refine lv_iload_n hx hb dX8_append_39 rfl (lv_at hl 0 rfl) ?_
              obtain ⟨x_54, ex_54⟩ : ∃ z : Int32, z = (Int32.toUInt32 x_47 % 65536).toInt32 := ⟨_, rfl⟩
              refine lv_i2c (v := x_54) hx hb dX8_append_40 ex_54.symm ?_
              refine va_cast hx hb hK hP hD hS 1 0 rfl rfl (vp_in_nI (n := kt + 1) (N := 120) (by omega) (by omega)) dX8_append_41 (fun H locs hP hD hS => ?_)
              obtain ⟨f_55, ef_55⟩ : ∃ gg9 : Nat → Int32, gg9 = upd f_43 (Int32.toNatClampNeg (nI (kt + 1))) (vp_nar .char x_54) := ⟨_, rfl⟩
              obtain ⟨hP, hD⟩ : kPD dC dI A [(jT, .inr (8, [.ref t0, .int (nI (kt + 1))])), (t0, .inl (cC, 120, .inl f_55))] H := by rw [ef_55]; exact ⟨hP, hD⟩
              refine lv_aload_n hx hb dX8_append_42 rfl (lv_at hl 2 rfl) ?_
              refine lv_dup hx hb dX8_append_43 rfl ?_
              refine va_get (D := (dC, dI)) (ci := 8) (v := .int (nI (kt + 1))) (C := RX8) (T := TX8) (N := 2) hx hb hts (fun _ h => List.mem_cons_of_mem _ (List.mem_append_right _ h)) hown hK hP 0 rfl rfl 1 (by decide) (hts (.fieldLink RX8 15 "NotEnded$Tape" "length" "I") (List.mem_cons_of_mem _ (List.mem_append_left _ (List.mem_of_getElem? (i := 0) rfl)))) (fun _ h9 => h9) rfl dX8_append_44 ?_
              refine lv_iconst (v := 1) hx hb dX8_append_47 (by decide) ?_
              refine lv_iadd hx hb dX8_append_48 ?_
              refine lv_topi (fun y_56 ey_56 => ?_)
              obtain rfl : y_56 = nI (kt + 1 + 1) := ey_56.trans (nI_add (kt + 1) (1))
              refine va_put (D := (dC, dI)) (ci := 8) (v := .int (nI (kt + 1 + 1))) (ty := tyX8 1) (C := RX8) (T := TX8) (N := 2) hx hb hts (fun _ h => List.mem_cons_of_mem _ (List.mem_append_right _ h)) tyX8 tyX8_ok nmX8 hown hK hP hD hS 0 rfl rfl 1 (by decide) (hts (.fieldLink RX8 15 "NotEnded$Tape" "length" "I") (List.mem_cons_of_mem _ (List.mem_append_left _ (List.mem_of_getElem? (i := 0) rfl)))) (fun _ h9 => h9) rfl (tyX8_ok 1 (by decide)) rfl rfl (Nat.le_of_ble_eq_true rfl) dX8_append_49 (fun H locs hP hD hS => ?_)
              obtain ⟨hP, hD⟩ : kPD dC dI A [(jT, .inr (8, [.ref t0, .int (nI (kt + 1 + 1))])), (t0, .inl (cC, 120, .inl f_55))] H := ⟨hP, hD⟩
              refine lv_iinc (v := (-8)) hx hb dX8_append_52 hl (k := 1) rfl (by decide) (by decide) (kTo [(2, .int (-8)), (3, .int x_47), (0, .ref jT), (1, .int p0)]) (fun ls hl => ?_)
              refine lv_goto (tgt := 3) hx hb dX8_append_55 (by decide) ?_
              refine lv_iload_n hx hb dX8_append_3 rfl (lv_at hl 0 rfl) ?_
              refine lv_if_lt (tgt := 58) hx hb dX8_append_4 (by decide) (fun c_57 => ?_) (fun c_57 => absurd (by decide) c_57)
              have hP9 := hP
              have hD9 := hD
              have hK9 := hK
              rw [hQ]
              exact W.vret hx hb hr (fun t ht hW => ⟨⟨(f_55, (kt + 1 + 1)), rfl, ⟨by omega, (kNarU ef_55 (kNarU ef_43 hgT))⟩,  by rw [ht]; exact hP9, va_K.moved hW.alike hK9, hD9⟩, hS.F ht⟩) hS.2.2 dX8_append_58
    · refine lv_aload_n hx hb dX8_append_19 rfl (lv_at hl 2 rfl) ?_
      refine va_get (D := (dC, dI)) (ci := 8) (v := .int (nI (kt))) (C := RX8) (T := TX8) (N := 2) hx hb hts (fun _ h => List.mem_cons_of_mem _ (List.mem_append_right _ h)) hown hK hP 0 rfl rfl 1 (by decide) (hts (.fieldLink RX8 15 "NotEnded$Tape" "length" "I") (List.mem_cons_of_mem _ (List.mem_append_left _ (List.mem_of_getElem? (i := 0) rfl)))) (fun _ h9 => h9) rfl dX8_append_20 ?_
      refine lv_aload_n hx hb dX8_append_23 rfl (lv_at hl 2 rfl) ?_
      refine va_get (D := (dC, dI)) (ci := 8) (v := .ref t0) (C := RX8) (T := TX8) (N := 2) hx hb hts (fun _ h => List.mem_cons_of_mem _ (List.mem_append_right _ h)) hown hK hP 0 rfl rfl 0 (by decide) (hts (.fieldLink RX8 9 "NotEnded$Tape" "signs" "[C") (List.mem_cons_of_mem _ (List.mem_append_left _ (List.mem_of_getElem? (i := 1) rfl)))) (fun _ h9 => h9) rfl dX8_append_24 ?_
      refine va_alen hx hb hK hP 1 0 rfl rfl (v := 120) rfl dX8_append_27 ?_
      refine lv_icmp_ge (tgt := 52) hx hb dX8_append_28 (by decide) (fun c_58 => ?_) (fun c_58 => ?_)
      · have hn_59 := kle (a := 120) (b := kt) (by omega) (by omega) c_58
        refine lv_iinc (v := 8) hx hb dX8_append_52 hl (k := 1) rfl (by decide) (by decide) (kTo [(2, .int 8), (3, .int x_7), (0, .ref jT), (1, .int p0)]) (fun ls hl => ?_)
        refine lv_goto (tgt := 3) hx hb dX8_append_55 (by decide) ?_
        refine lv_iload_n hx hb dX8_append_3 rfl (lv_at hl 0 rfl) ?_
        refine lv_if_lt (tgt := 58) hx hb dX8_append_4 (by decide) (fun c_60 => absurd c_60 (by decide)) (fun c_60 => ?_)
        refine lv_iload_n hx hb dX8_append_7 rfl (lv_at hl 3 rfl) ?_
        refine lv_iload_n hx hb dX8_append_8 rfl (lv_at hl 0 rfl) ?_
        obtain ⟨x_61, ex_61⟩ : ∃ z : Int32, z = (Int32.toUInt32 p0 >>> (Int32.toUInt32 8 &&& Int32.toUInt32 31)).toInt32 := ⟨_, rfl⟩
        refine lv_iushr (v := x_61) hx hb dX8_append_9 ex_61.symm ?_
        refine lv_sipush (v := 255) hx hb dX8_append_10 (by decide) ?_
        refine lv_iand hx hb dX8_append_13 ?_
        refine lv_topi (fun x_62 ex_62 => ?_)
        refine lv_istore_n hx hb dX8_append_14 rfl hl (by decide) (kTo [(3, .int x_62), (2, .int 8), (0, .ref jT), (1, .int p0)]) (fun ls hl => ?_)
        refine lv_iload_n hx hb dX8_append_15 rfl (lv_at hl 0 rfl) ?_
        refine lv_if_eq (tgt := 52) hx hb dX8_append_16 (by decide) (fun c_63 => ?_) (fun c_63 => ?_)
        · refine lv_iinc (v := 0) hx hb dX8_append_52 hl (k := 1) rfl (by decide) (by decide) (kTo [(2, .int 0), (3, .int x_62), (0, .ref jT), (1, .int p0)]) (fun ls hl => ?_)
          refine lv_goto (tgt := 3) hx hb dX8_append_55 (by decide) ?_
          refine lv_iload_n hx hb dX8_append_3 rfl (lv_at hl 0 rfl) ?_
          refine lv_if_lt (tgt := 58) hx hb dX8_append_4 (by decide) (fun c_64 => absurd c_64 (by decide)) (fun c_64 => ?_)
          refine lv_iload_n hx hb dX8_append_7 rfl (lv_at hl 3 rfl) ?_
          refine lv_iload_n hx hb dX8_append_8 rfl (lv_at hl 0 rfl) ?_
          obtain ⟨x_65, ex_65⟩ : ∃ z : Int32, z = (Int32.toUInt32 p0 >>> (Int32.toUInt32 0 &&& Int32.toUInt32 31)).toInt32 := ⟨_, rfl⟩
          refine lv_iushr (v := x_65) hx hb dX8_append_9 ex_65.symm ?_
          refine lv_sipush (v := 255) hx hb dX8_append_10 (by decide) ?_
          refine lv_iand hx hb dX8_append_13 ?_
          refine lv_topi (fun x_66 ex_66 => ?_)
          refine lv_istore_n hx hb dX8_append_14 rfl hl (by decide) (kTo [(3, .int x_66), (2, .int 0), (0, .ref jT), (1, .int p0)]) (fun ls hl => ?_)
          refine lv_iload_n hx hb dX8_append_15 rfl (lv_at hl 0 rfl) ?_
          refine lv_if_eq (tgt := 52) hx hb dX8_append_16 (by decide) (fun c_67 => ?_) (fun c_67 => ?_)
          · refine lv_iinc (v := (-8)) hx hb dX8_append_52 hl (k := 1) rfl (by decide) (by decide) (kTo [(2, .int (-8)), (3, .int x_66), (0, .ref jT), (1, .int p0)]) (fun ls hl => ?_)
            refine lv_goto (tgt := 3) hx hb dX8_append_55 (by decide) ?_
            refine lv_iload_n hx hb dX8_append_3 rfl (lv_at hl 0 rfl) ?_
            refine lv_if_lt (tgt := 58) hx hb dX8_append_4 (by decide) (fun c_68 => ?_) (fun c_68 => absurd (by decide) c_68)
            have hP9 := hP
            have hD9 := hD
            have hK9 := hK
            rw [hQ]
            exact W.vret hx hb hr (fun t ht hW => ⟨⟨(gT, kt), rfl, ⟨by omega, hgT⟩,  by rw [ht]; exact hP9, va_K.moved hW.alike hK9, hD9⟩, hS.F ht⟩) hS.2.2 dX8_append_58
          · refine lv_aload_n hx hb dX8_append_19 rfl (lv_at hl 2 rfl) ?_
            refine va_get (D := (dC, dI)) (ci := 8) (v := .int (nI (kt))) (C := RX8) (T := TX8) (N := 2) hx hb hts (fun _ h => List.mem_cons_of_mem _ (List.mem_append_right _ h)) hown hK hP 0 rfl rfl 1 (by decide) (hts (.fieldLink RX8 15 "NotEnded$Tape" "length" "I") (List.mem_cons_of_mem _ (List.mem_append_left _ (List.mem_of_getElem? (i := 0) rfl)))) (fun _ h9 => h9) rfl dX8_append_20 ?_
            refine lv_aload_n hx hb dX8_append_23 rfl (lv_at hl 2 rfl) ?_
            refine va_get (D := (dC, dI)) (ci := 8) (v := .ref t0) (C := RX8) (T := TX8) (N := 2) hx hb hts (fun _ h => List.mem_cons_of_mem _ (List.mem_append_right _ h)) hown hK hP 0 rfl rfl 0 (by decide) (hts (.fieldLink RX8 9 "NotEnded$Tape" "signs" "[C") (List.mem_cons_of_mem _ (List.mem_append_left _ (List.mem_of_getElem? (i := 1) rfl)))) (fun _ h9 => h9) rfl dX8_append_24 ?_
            refine va_alen hx hb hK hP 1 0 rfl rfl (v := 120) rfl dX8_append_27 ?_
            refine lv_icmp_ge (tgt := 52) hx hb dX8_append_28 (by decide) (fun c_69 => ?_) (fun c_69 => ?_)
            · have hn_70 := kle (a := 120) (b := kt) (by omega) (by omega) c_69
              refine lv_iinc (v := (-8)) hx hb dX8_append_52 hl (k := 1) rfl (by decide) (by decide) (kTo [(2, .int (-8)), (3, .int x_66), (0, .ref jT), (1, .int p0)]) (fun ls hl => ?_)
              refine lv_goto (tgt := 3) hx hb dX8_append_55 (by decide) ?_
              refine lv_iload_n hx hb dX8_append_3 rfl (lv_at hl 0 rfl) ?_
              refine lv_if_lt (tgt := 58) hx hb dX8_append_4 (by decide) (fun c_71 => ?_) (fun c_71 => absurd (by decide) c_71)
              have hP9 := hP
              have hD9 := hD
              have hK9 := hK
              rw [hQ]
              exact W.vret hx hb hr (fun t ht hW => ⟨⟨(gT, kt), rfl, ⟨by omega, hgT⟩,  by rw [ht]; exact hP9, va_K.moved hW.alike hK9, hD9⟩, hS.F ht⟩) hS.2.2 dX8_append_58
            · have hn_72 := knle (a := 120) (b := kt) (by omega) (by omega) c_69
              refine lv_aload_n hx hb dX8_append_31 rfl (lv_at hl 2 rfl) ?_
              refine va_get (D := (dC, dI)) (ci := 8) (v := .ref t0) (C := RX8) (T := TX8) (N := 2) hx hb hts (fun _ h => List.mem_cons_of_mem _ (List.mem_append_right _ h)) hown hK hP 0 rfl rfl 0 (by decide) (hts (.fieldLink RX8 9 "NotEnded$Tape" "signs" "[C") (List.mem_cons_of_mem _ (List.mem_append_left _ (List.mem_of_getElem? (i := 1) rfl)))) (fun _ h9 => h9) rfl dX8_append_32 ?_
              refine lv_aload_n hx hb dX8_append_35 rfl (lv_at hl 2 rfl) ?_
              refine va_get (D := (dC, dI)) (ci := 8) (v := .int (nI (kt))) (C := RX8) (T := TX8) (N := 2) hx hb hts (fun _ h => List.mem_cons_of_mem _ (List.mem_append_right _ h)) hown hK hP 0 rfl rfl 1 (by decide) (hts (.fieldLink RX8 15 "NotEnded$Tape" "length" "I") (List.mem_cons_of_mem _ (List.mem_append_left _ (List.mem_of_getElem? (i := 0) rfl)))) (fun _ h9 => h9) rfl dX8_append_36 ?_
              refine lv_iload_n hx hb dX8_append_39 rfl (lv_at hl 0 rfl) ?_
              obtain ⟨x_73, ex_73⟩ : ∃ z : Int32, z = (Int32.toUInt32 x_66 % 65536).toInt32 := ⟨_, rfl⟩
              refine lv_i2c (v := x_73) hx hb dX8_append_40 ex_73.symm ?_
              refine va_cast hx hb hK hP hD hS 1 0 rfl rfl (vp_in_nI (n := kt) (N := 120) (by omega) (by omega)) dX8_append_41 (fun H locs hP hD hS => ?_)
              obtain ⟨f_74, ef_74⟩ : ∃ gg9 : Nat → Int32, gg9 = upd gT (Int32.toNatClampNeg (nI (kt))) (vp_nar .char x_73) := ⟨_, rfl⟩
              obtain ⟨hP, hD⟩ : kPD dC dI A [(jT, .inr (8, [.ref t0, .int (nI (kt))])), (t0, .inl (cC, 120, .inl f_74))] H := by rw [ef_74]; exact ⟨hP, hD⟩
              refine lv_aload_n hx hb dX8_append_42 rfl (lv_at hl 2 rfl) ?_
              refine lv_dup hx hb dX8_append_43 rfl ?_
              refine va_get (D := (dC, dI)) (ci := 8) (v := .int (nI (kt))) (C := RX8) (T := TX8) (N := 2) hx hb hts (fun _ h => List.mem_cons_of_mem _ (List.mem_append_right _ h)) hown hK hP 0 rfl rfl 1 (by decide) (hts (.fieldLink RX8 15 "NotEnded$Tape" "length" "I") (List.mem_cons_of_mem _ (List.mem_append_left _ (List.mem_of_getElem? (i := 0) rfl)))) (fun _ h9 => h9) rfl dX8_append_44 ?_
              refine lv_iconst (v := 1) hx hb dX8_append_47 (by decide) ?_
              refine lv_iadd hx hb dX8_append_48 ?_
              refine lv_topi (fun y_75 ey_75 => ?_)
              obtain rfl : y_75 = nI (kt + 1) := ey_75.trans (nI_add (kt) (1))
              refine va_put (D := (dC, dI)) (ci := 8) (v := .int (nI (kt + 1))) (ty := tyX8 1) (C := RX8) (T := TX8) (N := 2) hx hb hts (fun _ h => List.mem_cons_of_mem _ (List.mem_append_right _ h)) tyX8 tyX8_ok nmX8 hown hK hP hD hS 0 rfl rfl 1 (by decide) (hts (.fieldLink RX8 15 "NotEnded$Tape" "length" "I") (List.mem_cons_of_mem _ (List.mem_append_left _ (List.mem_of_getElem? (i := 0) rfl)))) (fun _ h9 => h9) rfl (tyX8_ok 1 (by decide)) rfl rfl (Nat.le_of_ble_eq_true rfl) dX8_append_49 (fun H locs hP hD hS => ?_)
              obtain ⟨hP, hD⟩ : kPD dC dI A [(jT, .inr (8, [.ref t0, .int (nI (kt + 1))])), (t0, .inl (cC, 120, .inl f_74))] H := ⟨hP, hD⟩
              refine lv_iinc (v := (-8)) hx hb dX8_append_52 hl (k := 1) rfl (by decide) (by decide) (kTo [(2, .int (-8)), (3, .int x_66), (0, .ref jT), (1, .int p0)]) (fun ls hl => ?_)
              refine lv_goto (tgt := 3) hx hb dX8_append_55 (by decide) ?_
              refine lv_iload_n hx hb dX8_append_3 rfl (lv_at hl 0 rfl) ?_
              refine lv_if_lt (tgt := 58) hx hb dX8_append_4 (by decide) (fun c_76 => ?_) (fun c_76 => absurd (by decide) c_76)
              have hP9 := hP
              have hD9 := hD
              have hK9 := hK
              rw [hQ]
              exact W.vret hx hb hr (fun t ht hW => ⟨⟨(f_74, (kt + 1)), rfl, ⟨by omega, (kNarU ef_74 hgT)⟩,  by rw [ht]; exact hP9, va_K.moved hW.alike hK9, hD9⟩, hS.F ht⟩) hS.2.2 dX8_append_58
        · refine lv_aload_n hx hb dX8_append_19 rfl (lv_at hl 2 rfl) ?_
          refine va_get (D := (dC, dI)) (ci := 8) (v := .int (nI (kt))) (C := RX8) (T := TX8) (N := 2) hx hb hts (fun _ h => List.mem_cons_of_mem _ (List.mem_append_right _ h)) hown hK hP 0 rfl rfl 1 (by decide) (hts (.fieldLink RX8 15 "NotEnded$Tape" "length" "I") (List.mem_cons_of_mem _ (List.mem_append_left _ (List.mem_of_getElem? (i := 0) rfl)))) (fun _ h9 => h9) rfl dX8_append_20 ?_
          refine lv_aload_n hx hb dX8_append_23 rfl (lv_at hl 2 rfl) ?_
          refine va_get (D := (dC, dI)) (ci := 8) (v := .ref t0) (C := RX8) (T := TX8) (N := 2) hx hb hts (fun _ h => List.mem_cons_of_mem _ (List.mem_append_right _ h)) hown hK hP 0 rfl rfl 0 (by decide) (hts (.fieldLink RX8 9 "NotEnded$Tape" "signs" "[C") (List.mem_cons_of_mem _ (List.mem_append_left _ (List.mem_of_getElem? (i := 1) rfl)))) (fun _ h9 => h9) rfl dX8_append_24 ?_
          refine va_alen hx hb hK hP 1 0 rfl rfl (v := 120) rfl dX8_append_27 ?_
          refine lv_icmp_ge (tgt := 52) hx hb dX8_append_28 (by decide) (fun c_77 => ?_) (fun c_77 => ?_)
          · have hn_78 := kle (a := 120) (b := kt) (by omega) (by omega) c_77
            refine lv_iinc (v := 0) hx hb dX8_append_52 hl (k := 1) rfl (by decide) (by decide) (kTo [(2, .int 0), (3, .int x_62), (0, .ref jT), (1, .int p0)]) (fun ls hl => ?_)
            refine lv_goto (tgt := 3) hx hb dX8_append_55 (by decide) ?_
            refine lv_iload_n hx hb dX8_append_3 rfl (lv_at hl 0 rfl) ?_
            refine lv_if_lt (tgt := 58) hx hb dX8_append_4 (by decide) (fun c_79 => absurd c_79 (by decide)) (fun c_79 => ?_)
            refine lv_iload_n hx hb dX8_append_7 rfl (lv_at hl 3 rfl) ?_
            refine lv_iload_n hx hb dX8_append_8 rfl (lv_at hl 0 rfl) ?_
            obtain ⟨x_80, ex_80⟩ : ∃ z : Int32, z = (Int32.toUInt32 p0 >>> (Int32.toUInt32 0 &&& Int32.toUInt32 31)).toInt32 := ⟨_, rfl⟩
            refine lv_iushr (v := x_80) hx hb dX8_append_9 ex_80.symm ?_
            refine lv_sipush (v := 255) hx hb dX8_append_10 (by decide) ?_
            refine lv_iand hx hb dX8_append_13 ?_
            refine lv_topi (fun x_81 ex_81 => ?_)
            refine lv_istore_n hx hb dX8_append_14 rfl hl (by decide) (kTo [(3, .int x_81), (2, .int 0), (0, .ref jT), (1, .int p0)]) (fun ls hl => ?_)
            refine lv_iload_n hx hb dX8_append_15 rfl (lv_at hl 0 rfl) ?_
            refine lv_if_eq (tgt := 52) hx hb dX8_append_16 (by decide) (fun c_82 => ?_) (fun c_82 => ?_)
            · refine lv_iinc (v := (-8)) hx hb dX8_append_52 hl (k := 1) rfl (by decide) (by decide) (kTo [(2, .int (-8)), (3, .int x_81), (0, .ref jT), (1, .int p0)]) (fun ls hl => ?_)
              refine lv_goto (tgt := 3) hx hb dX8_append_55 (by decide) ?_
              refine lv_iload_n hx hb dX8_append_3 rfl (lv_at hl 0 rfl) ?_
              refine lv_if_lt (tgt := 58) hx hb dX8_append_4 (by decide) (fun c_83 => ?_) (fun c_83 => absurd (by decide) c_83)
              have hP9 := hP
              have hD9 := hD
              have hK9 := hK
              rw [hQ]
              exact W.vret hx hb hr (fun t ht hW => ⟨⟨(gT, kt), rfl, ⟨by omega, hgT⟩,  by rw [ht]; exact hP9, va_K.moved hW.alike hK9, hD9⟩, hS.F ht⟩) hS.2.2 dX8_append_58
            · refine lv_aload_n hx hb dX8_append_19 rfl (lv_at hl 2 rfl) ?_
              refine va_get (D := (dC, dI)) (ci := 8) (v := .int (nI (kt))) (C := RX8) (T := TX8) (N := 2) hx hb hts (fun _ h => List.mem_cons_of_mem _ (List.mem_append_right _ h)) hown hK hP 0 rfl rfl 1 (by decide) (hts (.fieldLink RX8 15 "NotEnded$Tape" "length" "I") (List.mem_cons_of_mem _ (List.mem_append_left _ (List.mem_of_getElem? (i := 0) rfl)))) (fun _ h9 => h9) rfl dX8_append_20 ?_
              refine lv_aload_n hx hb dX8_append_23 rfl (lv_at hl 2 rfl) ?_
              refine va_get (D := (dC, dI)) (ci := 8) (v := .ref t0) (C := RX8) (T := TX8) (N := 2) hx hb hts (fun _ h => List.mem_cons_of_mem _ (List.mem_append_right _ h)) hown hK hP 0 rfl rfl 0 (by decide) (hts (.fieldLink RX8 9 "NotEnded$Tape" "signs" "[C") (List.mem_cons_of_mem _ (List.mem_append_left _ (List.mem_of_getElem? (i := 1) rfl)))) (fun _ h9 => h9) rfl dX8_append_24 ?_
              refine va_alen hx hb hK hP 1 0 rfl rfl (v := 120) rfl dX8_append_27 ?_
              refine lv_icmp_ge (tgt := 52) hx hb dX8_append_28 (by decide) (fun c_84 => ?_) (fun c_84 => ?_)
              · have hn_85 := kle (a := 120) (b := kt) (by omega) (by omega) c_84
                refine lv_iinc (v := (-8)) hx hb dX8_append_52 hl (k := 1) rfl (by decide) (by decide) (kTo [(2, .int (-8)), (3, .int x_81), (0, .ref jT), (1, .int p0)]) (fun ls hl => ?_)
                refine lv_goto (tgt := 3) hx hb dX8_append_55 (by decide) ?_
                refine lv_iload_n hx hb dX8_append_3 rfl (lv_at hl 0 rfl) ?_
                refine lv_if_lt (tgt := 58) hx hb dX8_append_4 (by decide) (fun c_86 => ?_) (fun c_86 => absurd (by decide) c_86)
                have hP9 := hP
                have hD9 := hD
                have hK9 := hK
                rw [hQ]
                exact W.vret hx hb hr (fun t ht hW => ⟨⟨(gT, kt), rfl, ⟨by omega, hgT⟩,  by rw [ht]; exact hP9, va_K.moved hW.alike hK9, hD9⟩, hS.F ht⟩) hS.2.2 dX8_append_58
              · have hn_87 := knle (a := 120) (b := kt) (by omega) (by omega) c_84
                refine lv_aload_n hx hb dX8_append_31 rfl (lv_at hl 2 rfl) ?_
                refine va_get (D := (dC, dI)) (ci := 8) (v := .ref t0) (C := RX8) (T := TX8) (N := 2) hx hb hts (fun _ h => List.mem_cons_of_mem _ (List.mem_append_right _ h)) hown hK hP 0 rfl rfl 0 (by decide) (hts (.fieldLink RX8 9 "NotEnded$Tape" "signs" "[C") (List.mem_cons_of_mem _ (List.mem_append_left _ (List.mem_of_getElem? (i := 1) rfl)))) (fun _ h9 => h9) rfl dX8_append_32 ?_
                refine lv_aload_n hx hb dX8_append_35 rfl (lv_at hl 2 rfl) ?_
                refine va_get (D := (dC, dI)) (ci := 8) (v := .int (nI (kt))) (C := RX8) (T := TX8) (N := 2) hx hb hts (fun _ h => List.mem_cons_of_mem _ (List.mem_append_right _ h)) hown hK hP 0 rfl rfl 1 (by decide) (hts (.fieldLink RX8 15 "NotEnded$Tape" "length" "I") (List.mem_cons_of_mem _ (List.mem_append_left _ (List.mem_of_getElem? (i := 0) rfl)))) (fun _ h9 => h9) rfl dX8_append_36 ?_
                refine lv_iload_n hx hb dX8_append_39 rfl (lv_at hl 0 rfl) ?_
                obtain ⟨x_88, ex_88⟩ : ∃ z : Int32, z = (Int32.toUInt32 x_81 % 65536).toInt32 := ⟨_, rfl⟩
                refine lv_i2c (v := x_88) hx hb dX8_append_40 ex_88.symm ?_
                refine va_cast hx hb hK hP hD hS 1 0 rfl rfl (vp_in_nI (n := kt) (N := 120) (by omega) (by omega)) dX8_append_41 (fun H locs hP hD hS => ?_)
                obtain ⟨f_89, ef_89⟩ : ∃ gg9 : Nat → Int32, gg9 = upd gT (Int32.toNatClampNeg (nI (kt))) (vp_nar .char x_88) := ⟨_, rfl⟩
                obtain ⟨hP, hD⟩ : kPD dC dI A [(jT, .inr (8, [.ref t0, .int (nI (kt))])), (t0, .inl (cC, 120, .inl f_89))] H := by rw [ef_89]; exact ⟨hP, hD⟩
                refine lv_aload_n hx hb dX8_append_42 rfl (lv_at hl 2 rfl) ?_
                refine lv_dup hx hb dX8_append_43 rfl ?_
                refine va_get (D := (dC, dI)) (ci := 8) (v := .int (nI (kt))) (C := RX8) (T := TX8) (N := 2) hx hb hts (fun _ h => List.mem_cons_of_mem _ (List.mem_append_right _ h)) hown hK hP 0 rfl rfl 1 (by decide) (hts (.fieldLink RX8 15 "NotEnded$Tape" "length" "I") (List.mem_cons_of_mem _ (List.mem_append_left _ (List.mem_of_getElem? (i := 0) rfl)))) (fun _ h9 => h9) rfl dX8_append_44 ?_
                refine lv_iconst (v := 1) hx hb dX8_append_47 (by decide) ?_
                refine lv_iadd hx hb dX8_append_48 ?_
                refine lv_topi (fun y_90 ey_90 => ?_)
                obtain rfl : y_90 = nI (kt + 1) := ey_90.trans (nI_add (kt) (1))
                refine va_put (D := (dC, dI)) (ci := 8) (v := .int (nI (kt + 1))) (ty := tyX8 1) (C := RX8) (T := TX8) (N := 2) hx hb hts (fun _ h => List.mem_cons_of_mem _ (List.mem_append_right _ h)) tyX8 tyX8_ok nmX8 hown hK hP hD hS 0 rfl rfl 1 (by decide) (hts (.fieldLink RX8 15 "NotEnded$Tape" "length" "I") (List.mem_cons_of_mem _ (List.mem_append_left _ (List.mem_of_getElem? (i := 0) rfl)))) (fun _ h9 => h9) rfl (tyX8_ok 1 (by decide)) rfl rfl (Nat.le_of_ble_eq_true rfl) dX8_append_49 (fun H locs hP hD hS => ?_)
                obtain ⟨hP, hD⟩ : kPD dC dI A [(jT, .inr (8, [.ref t0, .int (nI (kt + 1))])), (t0, .inl (cC, 120, .inl f_89))] H := ⟨hP, hD⟩
                refine lv_iinc (v := (-8)) hx hb dX8_append_52 hl (k := 1) rfl (by decide) (by decide) (kTo [(2, .int (-8)), (3, .int x_81), (0, .ref jT), (1, .int p0)]) (fun ls hl => ?_)
                refine lv_goto (tgt := 3) hx hb dX8_append_55 (by decide) ?_
                refine lv_iload_n hx hb dX8_append_3 rfl (lv_at hl 0 rfl) ?_
                refine lv_if_lt (tgt := 58) hx hb dX8_append_4 (by decide) (fun c_91 => ?_) (fun c_91 => absurd (by decide) c_91)
                have hP9 := hP
                have hD9 := hD
                have hK9 := hK
                rw [hQ]
                exact W.vret hx hb hr (fun t ht hW => ⟨⟨(f_89, (kt + 1)), rfl, ⟨by omega, (kNarU ef_89 hgT)⟩,  by rw [ht]; exact hP9, va_K.moved hW.alike hK9, hD9⟩, hS.F ht⟩) hS.2.2 dX8_append_58
          · have hn_92 := knle (a := 120) (b := kt) (by omega) (by omega) c_77
            refine lv_aload_n hx hb dX8_append_31 rfl (lv_at hl 2 rfl) ?_
            refine va_get (D := (dC, dI)) (ci := 8) (v := .ref t0) (C := RX8) (T := TX8) (N := 2) hx hb hts (fun _ h => List.mem_cons_of_mem _ (List.mem_append_right _ h)) hown hK hP 0 rfl rfl 0 (by decide) (hts (.fieldLink RX8 9 "NotEnded$Tape" "signs" "[C") (List.mem_cons_of_mem _ (List.mem_append_left _ (List.mem_of_getElem? (i := 1) rfl)))) (fun _ h9 => h9) rfl dX8_append_32 ?_
            refine lv_aload_n hx hb dX8_append_35 rfl (lv_at hl 2 rfl) ?_
            refine va_get (D := (dC, dI)) (ci := 8) (v := .int (nI (kt))) (C := RX8) (T := TX8) (N := 2) hx hb hts (fun _ h => List.mem_cons_of_mem _ (List.mem_append_right _ h)) hown hK hP 0 rfl rfl 1 (by decide) (hts (.fieldLink RX8 15 "NotEnded$Tape" "length" "I") (List.mem_cons_of_mem _ (List.mem_append_left _ (List.mem_of_getElem? (i := 0) rfl)))) (fun _ h9 => h9) rfl dX8_append_36 ?_
            refine lv_iload_n hx hb dX8_append_39 rfl (lv_at hl 0 rfl) ?_
            obtain ⟨x_93, ex_93⟩ : ∃ z : Int32, z = (Int32.toUInt32 x_62 % 65536).toInt32 := ⟨_, rfl⟩
            refine lv_i2c (v := x_93) hx hb dX8_append_40 ex_93.symm ?_
            refine va_cast hx hb hK hP hD hS 1 0 rfl rfl (vp_in_nI (n := kt) (N := 120) (by omega) (by omega)) dX8_append_41 (fun H locs hP hD hS => ?_)
            obtain ⟨f_94, ef_94⟩ : ∃ gg9 : Nat → Int32, gg9 = upd gT (Int32.toNatClampNeg (nI (kt))) (vp_nar .char x_93) := ⟨_, rfl⟩
            obtain ⟨hP, hD⟩ : kPD dC dI A [(jT, .inr (8, [.ref t0, .int (nI (kt))])), (t0, .inl (cC, 120, .inl f_94))] H := by rw [ef_94]; exact ⟨hP, hD⟩
            refine lv_aload_n hx hb dX8_append_42 rfl (lv_at hl 2 rfl) ?_
            refine lv_dup hx hb dX8_append_43 rfl ?_
            refine va_get (D := (dC, dI)) (ci := 8) (v := .int (nI (kt))) (C := RX8) (T := TX8) (N := 2) hx hb hts (fun _ h => List.mem_cons_of_mem _ (List.mem_append_right _ h)) hown hK hP 0 rfl rfl 1 (by decide) (hts (.fieldLink RX8 15 "NotEnded$Tape" "length" "I") (List.mem_cons_of_mem _ (List.mem_append_left _ (List.mem_of_getElem? (i := 0) rfl)))) (fun _ h9 => h9) rfl dX8_append_44 ?_
            refine lv_iconst (v := 1) hx hb dX8_append_47 (by decide) ?_
            refine lv_iadd hx hb dX8_append_48 ?_
            refine lv_topi (fun y_95 ey_95 => ?_)
            obtain rfl : y_95 = nI (kt + 1) := ey_95.trans (nI_add (kt) (1))
            refine va_put (D := (dC, dI)) (ci := 8) (v := .int (nI (kt + 1))) (ty := tyX8 1) (C := RX8) (T := TX8) (N := 2) hx hb hts (fun _ h => List.mem_cons_of_mem _ (List.mem_append_right _ h)) tyX8 tyX8_ok nmX8 hown hK hP hD hS 0 rfl rfl 1 (by decide) (hts (.fieldLink RX8 15 "NotEnded$Tape" "length" "I") (List.mem_cons_of_mem _ (List.mem_append_left _ (List.mem_of_getElem? (i := 0) rfl)))) (fun _ h9 => h9) rfl (tyX8_ok 1 (by decide)) rfl rfl (Nat.le_of_ble_eq_true rfl) dX8_append_49 (fun H locs hP hD hS => ?_)
            obtain ⟨hP, hD⟩ : kPD dC dI A [(jT, .inr (8, [.ref t0, .int (nI (kt + 1))])), (t0, .inl (cC, 120, .inl f_94))] H := ⟨hP, hD⟩
            refine lv_iinc (v := 0) hx hb dX8_append_52 hl (k := 1) rfl (by decide) (by decide) (kTo [(2, .int 0), (3, .int x_62), (0, .ref jT), (1, .int p0)]) (fun ls hl => ?_)
            refine lv_goto (tgt := 3) hx hb dX8_append_55 (by decide) ?_
            refine lv_iload_n hx hb dX8_append_3 rfl (lv_at hl 0 rfl) ?_
            refine lv_if_lt (tgt := 58) hx hb dX8_append_4 (by decide) (fun c_96 => absurd c_96 (by decide)) (fun c_96 => ?_)
            refine lv_iload_n hx hb dX8_append_7 rfl (lv_at hl 3 rfl) ?_
            refine lv_iload_n hx hb dX8_append_8 rfl (lv_at hl 0 rfl) ?_
            obtain ⟨x_97, ex_97⟩ : ∃ z : Int32, z = (Int32.toUInt32 p0 >>> (Int32.toUInt32 0 &&& Int32.toUInt32 31)).toInt32 := ⟨_, rfl⟩
            refine lv_iushr (v := x_97) hx hb dX8_append_9 ex_97.symm ?_
            refine lv_sipush (v := 255) hx hb dX8_append_10 (by decide) ?_
            refine lv_iand hx hb dX8_append_13 ?_
            refine lv_topi (fun x_98 ex_98 => ?_)
            refine lv_istore_n hx hb dX8_append_14 rfl hl (by decide) (kTo [(3, .int x_98), (2, .int 0), (0, .ref jT), (1, .int p0)]) (fun ls hl => ?_)
            refine lv_iload_n hx hb dX8_append_15 rfl (lv_at hl 0 rfl) ?_
            refine lv_if_eq (tgt := 52) hx hb dX8_append_16 (by decide) (fun c_99 => ?_) (fun c_99 => ?_)
            · refine lv_iinc (v := (-8)) hx hb dX8_append_52 hl (k := 1) rfl (by decide) (by decide) (kTo [(2, .int (-8)), (3, .int x_98), (0, .ref jT), (1, .int p0)]) (fun ls hl => ?_)
              refine lv_goto (tgt := 3) hx hb dX8_append_55 (by decide) ?_
              refine lv_iload_n hx hb dX8_append_3 rfl (lv_at hl 0 rfl) ?_
              refine lv_if_lt (tgt := 58) hx hb dX8_append_4 (by decide) (fun c_100 => ?_) (fun c_100 => absurd (by decide) c_100)
              have hP9 := hP
              have hD9 := hD
              have hK9 := hK
              rw [hQ]
              exact W.vret hx hb hr (fun t ht hW => ⟨⟨(f_94, (kt + 1)), rfl, ⟨by omega, (kNarU ef_94 hgT)⟩,  by rw [ht]; exact hP9, va_K.moved hW.alike hK9, hD9⟩, hS.F ht⟩) hS.2.2 dX8_append_58
            · refine lv_aload_n hx hb dX8_append_19 rfl (lv_at hl 2 rfl) ?_
              refine va_get (D := (dC, dI)) (ci := 8) (v := .int (nI (kt + 1))) (C := RX8) (T := TX8) (N := 2) hx hb hts (fun _ h => List.mem_cons_of_mem _ (List.mem_append_right _ h)) hown hK hP 0 rfl rfl 1 (by decide) (hts (.fieldLink RX8 15 "NotEnded$Tape" "length" "I") (List.mem_cons_of_mem _ (List.mem_append_left _ (List.mem_of_getElem? (i := 0) rfl)))) (fun _ h9 => h9) rfl dX8_append_20 ?_
              refine lv_aload_n hx hb dX8_append_23 rfl (lv_at hl 2 rfl) ?_
              refine va_get (D := (dC, dI)) (ci := 8) (v := .ref t0) (C := RX8) (T := TX8) (N := 2) hx hb hts (fun _ h => List.mem_cons_of_mem _ (List.mem_append_right _ h)) hown hK hP 0 rfl rfl 0 (by decide) (hts (.fieldLink RX8 9 "NotEnded$Tape" "signs" "[C") (List.mem_cons_of_mem _ (List.mem_append_left _ (List.mem_of_getElem? (i := 1) rfl)))) (fun _ h9 => h9) rfl dX8_append_24 ?_
              refine va_alen hx hb hK hP 1 0 rfl rfl (v := 120) rfl dX8_append_27 ?_
              refine lv_icmp_ge (tgt := 52) hx hb dX8_append_28 (by decide) (fun c_101 => ?_) (fun c_101 => ?_)
              · have hn_102 := kle (a := 120) (b := kt + 1) (by omega) (by omega) c_101
                refine lv_iinc (v := (-8)) hx hb dX8_append_52 hl (k := 1) rfl (by decide) (by decide) (kTo [(2, .int (-8)), (3, .int x_98), (0, .ref jT), (1, .int p0)]) (fun ls hl => ?_)
                refine lv_goto (tgt := 3) hx hb dX8_append_55 (by decide) ?_
                refine lv_iload_n hx hb dX8_append_3 rfl (lv_at hl 0 rfl) ?_
                refine lv_if_lt (tgt := 58) hx hb dX8_append_4 (by decide) (fun c_103 => ?_) (fun c_103 => absurd (by decide) c_103)
                have hP9 := hP
                have hD9 := hD
                have hK9 := hK
                rw [hQ]
                exact W.vret hx hb hr (fun t ht hW => ⟨⟨(f_94, (kt + 1)), rfl, ⟨by omega, (kNarU ef_94 hgT)⟩,  by rw [ht]; exact hP9, va_K.moved hW.alike hK9, hD9⟩, hS.F ht⟩) hS.2.2 dX8_append_58
              · have hn_104 := knle (a := 120) (b := kt + 1) (by omega) (by omega) c_101
                refine lv_aload_n hx hb dX8_append_31 rfl (lv_at hl 2 rfl) ?_
                refine va_get (D := (dC, dI)) (ci := 8) (v := .ref t0) (C := RX8) (T := TX8) (N := 2) hx hb hts (fun _ h => List.mem_cons_of_mem _ (List.mem_append_right _ h)) hown hK hP 0 rfl rfl 0 (by decide) (hts (.fieldLink RX8 9 "NotEnded$Tape" "signs" "[C") (List.mem_cons_of_mem _ (List.mem_append_left _ (List.mem_of_getElem? (i := 1) rfl)))) (fun _ h9 => h9) rfl dX8_append_32 ?_
                refine lv_aload_n hx hb dX8_append_35 rfl (lv_at hl 2 rfl) ?_
                refine va_get (D := (dC, dI)) (ci := 8) (v := .int (nI (kt + 1))) (C := RX8) (T := TX8) (N := 2) hx hb hts (fun _ h => List.mem_cons_of_mem _ (List.mem_append_right _ h)) hown hK hP 0 rfl rfl 1 (by decide) (hts (.fieldLink RX8 15 "NotEnded$Tape" "length" "I") (List.mem_cons_of_mem _ (List.mem_append_left _ (List.mem_of_getElem? (i := 0) rfl)))) (fun _ h9 => h9) rfl dX8_append_36 ?_
                refine lv_iload_n hx hb dX8_append_39 rfl (lv_at hl 0 rfl) ?_
                obtain ⟨x_105, ex_105⟩ : ∃ z : Int32, z = (Int32.toUInt32 x_98 % 65536).toInt32 := ⟨_, rfl⟩
                refine lv_i2c (v := x_105) hx hb dX8_append_40 ex_105.symm ?_
                refine va_cast hx hb hK hP hD hS 1 0 rfl rfl (vp_in_nI (n := kt + 1) (N := 120) (by omega) (by omega)) dX8_append_41 (fun H locs hP hD hS => ?_)
                obtain ⟨f_106, ef_106⟩ : ∃ gg9 : Nat → Int32, gg9 = upd f_94 (Int32.toNatClampNeg (nI (kt + 1))) (vp_nar .char x_105) := ⟨_, rfl⟩
                obtain ⟨hP, hD⟩ : kPD dC dI A [(jT, .inr (8, [.ref t0, .int (nI (kt + 1))])), (t0, .inl (cC, 120, .inl f_106))] H := by rw [ef_106]; exact ⟨hP, hD⟩
                refine lv_aload_n hx hb dX8_append_42 rfl (lv_at hl 2 rfl) ?_
                refine lv_dup hx hb dX8_append_43 rfl ?_
                refine va_get (D := (dC, dI)) (ci := 8) (v := .int (nI (kt + 1))) (C := RX8) (T := TX8) (N := 2) hx hb hts (fun _ h => List.mem_cons_of_mem _ (List.mem_append_right _ h)) hown hK hP 0 rfl rfl 1 (by decide) (hts (.fieldLink RX8 15 "NotEnded$Tape" "length" "I") (List.mem_cons_of_mem _ (List.mem_append_left _ (List.mem_of_getElem? (i := 0) rfl)))) (fun _ h9 => h9) rfl dX8_append_44 ?_
                refine lv_iconst (v := 1) hx hb dX8_append_47 (by decide) ?_
                refine lv_iadd hx hb dX8_append_48 ?_
                refine lv_topi (fun y_107 ey_107 => ?_)
                obtain rfl : y_107 = nI (kt + 1 + 1) := ey_107.trans (nI_add (kt + 1) (1))
                refine va_put (D := (dC, dI)) (ci := 8) (v := .int (nI (kt + 1 + 1))) (ty := tyX8 1) (C := RX8) (T := TX8) (N := 2) hx hb hts (fun _ h => List.mem_cons_of_mem _ (List.mem_append_right _ h)) tyX8 tyX8_ok nmX8 hown hK hP hD hS 0 rfl rfl 1 (by decide) (hts (.fieldLink RX8 15 "NotEnded$Tape" "length" "I") (List.mem_cons_of_mem _ (List.mem_append_left _ (List.mem_of_getElem? (i := 0) rfl)))) (fun _ h9 => h9) rfl (tyX8_ok 1 (by decide)) rfl rfl (Nat.le_of_ble_eq_true rfl) dX8_append_49 (fun H locs hP hD hS => ?_)
                obtain ⟨hP, hD⟩ : kPD dC dI A [(jT, .inr (8, [.ref t0, .int (nI (kt + 1 + 1))])), (t0, .inl (cC, 120, .inl f_106))] H := ⟨hP, hD⟩
                refine lv_iinc (v := (-8)) hx hb dX8_append_52 hl (k := 1) rfl (by decide) (by decide) (kTo [(2, .int (-8)), (3, .int x_98), (0, .ref jT), (1, .int p0)]) (fun ls hl => ?_)
                refine lv_goto (tgt := 3) hx hb dX8_append_55 (by decide) ?_
                refine lv_iload_n hx hb dX8_append_3 rfl (lv_at hl 0 rfl) ?_
                refine lv_if_lt (tgt := 58) hx hb dX8_append_4 (by decide) (fun c_108 => ?_) (fun c_108 => absurd (by decide) c_108)
                have hP9 := hP
                have hD9 := hD
                have hK9 := hK
                rw [hQ]
                exact W.vret hx hb hr (fun t ht hW => ⟨⟨(f_106, (kt + 1 + 1)), rfl, ⟨by omega, (kNarU ef_106 (kNarU ef_94 hgT))⟩,  by rw [ht]; exact hP9, va_K.moved hW.alike hK9, hD9⟩, hS.F ht⟩) hS.2.2 dX8_append_58
      · have hn_109 := knle (a := 120) (b := kt) (by omega) (by omega) c_58
        refine lv_aload_n hx hb dX8_append_31 rfl (lv_at hl 2 rfl) ?_
        refine va_get (D := (dC, dI)) (ci := 8) (v := .ref t0) (C := RX8) (T := TX8) (N := 2) hx hb hts (fun _ h => List.mem_cons_of_mem _ (List.mem_append_right _ h)) hown hK hP 0 rfl rfl 0 (by decide) (hts (.fieldLink RX8 9 "NotEnded$Tape" "signs" "[C") (List.mem_cons_of_mem _ (List.mem_append_left _ (List.mem_of_getElem? (i := 1) rfl)))) (fun _ h9 => h9) rfl dX8_append_32 ?_
        refine lv_aload_n hx hb dX8_append_35 rfl (lv_at hl 2 rfl) ?_
        refine va_get (D := (dC, dI)) (ci := 8) (v := .int (nI (kt))) (C := RX8) (T := TX8) (N := 2) hx hb hts (fun _ h => List.mem_cons_of_mem _ (List.mem_append_right _ h)) hown hK hP 0 rfl rfl 1 (by decide) (hts (.fieldLink RX8 15 "NotEnded$Tape" "length" "I") (List.mem_cons_of_mem _ (List.mem_append_left _ (List.mem_of_getElem? (i := 0) rfl)))) (fun _ h9 => h9) rfl dX8_append_36 ?_
        refine lv_iload_n hx hb dX8_append_39 rfl (lv_at hl 0 rfl) ?_
        obtain ⟨x_110, ex_110⟩ : ∃ z : Int32, z = (Int32.toUInt32 x_7 % 65536).toInt32 := ⟨_, rfl⟩
        refine lv_i2c (v := x_110) hx hb dX8_append_40 ex_110.symm ?_
        refine va_cast hx hb hK hP hD hS 1 0 rfl rfl (vp_in_nI (n := kt) (N := 120) (by omega) (by omega)) dX8_append_41 (fun H locs hP hD hS => ?_)
        obtain ⟨f_111, ef_111⟩ : ∃ gg9 : Nat → Int32, gg9 = upd gT (Int32.toNatClampNeg (nI (kt))) (vp_nar .char x_110) := ⟨_, rfl⟩
        obtain ⟨hP, hD⟩ : kPD dC dI A [(jT, .inr (8, [.ref t0, .int (nI (kt))])), (t0, .inl (cC, 120, .inl f_111))] H := by rw [ef_111]; exact ⟨hP, hD⟩
        refine lv_aload_n hx hb dX8_append_42 rfl (lv_at hl 2 rfl) ?_
        refine lv_dup hx hb dX8_append_43 rfl ?_
        refine va_get (D := (dC, dI)) (ci := 8) (v := .int (nI (kt))) (C := RX8) (T := TX8) (N := 2) hx hb hts (fun _ h => List.mem_cons_of_mem _ (List.mem_append_right _ h)) hown hK hP 0 rfl rfl 1 (by decide) (hts (.fieldLink RX8 15 "NotEnded$Tape" "length" "I") (List.mem_cons_of_mem _ (List.mem_append_left _ (List.mem_of_getElem? (i := 0) rfl)))) (fun _ h9 => h9) rfl dX8_append_44 ?_
        refine lv_iconst (v := 1) hx hb dX8_append_47 (by decide) ?_
        refine lv_iadd hx hb dX8_append_48 ?_
        refine lv_topi (fun y_112 ey_112 => ?_)
        obtain rfl : y_112 = nI (kt + 1) := ey_112.trans (nI_add (kt) (1))
        refine va_put (D := (dC, dI)) (ci := 8) (v := .int (nI (kt + 1))) (ty := tyX8 1) (C := RX8) (T := TX8) (N := 2) hx hb hts (fun _ h => List.mem_cons_of_mem _ (List.mem_append_right _ h)) tyX8 tyX8_ok nmX8 hown hK hP hD hS 0 rfl rfl 1 (by decide) (hts (.fieldLink RX8 15 "NotEnded$Tape" "length" "I") (List.mem_cons_of_mem _ (List.mem_append_left _ (List.mem_of_getElem? (i := 0) rfl)))) (fun _ h9 => h9) rfl (tyX8_ok 1 (by decide)) rfl rfl (Nat.le_of_ble_eq_true rfl) dX8_append_49 (fun H locs hP hD hS => ?_)
        obtain ⟨hP, hD⟩ : kPD dC dI A [(jT, .inr (8, [.ref t0, .int (nI (kt + 1))])), (t0, .inl (cC, 120, .inl f_111))] H := ⟨hP, hD⟩
        refine lv_iinc (v := 8) hx hb dX8_append_52 hl (k := 1) rfl (by decide) (by decide) (kTo [(2, .int 8), (3, .int x_7), (0, .ref jT), (1, .int p0)]) (fun ls hl => ?_)
        refine lv_goto (tgt := 3) hx hb dX8_append_55 (by decide) ?_
        refine lv_iload_n hx hb dX8_append_3 rfl (lv_at hl 0 rfl) ?_
        refine lv_if_lt (tgt := 58) hx hb dX8_append_4 (by decide) (fun c_113 => absurd c_113 (by decide)) (fun c_113 => ?_)
        refine lv_iload_n hx hb dX8_append_7 rfl (lv_at hl 3 rfl) ?_
        refine lv_iload_n hx hb dX8_append_8 rfl (lv_at hl 0 rfl) ?_
        obtain ⟨x_114, ex_114⟩ : ∃ z : Int32, z = (Int32.toUInt32 p0 >>> (Int32.toUInt32 8 &&& Int32.toUInt32 31)).toInt32 := ⟨_, rfl⟩
        refine lv_iushr (v := x_114) hx hb dX8_append_9 ex_114.symm ?_
        refine lv_sipush (v := 255) hx hb dX8_append_10 (by decide) ?_
        refine lv_iand hx hb dX8_append_13 ?_
        refine lv_topi (fun x_115 ex_115 => ?_)
        refine lv_istore_n hx hb dX8_append_14 rfl hl (by decide) (kTo [(3, .int x_115), (2, .int 8), (0, .ref jT), (1, .int p0)]) (fun ls hl => ?_)
        refine lv_iload_n hx hb dX8_append_15 rfl (lv_at hl 0 rfl) ?_
        refine lv_if_eq (tgt := 52) hx hb dX8_append_16 (by decide) (fun c_116 => ?_) (fun c_116 => ?_)
        · refine lv_iinc (v := 0) hx hb dX8_append_52 hl (k := 1) rfl (by decide) (by decide) (kTo [(2, .int 0), (3, .int x_115), (0, .ref jT), (1, .int p0)]) (fun ls hl => ?_)
          refine lv_goto (tgt := 3) hx hb dX8_append_55 (by decide) ?_
          refine lv_iload_n hx hb dX8_append_3 rfl (lv_at hl 0 rfl) ?_
          refine lv_if_lt (tgt := 58) hx hb dX8_append_4 (by decide) (fun c_117 => absurd c_117 (by decide)) (fun c_117 => ?_)
          refine lv_iload_n hx hb dX8_append_7 rfl (lv_at hl 3 rfl) ?_
          refine lv_iload_n hx hb dX8_append_8 rfl (lv_at hl 0 rfl) ?_
          obtain ⟨x_118, ex_118⟩ : ∃ z : Int32, z = (Int32.toUInt32 p0 >>> (Int32.toUInt32 0 &&& Int32.toUInt32 31)).toInt32 := ⟨_, rfl⟩
          refine lv_iushr (v := x_118) hx hb dX8_append_9 ex_118.symm ?_
          refine lv_sipush (v := 255) hx hb dX8_append_10 (by decide) ?_
          refine lv_iand hx hb dX8_append_13 ?_
          refine lv_topi (fun x_119 ex_119 => ?_)
          refine lv_istore_n hx hb dX8_append_14 rfl hl (by decide) (kTo [(3, .int x_119), (2, .int 0), (0, .ref jT), (1, .int p0)]) (fun ls hl => ?_)
          refine lv_iload_n hx hb dX8_append_15 rfl (lv_at hl 0 rfl) ?_
          refine lv_if_eq (tgt := 52) hx hb dX8_append_16 (by decide) (fun c_120 => ?_) (fun c_120 => ?_)
          · refine lv_iinc (v := (-8)) hx hb dX8_append_52 hl (k := 1) rfl (by decide) (by decide) (kTo [(2, .int (-8)), (3, .int x_119), (0, .ref jT), (1, .int p0)]) (fun ls hl => ?_)
            refine lv_goto (tgt := 3) hx hb dX8_append_55 (by decide) ?_
            refine lv_iload_n hx hb dX8_append_3 rfl (lv_at hl 0 rfl) ?_
            refine lv_if_lt (tgt := 58) hx hb dX8_append_4 (by decide) (fun c_121 => ?_) (fun c_121 => absurd (by decide) c_121)
            have hP9 := hP
            have hD9 := hD
            have hK9 := hK
            rw [hQ]
            exact W.vret hx hb hr (fun t ht hW => ⟨⟨(f_111, (kt + 1)), rfl, ⟨by omega, (kNarU ef_111 hgT)⟩,  by rw [ht]; exact hP9, va_K.moved hW.alike hK9, hD9⟩, hS.F ht⟩) hS.2.2 dX8_append_58
          · refine lv_aload_n hx hb dX8_append_19 rfl (lv_at hl 2 rfl) ?_
            refine va_get (D := (dC, dI)) (ci := 8) (v := .int (nI (kt + 1))) (C := RX8) (T := TX8) (N := 2) hx hb hts (fun _ h => List.mem_cons_of_mem _ (List.mem_append_right _ h)) hown hK hP 0 rfl rfl 1 (by decide) (hts (.fieldLink RX8 15 "NotEnded$Tape" "length" "I") (List.mem_cons_of_mem _ (List.mem_append_left _ (List.mem_of_getElem? (i := 0) rfl)))) (fun _ h9 => h9) rfl dX8_append_20 ?_
            refine lv_aload_n hx hb dX8_append_23 rfl (lv_at hl 2 rfl) ?_
            refine va_get (D := (dC, dI)) (ci := 8) (v := .ref t0) (C := RX8) (T := TX8) (N := 2) hx hb hts (fun _ h => List.mem_cons_of_mem _ (List.mem_append_right _ h)) hown hK hP 0 rfl rfl 0 (by decide) (hts (.fieldLink RX8 9 "NotEnded$Tape" "signs" "[C") (List.mem_cons_of_mem _ (List.mem_append_left _ (List.mem_of_getElem? (i := 1) rfl)))) (fun _ h9 => h9) rfl dX8_append_24 ?_
            refine va_alen hx hb hK hP 1 0 rfl rfl (v := 120) rfl dX8_append_27 ?_
            refine lv_icmp_ge (tgt := 52) hx hb dX8_append_28 (by decide) (fun c_122 => ?_) (fun c_122 => ?_)
            · have hn_123 := kle (a := 120) (b := kt + 1) (by omega) (by omega) c_122
              refine lv_iinc (v := (-8)) hx hb dX8_append_52 hl (k := 1) rfl (by decide) (by decide) (kTo [(2, .int (-8)), (3, .int x_119), (0, .ref jT), (1, .int p0)]) (fun ls hl => ?_)
              refine lv_goto (tgt := 3) hx hb dX8_append_55 (by decide) ?_
              refine lv_iload_n hx hb dX8_append_3 rfl (lv_at hl 0 rfl) ?_
              refine lv_if_lt (tgt := 58) hx hb dX8_append_4 (by decide) (fun c_124 => ?_) (fun c_124 => absurd (by decide) c_124)
              have hP9 := hP
              have hD9 := hD
              have hK9 := hK
              rw [hQ]
              exact W.vret hx hb hr (fun t ht hW => ⟨⟨(f_111, (kt + 1)), rfl, ⟨by omega, (kNarU ef_111 hgT)⟩,  by rw [ht]; exact hP9, va_K.moved hW.alike hK9, hD9⟩, hS.F ht⟩) hS.2.2 dX8_append_58
            · have hn_125 := knle (a := 120) (b := kt + 1) (by omega) (by omega) c_122
              refine lv_aload_n hx hb dX8_append_31 rfl (lv_at hl 2 rfl) ?_
              refine va_get (D := (dC, dI)) (ci := 8) (v := .ref t0) (C := RX8) (T := TX8) (N := 2) hx hb hts (fun _ h => List.mem_cons_of_mem _ (List.mem_append_right _ h)) hown hK hP 0 rfl rfl 0 (by decide) (hts (.fieldLink RX8 9 "NotEnded$Tape" "signs" "[C") (List.mem_cons_of_mem _ (List.mem_append_left _ (List.mem_of_getElem? (i := 1) rfl)))) (fun _ h9 => h9) rfl dX8_append_32 ?_
              refine lv_aload_n hx hb dX8_append_35 rfl (lv_at hl 2 rfl) ?_
              refine va_get (D := (dC, dI)) (ci := 8) (v := .int (nI (kt + 1))) (C := RX8) (T := TX8) (N := 2) hx hb hts (fun _ h => List.mem_cons_of_mem _ (List.mem_append_right _ h)) hown hK hP 0 rfl rfl 1 (by decide) (hts (.fieldLink RX8 15 "NotEnded$Tape" "length" "I") (List.mem_cons_of_mem _ (List.mem_append_left _ (List.mem_of_getElem? (i := 0) rfl)))) (fun _ h9 => h9) rfl dX8_append_36 ?_
              refine lv_iload_n hx hb dX8_append_39 rfl (lv_at hl 0 rfl) ?_
              obtain ⟨x_126, ex_126⟩ : ∃ z : Int32, z = (Int32.toUInt32 x_119 % 65536).toInt32 := ⟨_, rfl⟩
              refine lv_i2c (v := x_126) hx hb dX8_append_40 ex_126.symm ?_
              refine va_cast hx hb hK hP hD hS 1 0 rfl rfl (vp_in_nI (n := kt + 1) (N := 120) (by omega) (by omega)) dX8_append_41 (fun H locs hP hD hS => ?_)
              obtain ⟨f_127, ef_127⟩ : ∃ gg9 : Nat → Int32, gg9 = upd f_111 (Int32.toNatClampNeg (nI (kt + 1))) (vp_nar .char x_126) := ⟨_, rfl⟩
              obtain ⟨hP, hD⟩ : kPD dC dI A [(jT, .inr (8, [.ref t0, .int (nI (kt + 1))])), (t0, .inl (cC, 120, .inl f_127))] H := by rw [ef_127]; exact ⟨hP, hD⟩
              refine lv_aload_n hx hb dX8_append_42 rfl (lv_at hl 2 rfl) ?_
              refine lv_dup hx hb dX8_append_43 rfl ?_
              refine va_get (D := (dC, dI)) (ci := 8) (v := .int (nI (kt + 1))) (C := RX8) (T := TX8) (N := 2) hx hb hts (fun _ h => List.mem_cons_of_mem _ (List.mem_append_right _ h)) hown hK hP 0 rfl rfl 1 (by decide) (hts (.fieldLink RX8 15 "NotEnded$Tape" "length" "I") (List.mem_cons_of_mem _ (List.mem_append_left _ (List.mem_of_getElem? (i := 0) rfl)))) (fun _ h9 => h9) rfl dX8_append_44 ?_
              refine lv_iconst (v := 1) hx hb dX8_append_47 (by decide) ?_
              refine lv_iadd hx hb dX8_append_48 ?_
              refine lv_topi (fun y_128 ey_128 => ?_)
              obtain rfl : y_128 = nI (kt + 1 + 1) := ey_128.trans (nI_add (kt + 1) (1))
              refine va_put (D := (dC, dI)) (ci := 8) (v := .int (nI (kt + 1 + 1))) (ty := tyX8 1) (C := RX8) (T := TX8) (N := 2) hx hb hts (fun _ h => List.mem_cons_of_mem _ (List.mem_append_right _ h)) tyX8 tyX8_ok nmX8 hown hK hP hD hS 0 rfl rfl 1 (by decide) (hts (.fieldLink RX8 15 "NotEnded$Tape" "length" "I") (List.mem_cons_of_mem _ (List.mem_append_left _ (List.mem_of_getElem? (i := 0) rfl)))) (fun _ h9 => h9) rfl (tyX8_ok 1 (by decide)) rfl rfl (Nat.le_of_ble_eq_true rfl) dX8_append_49 (fun H locs hP hD hS => ?_)
              obtain ⟨hP, hD⟩ : kPD dC dI A [(jT, .inr (8, [.ref t0, .int (nI (kt + 1 + 1))])), (t0, .inl (cC, 120, .inl f_127))] H := ⟨hP, hD⟩
              refine lv_iinc (v := (-8)) hx hb dX8_append_52 hl (k := 1) rfl (by decide) (by decide) (kTo [(2, .int (-8)), (3, .int x_119), (0, .ref jT), (1, .int p0)]) (fun ls hl => ?_)
              refine lv_goto (tgt := 3) hx hb dX8_append_55 (by decide) ?_
              refine lv_iload_n hx hb dX8_append_3 rfl (lv_at hl 0 rfl) ?_
              refine lv_if_lt (tgt := 58) hx hb dX8_append_4 (by decide) (fun c_129 => ?_) (fun c_129 => absurd (by decide) c_129)
              have hP9 := hP
              have hD9 := hD
              have hK9 := hK
              rw [hQ]
              exact W.vret hx hb hr (fun t ht hW => ⟨⟨(f_127, (kt + 1 + 1)), rfl, ⟨by omega, (kNarU ef_127 (kNarU ef_111 hgT))⟩,  by rw [ht]; exact hP9, va_K.moved hW.alike hK9, hD9⟩, hS.F ht⟩) hS.2.2 dX8_append_58
        · refine lv_aload_n hx hb dX8_append_19 rfl (lv_at hl 2 rfl) ?_
          refine va_get (D := (dC, dI)) (ci := 8) (v := .int (nI (kt + 1))) (C := RX8) (T := TX8) (N := 2) hx hb hts (fun _ h => List.mem_cons_of_mem _ (List.mem_append_right _ h)) hown hK hP 0 rfl rfl 1 (by decide) (hts (.fieldLink RX8 15 "NotEnded$Tape" "length" "I") (List.mem_cons_of_mem _ (List.mem_append_left _ (List.mem_of_getElem? (i := 0) rfl)))) (fun _ h9 => h9) rfl dX8_append_20 ?_
          refine lv_aload_n hx hb dX8_append_23 rfl (lv_at hl 2 rfl) ?_
          refine va_get (D := (dC, dI)) (ci := 8) (v := .ref t0) (C := RX8) (T := TX8) (N := 2) hx hb hts (fun _ h => List.mem_cons_of_mem _ (List.mem_append_right _ h)) hown hK hP 0 rfl rfl 0 (by decide) (hts (.fieldLink RX8 9 "NotEnded$Tape" "signs" "[C") (List.mem_cons_of_mem _ (List.mem_append_left _ (List.mem_of_getElem? (i := 1) rfl)))) (fun _ h9 => h9) rfl dX8_append_24 ?_
          refine va_alen hx hb hK hP 1 0 rfl rfl (v := 120) rfl dX8_append_27 ?_
          refine lv_icmp_ge (tgt := 52) hx hb dX8_append_28 (by decide) (fun c_130 => ?_) (fun c_130 => ?_)
          · have hn_131 := kle (a := 120) (b := kt + 1) (by omega) (by omega) c_130
            refine lv_iinc (v := 0) hx hb dX8_append_52 hl (k := 1) rfl (by decide) (by decide) (kTo [(2, .int 0), (3, .int x_115), (0, .ref jT), (1, .int p0)]) (fun ls hl => ?_)
            refine lv_goto (tgt := 3) hx hb dX8_append_55 (by decide) ?_
            refine lv_iload_n hx hb dX8_append_3 rfl (lv_at hl 0 rfl) ?_
            refine lv_if_lt (tgt := 58) hx hb dX8_append_4 (by decide) (fun c_132 => absurd c_132 (by decide)) (fun c_132 => ?_)
            refine lv_iload_n hx hb dX8_append_7 rfl (lv_at hl 3 rfl) ?_
            refine lv_iload_n hx hb dX8_append_8 rfl (lv_at hl 0 rfl) ?_
            obtain ⟨x_133, ex_133⟩ : ∃ z : Int32, z = (Int32.toUInt32 p0 >>> (Int32.toUInt32 0 &&& Int32.toUInt32 31)).toInt32 := ⟨_, rfl⟩
            refine lv_iushr (v := x_133) hx hb dX8_append_9 ex_133.symm ?_
            refine lv_sipush (v := 255) hx hb dX8_append_10 (by decide) ?_
            refine lv_iand hx hb dX8_append_13 ?_
            refine lv_topi (fun x_134 ex_134 => ?_)
            refine lv_istore_n hx hb dX8_append_14 rfl hl (by decide) (kTo [(3, .int x_134), (2, .int 0), (0, .ref jT), (1, .int p0)]) (fun ls hl => ?_)
            refine lv_iload_n hx hb dX8_append_15 rfl (lv_at hl 0 rfl) ?_
            refine lv_if_eq (tgt := 52) hx hb dX8_append_16 (by decide) (fun c_135 => ?_) (fun c_135 => ?_)
            · refine lv_iinc (v := (-8)) hx hb dX8_append_52 hl (k := 1) rfl (by decide) (by decide) (kTo [(2, .int (-8)), (3, .int x_134), (0, .ref jT), (1, .int p0)]) (fun ls hl => ?_)
              refine lv_goto (tgt := 3) hx hb dX8_append_55 (by decide) ?_
              refine lv_iload_n hx hb dX8_append_3 rfl (lv_at hl 0 rfl) ?_
              refine lv_if_lt (tgt := 58) hx hb dX8_append_4 (by decide) (fun c_136 => ?_) (fun c_136 => absurd (by decide) c_136)
              have hP9 := hP
              have hD9 := hD
              have hK9 := hK
              rw [hQ]
              exact W.vret hx hb hr (fun t ht hW => ⟨⟨(f_111, (kt + 1)), rfl, ⟨by omega, (kNarU ef_111 hgT)⟩,  by rw [ht]; exact hP9, va_K.moved hW.alike hK9, hD9⟩, hS.F ht⟩) hS.2.2 dX8_append_58
            · refine lv_aload_n hx hb dX8_append_19 rfl (lv_at hl 2 rfl) ?_
              refine va_get (D := (dC, dI)) (ci := 8) (v := .int (nI (kt + 1))) (C := RX8) (T := TX8) (N := 2) hx hb hts (fun _ h => List.mem_cons_of_mem _ (List.mem_append_right _ h)) hown hK hP 0 rfl rfl 1 (by decide) (hts (.fieldLink RX8 15 "NotEnded$Tape" "length" "I") (List.mem_cons_of_mem _ (List.mem_append_left _ (List.mem_of_getElem? (i := 0) rfl)))) (fun _ h9 => h9) rfl dX8_append_20 ?_
              refine lv_aload_n hx hb dX8_append_23 rfl (lv_at hl 2 rfl) ?_
              refine va_get (D := (dC, dI)) (ci := 8) (v := .ref t0) (C := RX8) (T := TX8) (N := 2) hx hb hts (fun _ h => List.mem_cons_of_mem _ (List.mem_append_right _ h)) hown hK hP 0 rfl rfl 0 (by decide) (hts (.fieldLink RX8 9 "NotEnded$Tape" "signs" "[C") (List.mem_cons_of_mem _ (List.mem_append_left _ (List.mem_of_getElem? (i := 1) rfl)))) (fun _ h9 => h9) rfl dX8_append_24 ?_
              refine va_alen hx hb hK hP 1 0 rfl rfl (v := 120) rfl dX8_append_27 ?_
              refine lv_icmp_ge (tgt := 52) hx hb dX8_append_28 (by decide) (fun c_137 => ?_) (fun c_137 => ?_)
              · have hn_138 := kle (a := 120) (b := kt + 1) (by omega) (by omega) c_137
                refine lv_iinc (v := (-8)) hx hb dX8_append_52 hl (k := 1) rfl (by decide) (by decide) (kTo [(2, .int (-8)), (3, .int x_134), (0, .ref jT), (1, .int p0)]) (fun ls hl => ?_)
                refine lv_goto (tgt := 3) hx hb dX8_append_55 (by decide) ?_
                refine lv_iload_n hx hb dX8_append_3 rfl (lv_at hl 0 rfl) ?_
                refine lv_if_lt (tgt := 58) hx hb dX8_append_4 (by decide) (fun c_139 => ?_) (fun c_139 => absurd (by decide) c_139)
                have hP9 := hP
                have hD9 := hD
                have hK9 := hK
                rw [hQ]
                exact W.vret hx hb hr (fun t ht hW => ⟨⟨(f_111, (kt + 1)), rfl, ⟨by omega, (kNarU ef_111 hgT)⟩,  by rw [ht]; exact hP9, va_K.moved hW.alike hK9, hD9⟩, hS.F ht⟩) hS.2.2 dX8_append_58
              · have hn_140 := knle (a := 120) (b := kt + 1) (by omega) (by omega) c_137
                refine lv_aload_n hx hb dX8_append_31 rfl (lv_at hl 2 rfl) ?_
                refine va_get (D := (dC, dI)) (ci := 8) (v := .ref t0) (C := RX8) (T := TX8) (N := 2) hx hb hts (fun _ h => List.mem_cons_of_mem _ (List.mem_append_right _ h)) hown hK hP 0 rfl rfl 0 (by decide) (hts (.fieldLink RX8 9 "NotEnded$Tape" "signs" "[C") (List.mem_cons_of_mem _ (List.mem_append_left _ (List.mem_of_getElem? (i := 1) rfl)))) (fun _ h9 => h9) rfl dX8_append_32 ?_
                refine lv_aload_n hx hb dX8_append_35 rfl (lv_at hl 2 rfl) ?_
                refine va_get (D := (dC, dI)) (ci := 8) (v := .int (nI (kt + 1))) (C := RX8) (T := TX8) (N := 2) hx hb hts (fun _ h => List.mem_cons_of_mem _ (List.mem_append_right _ h)) hown hK hP 0 rfl rfl 1 (by decide) (hts (.fieldLink RX8 15 "NotEnded$Tape" "length" "I") (List.mem_cons_of_mem _ (List.mem_append_left _ (List.mem_of_getElem? (i := 0) rfl)))) (fun _ h9 => h9) rfl dX8_append_36 ?_
                refine lv_iload_n hx hb dX8_append_39 rfl (lv_at hl 0 rfl) ?_
                obtain ⟨x_141, ex_141⟩ : ∃ z : Int32, z = (Int32.toUInt32 x_134 % 65536).toInt32 := ⟨_, rfl⟩
                refine lv_i2c (v := x_141) hx hb dX8_append_40 ex_141.symm ?_
                refine va_cast hx hb hK hP hD hS 1 0 rfl rfl (vp_in_nI (n := kt + 1) (N := 120) (by omega) (by omega)) dX8_append_41 (fun H locs hP hD hS => ?_)
                obtain ⟨f_142, ef_142⟩ : ∃ gg9 : Nat → Int32, gg9 = upd f_111 (Int32.toNatClampNeg (nI (kt + 1))) (vp_nar .char x_141) := ⟨_, rfl⟩
                obtain ⟨hP, hD⟩ : kPD dC dI A [(jT, .inr (8, [.ref t0, .int (nI (kt + 1))])), (t0, .inl (cC, 120, .inl f_142))] H := by rw [ef_142]; exact ⟨hP, hD⟩
                refine lv_aload_n hx hb dX8_append_42 rfl (lv_at hl 2 rfl) ?_
                refine lv_dup hx hb dX8_append_43 rfl ?_
                refine va_get (D := (dC, dI)) (ci := 8) (v := .int (nI (kt + 1))) (C := RX8) (T := TX8) (N := 2) hx hb hts (fun _ h => List.mem_cons_of_mem _ (List.mem_append_right _ h)) hown hK hP 0 rfl rfl 1 (by decide) (hts (.fieldLink RX8 15 "NotEnded$Tape" "length" "I") (List.mem_cons_of_mem _ (List.mem_append_left _ (List.mem_of_getElem? (i := 0) rfl)))) (fun _ h9 => h9) rfl dX8_append_44 ?_
                refine lv_iconst (v := 1) hx hb dX8_append_47 (by decide) ?_
                refine lv_iadd hx hb dX8_append_48 ?_
                refine lv_topi (fun y_143 ey_143 => ?_)
                obtain rfl : y_143 = nI (kt + 1 + 1) := ey_143.trans (nI_add (kt + 1) (1))
                refine va_put (D := (dC, dI)) (ci := 8) (v := .int (nI (kt + 1 + 1))) (ty := tyX8 1) (C := RX8) (T := TX8) (N := 2) hx hb hts (fun _ h => List.mem_cons_of_mem _ (List.mem_append_right _ h)) tyX8 tyX8_ok nmX8 hown hK hP hD hS 0 rfl rfl 1 (by decide) (hts (.fieldLink RX8 15 "NotEnded$Tape" "length" "I") (List.mem_cons_of_mem _ (List.mem_append_left _ (List.mem_of_getElem? (i := 0) rfl)))) (fun _ h9 => h9) rfl (tyX8_ok 1 (by decide)) rfl rfl (Nat.le_of_ble_eq_true rfl) dX8_append_49 (fun H locs hP hD hS => ?_)
                obtain ⟨hP, hD⟩ : kPD dC dI A [(jT, .inr (8, [.ref t0, .int (nI (kt + 1 + 1))])), (t0, .inl (cC, 120, .inl f_142))] H := ⟨hP, hD⟩
                refine lv_iinc (v := (-8)) hx hb dX8_append_52 hl (k := 1) rfl (by decide) (by decide) (kTo [(2, .int (-8)), (3, .int x_134), (0, .ref jT), (1, .int p0)]) (fun ls hl => ?_)
                refine lv_goto (tgt := 3) hx hb dX8_append_55 (by decide) ?_
                refine lv_iload_n hx hb dX8_append_3 rfl (lv_at hl 0 rfl) ?_
                refine lv_if_lt (tgt := 58) hx hb dX8_append_4 (by decide) (fun c_144 => ?_) (fun c_144 => absurd (by decide) c_144)
                have hP9 := hP
                have hD9 := hD
                have hK9 := hK
                rw [hQ]
                exact W.vret hx hb hr (fun t ht hW => ⟨⟨(f_142, (kt + 1 + 1)), rfl, ⟨by omega, (kNarU ef_142 (kNarU ef_111 hgT))⟩,  by rw [ht]; exact hP9, va_K.moved hW.alike hK9, hD9⟩, hS.F ht⟩) hS.2.2 dX8_append_58
          · have hn_145 := knle (a := 120) (b := kt + 1) (by omega) (by omega) c_130
            refine lv_aload_n hx hb dX8_append_31 rfl (lv_at hl 2 rfl) ?_
            refine va_get (D := (dC, dI)) (ci := 8) (v := .ref t0) (C := RX8) (T := TX8) (N := 2) hx hb hts (fun _ h => List.mem_cons_of_mem _ (List.mem_append_right _ h)) hown hK hP 0 rfl rfl 0 (by decide) (hts (.fieldLink RX8 9 "NotEnded$Tape" "signs" "[C") (List.mem_cons_of_mem _ (List.mem_append_left _ (List.mem_of_getElem? (i := 1) rfl)))) (fun _ h9 => h9) rfl dX8_append_32 ?_
            refine lv_aload_n hx hb dX8_append_35 rfl (lv_at hl 2 rfl) ?_
            refine va_get (D := (dC, dI)) (ci := 8) (v := .int (nI (kt + 1))) (C := RX8) (T := TX8) (N := 2) hx hb hts (fun _ h => List.mem_cons_of_mem _ (List.mem_append_right _ h)) hown hK hP 0 rfl rfl 1 (by decide) (hts (.fieldLink RX8 15 "NotEnded$Tape" "length" "I") (List.mem_cons_of_mem _ (List.mem_append_left _ (List.mem_of_getElem? (i := 0) rfl)))) (fun _ h9 => h9) rfl dX8_append_36 ?_
            refine lv_iload_n hx hb dX8_append_39 rfl (lv_at hl 0 rfl) ?_
            obtain ⟨x_146, ex_146⟩ : ∃ z : Int32, z = (Int32.toUInt32 x_115 % 65536).toInt32 := ⟨_, rfl⟩
            refine lv_i2c (v := x_146) hx hb dX8_append_40 ex_146.symm ?_
            refine va_cast hx hb hK hP hD hS 1 0 rfl rfl (vp_in_nI (n := kt + 1) (N := 120) (by omega) (by omega)) dX8_append_41 (fun H locs hP hD hS => ?_)
            obtain ⟨f_147, ef_147⟩ : ∃ gg9 : Nat → Int32, gg9 = upd f_111 (Int32.toNatClampNeg (nI (kt + 1))) (vp_nar .char x_146) := ⟨_, rfl⟩
            obtain ⟨hP, hD⟩ : kPD dC dI A [(jT, .inr (8, [.ref t0, .int (nI (kt + 1))])), (t0, .inl (cC, 120, .inl f_147))] H := by rw [ef_147]; exact ⟨hP, hD⟩
            refine lv_aload_n hx hb dX8_append_42 rfl (lv_at hl 2 rfl) ?_
            refine lv_dup hx hb dX8_append_43 rfl ?_
            refine va_get (D := (dC, dI)) (ci := 8) (v := .int (nI (kt + 1))) (C := RX8) (T := TX8) (N := 2) hx hb hts (fun _ h => List.mem_cons_of_mem _ (List.mem_append_right _ h)) hown hK hP 0 rfl rfl 1 (by decide) (hts (.fieldLink RX8 15 "NotEnded$Tape" "length" "I") (List.mem_cons_of_mem _ (List.mem_append_left _ (List.mem_of_getElem? (i := 0) rfl)))) (fun _ h9 => h9) rfl dX8_append_44 ?_
            refine lv_iconst (v := 1) hx hb dX8_append_47 (by decide) ?_
            refine lv_iadd hx hb dX8_append_48 ?_
            refine lv_topi (fun y_148 ey_148 => ?_)
            obtain rfl : y_148 = nI (kt + 1 + 1) := ey_148.trans (nI_add (kt + 1) (1))
            refine va_put (D := (dC, dI)) (ci := 8) (v := .int (nI (kt + 1 + 1))) (ty := tyX8 1) (C := RX8) (T := TX8) (N := 2) hx hb hts (fun _ h => List.mem_cons_of_mem _ (List.mem_append_right _ h)) tyX8 tyX8_ok nmX8 hown hK hP hD hS 0 rfl rfl 1 (by decide) (hts (.fieldLink RX8 15 "NotEnded$Tape" "length" "I") (List.mem_cons_of_mem _ (List.mem_append_left _ (List.mem_of_getElem? (i := 0) rfl)))) (fun _ h9 => h9) rfl (tyX8_ok 1 (by decide)) rfl rfl (Nat.le_of_ble_eq_true rfl) dX8_append_49 (fun H locs hP hD hS => ?_)
            obtain ⟨hP, hD⟩ : kPD dC dI A [(jT, .inr (8, [.ref t0, .int (nI (kt + 1 + 1))])), (t0, .inl (cC, 120, .inl f_147))] H := ⟨hP, hD⟩
            refine lv_iinc (v := 0) hx hb dX8_append_52 hl (k := 1) rfl (by decide) (by decide) (kTo [(2, .int 0), (3, .int x_115), (0, .ref jT), (1, .int p0)]) (fun ls hl => ?_)
            refine lv_goto (tgt := 3) hx hb dX8_append_55 (by decide) ?_
            refine lv_iload_n hx hb dX8_append_3 rfl (lv_at hl 0 rfl) ?_
            refine lv_if_lt (tgt := 58) hx hb dX8_append_4 (by decide) (fun c_149 => absurd c_149 (by decide)) (fun c_149 => ?_)
            refine lv_iload_n hx hb dX8_append_7 rfl (lv_at hl 3 rfl) ?_
            refine lv_iload_n hx hb dX8_append_8 rfl (lv_at hl 0 rfl) ?_
            obtain ⟨x_150, ex_150⟩ : ∃ z : Int32, z = (Int32.toUInt32 p0 >>> (Int32.toUInt32 0 &&& Int32.toUInt32 31)).toInt32 := ⟨_, rfl⟩
            refine lv_iushr (v := x_150) hx hb dX8_append_9 ex_150.symm ?_
            refine lv_sipush (v := 255) hx hb dX8_append_10 (by decide) ?_
            refine lv_iand hx hb dX8_append_13 ?_
            refine lv_topi (fun x_151 ex_151 => ?_)
            refine lv_istore_n hx hb dX8_append_14 rfl hl (by decide) (kTo [(3, .int x_151), (2, .int 0), (0, .ref jT), (1, .int p0)]) (fun ls hl => ?_)
            refine lv_iload_n hx hb dX8_append_15 rfl (lv_at hl 0 rfl) ?_
            refine lv_if_eq (tgt := 52) hx hb dX8_append_16 (by decide) (fun c_152 => ?_) (fun c_152 => ?_)
            · refine lv_iinc (v := (-8)) hx hb dX8_append_52 hl (k := 1) rfl (by decide) (by decide) (kTo [(2, .int (-8)), (3, .int x_151), (0, .ref jT), (1, .int p0)]) (fun ls hl => ?_)
              refine lv_goto (tgt := 3) hx hb dX8_append_55 (by decide) ?_
              refine lv_iload_n hx hb dX8_append_3 rfl (lv_at hl 0 rfl) ?_
              refine lv_if_lt (tgt := 58) hx hb dX8_append_4 (by decide) (fun c_153 => ?_) (fun c_153 => absurd (by decide) c_153)
              have hP9 := hP
              have hD9 := hD
              have hK9 := hK
              rw [hQ]
              exact W.vret hx hb hr (fun t ht hW => ⟨⟨(f_147, (kt + 1 + 1)), rfl, ⟨by omega, (kNarU ef_147 (kNarU ef_111 hgT))⟩,  by rw [ht]; exact hP9, va_K.moved hW.alike hK9, hD9⟩, hS.F ht⟩) hS.2.2 dX8_append_58
            · refine lv_aload_n hx hb dX8_append_19 rfl (lv_at hl 2 rfl) ?_
              refine va_get (D := (dC, dI)) (ci := 8) (v := .int (nI (kt + 1 + 1))) (C := RX8) (T := TX8) (N := 2) hx hb hts (fun _ h => List.mem_cons_of_mem _ (List.mem_append_right _ h)) hown hK hP 0 rfl rfl 1 (by decide) (hts (.fieldLink RX8 15 "NotEnded$Tape" "length" "I") (List.mem_cons_of_mem _ (List.mem_append_left _ (List.mem_of_getElem? (i := 0) rfl)))) (fun _ h9 => h9) rfl dX8_append_20 ?_
              refine lv_aload_n hx hb dX8_append_23 rfl (lv_at hl 2 rfl) ?_
              refine va_get (D := (dC, dI)) (ci := 8) (v := .ref t0) (C := RX8) (T := TX8) (N := 2) hx hb hts (fun _ h => List.mem_cons_of_mem _ (List.mem_append_right _ h)) hown hK hP 0 rfl rfl 0 (by decide) (hts (.fieldLink RX8 9 "NotEnded$Tape" "signs" "[C") (List.mem_cons_of_mem _ (List.mem_append_left _ (List.mem_of_getElem? (i := 1) rfl)))) (fun _ h9 => h9) rfl dX8_append_24 ?_
              refine va_alen hx hb hK hP 1 0 rfl rfl (v := 120) rfl dX8_append_27 ?_
              refine lv_icmp_ge (tgt := 52) hx hb dX8_append_28 (by decide) (fun c_154 => ?_) (fun c_154 => ?_)
              · have hn_155 := kle (a := 120) (b := kt + 1 + 1) (by omega) (by omega) c_154
                refine lv_iinc (v := (-8)) hx hb dX8_append_52 hl (k := 1) rfl (by decide) (by decide) (kTo [(2, .int (-8)), (3, .int x_151), (0, .ref jT), (1, .int p0)]) (fun ls hl => ?_)
                refine lv_goto (tgt := 3) hx hb dX8_append_55 (by decide) ?_
                refine lv_iload_n hx hb dX8_append_3 rfl (lv_at hl 0 rfl) ?_
                refine lv_if_lt (tgt := 58) hx hb dX8_append_4 (by decide) (fun c_156 => ?_) (fun c_156 => absurd (by decide) c_156)
                have hP9 := hP
                have hD9 := hD
                have hK9 := hK
                rw [hQ]
                exact W.vret hx hb hr (fun t ht hW => ⟨⟨(f_147, (kt + 1 + 1)), rfl, ⟨by omega, (kNarU ef_147 (kNarU ef_111 hgT))⟩,  by rw [ht]; exact hP9, va_K.moved hW.alike hK9, hD9⟩, hS.F ht⟩) hS.2.2 dX8_append_58
              · have hn_157 := knle (a := 120) (b := kt + 1 + 1) (by omega) (by omega) c_154
                refine lv_aload_n hx hb dX8_append_31 rfl (lv_at hl 2 rfl) ?_
                refine va_get (D := (dC, dI)) (ci := 8) (v := .ref t0) (C := RX8) (T := TX8) (N := 2) hx hb hts (fun _ h => List.mem_cons_of_mem _ (List.mem_append_right _ h)) hown hK hP 0 rfl rfl 0 (by decide) (hts (.fieldLink RX8 9 "NotEnded$Tape" "signs" "[C") (List.mem_cons_of_mem _ (List.mem_append_left _ (List.mem_of_getElem? (i := 1) rfl)))) (fun _ h9 => h9) rfl dX8_append_32 ?_
                refine lv_aload_n hx hb dX8_append_35 rfl (lv_at hl 2 rfl) ?_
                refine va_get (D := (dC, dI)) (ci := 8) (v := .int (nI (kt + 1 + 1))) (C := RX8) (T := TX8) (N := 2) hx hb hts (fun _ h => List.mem_cons_of_mem _ (List.mem_append_right _ h)) hown hK hP 0 rfl rfl 1 (by decide) (hts (.fieldLink RX8 15 "NotEnded$Tape" "length" "I") (List.mem_cons_of_mem _ (List.mem_append_left _ (List.mem_of_getElem? (i := 0) rfl)))) (fun _ h9 => h9) rfl dX8_append_36 ?_
                refine lv_iload_n hx hb dX8_append_39 rfl (lv_at hl 0 rfl) ?_
                obtain ⟨x_158, ex_158⟩ : ∃ z : Int32, z = (Int32.toUInt32 x_151 % 65536).toInt32 := ⟨_, rfl⟩
                refine lv_i2c (v := x_158) hx hb dX8_append_40 ex_158.symm ?_
                refine va_cast hx hb hK hP hD hS 1 0 rfl rfl (vp_in_nI (n := kt + 1 + 1) (N := 120) (by omega) (by omega)) dX8_append_41 (fun H locs hP hD hS => ?_)
                obtain ⟨f_159, ef_159⟩ : ∃ gg9 : Nat → Int32, gg9 = upd f_147 (Int32.toNatClampNeg (nI (kt + 1 + 1))) (vp_nar .char x_158) := ⟨_, rfl⟩
                obtain ⟨hP, hD⟩ : kPD dC dI A [(jT, .inr (8, [.ref t0, .int (nI (kt + 1 + 1))])), (t0, .inl (cC, 120, .inl f_159))] H := by rw [ef_159]; exact ⟨hP, hD⟩
                refine lv_aload_n hx hb dX8_append_42 rfl (lv_at hl 2 rfl) ?_
                refine lv_dup hx hb dX8_append_43 rfl ?_
                refine va_get (D := (dC, dI)) (ci := 8) (v := .int (nI (kt + 1 + 1))) (C := RX8) (T := TX8) (N := 2) hx hb hts (fun _ h => List.mem_cons_of_mem _ (List.mem_append_right _ h)) hown hK hP 0 rfl rfl 1 (by decide) (hts (.fieldLink RX8 15 "NotEnded$Tape" "length" "I") (List.mem_cons_of_mem _ (List.mem_append_left _ (List.mem_of_getElem? (i := 0) rfl)))) (fun _ h9 => h9) rfl dX8_append_44 ?_
                refine lv_iconst (v := 1) hx hb dX8_append_47 (by decide) ?_
                refine lv_iadd hx hb dX8_append_48 ?_
                refine lv_topi (fun y_160 ey_160 => ?_)
                obtain rfl : y_160 = nI (kt + 1 + 1 + 1) := ey_160.trans (nI_add (kt + 1 + 1) (1))
                refine va_put (D := (dC, dI)) (ci := 8) (v := .int (nI (kt + 1 + 1 + 1))) (ty := tyX8 1) (C := RX8) (T := TX8) (N := 2) hx hb hts (fun _ h => List.mem_cons_of_mem _ (List.mem_append_right _ h)) tyX8 tyX8_ok nmX8 hown hK hP hD hS 0 rfl rfl 1 (by decide) (hts (.fieldLink RX8 15 "NotEnded$Tape" "length" "I") (List.mem_cons_of_mem _ (List.mem_append_left _ (List.mem_of_getElem? (i := 0) rfl)))) (fun _ h9 => h9) rfl (tyX8_ok 1 (by decide)) rfl rfl (Nat.le_of_ble_eq_true rfl) dX8_append_49 (fun H locs hP hD hS => ?_)
                obtain ⟨hP, hD⟩ : kPD dC dI A [(jT, .inr (8, [.ref t0, .int (nI (kt + 1 + 1 + 1))])), (t0, .inl (cC, 120, .inl f_159))] H := ⟨hP, hD⟩
                refine lv_iinc (v := (-8)) hx hb dX8_append_52 hl (k := 1) rfl (by decide) (by decide) (kTo [(2, .int (-8)), (3, .int x_151), (0, .ref jT), (1, .int p0)]) (fun ls hl => ?_)
                refine lv_goto (tgt := 3) hx hb dX8_append_55 (by decide) ?_
                refine lv_iload_n hx hb dX8_append_3 rfl (lv_at hl 0 rfl) ?_
                refine lv_if_lt (tgt := 58) hx hb dX8_append_4 (by decide) (fun c_161 => ?_) (fun c_161 => absurd (by decide) c_161)
                have hP9 := hP
                have hD9 := hD
                have hK9 := hK
                rw [hQ]
                exact W.vret hx hb hr (fun t ht hW => ⟨⟨(f_159, (kt + 1 + 1 + 1)), rfl, ⟨by omega, (kNarU ef_159 (kNarU ef_147 (kNarU ef_111 hgT)))⟩,  by rw [ht]; exact hP9, va_K.moved hW.alike hK9, hD9⟩, hS.F ht⟩) hS.2.2 dX8_append_58
  · refine lv_aload_n hx hb dX8_append_19 rfl (lv_at hl 2 rfl) ?_
    refine va_get (D := (dC, dI)) (ci := 8) (v := .int (nI (kt))) (C := RX8) (T := TX8) (N := 2) hx hb hts (fun _ h => List.mem_cons_of_mem _ (List.mem_append_right _ h)) hown hK hP 0 rfl rfl 1 (by decide) (hts (.fieldLink RX8 15 "NotEnded$Tape" "length" "I") (List.mem_cons_of_mem _ (List.mem_append_left _ (List.mem_of_getElem? (i := 0) rfl)))) (fun _ h9 => h9) rfl dX8_append_20 ?_
    refine lv_aload_n hx hb dX8_append_23 rfl (lv_at hl 2 rfl) ?_
    refine va_get (D := (dC, dI)) (ci := 8) (v := .ref t0) (C := RX8) (T := TX8) (N := 2) hx hb hts (fun _ h => List.mem_cons_of_mem _ (List.mem_append_right _ h)) hown hK hP 0 rfl rfl 0 (by decide) (hts (.fieldLink RX8 9 "NotEnded$Tape" "signs" "[C") (List.mem_cons_of_mem _ (List.mem_append_left _ (List.mem_of_getElem? (i := 1) rfl)))) (fun _ h9 => h9) rfl dX8_append_24 ?_
    refine va_alen hx hb hK hP 1 0 rfl rfl (v := 120) rfl dX8_append_27 ?_
    refine lv_icmp_ge (tgt := 52) hx hb dX8_append_28 (by decide) (fun c_162 => ?_) (fun c_162 => ?_)
    · have hn_163 := kle (a := 120) (b := kt) (by omega) (by omega) c_162
      refine lv_iinc (v := 16) hx hb dX8_append_52 hl (k := 1) rfl (by decide) (by decide) (kTo [(2, .int 16), (3, .int x_3), (0, .ref jT), (1, .int p0)]) (fun ls hl => ?_)
      refine lv_goto (tgt := 3) hx hb dX8_append_55 (by decide) ?_
      refine lv_iload_n hx hb dX8_append_3 rfl (lv_at hl 0 rfl) ?_
      refine lv_if_lt (tgt := 58) hx hb dX8_append_4 (by decide) (fun c_164 => absurd c_164 (by decide)) (fun c_164 => ?_)
      refine lv_iload_n hx hb dX8_append_7 rfl (lv_at hl 3 rfl) ?_
      refine lv_iload_n hx hb dX8_append_8 rfl (lv_at hl 0 rfl) ?_
      obtain ⟨x_165, ex_165⟩ : ∃ z : Int32, z = (Int32.toUInt32 p0 >>> (Int32.toUInt32 16 &&& Int32.toUInt32 31)).toInt32 := ⟨_, rfl⟩
      refine lv_iushr (v := x_165) hx hb dX8_append_9 ex_165.symm ?_
      refine lv_sipush (v := 255) hx hb dX8_append_10 (by decide) ?_
      refine lv_iand hx hb dX8_append_13 ?_
      refine lv_topi (fun x_166 ex_166 => ?_)
      refine lv_istore_n hx hb dX8_append_14 rfl hl (by decide) (kTo [(3, .int x_166), (2, .int 16), (0, .ref jT), (1, .int p0)]) (fun ls hl => ?_)
      refine lv_iload_n hx hb dX8_append_15 rfl (lv_at hl 0 rfl) ?_
      refine lv_if_eq (tgt := 52) hx hb dX8_append_16 (by decide) (fun c_167 => ?_) (fun c_167 => ?_)
      · refine lv_iinc (v := 8) hx hb dX8_append_52 hl (k := 1) rfl (by decide) (by decide) (kTo [(2, .int 8), (3, .int x_166), (0, .ref jT), (1, .int p0)]) (fun ls hl => ?_)
        refine lv_goto (tgt := 3) hx hb dX8_append_55 (by decide) ?_
        refine lv_iload_n hx hb dX8_append_3 rfl (lv_at hl 0 rfl) ?_
        refine lv_if_lt (tgt := 58) hx hb dX8_append_4 (by decide) (fun c_168 => absurd c_168 (by decide)) (fun c_168 => ?_)
        refine lv_iload_n hx hb dX8_append_7 rfl (lv_at hl 3 rfl) ?_
        refine lv_iload_n hx hb dX8_append_8 rfl (lv_at hl 0 rfl) ?_
        obtain ⟨x_169, ex_169⟩ : ∃ z : Int32, z = (Int32.toUInt32 p0 >>> (Int32.toUInt32 8 &&& Int32.toUInt32 31)).toInt32 := ⟨_, rfl⟩
        refine lv_iushr (v := x_169) hx hb dX8_append_9 ex_169.symm ?_
        refine lv_sipush (v := 255) hx hb dX8_append_10 (by decide) ?_
        refine lv_iand hx hb dX8_append_13 ?_
        refine lv_topi (fun x_170 ex_170 => ?_)
        refine lv_istore_n hx hb dX8_append_14 rfl hl (by decide) (kTo [(3, .int x_170), (2, .int 8), (0, .ref jT), (1, .int p0)]) (fun ls hl => ?_)
        refine lv_iload_n hx hb dX8_append_15 rfl (lv_at hl 0 rfl) ?_
        refine lv_if_eq (tgt := 52) hx hb dX8_append_16 (by decide) (fun c_171 => ?_) (fun c_171 => ?_)
        · refine lv_iinc (v := 0) hx hb dX8_append_52 hl (k := 1) rfl (by decide) (by decide) (kTo [(2, .int 0), (3, .int x_170), (0, .ref jT), (1, .int p0)]) (fun ls hl => ?_)
          refine lv_goto (tgt := 3) hx hb dX8_append_55 (by decide) ?_
          refine lv_iload_n hx hb dX8_append_3 rfl (lv_at hl 0 rfl) ?_
          refine lv_if_lt (tgt := 58) hx hb dX8_append_4 (by decide) (fun c_172 => absurd c_172 (by decide)) (fun c_172 => ?_)
          refine lv_iload_n hx hb dX8_append_7 rfl (lv_at hl 3 rfl) ?_
          refine lv_iload_n hx hb dX8_append_8 rfl (lv_at hl 0 rfl) ?_
          obtain ⟨x_173, ex_173⟩ : ∃ z : Int32, z = (Int32.toUInt32 p0 >>> (Int32.toUInt32 0 &&& Int32.toUInt32 31)).toInt32 := ⟨_, rfl⟩
          refine lv_iushr (v := x_173) hx hb dX8_append_9 ex_173.symm ?_
          refine lv_sipush (v := 255) hx hb dX8_append_10 (by decide) ?_
          refine lv_iand hx hb dX8_append_13 ?_
          refine lv_topi (fun x_174 ex_174 => ?_)
          refine lv_istore_n hx hb dX8_append_14 rfl hl (by decide) (kTo [(3, .int x_174), (2, .int 0), (0, .ref jT), (1, .int p0)]) (fun ls hl => ?_)
          refine lv_iload_n hx hb dX8_append_15 rfl (lv_at hl 0 rfl) ?_
          refine lv_if_eq (tgt := 52) hx hb dX8_append_16 (by decide) (fun c_175 => ?_) (fun c_175 => ?_)
          · refine lv_iinc (v := (-8)) hx hb dX8_append_52 hl (k := 1) rfl (by decide) (by decide) (kTo [(2, .int (-8)), (3, .int x_174), (0, .ref jT), (1, .int p0)]) (fun ls hl => ?_)
            refine lv_goto (tgt := 3) hx hb dX8_append_55 (by decide) ?_
            refine lv_iload_n hx hb dX8_append_3 rfl (lv_at hl 0 rfl) ?_
            refine lv_if_lt (tgt := 58) hx hb dX8_append_4 (by decide) (fun c_176 => ?_) (fun c_176 => absurd (by decide) c_176)
            have hP9 := hP
            have hD9 := hD
            have hK9 := hK
            rw [hQ]
            exact W.vret hx hb hr (fun t ht hW => ⟨⟨(gT, kt), rfl, ⟨by omega, hgT⟩,  by rw [ht]; exact hP9, va_K.moved hW.alike hK9, hD9⟩, hS.F ht⟩) hS.2.2 dX8_append_58
          · refine lv_aload_n hx hb dX8_append_19 rfl (lv_at hl 2 rfl) ?_
            refine va_get (D := (dC, dI)) (ci := 8) (v := .int (nI (kt))) (C := RX8) (T := TX8) (N := 2) hx hb hts (fun _ h => List.mem_cons_of_mem _ (List.mem_append_right _ h)) hown hK hP 0 rfl rfl 1 (by decide) (hts (.fieldLink RX8 15 "NotEnded$Tape" "length" "I") (List.mem_cons_of_mem _ (List.mem_append_left _ (List.mem_of_getElem? (i := 0) rfl)))) (fun _ h9 => h9) rfl dX8_append_20 ?_
            refine lv_aload_n hx hb dX8_append_23 rfl (lv_at hl 2 rfl) ?_
            refine va_get (D := (dC, dI)) (ci := 8) (v := .ref t0) (C := RX8) (T := TX8) (N := 2) hx hb hts (fun _ h => List.mem_cons_of_mem _ (List.mem_append_right _ h)) hown hK hP 0 rfl rfl 0 (by decide) (hts (.fieldLink RX8 9 "NotEnded$Tape" "signs" "[C") (List.mem_cons_of_mem _ (List.mem_append_left _ (List.mem_of_getElem? (i := 1) rfl)))) (fun _ h9 => h9) rfl dX8_append_24 ?_
            refine va_alen hx hb hK hP 1 0 rfl rfl (v := 120) rfl dX8_append_27 ?_
            refine lv_icmp_ge (tgt := 52) hx hb dX8_append_28 (by decide) (fun c_177 => ?_) (fun c_177 => ?_)
            · have hn_178 := kle (a := 120) (b := kt) (by omega) (by omega) c_177
              refine lv_iinc (v := (-8)) hx hb dX8_append_52 hl (k := 1) rfl (by decide) (by decide) (kTo [(2, .int (-8)), (3, .int x_174), (0, .ref jT), (1, .int p0)]) (fun ls hl => ?_)
              refine lv_goto (tgt := 3) hx hb dX8_append_55 (by decide) ?_
              refine lv_iload_n hx hb dX8_append_3 rfl (lv_at hl 0 rfl) ?_
              refine lv_if_lt (tgt := 58) hx hb dX8_append_4 (by decide) (fun c_179 => ?_) (fun c_179 => absurd (by decide) c_179)
              have hP9 := hP
              have hD9 := hD
              have hK9 := hK
              rw [hQ]
              exact W.vret hx hb hr (fun t ht hW => ⟨⟨(gT, kt), rfl, ⟨by omega, hgT⟩,  by rw [ht]; exact hP9, va_K.moved hW.alike hK9, hD9⟩, hS.F ht⟩) hS.2.2 dX8_append_58
            · have hn_180 := knle (a := 120) (b := kt) (by omega) (by omega) c_177
              refine lv_aload_n hx hb dX8_append_31 rfl (lv_at hl 2 rfl) ?_
              refine va_get (D := (dC, dI)) (ci := 8) (v := .ref t0) (C := RX8) (T := TX8) (N := 2) hx hb hts (fun _ h => List.mem_cons_of_mem _ (List.mem_append_right _ h)) hown hK hP 0 rfl rfl 0 (by decide) (hts (.fieldLink RX8 9 "NotEnded$Tape" "signs" "[C") (List.mem_cons_of_mem _ (List.mem_append_left _ (List.mem_of_getElem? (i := 1) rfl)))) (fun _ h9 => h9) rfl dX8_append_32 ?_
              refine lv_aload_n hx hb dX8_append_35 rfl (lv_at hl 2 rfl) ?_
              refine va_get (D := (dC, dI)) (ci := 8) (v := .int (nI (kt))) (C := RX8) (T := TX8) (N := 2) hx hb hts (fun _ h => List.mem_cons_of_mem _ (List.mem_append_right _ h)) hown hK hP 0 rfl rfl 1 (by decide) (hts (.fieldLink RX8 15 "NotEnded$Tape" "length" "I") (List.mem_cons_of_mem _ (List.mem_append_left _ (List.mem_of_getElem? (i := 0) rfl)))) (fun _ h9 => h9) rfl dX8_append_36 ?_
              refine lv_iload_n hx hb dX8_append_39 rfl (lv_at hl 0 rfl) ?_
              obtain ⟨x_181, ex_181⟩ : ∃ z : Int32, z = (Int32.toUInt32 x_174 % 65536).toInt32 := ⟨_, rfl⟩
              refine lv_i2c (v := x_181) hx hb dX8_append_40 ex_181.symm ?_
              refine va_cast hx hb hK hP hD hS 1 0 rfl rfl (vp_in_nI (n := kt) (N := 120) (by omega) (by omega)) dX8_append_41 (fun H locs hP hD hS => ?_)
              obtain ⟨f_182, ef_182⟩ : ∃ gg9 : Nat → Int32, gg9 = upd gT (Int32.toNatClampNeg (nI (kt))) (vp_nar .char x_181) := ⟨_, rfl⟩
              obtain ⟨hP, hD⟩ : kPD dC dI A [(jT, .inr (8, [.ref t0, .int (nI (kt))])), (t0, .inl (cC, 120, .inl f_182))] H := by rw [ef_182]; exact ⟨hP, hD⟩
              refine lv_aload_n hx hb dX8_append_42 rfl (lv_at hl 2 rfl) ?_
              refine lv_dup hx hb dX8_append_43 rfl ?_
              refine va_get (D := (dC, dI)) (ci := 8) (v := .int (nI (kt))) (C := RX8) (T := TX8) (N := 2) hx hb hts (fun _ h => List.mem_cons_of_mem _ (List.mem_append_right _ h)) hown hK hP 0 rfl rfl 1 (by decide) (hts (.fieldLink RX8 15 "NotEnded$Tape" "length" "I") (List.mem_cons_of_mem _ (List.mem_append_left _ (List.mem_of_getElem? (i := 0) rfl)))) (fun _ h9 => h9) rfl dX8_append_44 ?_
              refine lv_iconst (v := 1) hx hb dX8_append_47 (by decide) ?_
              refine lv_iadd hx hb dX8_append_48 ?_
              refine lv_topi (fun y_183 ey_183 => ?_)
              obtain rfl : y_183 = nI (kt + 1) := ey_183.trans (nI_add (kt) (1))
              refine va_put (D := (dC, dI)) (ci := 8) (v := .int (nI (kt + 1))) (ty := tyX8 1) (C := RX8) (T := TX8) (N := 2) hx hb hts (fun _ h => List.mem_cons_of_mem _ (List.mem_append_right _ h)) tyX8 tyX8_ok nmX8 hown hK hP hD hS 0 rfl rfl 1 (by decide) (hts (.fieldLink RX8 15 "NotEnded$Tape" "length" "I") (List.mem_cons_of_mem _ (List.mem_append_left _ (List.mem_of_getElem? (i := 0) rfl)))) (fun _ h9 => h9) rfl (tyX8_ok 1 (by decide)) rfl rfl (Nat.le_of_ble_eq_true rfl) dX8_append_49 (fun H locs hP hD hS => ?_)
              obtain ⟨hP, hD⟩ : kPD dC dI A [(jT, .inr (8, [.ref t0, .int (nI (kt + 1))])), (t0, .inl (cC, 120, .inl f_182))] H := ⟨hP, hD⟩
              refine lv_iinc (v := (-8)) hx hb dX8_append_52 hl (k := 1) rfl (by decide) (by decide) (kTo [(2, .int (-8)), (3, .int x_174), (0, .ref jT), (1, .int p0)]) (fun ls hl => ?_)
              refine lv_goto (tgt := 3) hx hb dX8_append_55 (by decide) ?_
              refine lv_iload_n hx hb dX8_append_3 rfl (lv_at hl 0 rfl) ?_
              refine lv_if_lt (tgt := 58) hx hb dX8_append_4 (by decide) (fun c_184 => ?_) (fun c_184 => absurd (by decide) c_184)
              have hP9 := hP
              have hD9 := hD
              have hK9 := hK
              rw [hQ]
              exact W.vret hx hb hr (fun t ht hW => ⟨⟨(f_182, (kt + 1)), rfl, ⟨by omega, (kNarU ef_182 hgT)⟩,  by rw [ht]; exact hP9, va_K.moved hW.alike hK9, hD9⟩, hS.F ht⟩) hS.2.2 dX8_append_58
        · refine lv_aload_n hx hb dX8_append_19 rfl (lv_at hl 2 rfl) ?_
          refine va_get (D := (dC, dI)) (ci := 8) (v := .int (nI (kt))) (C := RX8) (T := TX8) (N := 2) hx hb hts (fun _ h => List.mem_cons_of_mem _ (List.mem_append_right _ h)) hown hK hP 0 rfl rfl 1 (by decide) (hts (.fieldLink RX8 15 "NotEnded$Tape" "length" "I") (List.mem_cons_of_mem _ (List.mem_append_left _ (List.mem_of_getElem? (i := 0) rfl)))) (fun _ h9 => h9) rfl dX8_append_20 ?_
          refine lv_aload_n hx hb dX8_append_23 rfl (lv_at hl 2 rfl) ?_
          refine va_get (D := (dC, dI)) (ci := 8) (v := .ref t0) (C := RX8) (T := TX8) (N := 2) hx hb hts (fun _ h => List.mem_cons_of_mem _ (List.mem_append_right _ h)) hown hK hP 0 rfl rfl 0 (by decide) (hts (.fieldLink RX8 9 "NotEnded$Tape" "signs" "[C") (List.mem_cons_of_mem _ (List.mem_append_left _ (List.mem_of_getElem? (i := 1) rfl)))) (fun _ h9 => h9) rfl dX8_append_24 ?_
          refine va_alen hx hb hK hP 1 0 rfl rfl (v := 120) rfl dX8_append_27 ?_
          refine lv_icmp_ge (tgt := 52) hx hb dX8_append_28 (by decide) (fun c_185 => ?_) (fun c_185 => ?_)
          · have hn_186 := kle (a := 120) (b := kt) (by omega) (by omega) c_185
            refine lv_iinc (v := 0) hx hb dX8_append_52 hl (k := 1) rfl (by decide) (by decide) (kTo [(2, .int 0), (3, .int x_170), (0, .ref jT), (1, .int p0)]) (fun ls hl => ?_)
            refine lv_goto (tgt := 3) hx hb dX8_append_55 (by decide) ?_
            refine lv_iload_n hx hb dX8_append_3 rfl (lv_at hl 0 rfl) ?_
            refine lv_if_lt (tgt := 58) hx hb dX8_append_4 (by decide) (fun c_187 => absurd c_187 (by decide)) (fun c_187 => ?_)
            refine lv_iload_n hx hb dX8_append_7 rfl (lv_at hl 3 rfl) ?_
            refine lv_iload_n hx hb dX8_append_8 rfl (lv_at hl 0 rfl) ?_
            obtain ⟨x_188, ex_188⟩ : ∃ z : Int32, z = (Int32.toUInt32 p0 >>> (Int32.toUInt32 0 &&& Int32.toUInt32 31)).toInt32 := ⟨_, rfl⟩
            refine lv_iushr (v := x_188) hx hb dX8_append_9 ex_188.symm ?_
            refine lv_sipush (v := 255) hx hb dX8_append_10 (by decide) ?_
            refine lv_iand hx hb dX8_append_13 ?_
            refine lv_topi (fun x_189 ex_189 => ?_)
            refine lv_istore_n hx hb dX8_append_14 rfl hl (by decide) (kTo [(3, .int x_189), (2, .int 0), (0, .ref jT), (1, .int p0)]) (fun ls hl => ?_)
            refine lv_iload_n hx hb dX8_append_15 rfl (lv_at hl 0 rfl) ?_
            refine lv_if_eq (tgt := 52) hx hb dX8_append_16 (by decide) (fun c_190 => ?_) (fun c_190 => ?_)
            · refine lv_iinc (v := (-8)) hx hb dX8_append_52 hl (k := 1) rfl (by decide) (by decide) (kTo [(2, .int (-8)), (3, .int x_189), (0, .ref jT), (1, .int p0)]) (fun ls hl => ?_)
              refine lv_goto (tgt := 3) hx hb dX8_append_55 (by decide) ?_
              refine lv_iload_n hx hb dX8_append_3 rfl (lv_at hl 0 rfl) ?_
              refine lv_if_lt (tgt := 58) hx hb dX8_append_4 (by decide) (fun c_191 => ?_) (fun c_191 => absurd (by decide) c_191)
              have hP9 := hP
              have hD9 := hD
              have hK9 := hK
              rw [hQ]
              exact W.vret hx hb hr (fun t ht hW => ⟨⟨(gT, kt), rfl, ⟨by omega, hgT⟩,  by rw [ht]; exact hP9, va_K.moved hW.alike hK9, hD9⟩, hS.F ht⟩) hS.2.2 dX8_append_58
            · refine lv_aload_n hx hb dX8_append_19 rfl (lv_at hl 2 rfl) ?_
              refine va_get (D := (dC, dI)) (ci := 8) (v := .int (nI (kt))) (C := RX8) (T := TX8) (N := 2) hx hb hts (fun _ h => List.mem_cons_of_mem _ (List.mem_append_right _ h)) hown hK hP 0 rfl rfl 1 (by decide) (hts (.fieldLink RX8 15 "NotEnded$Tape" "length" "I") (List.mem_cons_of_mem _ (List.mem_append_left _ (List.mem_of_getElem? (i := 0) rfl)))) (fun _ h9 => h9) rfl dX8_append_20 ?_
              refine lv_aload_n hx hb dX8_append_23 rfl (lv_at hl 2 rfl) ?_
              refine va_get (D := (dC, dI)) (ci := 8) (v := .ref t0) (C := RX8) (T := TX8) (N := 2) hx hb hts (fun _ h => List.mem_cons_of_mem _ (List.mem_append_right _ h)) hown hK hP 0 rfl rfl 0 (by decide) (hts (.fieldLink RX8 9 "NotEnded$Tape" "signs" "[C") (List.mem_cons_of_mem _ (List.mem_append_left _ (List.mem_of_getElem? (i := 1) rfl)))) (fun _ h9 => h9) rfl dX8_append_24 ?_
              refine va_alen hx hb hK hP 1 0 rfl rfl (v := 120) rfl dX8_append_27 ?_
              refine lv_icmp_ge (tgt := 52) hx hb dX8_append_28 (by decide) (fun c_192 => ?_) (fun c_192 => ?_)
              · have hn_193 := kle (a := 120) (b := kt) (by omega) (by omega) c_192
                refine lv_iinc (v := (-8)) hx hb dX8_append_52 hl (k := 1) rfl (by decide) (by decide) (kTo [(2, .int (-8)), (3, .int x_189), (0, .ref jT), (1, .int p0)]) (fun ls hl => ?_)
                refine lv_goto (tgt := 3) hx hb dX8_append_55 (by decide) ?_
                refine lv_iload_n hx hb dX8_append_3 rfl (lv_at hl 0 rfl) ?_
                refine lv_if_lt (tgt := 58) hx hb dX8_append_4 (by decide) (fun c_194 => ?_) (fun c_194 => absurd (by decide) c_194)
                have hP9 := hP
                have hD9 := hD
                have hK9 := hK
                rw [hQ]
                exact W.vret hx hb hr (fun t ht hW => ⟨⟨(gT, kt), rfl, ⟨by omega, hgT⟩,  by rw [ht]; exact hP9, va_K.moved hW.alike hK9, hD9⟩, hS.F ht⟩) hS.2.2 dX8_append_58
              · have hn_195 := knle (a := 120) (b := kt) (by omega) (by omega) c_192
                refine lv_aload_n hx hb dX8_append_31 rfl (lv_at hl 2 rfl) ?_
                refine va_get (D := (dC, dI)) (ci := 8) (v := .ref t0) (C := RX8) (T := TX8) (N := 2) hx hb hts (fun _ h => List.mem_cons_of_mem _ (List.mem_append_right _ h)) hown hK hP 0 rfl rfl 0 (by decide) (hts (.fieldLink RX8 9 "NotEnded$Tape" "signs" "[C") (List.mem_cons_of_mem _ (List.mem_append_left _ (List.mem_of_getElem? (i := 1) rfl)))) (fun _ h9 => h9) rfl dX8_append_32 ?_
                refine lv_aload_n hx hb dX8_append_35 rfl (lv_at hl 2 rfl) ?_
                refine va_get (D := (dC, dI)) (ci := 8) (v := .int (nI (kt))) (C := RX8) (T := TX8) (N := 2) hx hb hts (fun _ h => List.mem_cons_of_mem _ (List.mem_append_right _ h)) hown hK hP 0 rfl rfl 1 (by decide) (hts (.fieldLink RX8 15 "NotEnded$Tape" "length" "I") (List.mem_cons_of_mem _ (List.mem_append_left _ (List.mem_of_getElem? (i := 0) rfl)))) (fun _ h9 => h9) rfl dX8_append_36 ?_
                refine lv_iload_n hx hb dX8_append_39 rfl (lv_at hl 0 rfl) ?_
                obtain ⟨x_196, ex_196⟩ : ∃ z : Int32, z = (Int32.toUInt32 x_189 % 65536).toInt32 := ⟨_, rfl⟩
                refine lv_i2c (v := x_196) hx hb dX8_append_40 ex_196.symm ?_
                refine va_cast hx hb hK hP hD hS 1 0 rfl rfl (vp_in_nI (n := kt) (N := 120) (by omega) (by omega)) dX8_append_41 (fun H locs hP hD hS => ?_)
                obtain ⟨f_197, ef_197⟩ : ∃ gg9 : Nat → Int32, gg9 = upd gT (Int32.toNatClampNeg (nI (kt))) (vp_nar .char x_196) := ⟨_, rfl⟩
                obtain ⟨hP, hD⟩ : kPD dC dI A [(jT, .inr (8, [.ref t0, .int (nI (kt))])), (t0, .inl (cC, 120, .inl f_197))] H := by rw [ef_197]; exact ⟨hP, hD⟩
                refine lv_aload_n hx hb dX8_append_42 rfl (lv_at hl 2 rfl) ?_
                refine lv_dup hx hb dX8_append_43 rfl ?_
                refine va_get (D := (dC, dI)) (ci := 8) (v := .int (nI (kt))) (C := RX8) (T := TX8) (N := 2) hx hb hts (fun _ h => List.mem_cons_of_mem _ (List.mem_append_right _ h)) hown hK hP 0 rfl rfl 1 (by decide) (hts (.fieldLink RX8 15 "NotEnded$Tape" "length" "I") (List.mem_cons_of_mem _ (List.mem_append_left _ (List.mem_of_getElem? (i := 0) rfl)))) (fun _ h9 => h9) rfl dX8_append_44 ?_
                refine lv_iconst (v := 1) hx hb dX8_append_47 (by decide) ?_
                refine lv_iadd hx hb dX8_append_48 ?_
                refine lv_topi (fun y_198 ey_198 => ?_)
                obtain rfl : y_198 = nI (kt + 1) := ey_198.trans (nI_add (kt) (1))
                refine va_put (D := (dC, dI)) (ci := 8) (v := .int (nI (kt + 1))) (ty := tyX8 1) (C := RX8) (T := TX8) (N := 2) hx hb hts (fun _ h => List.mem_cons_of_mem _ (List.mem_append_right _ h)) tyX8 tyX8_ok nmX8 hown hK hP hD hS 0 rfl rfl 1 (by decide) (hts (.fieldLink RX8 15 "NotEnded$Tape" "length" "I") (List.mem_cons_of_mem _ (List.mem_append_left _ (List.mem_of_getElem? (i := 0) rfl)))) (fun _ h9 => h9) rfl (tyX8_ok 1 (by decide)) rfl rfl (Nat.le_of_ble_eq_true rfl) dX8_append_49 (fun H locs hP hD hS => ?_)
                obtain ⟨hP, hD⟩ : kPD dC dI A [(jT, .inr (8, [.ref t0, .int (nI (kt + 1))])), (t0, .inl (cC, 120, .inl f_197))] H := ⟨hP, hD⟩
                refine lv_iinc (v := (-8)) hx hb dX8_append_52 hl (k := 1) rfl (by decide) (by decide) (kTo [(2, .int (-8)), (3, .int x_189), (0, .ref jT), (1, .int p0)]) (fun ls hl => ?_)
                refine lv_goto (tgt := 3) hx hb dX8_append_55 (by decide) ?_
                refine lv_iload_n hx hb dX8_append_3 rfl (lv_at hl 0 rfl) ?_
                refine lv_if_lt (tgt := 58) hx hb dX8_append_4 (by decide) (fun c_199 => ?_) (fun c_199 => absurd (by decide) c_199)
                have hP9 := hP
                have hD9 := hD
                have hK9 := hK
                rw [hQ]
                exact W.vret hx hb hr (fun t ht hW => ⟨⟨(f_197, (kt + 1)), rfl, ⟨by omega, (kNarU ef_197 hgT)⟩,  by rw [ht]; exact hP9, va_K.moved hW.alike hK9, hD9⟩, hS.F ht⟩) hS.2.2 dX8_append_58
          · have hn_200 := knle (a := 120) (b := kt) (by omega) (by omega) c_185
            refine lv_aload_n hx hb dX8_append_31 rfl (lv_at hl 2 rfl) ?_
            refine va_get (D := (dC, dI)) (ci := 8) (v := .ref t0) (C := RX8) (T := TX8) (N := 2) hx hb hts (fun _ h => List.mem_cons_of_mem _ (List.mem_append_right _ h)) hown hK hP 0 rfl rfl 0 (by decide) (hts (.fieldLink RX8 9 "NotEnded$Tape" "signs" "[C") (List.mem_cons_of_mem _ (List.mem_append_left _ (List.mem_of_getElem? (i := 1) rfl)))) (fun _ h9 => h9) rfl dX8_append_32 ?_
            refine lv_aload_n hx hb dX8_append_35 rfl (lv_at hl 2 rfl) ?_
            refine va_get (D := (dC, dI)) (ci := 8) (v := .int (nI (kt))) (C := RX8) (T := TX8) (N := 2) hx hb hts (fun _ h => List.mem_cons_of_mem _ (List.mem_append_right _ h)) hown hK hP 0 rfl rfl 1 (by decide) (hts (.fieldLink RX8 15 "NotEnded$Tape" "length" "I") (List.mem_cons_of_mem _ (List.mem_append_left _ (List.mem_of_getElem? (i := 0) rfl)))) (fun _ h9 => h9) rfl dX8_append_36 ?_
            refine lv_iload_n hx hb dX8_append_39 rfl (lv_at hl 0 rfl) ?_
            obtain ⟨x_201, ex_201⟩ : ∃ z : Int32, z = (Int32.toUInt32 x_170 % 65536).toInt32 := ⟨_, rfl⟩
            refine lv_i2c (v := x_201) hx hb dX8_append_40 ex_201.symm ?_
            refine va_cast hx hb hK hP hD hS 1 0 rfl rfl (vp_in_nI (n := kt) (N := 120) (by omega) (by omega)) dX8_append_41 (fun H locs hP hD hS => ?_)
            obtain ⟨f_202, ef_202⟩ : ∃ gg9 : Nat → Int32, gg9 = upd gT (Int32.toNatClampNeg (nI (kt))) (vp_nar .char x_201) := ⟨_, rfl⟩
            obtain ⟨hP, hD⟩ : kPD dC dI A [(jT, .inr (8, [.ref t0, .int (nI (kt))])), (t0, .inl (cC, 120, .inl f_202))] H := by rw [ef_202]; exact ⟨hP, hD⟩
            refine lv_aload_n hx hb dX8_append_42 rfl (lv_at hl 2 rfl) ?_
            refine lv_dup hx hb dX8_append_43 rfl ?_
            refine va_get (D := (dC, dI)) (ci := 8) (v := .int (nI (kt))) (C := RX8) (T := TX8) (N := 2) hx hb hts (fun _ h => List.mem_cons_of_mem _ (List.mem_append_right _ h)) hown hK hP 0 rfl rfl 1 (by decide) (hts (.fieldLink RX8 15 "NotEnded$Tape" "length" "I") (List.mem_cons_of_mem _ (List.mem_append_left _ (List.mem_of_getElem? (i := 0) rfl)))) (fun _ h9 => h9) rfl dX8_append_44 ?_
            refine lv_iconst (v := 1) hx hb dX8_append_47 (by decide) ?_
            refine lv_iadd hx hb dX8_append_48 ?_
            refine lv_topi (fun y_203 ey_203 => ?_)
            obtain rfl : y_203 = nI (kt + 1) := ey_203.trans (nI_add (kt) (1))
            refine va_put (D := (dC, dI)) (ci := 8) (v := .int (nI (kt + 1))) (ty := tyX8 1) (C := RX8) (T := TX8) (N := 2) hx hb hts (fun _ h => List.mem_cons_of_mem _ (List.mem_append_right _ h)) tyX8 tyX8_ok nmX8 hown hK hP hD hS 0 rfl rfl 1 (by decide) (hts (.fieldLink RX8 15 "NotEnded$Tape" "length" "I") (List.mem_cons_of_mem _ (List.mem_append_left _ (List.mem_of_getElem? (i := 0) rfl)))) (fun _ h9 => h9) rfl (tyX8_ok 1 (by decide)) rfl rfl (Nat.le_of_ble_eq_true rfl) dX8_append_49 (fun H locs hP hD hS => ?_)
            obtain ⟨hP, hD⟩ : kPD dC dI A [(jT, .inr (8, [.ref t0, .int (nI (kt + 1))])), (t0, .inl (cC, 120, .inl f_202))] H := ⟨hP, hD⟩
            refine lv_iinc (v := 0) hx hb dX8_append_52 hl (k := 1) rfl (by decide) (by decide) (kTo [(2, .int 0), (3, .int x_170), (0, .ref jT), (1, .int p0)]) (fun ls hl => ?_)
            refine lv_goto (tgt := 3) hx hb dX8_append_55 (by decide) ?_
            refine lv_iload_n hx hb dX8_append_3 rfl (lv_at hl 0 rfl) ?_
            refine lv_if_lt (tgt := 58) hx hb dX8_append_4 (by decide) (fun c_204 => absurd c_204 (by decide)) (fun c_204 => ?_)
            refine lv_iload_n hx hb dX8_append_7 rfl (lv_at hl 3 rfl) ?_
            refine lv_iload_n hx hb dX8_append_8 rfl (lv_at hl 0 rfl) ?_
            obtain ⟨x_205, ex_205⟩ : ∃ z : Int32, z = (Int32.toUInt32 p0 >>> (Int32.toUInt32 0 &&& Int32.toUInt32 31)).toInt32 := ⟨_, rfl⟩
            refine lv_iushr (v := x_205) hx hb dX8_append_9 ex_205.symm ?_
            refine lv_sipush (v := 255) hx hb dX8_append_10 (by decide) ?_
            refine lv_iand hx hb dX8_append_13 ?_
            refine lv_topi (fun x_206 ex_206 => ?_)
            refine lv_istore_n hx hb dX8_append_14 rfl hl (by decide) (kTo [(3, .int x_206), (2, .int 0), (0, .ref jT), (1, .int p0)]) (fun ls hl => ?_)
            refine lv_iload_n hx hb dX8_append_15 rfl (lv_at hl 0 rfl) ?_
            refine lv_if_eq (tgt := 52) hx hb dX8_append_16 (by decide) (fun c_207 => ?_) (fun c_207 => ?_)
            · refine lv_iinc (v := (-8)) hx hb dX8_append_52 hl (k := 1) rfl (by decide) (by decide) (kTo [(2, .int (-8)), (3, .int x_206), (0, .ref jT), (1, .int p0)]) (fun ls hl => ?_)
              refine lv_goto (tgt := 3) hx hb dX8_append_55 (by decide) ?_
              refine lv_iload_n hx hb dX8_append_3 rfl (lv_at hl 0 rfl) ?_
              refine lv_if_lt (tgt := 58) hx hb dX8_append_4 (by decide) (fun c_208 => ?_) (fun c_208 => absurd (by decide) c_208)
              have hP9 := hP
              have hD9 := hD
              have hK9 := hK
              rw [hQ]
              exact W.vret hx hb hr (fun t ht hW => ⟨⟨(f_202, (kt + 1)), rfl, ⟨by omega, (kNarU ef_202 hgT)⟩,  by rw [ht]; exact hP9, va_K.moved hW.alike hK9, hD9⟩, hS.F ht⟩) hS.2.2 dX8_append_58
            · refine lv_aload_n hx hb dX8_append_19 rfl (lv_at hl 2 rfl) ?_
              refine va_get (D := (dC, dI)) (ci := 8) (v := .int (nI (kt + 1))) (C := RX8) (T := TX8) (N := 2) hx hb hts (fun _ h => List.mem_cons_of_mem _ (List.mem_append_right _ h)) hown hK hP 0 rfl rfl 1 (by decide) (hts (.fieldLink RX8 15 "NotEnded$Tape" "length" "I") (List.mem_cons_of_mem _ (List.mem_append_left _ (List.mem_of_getElem? (i := 0) rfl)))) (fun _ h9 => h9) rfl dX8_append_20 ?_
              refine lv_aload_n hx hb dX8_append_23 rfl (lv_at hl 2 rfl) ?_
              refine va_get (D := (dC, dI)) (ci := 8) (v := .ref t0) (C := RX8) (T := TX8) (N := 2) hx hb hts (fun _ h => List.mem_cons_of_mem _ (List.mem_append_right _ h)) hown hK hP 0 rfl rfl 0 (by decide) (hts (.fieldLink RX8 9 "NotEnded$Tape" "signs" "[C") (List.mem_cons_of_mem _ (List.mem_append_left _ (List.mem_of_getElem? (i := 1) rfl)))) (fun _ h9 => h9) rfl dX8_append_24 ?_
              refine va_alen hx hb hK hP 1 0 rfl rfl (v := 120) rfl dX8_append_27 ?_
              refine lv_icmp_ge (tgt := 52) hx hb dX8_append_28 (by decide) (fun c_209 => ?_) (fun c_209 => ?_)
              · have hn_210 := kle (a := 120) (b := kt + 1) (by omega) (by omega) c_209
                refine lv_iinc (v := (-8)) hx hb dX8_append_52 hl (k := 1) rfl (by decide) (by decide) (kTo [(2, .int (-8)), (3, .int x_206), (0, .ref jT), (1, .int p0)]) (fun ls hl => ?_)
                refine lv_goto (tgt := 3) hx hb dX8_append_55 (by decide) ?_
                refine lv_iload_n hx hb dX8_append_3 rfl (lv_at hl 0 rfl) ?_
                refine lv_if_lt (tgt := 58) hx hb dX8_append_4 (by decide) (fun c_211 => ?_) (fun c_211 => absurd (by decide) c_211)
                have hP9 := hP
                have hD9 := hD
                have hK9 := hK
                rw [hQ]
                exact W.vret hx hb hr (fun t ht hW => ⟨⟨(f_202, (kt + 1)), rfl, ⟨by omega, (kNarU ef_202 hgT)⟩,  by rw [ht]; exact hP9, va_K.moved hW.alike hK9, hD9⟩, hS.F ht⟩) hS.2.2 dX8_append_58
              · have hn_212 := knle (a := 120) (b := kt + 1) (by omega) (by omega) c_209
                refine lv_aload_n hx hb dX8_append_31 rfl (lv_at hl 2 rfl) ?_
                refine va_get (D := (dC, dI)) (ci := 8) (v := .ref t0) (C := RX8) (T := TX8) (N := 2) hx hb hts (fun _ h => List.mem_cons_of_mem _ (List.mem_append_right _ h)) hown hK hP 0 rfl rfl 0 (by decide) (hts (.fieldLink RX8 9 "NotEnded$Tape" "signs" "[C") (List.mem_cons_of_mem _ (List.mem_append_left _ (List.mem_of_getElem? (i := 1) rfl)))) (fun _ h9 => h9) rfl dX8_append_32 ?_
                refine lv_aload_n hx hb dX8_append_35 rfl (lv_at hl 2 rfl) ?_
                refine va_get (D := (dC, dI)) (ci := 8) (v := .int (nI (kt + 1))) (C := RX8) (T := TX8) (N := 2) hx hb hts (fun _ h => List.mem_cons_of_mem _ (List.mem_append_right _ h)) hown hK hP 0 rfl rfl 1 (by decide) (hts (.fieldLink RX8 15 "NotEnded$Tape" "length" "I") (List.mem_cons_of_mem _ (List.mem_append_left _ (List.mem_of_getElem? (i := 0) rfl)))) (fun _ h9 => h9) rfl dX8_append_36 ?_
                refine lv_iload_n hx hb dX8_append_39 rfl (lv_at hl 0 rfl) ?_
                obtain ⟨x_213, ex_213⟩ : ∃ z : Int32, z = (Int32.toUInt32 x_206 % 65536).toInt32 := ⟨_, rfl⟩
                refine lv_i2c (v := x_213) hx hb dX8_append_40 ex_213.symm ?_
                refine va_cast hx hb hK hP hD hS 1 0 rfl rfl (vp_in_nI (n := kt + 1) (N := 120) (by omega) (by omega)) dX8_append_41 (fun H locs hP hD hS => ?_)
                obtain ⟨f_214, ef_214⟩ : ∃ gg9 : Nat → Int32, gg9 = upd f_202 (Int32.toNatClampNeg (nI (kt + 1))) (vp_nar .char x_213) := ⟨_, rfl⟩
                obtain ⟨hP, hD⟩ : kPD dC dI A [(jT, .inr (8, [.ref t0, .int (nI (kt + 1))])), (t0, .inl (cC, 120, .inl f_214))] H := by rw [ef_214]; exact ⟨hP, hD⟩
                refine lv_aload_n hx hb dX8_append_42 rfl (lv_at hl 2 rfl) ?_
                refine lv_dup hx hb dX8_append_43 rfl ?_
                refine va_get (D := (dC, dI)) (ci := 8) (v := .int (nI (kt + 1))) (C := RX8) (T := TX8) (N := 2) hx hb hts (fun _ h => List.mem_cons_of_mem _ (List.mem_append_right _ h)) hown hK hP 0 rfl rfl 1 (by decide) (hts (.fieldLink RX8 15 "NotEnded$Tape" "length" "I") (List.mem_cons_of_mem _ (List.mem_append_left _ (List.mem_of_getElem? (i := 0) rfl)))) (fun _ h9 => h9) rfl dX8_append_44 ?_
                refine lv_iconst (v := 1) hx hb dX8_append_47 (by decide) ?_
                refine lv_iadd hx hb dX8_append_48 ?_
                refine lv_topi (fun y_215 ey_215 => ?_)
                obtain rfl : y_215 = nI (kt + 1 + 1) := ey_215.trans (nI_add (kt + 1) (1))
                refine va_put (D := (dC, dI)) (ci := 8) (v := .int (nI (kt + 1 + 1))) (ty := tyX8 1) (C := RX8) (T := TX8) (N := 2) hx hb hts (fun _ h => List.mem_cons_of_mem _ (List.mem_append_right _ h)) tyX8 tyX8_ok nmX8 hown hK hP hD hS 0 rfl rfl 1 (by decide) (hts (.fieldLink RX8 15 "NotEnded$Tape" "length" "I") (List.mem_cons_of_mem _ (List.mem_append_left _ (List.mem_of_getElem? (i := 0) rfl)))) (fun _ h9 => h9) rfl (tyX8_ok 1 (by decide)) rfl rfl (Nat.le_of_ble_eq_true rfl) dX8_append_49 (fun H locs hP hD hS => ?_)
                obtain ⟨hP, hD⟩ : kPD dC dI A [(jT, .inr (8, [.ref t0, .int (nI (kt + 1 + 1))])), (t0, .inl (cC, 120, .inl f_214))] H := ⟨hP, hD⟩
                refine lv_iinc (v := (-8)) hx hb dX8_append_52 hl (k := 1) rfl (by decide) (by decide) (kTo [(2, .int (-8)), (3, .int x_206), (0, .ref jT), (1, .int p0)]) (fun ls hl => ?_)
                refine lv_goto (tgt := 3) hx hb dX8_append_55 (by decide) ?_
                refine lv_iload_n hx hb dX8_append_3 rfl (lv_at hl 0 rfl) ?_
                refine lv_if_lt (tgt := 58) hx hb dX8_append_4 (by decide) (fun c_216 => ?_) (fun c_216 => absurd (by decide) c_216)
                have hP9 := hP
                have hD9 := hD
                have hK9 := hK
                rw [hQ]
                exact W.vret hx hb hr (fun t ht hW => ⟨⟨(f_214, (kt + 1 + 1)), rfl, ⟨by omega, (kNarU ef_214 (kNarU ef_202 hgT))⟩,  by rw [ht]; exact hP9, va_K.moved hW.alike hK9, hD9⟩, hS.F ht⟩) hS.2.2 dX8_append_58
      · refine lv_aload_n hx hb dX8_append_19 rfl (lv_at hl 2 rfl) ?_
        refine va_get (D := (dC, dI)) (ci := 8) (v := .int (nI (kt))) (C := RX8) (T := TX8) (N := 2) hx hb hts (fun _ h => List.mem_cons_of_mem _ (List.mem_append_right _ h)) hown hK hP 0 rfl rfl 1 (by decide) (hts (.fieldLink RX8 15 "NotEnded$Tape" "length" "I") (List.mem_cons_of_mem _ (List.mem_append_left _ (List.mem_of_getElem? (i := 0) rfl)))) (fun _ h9 => h9) rfl dX8_append_20 ?_
        refine lv_aload_n hx hb dX8_append_23 rfl (lv_at hl 2 rfl) ?_
        refine va_get (D := (dC, dI)) (ci := 8) (v := .ref t0) (C := RX8) (T := TX8) (N := 2) hx hb hts (fun _ h => List.mem_cons_of_mem _ (List.mem_append_right _ h)) hown hK hP 0 rfl rfl 0 (by decide) (hts (.fieldLink RX8 9 "NotEnded$Tape" "signs" "[C") (List.mem_cons_of_mem _ (List.mem_append_left _ (List.mem_of_getElem? (i := 1) rfl)))) (fun _ h9 => h9) rfl dX8_append_24 ?_
        refine va_alen hx hb hK hP 1 0 rfl rfl (v := 120) rfl dX8_append_27 ?_
        refine lv_icmp_ge (tgt := 52) hx hb dX8_append_28 (by decide) (fun c_217 => ?_) (fun c_217 => ?_)
        · have hn_218 := kle (a := 120) (b := kt) (by omega) (by omega) c_217
          refine lv_iinc (v := 8) hx hb dX8_append_52 hl (k := 1) rfl (by decide) (by decide) (kTo [(2, .int 8), (3, .int x_166), (0, .ref jT), (1, .int p0)]) (fun ls hl => ?_)
          refine lv_goto (tgt := 3) hx hb dX8_append_55 (by decide) ?_
          refine lv_iload_n hx hb dX8_append_3 rfl (lv_at hl 0 rfl) ?_
          refine lv_if_lt (tgt := 58) hx hb dX8_append_4 (by decide) (fun c_219 => absurd c_219 (by decide)) (fun c_219 => ?_)
          refine lv_iload_n hx hb dX8_append_7 rfl (lv_at hl 3 rfl) ?_
          refine lv_iload_n hx hb dX8_append_8 rfl (lv_at hl 0 rfl) ?_
          obtain ⟨x_220, ex_220⟩ : ∃ z : Int32, z = (Int32.toUInt32 p0 >>> (Int32.toUInt32 8 &&& Int32.toUInt32 31)).toInt32 := ⟨_, rfl⟩
          refine lv_iushr (v := x_220) hx hb dX8_append_9 ex_220.symm ?_
          refine lv_sipush (v := 255) hx hb dX8_append_10 (by decide) ?_
          refine lv_iand hx hb dX8_append_13 ?_
          refine lv_topi (fun x_221 ex_221 => ?_)
          refine lv_istore_n hx hb dX8_append_14 rfl hl (by decide) (kTo [(3, .int x_221), (2, .int 8), (0, .ref jT), (1, .int p0)]) (fun ls hl => ?_)
          refine lv_iload_n hx hb dX8_append_15 rfl (lv_at hl 0 rfl) ?_
          refine lv_if_eq (tgt := 52) hx hb dX8_append_16 (by decide) (fun c_222 => ?_) (fun c_222 => ?_)
          · refine lv_iinc (v := 0) hx hb dX8_append_52 hl (k := 1) rfl (by decide) (by decide) (kTo [(2, .int 0), (3, .int x_221), (0, .ref jT), (1, .int p0)]) (fun ls hl => ?_)
            refine lv_goto (tgt := 3) hx hb dX8_append_55 (by decide) ?_
            refine lv_iload_n hx hb dX8_append_3 rfl (lv_at hl 0 rfl) ?_
            refine lv_if_lt (tgt := 58) hx hb dX8_append_4 (by decide) (fun c_223 => absurd c_223 (by decide)) (fun c_223 => ?_)
            refine lv_iload_n hx hb dX8_append_7 rfl (lv_at hl 3 rfl) ?_
            refine lv_iload_n hx hb dX8_append_8 rfl (lv_at hl 0 rfl) ?_
            obtain ⟨x_224, ex_224⟩ : ∃ z : Int32, z = (Int32.toUInt32 p0 >>> (Int32.toUInt32 0 &&& Int32.toUInt32 31)).toInt32 := ⟨_, rfl⟩
            refine lv_iushr (v := x_224) hx hb dX8_append_9 ex_224.symm ?_
            refine lv_sipush (v := 255) hx hb dX8_append_10 (by decide) ?_
            refine lv_iand hx hb dX8_append_13 ?_
            refine lv_topi (fun x_225 ex_225 => ?_)
            refine lv_istore_n hx hb dX8_append_14 rfl hl (by decide) (kTo [(3, .int x_225), (2, .int 0), (0, .ref jT), (1, .int p0)]) (fun ls hl => ?_)
            refine lv_iload_n hx hb dX8_append_15 rfl (lv_at hl 0 rfl) ?_
            refine lv_if_eq (tgt := 52) hx hb dX8_append_16 (by decide) (fun c_226 => ?_) (fun c_226 => ?_)
            · refine lv_iinc (v := (-8)) hx hb dX8_append_52 hl (k := 1) rfl (by decide) (by decide) (kTo [(2, .int (-8)), (3, .int x_225), (0, .ref jT), (1, .int p0)]) (fun ls hl => ?_)
              refine lv_goto (tgt := 3) hx hb dX8_append_55 (by decide) ?_
              refine lv_iload_n hx hb dX8_append_3 rfl (lv_at hl 0 rfl) ?_
              refine lv_if_lt (tgt := 58) hx hb dX8_append_4 (by decide) (fun c_227 => ?_) (fun c_227 => absurd (by decide) c_227)
              have hP9 := hP
              have hD9 := hD
              have hK9 := hK
              rw [hQ]
              exact W.vret hx hb hr (fun t ht hW => ⟨⟨(gT, kt), rfl, ⟨by omega, hgT⟩,  by rw [ht]; exact hP9, va_K.moved hW.alike hK9, hD9⟩, hS.F ht⟩) hS.2.2 dX8_append_58
            · refine lv_aload_n hx hb dX8_append_19 rfl (lv_at hl 2 rfl) ?_
              refine va_get (D := (dC, dI)) (ci := 8) (v := .int (nI (kt))) (C := RX8) (T := TX8) (N := 2) hx hb hts (fun _ h => List.mem_cons_of_mem _ (List.mem_append_right _ h)) hown hK hP 0 rfl rfl 1 (by decide) (hts (.fieldLink RX8 15 "NotEnded$Tape" "length" "I") (List.mem_cons_of_mem _ (List.mem_append_left _ (List.mem_of_getElem? (i := 0) rfl)))) (fun _ h9 => h9) rfl dX8_append_20 ?_
              refine lv_aload_n hx hb dX8_append_23 rfl (lv_at hl 2 rfl) ?_
              refine va_get (D := (dC, dI)) (ci := 8) (v := .ref t0) (C := RX8) (T := TX8) (N := 2) hx hb hts (fun _ h => List.mem_cons_of_mem _ (List.mem_append_right _ h)) hown hK hP 0 rfl rfl 0 (by decide) (hts (.fieldLink RX8 9 "NotEnded$Tape" "signs" "[C") (List.mem_cons_of_mem _ (List.mem_append_left _ (List.mem_of_getElem? (i := 1) rfl)))) (fun _ h9 => h9) rfl dX8_append_24 ?_
              refine va_alen hx hb hK hP 1 0 rfl rfl (v := 120) rfl dX8_append_27 ?_
              refine lv_icmp_ge (tgt := 52) hx hb dX8_append_28 (by decide) (fun c_228 => ?_) (fun c_228 => ?_)
              · have hn_229 := kle (a := 120) (b := kt) (by omega) (by omega) c_228
                refine lv_iinc (v := (-8)) hx hb dX8_append_52 hl (k := 1) rfl (by decide) (by decide) (kTo [(2, .int (-8)), (3, .int x_225), (0, .ref jT), (1, .int p0)]) (fun ls hl => ?_)
                refine lv_goto (tgt := 3) hx hb dX8_append_55 (by decide) ?_
                refine lv_iload_n hx hb dX8_append_3 rfl (lv_at hl 0 rfl) ?_
                refine lv_if_lt (tgt := 58) hx hb dX8_append_4 (by decide) (fun c_230 => ?_) (fun c_230 => absurd (by decide) c_230)
                have hP9 := hP
                have hD9 := hD
                have hK9 := hK
                rw [hQ]
                exact W.vret hx hb hr (fun t ht hW => ⟨⟨(gT, kt), rfl, ⟨by omega, hgT⟩,  by rw [ht]; exact hP9, va_K.moved hW.alike hK9, hD9⟩, hS.F ht⟩) hS.2.2 dX8_append_58
              · have hn_231 := knle (a := 120) (b := kt) (by omega) (by omega) c_228
                refine lv_aload_n hx hb dX8_append_31 rfl (lv_at hl 2 rfl) ?_
                refine va_get (D := (dC, dI)) (ci := 8) (v := .ref t0) (C := RX8) (T := TX8) (N := 2) hx hb hts (fun _ h => List.mem_cons_of_mem _ (List.mem_append_right _ h)) hown hK hP 0 rfl rfl 0 (by decide) (hts (.fieldLink RX8 9 "NotEnded$Tape" "signs" "[C") (List.mem_cons_of_mem _ (List.mem_append_left _ (List.mem_of_getElem? (i := 1) rfl)))) (fun _ h9 => h9) rfl dX8_append_32 ?_
                refine lv_aload_n hx hb dX8_append_35 rfl (lv_at hl 2 rfl) ?_
                refine va_get (D := (dC, dI)) (ci := 8) (v := .int (nI (kt))) (C := RX8) (T := TX8) (N := 2) hx hb hts (fun _ h => List.mem_cons_of_mem _ (List.mem_append_right _ h)) hown hK hP 0 rfl rfl 1 (by decide) (hts (.fieldLink RX8 15 "NotEnded$Tape" "length" "I") (List.mem_cons_of_mem _ (List.mem_append_left _ (List.mem_of_getElem? (i := 0) rfl)))) (fun _ h9 => h9) rfl dX8_append_36 ?_
                refine lv_iload_n hx hb dX8_append_39 rfl (lv_at hl 0 rfl) ?_
                obtain ⟨x_232, ex_232⟩ : ∃ z : Int32, z = (Int32.toUInt32 x_225 % 65536).toInt32 := ⟨_, rfl⟩
                refine lv_i2c (v := x_232) hx hb dX8_append_40 ex_232.symm ?_
                refine va_cast hx hb hK hP hD hS 1 0 rfl rfl (vp_in_nI (n := kt) (N := 120) (by omega) (by omega)) dX8_append_41 (fun H locs hP hD hS => ?_)
                obtain ⟨f_233, ef_233⟩ : ∃ gg9 : Nat → Int32, gg9 = upd gT (Int32.toNatClampNeg (nI (kt))) (vp_nar .char x_232) := ⟨_, rfl⟩
                obtain ⟨hP, hD⟩ : kPD dC dI A [(jT, .inr (8, [.ref t0, .int (nI (kt))])), (t0, .inl (cC, 120, .inl f_233))] H := by rw [ef_233]; exact ⟨hP, hD⟩
                refine lv_aload_n hx hb dX8_append_42 rfl (lv_at hl 2 rfl) ?_
                refine lv_dup hx hb dX8_append_43 rfl ?_
                refine va_get (D := (dC, dI)) (ci := 8) (v := .int (nI (kt))) (C := RX8) (T := TX8) (N := 2) hx hb hts (fun _ h => List.mem_cons_of_mem _ (List.mem_append_right _ h)) hown hK hP 0 rfl rfl 1 (by decide) (hts (.fieldLink RX8 15 "NotEnded$Tape" "length" "I") (List.mem_cons_of_mem _ (List.mem_append_left _ (List.mem_of_getElem? (i := 0) rfl)))) (fun _ h9 => h9) rfl dX8_append_44 ?_
                refine lv_iconst (v := 1) hx hb dX8_append_47 (by decide) ?_
                refine lv_iadd hx hb dX8_append_48 ?_
                refine lv_topi (fun y_234 ey_234 => ?_)
                obtain rfl : y_234 = nI (kt + 1) := ey_234.trans (nI_add (kt) (1))
                refine va_put (D := (dC, dI)) (ci := 8) (v := .int (nI (kt + 1))) (ty := tyX8 1) (C := RX8) (T := TX8) (N := 2) hx hb hts (fun _ h => List.mem_cons_of_mem _ (List.mem_append_right _ h)) tyX8 tyX8_ok nmX8 hown hK hP hD hS 0 rfl rfl 1 (by decide) (hts (.fieldLink RX8 15 "NotEnded$Tape" "length" "I") (List.mem_cons_of_mem _ (List.mem_append_left _ (List.mem_of_getElem? (i := 0) rfl)))) (fun _ h9 => h9) rfl (tyX8_ok 1 (by decide)) rfl rfl (Nat.le_of_ble_eq_true rfl) dX8_append_49 (fun H locs hP hD hS => ?_)
                obtain ⟨hP, hD⟩ : kPD dC dI A [(jT, .inr (8, [.ref t0, .int (nI (kt + 1))])), (t0, .inl (cC, 120, .inl f_233))] H := ⟨hP, hD⟩
                refine lv_iinc (v := (-8)) hx hb dX8_append_52 hl (k := 1) rfl (by decide) (by decide) (kTo [(2, .int (-8)), (3, .int x_225), (0, .ref jT), (1, .int p0)]) (fun ls hl => ?_)
                refine lv_goto (tgt := 3) hx hb dX8_append_55 (by decide) ?_
                refine lv_iload_n hx hb dX8_append_3 rfl (lv_at hl 0 rfl) ?_
                refine lv_if_lt (tgt := 58) hx hb dX8_append_4 (by decide) (fun c_235 => ?_) (fun c_235 => absurd (by decide) c_235)
                have hP9 := hP
                have hD9 := hD
                have hK9 := hK
                rw [hQ]
                exact W.vret hx hb hr (fun t ht hW => ⟨⟨(f_233, (kt + 1)), rfl, ⟨by omega, (kNarU ef_233 hgT)⟩,  by rw [ht]; exact hP9, va_K.moved hW.alike hK9, hD9⟩, hS.F ht⟩) hS.2.2 dX8_append_58
          · refine lv_aload_n hx hb dX8_append_19 rfl (lv_at hl 2 rfl) ?_
            refine va_get (D := (dC, dI)) (ci := 8) (v := .int (nI (kt))) (C := RX8) (T := TX8) (N := 2) hx hb hts (fun _ h => List.mem_cons_of_mem _ (List.mem_append_right _ h)) hown hK hP 0 rfl rfl 1 (by decide) (hts (.fieldLink RX8 15 "NotEnded$Tape" "length" "I") (List.mem_cons_of_mem _ (List.mem_append_left _ (List.mem_of_getElem? (i := 0) rfl)))) (fun _ h9 => h9) rfl dX8_append_20 ?_
            refine lv_aload_n hx hb dX8_append_23 rfl (lv_at hl 2 rfl) ?_
            refine va_get (D := (dC, dI)) (ci := 8) (v := .ref t0) (C := RX8) (T := TX8) (N := 2) hx hb hts (fun _ h => List.mem_cons_of_mem _ (List.mem_append_right _ h)) hown hK hP 0 rfl rfl 0 (by decide) (hts (.fieldLink RX8 9 "NotEnded$Tape" "signs" "[C") (List.mem_cons_of_mem _ (List.mem_append_left _ (List.mem_of_getElem? (i := 1) rfl)))) (fun _ h9 => h9) rfl dX8_append_24 ?_
            refine va_alen hx hb hK hP 1 0 rfl rfl (v := 120) rfl dX8_append_27 ?_
            refine lv_icmp_ge (tgt := 52) hx hb dX8_append_28 (by decide) (fun c_236 => ?_) (fun c_236 => ?_)
            · have hn_237 := kle (a := 120) (b := kt) (by omega) (by omega) c_236
              refine lv_iinc (v := 0) hx hb dX8_append_52 hl (k := 1) rfl (by decide) (by decide) (kTo [(2, .int 0), (3, .int x_221), (0, .ref jT), (1, .int p0)]) (fun ls hl => ?_)
              refine lv_goto (tgt := 3) hx hb dX8_append_55 (by decide) ?_
              refine lv_iload_n hx hb dX8_append_3 rfl (lv_at hl 0 rfl) ?_
              refine lv_if_lt (tgt := 58) hx hb dX8_append_4 (by decide) (fun c_238 => absurd c_238 (by decide)) (fun c_238 => ?_)
              refine lv_iload_n hx hb dX8_append_7 rfl (lv_at hl 3 rfl) ?_
              refine lv_iload_n hx hb dX8_append_8 rfl (lv_at hl 0 rfl) ?_
              obtain ⟨x_239, ex_239⟩ : ∃ z : Int32, z = (Int32.toUInt32 p0 >>> (Int32.toUInt32 0 &&& Int32.toUInt32 31)).toInt32 := ⟨_, rfl⟩
              refine lv_iushr (v := x_239) hx hb dX8_append_9 ex_239.symm ?_
              refine lv_sipush (v := 255) hx hb dX8_append_10 (by decide) ?_
              refine lv_iand hx hb dX8_append_13 ?_
              refine lv_topi (fun x_240 ex_240 => ?_)
              refine lv_istore_n hx hb dX8_append_14 rfl hl (by decide) (kTo [(3, .int x_240), (2, .int 0), (0, .ref jT), (1, .int p0)]) (fun ls hl => ?_)
              refine lv_iload_n hx hb dX8_append_15 rfl (lv_at hl 0 rfl) ?_
              refine lv_if_eq (tgt := 52) hx hb dX8_append_16 (by decide) (fun c_241 => ?_) (fun c_241 => ?_)
              · refine lv_iinc (v := (-8)) hx hb dX8_append_52 hl (k := 1) rfl (by decide) (by decide) (kTo [(2, .int (-8)), (3, .int x_240), (0, .ref jT), (1, .int p0)]) (fun ls hl => ?_)
                refine lv_goto (tgt := 3) hx hb dX8_append_55 (by decide) ?_
                refine lv_iload_n hx hb dX8_append_3 rfl (lv_at hl 0 rfl) ?_
                refine lv_if_lt (tgt := 58) hx hb dX8_append_4 (by decide) (fun c_242 => ?_) (fun c_242 => absurd (by decide) c_242)
                have hP9 := hP
                have hD9 := hD
                have hK9 := hK
                rw [hQ]
                exact W.vret hx hb hr (fun t ht hW => ⟨⟨(gT, kt), rfl, ⟨by omega, hgT⟩,  by rw [ht]; exact hP9, va_K.moved hW.alike hK9, hD9⟩, hS.F ht⟩) hS.2.2 dX8_append_58
              · refine lv_aload_n hx hb dX8_append_19 rfl (lv_at hl 2 rfl) ?_
                refine va_get (D := (dC, dI)) (ci := 8) (v := .int (nI (kt))) (C := RX8) (T := TX8) (N := 2) hx hb hts (fun _ h => List.mem_cons_of_mem _ (List.mem_append_right _ h)) hown hK hP 0 rfl rfl 1 (by decide) (hts (.fieldLink RX8 15 "NotEnded$Tape" "length" "I") (List.mem_cons_of_mem _ (List.mem_append_left _ (List.mem_of_getElem? (i := 0) rfl)))) (fun _ h9 => h9) rfl dX8_append_20 ?_
                refine lv_aload_n hx hb dX8_append_23 rfl (lv_at hl 2 rfl) ?_
                refine va_get (D := (dC, dI)) (ci := 8) (v := .ref t0) (C := RX8) (T := TX8) (N := 2) hx hb hts (fun _ h => List.mem_cons_of_mem _ (List.mem_append_right _ h)) hown hK hP 0 rfl rfl 0 (by decide) (hts (.fieldLink RX8 9 "NotEnded$Tape" "signs" "[C") (List.mem_cons_of_mem _ (List.mem_append_left _ (List.mem_of_getElem? (i := 1) rfl)))) (fun _ h9 => h9) rfl dX8_append_24 ?_
                refine va_alen hx hb hK hP 1 0 rfl rfl (v := 120) rfl dX8_append_27 ?_
                refine lv_icmp_ge (tgt := 52) hx hb dX8_append_28 (by decide) (fun c_243 => ?_) (fun c_243 => ?_)
                · have hn_244 := kle (a := 120) (b := kt) (by omega) (by omega) c_243
                  refine lv_iinc (v := (-8)) hx hb dX8_append_52 hl (k := 1) rfl (by decide) (by decide) (kTo [(2, .int (-8)), (3, .int x_240), (0, .ref jT), (1, .int p0)]) (fun ls hl => ?_)
                  refine lv_goto (tgt := 3) hx hb dX8_append_55 (by decide) ?_
                  refine lv_iload_n hx hb dX8_append_3 rfl (lv_at hl 0 rfl) ?_
                  refine lv_if_lt (tgt := 58) hx hb dX8_append_4 (by decide) (fun c_245 => ?_) (fun c_245 => absurd (by decide) c_245)
                  have hP9 := hP
                  have hD9 := hD
                  have hK9 := hK
                  rw [hQ]
                  exact W.vret hx hb hr (fun t ht hW => ⟨⟨(gT, kt), rfl, ⟨by omega, hgT⟩,  by rw [ht]; exact hP9, va_K.moved hW.alike hK9, hD9⟩, hS.F ht⟩) hS.2.2 dX8_append_58
                · have hn_246 := knle (a := 120) (b := kt) (by omega) (by omega) c_243
                  refine lv_aload_n hx hb dX8_append_31 rfl (lv_at hl 2 rfl) ?_
                  refine va_get (D := (dC, dI)) (ci := 8) (v := .ref t0) (C := RX8) (T := TX8) (N := 2) hx hb hts (fun _ h => List.mem_cons_of_mem _ (List.mem_append_right _ h)) hown hK hP 0 rfl rfl 0 (by decide) (hts (.fieldLink RX8 9 "NotEnded$Tape" "signs" "[C") (List.mem_cons_of_mem _ (List.mem_append_left _ (List.mem_of_getElem? (i := 1) rfl)))) (fun _ h9 => h9) rfl dX8_append_32 ?_
                  refine lv_aload_n hx hb dX8_append_35 rfl (lv_at hl 2 rfl) ?_
                  refine va_get (D := (dC, dI)) (ci := 8) (v := .int (nI (kt))) (C := RX8) (T := TX8) (N := 2) hx hb hts (fun _ h => List.mem_cons_of_mem _ (List.mem_append_right _ h)) hown hK hP 0 rfl rfl 1 (by decide) (hts (.fieldLink RX8 15 "NotEnded$Tape" "length" "I") (List.mem_cons_of_mem _ (List.mem_append_left _ (List.mem_of_getElem? (i := 0) rfl)))) (fun _ h9 => h9) rfl dX8_append_36 ?_
                  refine lv_iload_n hx hb dX8_append_39 rfl (lv_at hl 0 rfl) ?_
                  obtain ⟨x_247, ex_247⟩ : ∃ z : Int32, z = (Int32.toUInt32 x_240 % 65536).toInt32 := ⟨_, rfl⟩
                  refine lv_i2c (v := x_247) hx hb dX8_append_40 ex_247.symm ?_
                  refine va_cast hx hb hK hP hD hS 1 0 rfl rfl (vp_in_nI (n := kt) (N := 120) (by omega) (by omega)) dX8_append_41 (fun H locs hP hD hS => ?_)
                  obtain ⟨f_248, ef_248⟩ : ∃ gg9 : Nat → Int32, gg9 = upd gT (Int32.toNatClampNeg (nI (kt))) (vp_nar .char x_247) := ⟨_, rfl⟩
                  obtain ⟨hP, hD⟩ : kPD dC dI A [(jT, .inr (8, [.ref t0, .int (nI (kt))])), (t0, .inl (cC, 120, .inl f_248))] H := by rw [ef_248]; exact ⟨hP, hD⟩
                  refine lv_aload_n hx hb dX8_append_42 rfl (lv_at hl 2 rfl) ?_
                  refine lv_dup hx hb dX8_append_43 rfl ?_
                  refine va_get (D := (dC, dI)) (ci := 8) (v := .int (nI (kt))) (C := RX8) (T := TX8) (N := 2) hx hb hts (fun _ h => List.mem_cons_of_mem _ (List.mem_append_right _ h)) hown hK hP 0 rfl rfl 1 (by decide) (hts (.fieldLink RX8 15 "NotEnded$Tape" "length" "I") (List.mem_cons_of_mem _ (List.mem_append_left _ (List.mem_of_getElem? (i := 0) rfl)))) (fun _ h9 => h9) rfl dX8_append_44 ?_
                  refine lv_iconst (v := 1) hx hb dX8_append_47 (by decide) ?_
                  refine lv_iadd hx hb dX8_append_48 ?_
                  refine lv_topi (fun y_249 ey_249 => ?_)
                  obtain rfl : y_249 = nI (kt + 1) := ey_249.trans (nI_add (kt) (1))
                  refine va_put (D := (dC, dI)) (ci := 8) (v := .int (nI (kt + 1))) (ty := tyX8 1) (C := RX8) (T := TX8) (N := 2) hx hb hts (fun _ h => List.mem_cons_of_mem _ (List.mem_append_right _ h)) tyX8 tyX8_ok nmX8 hown hK hP hD hS 0 rfl rfl 1 (by decide) (hts (.fieldLink RX8 15 "NotEnded$Tape" "length" "I") (List.mem_cons_of_mem _ (List.mem_append_left _ (List.mem_of_getElem? (i := 0) rfl)))) (fun _ h9 => h9) rfl (tyX8_ok 1 (by decide)) rfl rfl (Nat.le_of_ble_eq_true rfl) dX8_append_49 (fun H locs hP hD hS => ?_)
                  obtain ⟨hP, hD⟩ : kPD dC dI A [(jT, .inr (8, [.ref t0, .int (nI (kt + 1))])), (t0, .inl (cC, 120, .inl f_248))] H := ⟨hP, hD⟩
                  refine lv_iinc (v := (-8)) hx hb dX8_append_52 hl (k := 1) rfl (by decide) (by decide) (kTo [(2, .int (-8)), (3, .int x_240), (0, .ref jT), (1, .int p0)]) (fun ls hl => ?_)
                  refine lv_goto (tgt := 3) hx hb dX8_append_55 (by decide) ?_
                  refine lv_iload_n hx hb dX8_append_3 rfl (lv_at hl 0 rfl) ?_
                  refine lv_if_lt (tgt := 58) hx hb dX8_append_4 (by decide) (fun c_250 => ?_) (fun c_250 => absurd (by decide) c_250)
                  have hP9 := hP
                  have hD9 := hD
                  have hK9 := hK
                  rw [hQ]
                  exact W.vret hx hb hr (fun t ht hW => ⟨⟨(f_248, (kt + 1)), rfl, ⟨by omega, (kNarU ef_248 hgT)⟩,  by rw [ht]; exact hP9, va_K.moved hW.alike hK9, hD9⟩, hS.F ht⟩) hS.2.2 dX8_append_58
            · have hn_251 := knle (a := 120) (b := kt) (by omega) (by omega) c_236
              refine lv_aload_n hx hb dX8_append_31 rfl (lv_at hl 2 rfl) ?_
              refine va_get (D := (dC, dI)) (ci := 8) (v := .ref t0) (C := RX8) (T := TX8) (N := 2) hx hb hts (fun _ h => List.mem_cons_of_mem _ (List.mem_append_right _ h)) hown hK hP 0 rfl rfl 0 (by decide) (hts (.fieldLink RX8 9 "NotEnded$Tape" "signs" "[C") (List.mem_cons_of_mem _ (List.mem_append_left _ (List.mem_of_getElem? (i := 1) rfl)))) (fun _ h9 => h9) rfl dX8_append_32 ?_
              refine lv_aload_n hx hb dX8_append_35 rfl (lv_at hl 2 rfl) ?_
              refine va_get (D := (dC, dI)) (ci := 8) (v := .int (nI (kt))) (C := RX8) (T := TX8) (N := 2) hx hb hts (fun _ h => List.mem_cons_of_mem _ (List.mem_append_right _ h)) hown hK hP 0 rfl rfl 1 (by decide) (hts (.fieldLink RX8 15 "NotEnded$Tape" "length" "I") (List.mem_cons_of_mem _ (List.mem_append_left _ (List.mem_of_getElem? (i := 0) rfl)))) (fun _ h9 => h9) rfl dX8_append_36 ?_
              refine lv_iload_n hx hb dX8_append_39 rfl (lv_at hl 0 rfl) ?_
              obtain ⟨x_252, ex_252⟩ : ∃ z : Int32, z = (Int32.toUInt32 x_221 % 65536).toInt32 := ⟨_, rfl⟩
              refine lv_i2c (v := x_252) hx hb dX8_append_40 ex_252.symm ?_
              refine va_cast hx hb hK hP hD hS 1 0 rfl rfl (vp_in_nI (n := kt) (N := 120) (by omega) (by omega)) dX8_append_41 (fun H locs hP hD hS => ?_)
              obtain ⟨f_253, ef_253⟩ : ∃ gg9 : Nat → Int32, gg9 = upd gT (Int32.toNatClampNeg (nI (kt))) (vp_nar .char x_252) := ⟨_, rfl⟩
              obtain ⟨hP, hD⟩ : kPD dC dI A [(jT, .inr (8, [.ref t0, .int (nI (kt))])), (t0, .inl (cC, 120, .inl f_253))] H := by rw [ef_253]; exact ⟨hP, hD⟩
              refine lv_aload_n hx hb dX8_append_42 rfl (lv_at hl 2 rfl) ?_
              refine lv_dup hx hb dX8_append_43 rfl ?_
              refine va_get (D := (dC, dI)) (ci := 8) (v := .int (nI (kt))) (C := RX8) (T := TX8) (N := 2) hx hb hts (fun _ h => List.mem_cons_of_mem _ (List.mem_append_right _ h)) hown hK hP 0 rfl rfl 1 (by decide) (hts (.fieldLink RX8 15 "NotEnded$Tape" "length" "I") (List.mem_cons_of_mem _ (List.mem_append_left _ (List.mem_of_getElem? (i := 0) rfl)))) (fun _ h9 => h9) rfl dX8_append_44 ?_
              refine lv_iconst (v := 1) hx hb dX8_append_47 (by decide) ?_
              refine lv_iadd hx hb dX8_append_48 ?_
              refine lv_topi (fun y_254 ey_254 => ?_)
              obtain rfl : y_254 = nI (kt + 1) := ey_254.trans (nI_add (kt) (1))
              refine va_put (D := (dC, dI)) (ci := 8) (v := .int (nI (kt + 1))) (ty := tyX8 1) (C := RX8) (T := TX8) (N := 2) hx hb hts (fun _ h => List.mem_cons_of_mem _ (List.mem_append_right _ h)) tyX8 tyX8_ok nmX8 hown hK hP hD hS 0 rfl rfl 1 (by decide) (hts (.fieldLink RX8 15 "NotEnded$Tape" "length" "I") (List.mem_cons_of_mem _ (List.mem_append_left _ (List.mem_of_getElem? (i := 0) rfl)))) (fun _ h9 => h9) rfl (tyX8_ok 1 (by decide)) rfl rfl (Nat.le_of_ble_eq_true rfl) dX8_append_49 (fun H locs hP hD hS => ?_)
              obtain ⟨hP, hD⟩ : kPD dC dI A [(jT, .inr (8, [.ref t0, .int (nI (kt + 1))])), (t0, .inl (cC, 120, .inl f_253))] H := ⟨hP, hD⟩
              refine lv_iinc (v := 0) hx hb dX8_append_52 hl (k := 1) rfl (by decide) (by decide) (kTo [(2, .int 0), (3, .int x_221), (0, .ref jT), (1, .int p0)]) (fun ls hl => ?_)
              refine lv_goto (tgt := 3) hx hb dX8_append_55 (by decide) ?_
              refine lv_iload_n hx hb dX8_append_3 rfl (lv_at hl 0 rfl) ?_
              refine lv_if_lt (tgt := 58) hx hb dX8_append_4 (by decide) (fun c_255 => absurd c_255 (by decide)) (fun c_255 => ?_)
              refine lv_iload_n hx hb dX8_append_7 rfl (lv_at hl 3 rfl) ?_
              refine lv_iload_n hx hb dX8_append_8 rfl (lv_at hl 0 rfl) ?_
              obtain ⟨x_256, ex_256⟩ : ∃ z : Int32, z = (Int32.toUInt32 p0 >>> (Int32.toUInt32 0 &&& Int32.toUInt32 31)).toInt32 := ⟨_, rfl⟩
              refine lv_iushr (v := x_256) hx hb dX8_append_9 ex_256.symm ?_
              refine lv_sipush (v := 255) hx hb dX8_append_10 (by decide) ?_
              refine lv_iand hx hb dX8_append_13 ?_
              refine lv_topi (fun x_257 ex_257 => ?_)
              refine lv_istore_n hx hb dX8_append_14 rfl hl (by decide) (kTo [(3, .int x_257), (2, .int 0), (0, .ref jT), (1, .int p0)]) (fun ls hl => ?_)
              refine lv_iload_n hx hb dX8_append_15 rfl (lv_at hl 0 rfl) ?_
              refine lv_if_eq (tgt := 52) hx hb dX8_append_16 (by decide) (fun c_258 => ?_) (fun c_258 => ?_)
              · refine lv_iinc (v := (-8)) hx hb dX8_append_52 hl (k := 1) rfl (by decide) (by decide) (kTo [(2, .int (-8)), (3, .int x_257), (0, .ref jT), (1, .int p0)]) (fun ls hl => ?_)
                refine lv_goto (tgt := 3) hx hb dX8_append_55 (by decide) ?_
                refine lv_iload_n hx hb dX8_append_3 rfl (lv_at hl 0 rfl) ?_
                refine lv_if_lt (tgt := 58) hx hb dX8_append_4 (by decide) (fun c_259 => ?_) (fun c_259 => absurd (by decide) c_259)
                have hP9 := hP
                have hD9 := hD
                have hK9 := hK
                rw [hQ]
                exact W.vret hx hb hr (fun t ht hW => ⟨⟨(f_253, (kt + 1)), rfl, ⟨by omega, (kNarU ef_253 hgT)⟩,  by rw [ht]; exact hP9, va_K.moved hW.alike hK9, hD9⟩, hS.F ht⟩) hS.2.2 dX8_append_58
              · refine lv_aload_n hx hb dX8_append_19 rfl (lv_at hl 2 rfl) ?_
                refine va_get (D := (dC, dI)) (ci := 8) (v := .int (nI (kt + 1))) (C := RX8) (T := TX8) (N := 2) hx hb hts (fun _ h => List.mem_cons_of_mem _ (List.mem_append_right _ h)) hown hK hP 0 rfl rfl 1 (by decide) (hts (.fieldLink RX8 15 "NotEnded$Tape" "length" "I") (List.mem_cons_of_mem _ (List.mem_append_left _ (List.mem_of_getElem? (i := 0) rfl)))) (fun _ h9 => h9) rfl dX8_append_20 ?_
                refine lv_aload_n hx hb dX8_append_23 rfl (lv_at hl 2 rfl) ?_
                refine va_get (D := (dC, dI)) (ci := 8) (v := .ref t0) (C := RX8) (T := TX8) (N := 2) hx hb hts (fun _ h => List.mem_cons_of_mem _ (List.mem_append_right _ h)) hown hK hP 0 rfl rfl 0 (by decide) (hts (.fieldLink RX8 9 "NotEnded$Tape" "signs" "[C") (List.mem_cons_of_mem _ (List.mem_append_left _ (List.mem_of_getElem? (i := 1) rfl)))) (fun _ h9 => h9) rfl dX8_append_24 ?_
                refine va_alen hx hb hK hP 1 0 rfl rfl (v := 120) rfl dX8_append_27 ?_
                refine lv_icmp_ge (tgt := 52) hx hb dX8_append_28 (by decide) (fun c_260 => ?_) (fun c_260 => ?_)
                · have hn_261 := kle (a := 120) (b := kt + 1) (by omega) (by omega) c_260
                  refine lv_iinc (v := (-8)) hx hb dX8_append_52 hl (k := 1) rfl (by decide) (by decide) (kTo [(2, .int (-8)), (3, .int x_257), (0, .ref jT), (1, .int p0)]) (fun ls hl => ?_)
                  refine lv_goto (tgt := 3) hx hb dX8_append_55 (by decide) ?_
                  refine lv_iload_n hx hb dX8_append_3 rfl (lv_at hl 0 rfl) ?_
                  refine lv_if_lt (tgt := 58) hx hb dX8_append_4 (by decide) (fun c_262 => ?_) (fun c_262 => absurd (by decide) c_262)
                  have hP9 := hP
                  have hD9 := hD
                  have hK9 := hK
                  rw [hQ]
                  exact W.vret hx hb hr (fun t ht hW => ⟨⟨(f_253, (kt + 1)), rfl, ⟨by omega, (kNarU ef_253 hgT)⟩,  by rw [ht]; exact hP9, va_K.moved hW.alike hK9, hD9⟩, hS.F ht⟩) hS.2.2 dX8_append_58
                · have hn_263 := knle (a := 120) (b := kt + 1) (by omega) (by omega) c_260
                  refine lv_aload_n hx hb dX8_append_31 rfl (lv_at hl 2 rfl) ?_
                  refine va_get (D := (dC, dI)) (ci := 8) (v := .ref t0) (C := RX8) (T := TX8) (N := 2) hx hb hts (fun _ h => List.mem_cons_of_mem _ (List.mem_append_right _ h)) hown hK hP 0 rfl rfl 0 (by decide) (hts (.fieldLink RX8 9 "NotEnded$Tape" "signs" "[C") (List.mem_cons_of_mem _ (List.mem_append_left _ (List.mem_of_getElem? (i := 1) rfl)))) (fun _ h9 => h9) rfl dX8_append_32 ?_
                  refine lv_aload_n hx hb dX8_append_35 rfl (lv_at hl 2 rfl) ?_
                  refine va_get (D := (dC, dI)) (ci := 8) (v := .int (nI (kt + 1))) (C := RX8) (T := TX8) (N := 2) hx hb hts (fun _ h => List.mem_cons_of_mem _ (List.mem_append_right _ h)) hown hK hP 0 rfl rfl 1 (by decide) (hts (.fieldLink RX8 15 "NotEnded$Tape" "length" "I") (List.mem_cons_of_mem _ (List.mem_append_left _ (List.mem_of_getElem? (i := 0) rfl)))) (fun _ h9 => h9) rfl dX8_append_36 ?_
                  refine lv_iload_n hx hb dX8_append_39 rfl (lv_at hl 0 rfl) ?_
                  obtain ⟨x_264, ex_264⟩ : ∃ z : Int32, z = (Int32.toUInt32 x_257 % 65536).toInt32 := ⟨_, rfl⟩
                  refine lv_i2c (v := x_264) hx hb dX8_append_40 ex_264.symm ?_
                  refine va_cast hx hb hK hP hD hS 1 0 rfl rfl (vp_in_nI (n := kt + 1) (N := 120) (by omega) (by omega)) dX8_append_41 (fun H locs hP hD hS => ?_)
                  obtain ⟨f_265, ef_265⟩ : ∃ gg9 : Nat → Int32, gg9 = upd f_253 (Int32.toNatClampNeg (nI (kt + 1))) (vp_nar .char x_264) := ⟨_, rfl⟩
                  obtain ⟨hP, hD⟩ : kPD dC dI A [(jT, .inr (8, [.ref t0, .int (nI (kt + 1))])), (t0, .inl (cC, 120, .inl f_265))] H := by rw [ef_265]; exact ⟨hP, hD⟩
                  refine lv_aload_n hx hb dX8_append_42 rfl (lv_at hl 2 rfl) ?_
                  refine lv_dup hx hb dX8_append_43 rfl ?_
                  refine va_get (D := (dC, dI)) (ci := 8) (v := .int (nI (kt + 1))) (C := RX8) (T := TX8) (N := 2) hx hb hts (fun _ h => List.mem_cons_of_mem _ (List.mem_append_right _ h)) hown hK hP 0 rfl rfl 1 (by decide) (hts (.fieldLink RX8 15 "NotEnded$Tape" "length" "I") (List.mem_cons_of_mem _ (List.mem_append_left _ (List.mem_of_getElem? (i := 0) rfl)))) (fun _ h9 => h9) rfl dX8_append_44 ?_
                  refine lv_iconst (v := 1) hx hb dX8_append_47 (by decide) ?_
                  refine lv_iadd hx hb dX8_append_48 ?_
                  refine lv_topi (fun y_266 ey_266 => ?_)
                  obtain rfl : y_266 = nI (kt + 1 + 1) := ey_266.trans (nI_add (kt + 1) (1))
                  refine va_put (D := (dC, dI)) (ci := 8) (v := .int (nI (kt + 1 + 1))) (ty := tyX8 1) (C := RX8) (T := TX8) (N := 2) hx hb hts (fun _ h => List.mem_cons_of_mem _ (List.mem_append_right _ h)) tyX8 tyX8_ok nmX8 hown hK hP hD hS 0 rfl rfl 1 (by decide) (hts (.fieldLink RX8 15 "NotEnded$Tape" "length" "I") (List.mem_cons_of_mem _ (List.mem_append_left _ (List.mem_of_getElem? (i := 0) rfl)))) (fun _ h9 => h9) rfl (tyX8_ok 1 (by decide)) rfl rfl (Nat.le_of_ble_eq_true rfl) dX8_append_49 (fun H locs hP hD hS => ?_)
                  obtain ⟨hP, hD⟩ : kPD dC dI A [(jT, .inr (8, [.ref t0, .int (nI (kt + 1 + 1))])), (t0, .inl (cC, 120, .inl f_265))] H := ⟨hP, hD⟩
                  refine lv_iinc (v := (-8)) hx hb dX8_append_52 hl (k := 1) rfl (by decide) (by decide) (kTo [(2, .int (-8)), (3, .int x_257), (0, .ref jT), (1, .int p0)]) (fun ls hl => ?_)
                  refine lv_goto (tgt := 3) hx hb dX8_append_55 (by decide) ?_
                  refine lv_iload_n hx hb dX8_append_3 rfl (lv_at hl 0 rfl) ?_
                  refine lv_if_lt (tgt := 58) hx hb dX8_append_4 (by decide) (fun c_267 => ?_) (fun c_267 => absurd (by decide) c_267)
                  have hP9 := hP
                  have hD9 := hD
                  have hK9 := hK
                  rw [hQ]
                  exact W.vret hx hb hr (fun t ht hW => ⟨⟨(f_265, (kt + 1 + 1)), rfl, ⟨by omega, (kNarU ef_265 (kNarU ef_253 hgT))⟩,  by rw [ht]; exact hP9, va_K.moved hW.alike hK9, hD9⟩, hS.F ht⟩) hS.2.2 dX8_append_58
        · have hn_268 := knle (a := 120) (b := kt) (by omega) (by omega) c_217
          refine lv_aload_n hx hb dX8_append_31 rfl (lv_at hl 2 rfl) ?_
          refine va_get (D := (dC, dI)) (ci := 8) (v := .ref t0) (C := RX8) (T := TX8) (N := 2) hx hb hts (fun _ h => List.mem_cons_of_mem _ (List.mem_append_right _ h)) hown hK hP 0 rfl rfl 0 (by decide) (hts (.fieldLink RX8 9 "NotEnded$Tape" "signs" "[C") (List.mem_cons_of_mem _ (List.mem_append_left _ (List.mem_of_getElem? (i := 1) rfl)))) (fun _ h9 => h9) rfl dX8_append_32 ?_
          refine lv_aload_n hx hb dX8_append_35 rfl (lv_at hl 2 rfl) ?_
          refine va_get (D := (dC, dI)) (ci := 8) (v := .int (nI (kt))) (C := RX8) (T := TX8) (N := 2) hx hb hts (fun _ h => List.mem_cons_of_mem _ (List.mem_append_right _ h)) hown hK hP 0 rfl rfl 1 (by decide) (hts (.fieldLink RX8 15 "NotEnded$Tape" "length" "I") (List.mem_cons_of_mem _ (List.mem_append_left _ (List.mem_of_getElem? (i := 0) rfl)))) (fun _ h9 => h9) rfl dX8_append_36 ?_
          refine lv_iload_n hx hb dX8_append_39 rfl (lv_at hl 0 rfl) ?_
          obtain ⟨x_269, ex_269⟩ : ∃ z : Int32, z = (Int32.toUInt32 x_166 % 65536).toInt32 := ⟨_, rfl⟩
          refine lv_i2c (v := x_269) hx hb dX8_append_40 ex_269.symm ?_
          refine va_cast hx hb hK hP hD hS 1 0 rfl rfl (vp_in_nI (n := kt) (N := 120) (by omega) (by omega)) dX8_append_41 (fun H locs hP hD hS => ?_)
          obtain ⟨f_270, ef_270⟩ : ∃ gg9 : Nat → Int32, gg9 = upd gT (Int32.toNatClampNeg (nI (kt))) (vp_nar .char x_269) := ⟨_, rfl⟩
          obtain ⟨hP, hD⟩ : kPD dC dI A [(jT, .inr (8, [.ref t0, .int (nI (kt))])), (t0, .inl (cC, 120, .inl f_270))] H := by rw [ef_270]; exact ⟨hP, hD⟩
          refine lv_aload_n hx hb dX8_append_42 rfl (lv_at hl 2 rfl) ?_
          refine lv_dup hx hb dX8_append_43 rfl ?_
          refine va_get (D := (dC, dI)) (ci := 8) (v := .int (nI (kt))) (C := RX8) (T := TX8) (N := 2) hx hb hts (fun _ h => List.mem_cons_of_mem _ (List.mem_append_right _ h)) hown hK hP 0 rfl rfl 1 (by decide) (hts (.fieldLink RX8 15 "NotEnded$Tape" "length" "I") (List.mem_cons_of_mem _ (List.mem_append_left _ (List.mem_of_getElem? (i := 0) rfl)))) (fun _ h9 => h9) rfl dX8_append_44 ?_
          refine lv_iconst (v := 1) hx hb dX8_append_47 (by decide) ?_
          refine lv_iadd hx hb dX8_append_48 ?_
          refine lv_topi (fun y_271 ey_271 => ?_)
          obtain rfl : y_271 = nI (kt + 1) := ey_271.trans (nI_add (kt) (1))
          refine va_put (D := (dC, dI)) (ci := 8) (v := .int (nI (kt + 1))) (ty := tyX8 1) (C := RX8) (T := TX8) (N := 2) hx hb hts (fun _ h => List.mem_cons_of_mem _ (List.mem_append_right _ h)) tyX8 tyX8_ok nmX8 hown hK hP hD hS 0 rfl rfl 1 (by decide) (hts (.fieldLink RX8 15 "NotEnded$Tape" "length" "I") (List.mem_cons_of_mem _ (List.mem_append_left _ (List.mem_of_getElem? (i := 0) rfl)))) (fun _ h9 => h9) rfl (tyX8_ok 1 (by decide)) rfl rfl (Nat.le_of_ble_eq_true rfl) dX8_append_49 (fun H locs hP hD hS => ?_)
          obtain ⟨hP, hD⟩ : kPD dC dI A [(jT, .inr (8, [.ref t0, .int (nI (kt + 1))])), (t0, .inl (cC, 120, .inl f_270))] H := ⟨hP, hD⟩
          refine lv_iinc (v := 8) hx hb dX8_append_52 hl (k := 1) rfl (by decide) (by decide) (kTo [(2, .int 8), (3, .int x_166), (0, .ref jT), (1, .int p0)]) (fun ls hl => ?_)
          refine lv_goto (tgt := 3) hx hb dX8_append_55 (by decide) ?_
          refine lv_iload_n hx hb dX8_append_3 rfl (lv_at hl 0 rfl) ?_
          refine lv_if_lt (tgt := 58) hx hb dX8_append_4 (by decide) (fun c_272 => absurd c_272 (by decide)) (fun c_272 => ?_)
          refine lv_iload_n hx hb dX8_append_7 rfl (lv_at hl 3 rfl) ?_
          refine lv_iload_n hx hb dX8_append_8 rfl (lv_at hl 0 rfl) ?_
          obtain ⟨x_273, ex_273⟩ : ∃ z : Int32, z = (Int32.toUInt32 p0 >>> (Int32.toUInt32 8 &&& Int32.toUInt32 31)).toInt32 := ⟨_, rfl⟩
          refine lv_iushr (v := x_273) hx hb dX8_append_9 ex_273.symm ?_
          refine lv_sipush (v := 255) hx hb dX8_append_10 (by decide) ?_
          refine lv_iand hx hb dX8_append_13 ?_
          refine lv_topi (fun x_274 ex_274 => ?_)
          refine lv_istore_n hx hb dX8_append_14 rfl hl (by decide) (kTo [(3, .int x_274), (2, .int 8), (0, .ref jT), (1, .int p0)]) (fun ls hl => ?_)
          refine lv_iload_n hx hb dX8_append_15 rfl (lv_at hl 0 rfl) ?_
          refine lv_if_eq (tgt := 52) hx hb dX8_append_16 (by decide) (fun c_275 => ?_) (fun c_275 => ?_)
          · refine lv_iinc (v := 0) hx hb dX8_append_52 hl (k := 1) rfl (by decide) (by decide) (kTo [(2, .int 0), (3, .int x_274), (0, .ref jT), (1, .int p0)]) (fun ls hl => ?_)
            refine lv_goto (tgt := 3) hx hb dX8_append_55 (by decide) ?_
            refine lv_iload_n hx hb dX8_append_3 rfl (lv_at hl 0 rfl) ?_
            refine lv_if_lt (tgt := 58) hx hb dX8_append_4 (by decide) (fun c_276 => absurd c_276 (by decide)) (fun c_276 => ?_)
            refine lv_iload_n hx hb dX8_append_7 rfl (lv_at hl 3 rfl) ?_
            refine lv_iload_n hx hb dX8_append_8 rfl (lv_at hl 0 rfl) ?_
            obtain ⟨x_277, ex_277⟩ : ∃ z : Int32, z = (Int32.toUInt32 p0 >>> (Int32.toUInt32 0 &&& Int32.toUInt32 31)).toInt32 := ⟨_, rfl⟩
            refine lv_iushr (v := x_277) hx hb dX8_append_9 ex_277.symm ?_
            refine lv_sipush (v := 255) hx hb dX8_append_10 (by decide) ?_
            refine lv_iand hx hb dX8_append_13 ?_
            refine lv_topi (fun x_278 ex_278 => ?_)
            refine lv_istore_n hx hb dX8_append_14 rfl hl (by decide) (kTo [(3, .int x_278), (2, .int 0), (0, .ref jT), (1, .int p0)]) (fun ls hl => ?_)
            refine lv_iload_n hx hb dX8_append_15 rfl (lv_at hl 0 rfl) ?_
            refine lv_if_eq (tgt := 52) hx hb dX8_append_16 (by decide) (fun c_279 => ?_) (fun c_279 => ?_)
            · refine lv_iinc (v := (-8)) hx hb dX8_append_52 hl (k := 1) rfl (by decide) (by decide) (kTo [(2, .int (-8)), (3, .int x_278), (0, .ref jT), (1, .int p0)]) (fun ls hl => ?_)
              refine lv_goto (tgt := 3) hx hb dX8_append_55 (by decide) ?_
              refine lv_iload_n hx hb dX8_append_3 rfl (lv_at hl 0 rfl) ?_
              refine lv_if_lt (tgt := 58) hx hb dX8_append_4 (by decide) (fun c_280 => ?_) (fun c_280 => absurd (by decide) c_280)
              have hP9 := hP
              have hD9 := hD
              have hK9 := hK
              rw [hQ]
              exact W.vret hx hb hr (fun t ht hW => ⟨⟨(f_270, (kt + 1)), rfl, ⟨by omega, (kNarU ef_270 hgT)⟩,  by rw [ht]; exact hP9, va_K.moved hW.alike hK9, hD9⟩, hS.F ht⟩) hS.2.2 dX8_append_58
            · refine lv_aload_n hx hb dX8_append_19 rfl (lv_at hl 2 rfl) ?_
              refine va_get (D := (dC, dI)) (ci := 8) (v := .int (nI (kt + 1))) (C := RX8) (T := TX8) (N := 2) hx hb hts (fun _ h => List.mem_cons_of_mem _ (List.mem_append_right _ h)) hown hK hP 0 rfl rfl 1 (by decide) (hts (.fieldLink RX8 15 "NotEnded$Tape" "length" "I") (List.mem_cons_of_mem _ (List.mem_append_left _ (List.mem_of_getElem? (i := 0) rfl)))) (fun _ h9 => h9) rfl dX8_append_20 ?_
              refine lv_aload_n hx hb dX8_append_23 rfl (lv_at hl 2 rfl) ?_
              refine va_get (D := (dC, dI)) (ci := 8) (v := .ref t0) (C := RX8) (T := TX8) (N := 2) hx hb hts (fun _ h => List.mem_cons_of_mem _ (List.mem_append_right _ h)) hown hK hP 0 rfl rfl 0 (by decide) (hts (.fieldLink RX8 9 "NotEnded$Tape" "signs" "[C") (List.mem_cons_of_mem _ (List.mem_append_left _ (List.mem_of_getElem? (i := 1) rfl)))) (fun _ h9 => h9) rfl dX8_append_24 ?_
              refine va_alen hx hb hK hP 1 0 rfl rfl (v := 120) rfl dX8_append_27 ?_
              refine lv_icmp_ge (tgt := 52) hx hb dX8_append_28 (by decide) (fun c_281 => ?_) (fun c_281 => ?_)
              · have hn_282 := kle (a := 120) (b := kt + 1) (by omega) (by omega) c_281
                refine lv_iinc (v := (-8)) hx hb dX8_append_52 hl (k := 1) rfl (by decide) (by decide) (kTo [(2, .int (-8)), (3, .int x_278), (0, .ref jT), (1, .int p0)]) (fun ls hl => ?_)
                refine lv_goto (tgt := 3) hx hb dX8_append_55 (by decide) ?_
                refine lv_iload_n hx hb dX8_append_3 rfl (lv_at hl 0 rfl) ?_
                refine lv_if_lt (tgt := 58) hx hb dX8_append_4 (by decide) (fun c_283 => ?_) (fun c_283 => absurd (by decide) c_283)
                have hP9 := hP
                have hD9 := hD
                have hK9 := hK
                rw [hQ]
                exact W.vret hx hb hr (fun t ht hW => ⟨⟨(f_270, (kt + 1)), rfl, ⟨by omega, (kNarU ef_270 hgT)⟩,  by rw [ht]; exact hP9, va_K.moved hW.alike hK9, hD9⟩, hS.F ht⟩) hS.2.2 dX8_append_58
              · have hn_284 := knle (a := 120) (b := kt + 1) (by omega) (by omega) c_281
                refine lv_aload_n hx hb dX8_append_31 rfl (lv_at hl 2 rfl) ?_
                refine va_get (D := (dC, dI)) (ci := 8) (v := .ref t0) (C := RX8) (T := TX8) (N := 2) hx hb hts (fun _ h => List.mem_cons_of_mem _ (List.mem_append_right _ h)) hown hK hP 0 rfl rfl 0 (by decide) (hts (.fieldLink RX8 9 "NotEnded$Tape" "signs" "[C") (List.mem_cons_of_mem _ (List.mem_append_left _ (List.mem_of_getElem? (i := 1) rfl)))) (fun _ h9 => h9) rfl dX8_append_32 ?_
                refine lv_aload_n hx hb dX8_append_35 rfl (lv_at hl 2 rfl) ?_
                refine va_get (D := (dC, dI)) (ci := 8) (v := .int (nI (kt + 1))) (C := RX8) (T := TX8) (N := 2) hx hb hts (fun _ h => List.mem_cons_of_mem _ (List.mem_append_right _ h)) hown hK hP 0 rfl rfl 1 (by decide) (hts (.fieldLink RX8 15 "NotEnded$Tape" "length" "I") (List.mem_cons_of_mem _ (List.mem_append_left _ (List.mem_of_getElem? (i := 0) rfl)))) (fun _ h9 => h9) rfl dX8_append_36 ?_
                refine lv_iload_n hx hb dX8_append_39 rfl (lv_at hl 0 rfl) ?_
                obtain ⟨x_285, ex_285⟩ : ∃ z : Int32, z = (Int32.toUInt32 x_278 % 65536).toInt32 := ⟨_, rfl⟩
                refine lv_i2c (v := x_285) hx hb dX8_append_40 ex_285.symm ?_
                refine va_cast hx hb hK hP hD hS 1 0 rfl rfl (vp_in_nI (n := kt + 1) (N := 120) (by omega) (by omega)) dX8_append_41 (fun H locs hP hD hS => ?_)
                obtain ⟨f_286, ef_286⟩ : ∃ gg9 : Nat → Int32, gg9 = upd f_270 (Int32.toNatClampNeg (nI (kt + 1))) (vp_nar .char x_285) := ⟨_, rfl⟩
                obtain ⟨hP, hD⟩ : kPD dC dI A [(jT, .inr (8, [.ref t0, .int (nI (kt + 1))])), (t0, .inl (cC, 120, .inl f_286))] H := by rw [ef_286]; exact ⟨hP, hD⟩
                refine lv_aload_n hx hb dX8_append_42 rfl (lv_at hl 2 rfl) ?_
                refine lv_dup hx hb dX8_append_43 rfl ?_
                refine va_get (D := (dC, dI)) (ci := 8) (v := .int (nI (kt + 1))) (C := RX8) (T := TX8) (N := 2) hx hb hts (fun _ h => List.mem_cons_of_mem _ (List.mem_append_right _ h)) hown hK hP 0 rfl rfl 1 (by decide) (hts (.fieldLink RX8 15 "NotEnded$Tape" "length" "I") (List.mem_cons_of_mem _ (List.mem_append_left _ (List.mem_of_getElem? (i := 0) rfl)))) (fun _ h9 => h9) rfl dX8_append_44 ?_
                refine lv_iconst (v := 1) hx hb dX8_append_47 (by decide) ?_
                refine lv_iadd hx hb dX8_append_48 ?_
                refine lv_topi (fun y_287 ey_287 => ?_)
                obtain rfl : y_287 = nI (kt + 1 + 1) := ey_287.trans (nI_add (kt + 1) (1))
                refine va_put (D := (dC, dI)) (ci := 8) (v := .int (nI (kt + 1 + 1))) (ty := tyX8 1) (C := RX8) (T := TX8) (N := 2) hx hb hts (fun _ h => List.mem_cons_of_mem _ (List.mem_append_right _ h)) tyX8 tyX8_ok nmX8 hown hK hP hD hS 0 rfl rfl 1 (by decide) (hts (.fieldLink RX8 15 "NotEnded$Tape" "length" "I") (List.mem_cons_of_mem _ (List.mem_append_left _ (List.mem_of_getElem? (i := 0) rfl)))) (fun _ h9 => h9) rfl (tyX8_ok 1 (by decide)) rfl rfl (Nat.le_of_ble_eq_true rfl) dX8_append_49 (fun H locs hP hD hS => ?_)
                obtain ⟨hP, hD⟩ : kPD dC dI A [(jT, .inr (8, [.ref t0, .int (nI (kt + 1 + 1))])), (t0, .inl (cC, 120, .inl f_286))] H := ⟨hP, hD⟩
                refine lv_iinc (v := (-8)) hx hb dX8_append_52 hl (k := 1) rfl (by decide) (by decide) (kTo [(2, .int (-8)), (3, .int x_278), (0, .ref jT), (1, .int p0)]) (fun ls hl => ?_)
                refine lv_goto (tgt := 3) hx hb dX8_append_55 (by decide) ?_
                refine lv_iload_n hx hb dX8_append_3 rfl (lv_at hl 0 rfl) ?_
                refine lv_if_lt (tgt := 58) hx hb dX8_append_4 (by decide) (fun c_288 => ?_) (fun c_288 => absurd (by decide) c_288)
                have hP9 := hP
                have hD9 := hD
                have hK9 := hK
                rw [hQ]
                exact W.vret hx hb hr (fun t ht hW => ⟨⟨(f_286, (kt + 1 + 1)), rfl, ⟨by omega, (kNarU ef_286 (kNarU ef_270 hgT))⟩,  by rw [ht]; exact hP9, va_K.moved hW.alike hK9, hD9⟩, hS.F ht⟩) hS.2.2 dX8_append_58
          · refine lv_aload_n hx hb dX8_append_19 rfl (lv_at hl 2 rfl) ?_
            refine va_get (D := (dC, dI)) (ci := 8) (v := .int (nI (kt + 1))) (C := RX8) (T := TX8) (N := 2) hx hb hts (fun _ h => List.mem_cons_of_mem _ (List.mem_append_right _ h)) hown hK hP 0 rfl rfl 1 (by decide) (hts (.fieldLink RX8 15 "NotEnded$Tape" "length" "I") (List.mem_cons_of_mem _ (List.mem_append_left _ (List.mem_of_getElem? (i := 0) rfl)))) (fun _ h9 => h9) rfl dX8_append_20 ?_
            refine lv_aload_n hx hb dX8_append_23 rfl (lv_at hl 2 rfl) ?_
            refine va_get (D := (dC, dI)) (ci := 8) (v := .ref t0) (C := RX8) (T := TX8) (N := 2) hx hb hts (fun _ h => List.mem_cons_of_mem _ (List.mem_append_right _ h)) hown hK hP 0 rfl rfl 0 (by decide) (hts (.fieldLink RX8 9 "NotEnded$Tape" "signs" "[C") (List.mem_cons_of_mem _ (List.mem_append_left _ (List.mem_of_getElem? (i := 1) rfl)))) (fun _ h9 => h9) rfl dX8_append_24 ?_
            refine va_alen hx hb hK hP 1 0 rfl rfl (v := 120) rfl dX8_append_27 ?_
            refine lv_icmp_ge (tgt := 52) hx hb dX8_append_28 (by decide) (fun c_289 => ?_) (fun c_289 => ?_)
            · have hn_290 := kle (a := 120) (b := kt + 1) (by omega) (by omega) c_289
              refine lv_iinc (v := 0) hx hb dX8_append_52 hl (k := 1) rfl (by decide) (by decide) (kTo [(2, .int 0), (3, .int x_274), (0, .ref jT), (1, .int p0)]) (fun ls hl => ?_)
              refine lv_goto (tgt := 3) hx hb dX8_append_55 (by decide) ?_
              refine lv_iload_n hx hb dX8_append_3 rfl (lv_at hl 0 rfl) ?_
              refine lv_if_lt (tgt := 58) hx hb dX8_append_4 (by decide) (fun c_291 => absurd c_291 (by decide)) (fun c_291 => ?_)
              refine lv_iload_n hx hb dX8_append_7 rfl (lv_at hl 3 rfl) ?_
              refine lv_iload_n hx hb dX8_append_8 rfl (lv_at hl 0 rfl) ?_
              obtain ⟨x_292, ex_292⟩ : ∃ z : Int32, z = (Int32.toUInt32 p0 >>> (Int32.toUInt32 0 &&& Int32.toUInt32 31)).toInt32 := ⟨_, rfl⟩
              refine lv_iushr (v := x_292) hx hb dX8_append_9 ex_292.symm ?_
              refine lv_sipush (v := 255) hx hb dX8_append_10 (by decide) ?_
              refine lv_iand hx hb dX8_append_13 ?_
              refine lv_topi (fun x_293 ex_293 => ?_)
              refine lv_istore_n hx hb dX8_append_14 rfl hl (by decide) (kTo [(3, .int x_293), (2, .int 0), (0, .ref jT), (1, .int p0)]) (fun ls hl => ?_)
              refine lv_iload_n hx hb dX8_append_15 rfl (lv_at hl 0 rfl) ?_
              refine lv_if_eq (tgt := 52) hx hb dX8_append_16 (by decide) (fun c_294 => ?_) (fun c_294 => ?_)
              · refine lv_iinc (v := (-8)) hx hb dX8_append_52 hl (k := 1) rfl (by decide) (by decide) (kTo [(2, .int (-8)), (3, .int x_293), (0, .ref jT), (1, .int p0)]) (fun ls hl => ?_)
                refine lv_goto (tgt := 3) hx hb dX8_append_55 (by decide) ?_
                refine lv_iload_n hx hb dX8_append_3 rfl (lv_at hl 0 rfl) ?_
                refine lv_if_lt (tgt := 58) hx hb dX8_append_4 (by decide) (fun c_295 => ?_) (fun c_295 => absurd (by decide) c_295)
                have hP9 := hP
                have hD9 := hD
                have hK9 := hK
                rw [hQ]
                exact W.vret hx hb hr (fun t ht hW => ⟨⟨(f_270, (kt + 1)), rfl, ⟨by omega, (kNarU ef_270 hgT)⟩,  by rw [ht]; exact hP9, va_K.moved hW.alike hK9, hD9⟩, hS.F ht⟩) hS.2.2 dX8_append_58
              · refine lv_aload_n hx hb dX8_append_19 rfl (lv_at hl 2 rfl) ?_
                refine va_get (D := (dC, dI)) (ci := 8) (v := .int (nI (kt + 1))) (C := RX8) (T := TX8) (N := 2) hx hb hts (fun _ h => List.mem_cons_of_mem _ (List.mem_append_right _ h)) hown hK hP 0 rfl rfl 1 (by decide) (hts (.fieldLink RX8 15 "NotEnded$Tape" "length" "I") (List.mem_cons_of_mem _ (List.mem_append_left _ (List.mem_of_getElem? (i := 0) rfl)))) (fun _ h9 => h9) rfl dX8_append_20 ?_
                refine lv_aload_n hx hb dX8_append_23 rfl (lv_at hl 2 rfl) ?_
                refine va_get (D := (dC, dI)) (ci := 8) (v := .ref t0) (C := RX8) (T := TX8) (N := 2) hx hb hts (fun _ h => List.mem_cons_of_mem _ (List.mem_append_right _ h)) hown hK hP 0 rfl rfl 0 (by decide) (hts (.fieldLink RX8 9 "NotEnded$Tape" "signs" "[C") (List.mem_cons_of_mem _ (List.mem_append_left _ (List.mem_of_getElem? (i := 1) rfl)))) (fun _ h9 => h9) rfl dX8_append_24 ?_
                refine va_alen hx hb hK hP 1 0 rfl rfl (v := 120) rfl dX8_append_27 ?_
                refine lv_icmp_ge (tgt := 52) hx hb dX8_append_28 (by decide) (fun c_296 => ?_) (fun c_296 => ?_)
                · have hn_297 := kle (a := 120) (b := kt + 1) (by omega) (by omega) c_296
                  refine lv_iinc (v := (-8)) hx hb dX8_append_52 hl (k := 1) rfl (by decide) (by decide) (kTo [(2, .int (-8)), (3, .int x_293), (0, .ref jT), (1, .int p0)]) (fun ls hl => ?_)
                  refine lv_goto (tgt := 3) hx hb dX8_append_55 (by decide) ?_
                  refine lv_iload_n hx hb dX8_append_3 rfl (lv_at hl 0 rfl) ?_
                  refine lv_if_lt (tgt := 58) hx hb dX8_append_4 (by decide) (fun c_298 => ?_) (fun c_298 => absurd (by decide) c_298)
                  have hP9 := hP
                  have hD9 := hD
                  have hK9 := hK
                  rw [hQ]
                  exact W.vret hx hb hr (fun t ht hW => ⟨⟨(f_270, (kt + 1)), rfl, ⟨by omega, (kNarU ef_270 hgT)⟩,  by rw [ht]; exact hP9, va_K.moved hW.alike hK9, hD9⟩, hS.F ht⟩) hS.2.2 dX8_append_58
                · have hn_299 := knle (a := 120) (b := kt + 1) (by omega) (by omega) c_296
                  refine lv_aload_n hx hb dX8_append_31 rfl (lv_at hl 2 rfl) ?_
                  refine va_get (D := (dC, dI)) (ci := 8) (v := .ref t0) (C := RX8) (T := TX8) (N := 2) hx hb hts (fun _ h => List.mem_cons_of_mem _ (List.mem_append_right _ h)) hown hK hP 0 rfl rfl 0 (by decide) (hts (.fieldLink RX8 9 "NotEnded$Tape" "signs" "[C") (List.mem_cons_of_mem _ (List.mem_append_left _ (List.mem_of_getElem? (i := 1) rfl)))) (fun _ h9 => h9) rfl dX8_append_32 ?_
                  refine lv_aload_n hx hb dX8_append_35 rfl (lv_at hl 2 rfl) ?_
                  refine va_get (D := (dC, dI)) (ci := 8) (v := .int (nI (kt + 1))) (C := RX8) (T := TX8) (N := 2) hx hb hts (fun _ h => List.mem_cons_of_mem _ (List.mem_append_right _ h)) hown hK hP 0 rfl rfl 1 (by decide) (hts (.fieldLink RX8 15 "NotEnded$Tape" "length" "I") (List.mem_cons_of_mem _ (List.mem_append_left _ (List.mem_of_getElem? (i := 0) rfl)))) (fun _ h9 => h9) rfl dX8_append_36 ?_
                  refine lv_iload_n hx hb dX8_append_39 rfl (lv_at hl 0 rfl) ?_
                  obtain ⟨x_300, ex_300⟩ : ∃ z : Int32, z = (Int32.toUInt32 x_293 % 65536).toInt32 := ⟨_, rfl⟩
                  refine lv_i2c (v := x_300) hx hb dX8_append_40 ex_300.symm ?_
                  refine va_cast hx hb hK hP hD hS 1 0 rfl rfl (vp_in_nI (n := kt + 1) (N := 120) (by omega) (by omega)) dX8_append_41 (fun H locs hP hD hS => ?_)
                  obtain ⟨f_301, ef_301⟩ : ∃ gg9 : Nat → Int32, gg9 = upd f_270 (Int32.toNatClampNeg (nI (kt + 1))) (vp_nar .char x_300) := ⟨_, rfl⟩
                  obtain ⟨hP, hD⟩ : kPD dC dI A [(jT, .inr (8, [.ref t0, .int (nI (kt + 1))])), (t0, .inl (cC, 120, .inl f_301))] H := by rw [ef_301]; exact ⟨hP, hD⟩
                  refine lv_aload_n hx hb dX8_append_42 rfl (lv_at hl 2 rfl) ?_
                  refine lv_dup hx hb dX8_append_43 rfl ?_
                  refine va_get (D := (dC, dI)) (ci := 8) (v := .int (nI (kt + 1))) (C := RX8) (T := TX8) (N := 2) hx hb hts (fun _ h => List.mem_cons_of_mem _ (List.mem_append_right _ h)) hown hK hP 0 rfl rfl 1 (by decide) (hts (.fieldLink RX8 15 "NotEnded$Tape" "length" "I") (List.mem_cons_of_mem _ (List.mem_append_left _ (List.mem_of_getElem? (i := 0) rfl)))) (fun _ h9 => h9) rfl dX8_append_44 ?_
                  refine lv_iconst (v := 1) hx hb dX8_append_47 (by decide) ?_
                  refine lv_iadd hx hb dX8_append_48 ?_
                  refine lv_topi (fun y_302 ey_302 => ?_)
                  obtain rfl : y_302 = nI (kt + 1 + 1) := ey_302.trans (nI_add (kt + 1) (1))
                  refine va_put (D := (dC, dI)) (ci := 8) (v := .int (nI (kt + 1 + 1))) (ty := tyX8 1) (C := RX8) (T := TX8) (N := 2) hx hb hts (fun _ h => List.mem_cons_of_mem _ (List.mem_append_right _ h)) tyX8 tyX8_ok nmX8 hown hK hP hD hS 0 rfl rfl 1 (by decide) (hts (.fieldLink RX8 15 "NotEnded$Tape" "length" "I") (List.mem_cons_of_mem _ (List.mem_append_left _ (List.mem_of_getElem? (i := 0) rfl)))) (fun _ h9 => h9) rfl (tyX8_ok 1 (by decide)) rfl rfl (Nat.le_of_ble_eq_true rfl) dX8_append_49 (fun H locs hP hD hS => ?_)
                  obtain ⟨hP, hD⟩ : kPD dC dI A [(jT, .inr (8, [.ref t0, .int (nI (kt + 1 + 1))])), (t0, .inl (cC, 120, .inl f_301))] H := ⟨hP, hD⟩
                  refine lv_iinc (v := (-8)) hx hb dX8_append_52 hl (k := 1) rfl (by decide) (by decide) (kTo [(2, .int (-8)), (3, .int x_293), (0, .ref jT), (1, .int p0)]) (fun ls hl => ?_)
                  refine lv_goto (tgt := 3) hx hb dX8_append_55 (by decide) ?_
                  refine lv_iload_n hx hb dX8_append_3 rfl (lv_at hl 0 rfl) ?_
                  refine lv_if_lt (tgt := 58) hx hb dX8_append_4 (by decide) (fun c_303 => ?_) (fun c_303 => absurd (by decide) c_303)
                  have hP9 := hP
                  have hD9 := hD
                  have hK9 := hK
                  rw [hQ]
                  exact W.vret hx hb hr (fun t ht hW => ⟨⟨(f_301, (kt + 1 + 1)), rfl, ⟨by omega, (kNarU ef_301 (kNarU ef_270 hgT))⟩,  by rw [ht]; exact hP9, va_K.moved hW.alike hK9, hD9⟩, hS.F ht⟩) hS.2.2 dX8_append_58
            · have hn_304 := knle (a := 120) (b := kt + 1) (by omega) (by omega) c_289
              refine lv_aload_n hx hb dX8_append_31 rfl (lv_at hl 2 rfl) ?_
              refine va_get (D := (dC, dI)) (ci := 8) (v := .ref t0) (C := RX8) (T := TX8) (N := 2) hx hb hts (fun _ h => List.mem_cons_of_mem _ (List.mem_append_right _ h)) hown hK hP 0 rfl rfl 0 (by decide) (hts (.fieldLink RX8 9 "NotEnded$Tape" "signs" "[C") (List.mem_cons_of_mem _ (List.mem_append_left _ (List.mem_of_getElem? (i := 1) rfl)))) (fun _ h9 => h9) rfl dX8_append_32 ?_
              refine lv_aload_n hx hb dX8_append_35 rfl (lv_at hl 2 rfl) ?_
              refine va_get (D := (dC, dI)) (ci := 8) (v := .int (nI (kt + 1))) (C := RX8) (T := TX8) (N := 2) hx hb hts (fun _ h => List.mem_cons_of_mem _ (List.mem_append_right _ h)) hown hK hP 0 rfl rfl 1 (by decide) (hts (.fieldLink RX8 15 "NotEnded$Tape" "length" "I") (List.mem_cons_of_mem _ (List.mem_append_left _ (List.mem_of_getElem? (i := 0) rfl)))) (fun _ h9 => h9) rfl dX8_append_36 ?_
              refine lv_iload_n hx hb dX8_append_39 rfl (lv_at hl 0 rfl) ?_
              obtain ⟨x_305, ex_305⟩ : ∃ z : Int32, z = (Int32.toUInt32 x_274 % 65536).toInt32 := ⟨_, rfl⟩
              refine lv_i2c (v := x_305) hx hb dX8_append_40 ex_305.symm ?_
              refine va_cast hx hb hK hP hD hS 1 0 rfl rfl (vp_in_nI (n := kt + 1) (N := 120) (by omega) (by omega)) dX8_append_41 (fun H locs hP hD hS => ?_)
              obtain ⟨f_306, ef_306⟩ : ∃ gg9 : Nat → Int32, gg9 = upd f_270 (Int32.toNatClampNeg (nI (kt + 1))) (vp_nar .char x_305) := ⟨_, rfl⟩
              obtain ⟨hP, hD⟩ : kPD dC dI A [(jT, .inr (8, [.ref t0, .int (nI (kt + 1))])), (t0, .inl (cC, 120, .inl f_306))] H := by rw [ef_306]; exact ⟨hP, hD⟩
              refine lv_aload_n hx hb dX8_append_42 rfl (lv_at hl 2 rfl) ?_
              refine lv_dup hx hb dX8_append_43 rfl ?_
              refine va_get (D := (dC, dI)) (ci := 8) (v := .int (nI (kt + 1))) (C := RX8) (T := TX8) (N := 2) hx hb hts (fun _ h => List.mem_cons_of_mem _ (List.mem_append_right _ h)) hown hK hP 0 rfl rfl 1 (by decide) (hts (.fieldLink RX8 15 "NotEnded$Tape" "length" "I") (List.mem_cons_of_mem _ (List.mem_append_left _ (List.mem_of_getElem? (i := 0) rfl)))) (fun _ h9 => h9) rfl dX8_append_44 ?_
              refine lv_iconst (v := 1) hx hb dX8_append_47 (by decide) ?_
              refine lv_iadd hx hb dX8_append_48 ?_
              refine lv_topi (fun y_307 ey_307 => ?_)
              obtain rfl : y_307 = nI (kt + 1 + 1) := ey_307.trans (nI_add (kt + 1) (1))
              refine va_put (D := (dC, dI)) (ci := 8) (v := .int (nI (kt + 1 + 1))) (ty := tyX8 1) (C := RX8) (T := TX8) (N := 2) hx hb hts (fun _ h => List.mem_cons_of_mem _ (List.mem_append_right _ h)) tyX8 tyX8_ok nmX8 hown hK hP hD hS 0 rfl rfl 1 (by decide) (hts (.fieldLink RX8 15 "NotEnded$Tape" "length" "I") (List.mem_cons_of_mem _ (List.mem_append_left _ (List.mem_of_getElem? (i := 0) rfl)))) (fun _ h9 => h9) rfl (tyX8_ok 1 (by decide)) rfl rfl (Nat.le_of_ble_eq_true rfl) dX8_append_49 (fun H locs hP hD hS => ?_)
              obtain ⟨hP, hD⟩ : kPD dC dI A [(jT, .inr (8, [.ref t0, .int (nI (kt + 1 + 1))])), (t0, .inl (cC, 120, .inl f_306))] H := ⟨hP, hD⟩
              refine lv_iinc (v := 0) hx hb dX8_append_52 hl (k := 1) rfl (by decide) (by decide) (kTo [(2, .int 0), (3, .int x_274), (0, .ref jT), (1, .int p0)]) (fun ls hl => ?_)
              refine lv_goto (tgt := 3) hx hb dX8_append_55 (by decide) ?_
              refine lv_iload_n hx hb dX8_append_3 rfl (lv_at hl 0 rfl) ?_
              refine lv_if_lt (tgt := 58) hx hb dX8_append_4 (by decide) (fun c_308 => absurd c_308 (by decide)) (fun c_308 => ?_)
              refine lv_iload_n hx hb dX8_append_7 rfl (lv_at hl 3 rfl) ?_
              refine lv_iload_n hx hb dX8_append_8 rfl (lv_at hl 0 rfl) ?_
              obtain ⟨x_309, ex_309⟩ : ∃ z : Int32, z = (Int32.toUInt32 p0 >>> (Int32.toUInt32 0 &&& Int32.toUInt32 31)).toInt32 := ⟨_, rfl⟩
              refine lv_iushr (v := x_309) hx hb dX8_append_9 ex_309.symm ?_
              refine lv_sipush (v := 255) hx hb dX8_append_10 (by decide) ?_
              refine lv_iand hx hb dX8_append_13 ?_
              refine lv_topi (fun x_310 ex_310 => ?_)
              refine lv_istore_n hx hb dX8_append_14 rfl hl (by decide) (kTo [(3, .int x_310), (2, .int 0), (0, .ref jT), (1, .int p0)]) (fun ls hl => ?_)
              refine lv_iload_n hx hb dX8_append_15 rfl (lv_at hl 0 rfl) ?_
              refine lv_if_eq (tgt := 52) hx hb dX8_append_16 (by decide) (fun c_311 => ?_) (fun c_311 => ?_)
              · refine lv_iinc (v := (-8)) hx hb dX8_append_52 hl (k := 1) rfl (by decide) (by decide) (kTo [(2, .int (-8)), (3, .int x_310), (0, .ref jT), (1, .int p0)]) (fun ls hl => ?_)
                refine lv_goto (tgt := 3) hx hb dX8_append_55 (by decide) ?_
                refine lv_iload_n hx hb dX8_append_3 rfl (lv_at hl 0 rfl) ?_
                refine lv_if_lt (tgt := 58) hx hb dX8_append_4 (by decide) (fun c_312 => ?_) (fun c_312 => absurd (by decide) c_312)
                have hP9 := hP
                have hD9 := hD
                have hK9 := hK
                rw [hQ]
                exact W.vret hx hb hr (fun t ht hW => ⟨⟨(f_306, (kt + 1 + 1)), rfl, ⟨by omega, (kNarU ef_306 (kNarU ef_270 hgT))⟩,  by rw [ht]; exact hP9, va_K.moved hW.alike hK9, hD9⟩, hS.F ht⟩) hS.2.2 dX8_append_58
              · refine lv_aload_n hx hb dX8_append_19 rfl (lv_at hl 2 rfl) ?_
                refine va_get (D := (dC, dI)) (ci := 8) (v := .int (nI (kt + 1 + 1))) (C := RX8) (T := TX8) (N := 2) hx hb hts (fun _ h => List.mem_cons_of_mem _ (List.mem_append_right _ h)) hown hK hP 0 rfl rfl 1 (by decide) (hts (.fieldLink RX8 15 "NotEnded$Tape" "length" "I") (List.mem_cons_of_mem _ (List.mem_append_left _ (List.mem_of_getElem? (i := 0) rfl)))) (fun _ h9 => h9) rfl dX8_append_20 ?_
                refine lv_aload_n hx hb dX8_append_23 rfl (lv_at hl 2 rfl) ?_
                refine va_get (D := (dC, dI)) (ci := 8) (v := .ref t0) (C := RX8) (T := TX8) (N := 2) hx hb hts (fun _ h => List.mem_cons_of_mem _ (List.mem_append_right _ h)) hown hK hP 0 rfl rfl 0 (by decide) (hts (.fieldLink RX8 9 "NotEnded$Tape" "signs" "[C") (List.mem_cons_of_mem _ (List.mem_append_left _ (List.mem_of_getElem? (i := 1) rfl)))) (fun _ h9 => h9) rfl dX8_append_24 ?_
                refine va_alen hx hb hK hP 1 0 rfl rfl (v := 120) rfl dX8_append_27 ?_
                refine lv_icmp_ge (tgt := 52) hx hb dX8_append_28 (by decide) (fun c_313 => ?_) (fun c_313 => ?_)
                · have hn_314 := kle (a := 120) (b := kt + 1 + 1) (by omega) (by omega) c_313
                  refine lv_iinc (v := (-8)) hx hb dX8_append_52 hl (k := 1) rfl (by decide) (by decide) (kTo [(2, .int (-8)), (3, .int x_310), (0, .ref jT), (1, .int p0)]) (fun ls hl => ?_)
                  refine lv_goto (tgt := 3) hx hb dX8_append_55 (by decide) ?_
                  refine lv_iload_n hx hb dX8_append_3 rfl (lv_at hl 0 rfl) ?_
                  refine lv_if_lt (tgt := 58) hx hb dX8_append_4 (by decide) (fun c_315 => ?_) (fun c_315 => absurd (by decide) c_315)
                  have hP9 := hP
                  have hD9 := hD
                  have hK9 := hK
                  rw [hQ]
                  exact W.vret hx hb hr (fun t ht hW => ⟨⟨(f_306, (kt + 1 + 1)), rfl, ⟨by omega, (kNarU ef_306 (kNarU ef_270 hgT))⟩,  by rw [ht]; exact hP9, va_K.moved hW.alike hK9, hD9⟩, hS.F ht⟩) hS.2.2 dX8_append_58
                · have hn_316 := knle (a := 120) (b := kt + 1 + 1) (by omega) (by omega) c_313
                  refine lv_aload_n hx hb dX8_append_31 rfl (lv_at hl 2 rfl) ?_
                  refine va_get (D := (dC, dI)) (ci := 8) (v := .ref t0) (C := RX8) (T := TX8) (N := 2) hx hb hts (fun _ h => List.mem_cons_of_mem _ (List.mem_append_right _ h)) hown hK hP 0 rfl rfl 0 (by decide) (hts (.fieldLink RX8 9 "NotEnded$Tape" "signs" "[C") (List.mem_cons_of_mem _ (List.mem_append_left _ (List.mem_of_getElem? (i := 1) rfl)))) (fun _ h9 => h9) rfl dX8_append_32 ?_
                  refine lv_aload_n hx hb dX8_append_35 rfl (lv_at hl 2 rfl) ?_
                  refine va_get (D := (dC, dI)) (ci := 8) (v := .int (nI (kt + 1 + 1))) (C := RX8) (T := TX8) (N := 2) hx hb hts (fun _ h => List.mem_cons_of_mem _ (List.mem_append_right _ h)) hown hK hP 0 rfl rfl 1 (by decide) (hts (.fieldLink RX8 15 "NotEnded$Tape" "length" "I") (List.mem_cons_of_mem _ (List.mem_append_left _ (List.mem_of_getElem? (i := 0) rfl)))) (fun _ h9 => h9) rfl dX8_append_36 ?_
                  refine lv_iload_n hx hb dX8_append_39 rfl (lv_at hl 0 rfl) ?_
                  obtain ⟨x_317, ex_317⟩ : ∃ z : Int32, z = (Int32.toUInt32 x_310 % 65536).toInt32 := ⟨_, rfl⟩
                  refine lv_i2c (v := x_317) hx hb dX8_append_40 ex_317.symm ?_
                  refine va_cast hx hb hK hP hD hS 1 0 rfl rfl (vp_in_nI (n := kt + 1 + 1) (N := 120) (by omega) (by omega)) dX8_append_41 (fun H locs hP hD hS => ?_)
                  obtain ⟨f_318, ef_318⟩ : ∃ gg9 : Nat → Int32, gg9 = upd f_306 (Int32.toNatClampNeg (nI (kt + 1 + 1))) (vp_nar .char x_317) := ⟨_, rfl⟩
                  obtain ⟨hP, hD⟩ : kPD dC dI A [(jT, .inr (8, [.ref t0, .int (nI (kt + 1 + 1))])), (t0, .inl (cC, 120, .inl f_318))] H := by rw [ef_318]; exact ⟨hP, hD⟩
                  refine lv_aload_n hx hb dX8_append_42 rfl (lv_at hl 2 rfl) ?_
                  refine lv_dup hx hb dX8_append_43 rfl ?_
                  refine va_get (D := (dC, dI)) (ci := 8) (v := .int (nI (kt + 1 + 1))) (C := RX8) (T := TX8) (N := 2) hx hb hts (fun _ h => List.mem_cons_of_mem _ (List.mem_append_right _ h)) hown hK hP 0 rfl rfl 1 (by decide) (hts (.fieldLink RX8 15 "NotEnded$Tape" "length" "I") (List.mem_cons_of_mem _ (List.mem_append_left _ (List.mem_of_getElem? (i := 0) rfl)))) (fun _ h9 => h9) rfl dX8_append_44 ?_
                  refine lv_iconst (v := 1) hx hb dX8_append_47 (by decide) ?_
                  refine lv_iadd hx hb dX8_append_48 ?_
                  refine lv_topi (fun y_319 ey_319 => ?_)
                  obtain rfl : y_319 = nI (kt + 1 + 1 + 1) := ey_319.trans (nI_add (kt + 1 + 1) (1))
                  refine va_put (D := (dC, dI)) (ci := 8) (v := .int (nI (kt + 1 + 1 + 1))) (ty := tyX8 1) (C := RX8) (T := TX8) (N := 2) hx hb hts (fun _ h => List.mem_cons_of_mem _ (List.mem_append_right _ h)) tyX8 tyX8_ok nmX8 hown hK hP hD hS 0 rfl rfl 1 (by decide) (hts (.fieldLink RX8 15 "NotEnded$Tape" "length" "I") (List.mem_cons_of_mem _ (List.mem_append_left _ (List.mem_of_getElem? (i := 0) rfl)))) (fun _ h9 => h9) rfl (tyX8_ok 1 (by decide)) rfl rfl (Nat.le_of_ble_eq_true rfl) dX8_append_49 (fun H locs hP hD hS => ?_)
                  obtain ⟨hP, hD⟩ : kPD dC dI A [(jT, .inr (8, [.ref t0, .int (nI (kt + 1 + 1 + 1))])), (t0, .inl (cC, 120, .inl f_318))] H := ⟨hP, hD⟩
                  refine lv_iinc (v := (-8)) hx hb dX8_append_52 hl (k := 1) rfl (by decide) (by decide) (kTo [(2, .int (-8)), (3, .int x_310), (0, .ref jT), (1, .int p0)]) (fun ls hl => ?_)
                  refine lv_goto (tgt := 3) hx hb dX8_append_55 (by decide) ?_
                  refine lv_iload_n hx hb dX8_append_3 rfl (lv_at hl 0 rfl) ?_
                  refine lv_if_lt (tgt := 58) hx hb dX8_append_4 (by decide) (fun c_320 => ?_) (fun c_320 => absurd (by decide) c_320)
                  have hP9 := hP
                  have hD9 := hD
                  have hK9 := hK
                  rw [hQ]
                  exact W.vret hx hb hr (fun t ht hW => ⟨⟨(f_318, (kt + 1 + 1 + 1)), rfl, ⟨by omega, (kNarU ef_318 (kNarU ef_306 (kNarU ef_270 hgT)))⟩,  by rw [ht]; exact hP9, va_K.moved hW.alike hK9, hD9⟩, hS.F ht⟩) hS.2.2 dX8_append_58
    · have hn_321 := knle (a := 120) (b := kt) (by omega) (by omega) c_162
      refine lv_aload_n hx hb dX8_append_31 rfl (lv_at hl 2 rfl) ?_
      refine va_get (D := (dC, dI)) (ci := 8) (v := .ref t0) (C := RX8) (T := TX8) (N := 2) hx hb hts (fun _ h => List.mem_cons_of_mem _ (List.mem_append_right _ h)) hown hK hP 0 rfl rfl 0 (by decide) (hts (.fieldLink RX8 9 "NotEnded$Tape" "signs" "[C") (List.mem_cons_of_mem _ (List.mem_append_left _ (List.mem_of_getElem? (i := 1) rfl)))) (fun _ h9 => h9) rfl dX8_append_32 ?_
      refine lv_aload_n hx hb dX8_append_35 rfl (lv_at hl 2 rfl) ?_
      refine va_get (D := (dC, dI)) (ci := 8) (v := .int (nI (kt))) (C := RX8) (T := TX8) (N := 2) hx hb hts (fun _ h => List.mem_cons_of_mem _ (List.mem_append_right _ h)) hown hK hP 0 rfl rfl 1 (by decide) (hts (.fieldLink RX8 15 "NotEnded$Tape" "length" "I") (List.mem_cons_of_mem _ (List.mem_append_left _ (List.mem_of_getElem? (i := 0) rfl)))) (fun _ h9 => h9) rfl dX8_append_36 ?_
      refine lv_iload_n hx hb dX8_append_39 rfl (lv_at hl 0 rfl) ?_
      obtain ⟨x_322, ex_322⟩ : ∃ z : Int32, z = (Int32.toUInt32 x_3 % 65536).toInt32 := ⟨_, rfl⟩
      refine lv_i2c (v := x_322) hx hb dX8_append_40 ex_322.symm ?_
      refine va_cast hx hb hK hP hD hS 1 0 rfl rfl (vp_in_nI (n := kt) (N := 120) (by omega) (by omega)) dX8_append_41 (fun H locs hP hD hS => ?_)
      obtain ⟨f_323, ef_323⟩ : ∃ gg9 : Nat → Int32, gg9 = upd gT (Int32.toNatClampNeg (nI (kt))) (vp_nar .char x_322) := ⟨_, rfl⟩
      obtain ⟨hP, hD⟩ : kPD dC dI A [(jT, .inr (8, [.ref t0, .int (nI (kt))])), (t0, .inl (cC, 120, .inl f_323))] H := by rw [ef_323]; exact ⟨hP, hD⟩
      refine lv_aload_n hx hb dX8_append_42 rfl (lv_at hl 2 rfl) ?_
      refine lv_dup hx hb dX8_append_43 rfl ?_
      refine va_get (D := (dC, dI)) (ci := 8) (v := .int (nI (kt))) (C := RX8) (T := TX8) (N := 2) hx hb hts (fun _ h => List.mem_cons_of_mem _ (List.mem_append_right _ h)) hown hK hP 0 rfl rfl 1 (by decide) (hts (.fieldLink RX8 15 "NotEnded$Tape" "length" "I") (List.mem_cons_of_mem _ (List.mem_append_left _ (List.mem_of_getElem? (i := 0) rfl)))) (fun _ h9 => h9) rfl dX8_append_44 ?_
      refine lv_iconst (v := 1) hx hb dX8_append_47 (by decide) ?_
      refine lv_iadd hx hb dX8_append_48 ?_
      refine lv_topi (fun y_324 ey_324 => ?_)
      obtain rfl : y_324 = nI (kt + 1) := ey_324.trans (nI_add (kt) (1))
      refine va_put (D := (dC, dI)) (ci := 8) (v := .int (nI (kt + 1))) (ty := tyX8 1) (C := RX8) (T := TX8) (N := 2) hx hb hts (fun _ h => List.mem_cons_of_mem _ (List.mem_append_right _ h)) tyX8 tyX8_ok nmX8 hown hK hP hD hS 0 rfl rfl 1 (by decide) (hts (.fieldLink RX8 15 "NotEnded$Tape" "length" "I") (List.mem_cons_of_mem _ (List.mem_append_left _ (List.mem_of_getElem? (i := 0) rfl)))) (fun _ h9 => h9) rfl (tyX8_ok 1 (by decide)) rfl rfl (Nat.le_of_ble_eq_true rfl) dX8_append_49 (fun H locs hP hD hS => ?_)
      obtain ⟨hP, hD⟩ : kPD dC dI A [(jT, .inr (8, [.ref t0, .int (nI (kt + 1))])), (t0, .inl (cC, 120, .inl f_323))] H := ⟨hP, hD⟩
      refine lv_iinc (v := 16) hx hb dX8_append_52 hl (k := 1) rfl (by decide) (by decide) (kTo [(2, .int 16), (3, .int x_3), (0, .ref jT), (1, .int p0)]) (fun ls hl => ?_)
      refine lv_goto (tgt := 3) hx hb dX8_append_55 (by decide) ?_
      refine lv_iload_n hx hb dX8_append_3 rfl (lv_at hl 0 rfl) ?_
      refine lv_if_lt (tgt := 58) hx hb dX8_append_4 (by decide) (fun c_325 => absurd c_325 (by decide)) (fun c_325 => ?_)
      refine lv_iload_n hx hb dX8_append_7 rfl (lv_at hl 3 rfl) ?_
      refine lv_iload_n hx hb dX8_append_8 rfl (lv_at hl 0 rfl) ?_
      obtain ⟨x_326, ex_326⟩ : ∃ z : Int32, z = (Int32.toUInt32 p0 >>> (Int32.toUInt32 16 &&& Int32.toUInt32 31)).toInt32 := ⟨_, rfl⟩
      refine lv_iushr (v := x_326) hx hb dX8_append_9 ex_326.symm ?_
      refine lv_sipush (v := 255) hx hb dX8_append_10 (by decide) ?_
      refine lv_iand hx hb dX8_append_13 ?_
      refine lv_topi (fun x_327 ex_327 => ?_)
      refine lv_istore_n hx hb dX8_append_14 rfl hl (by decide) (kTo [(3, .int x_327), (2, .int 16), (0, .ref jT), (1, .int p0)]) (fun ls hl => ?_)
      refine lv_iload_n hx hb dX8_append_15 rfl (lv_at hl 0 rfl) ?_
      refine lv_if_eq (tgt := 52) hx hb dX8_append_16 (by decide) (fun c_328 => ?_) (fun c_328 => ?_)
      · refine lv_iinc (v := 8) hx hb dX8_append_52 hl (k := 1) rfl (by decide) (by decide) (kTo [(2, .int 8), (3, .int x_327), (0, .ref jT), (1, .int p0)]) (fun ls hl => ?_)
        refine lv_goto (tgt := 3) hx hb dX8_append_55 (by decide) ?_
        refine lv_iload_n hx hb dX8_append_3 rfl (lv_at hl 0 rfl) ?_
        refine lv_if_lt (tgt := 58) hx hb dX8_append_4 (by decide) (fun c_329 => absurd c_329 (by decide)) (fun c_329 => ?_)
        refine lv_iload_n hx hb dX8_append_7 rfl (lv_at hl 3 rfl) ?_
        refine lv_iload_n hx hb dX8_append_8 rfl (lv_at hl 0 rfl) ?_
        obtain ⟨x_330, ex_330⟩ : ∃ z : Int32, z = (Int32.toUInt32 p0 >>> (Int32.toUInt32 8 &&& Int32.toUInt32 31)).toInt32 := ⟨_, rfl⟩
        refine lv_iushr (v := x_330) hx hb dX8_append_9 ex_330.symm ?_
        refine lv_sipush (v := 255) hx hb dX8_append_10 (by decide) ?_
        refine lv_iand hx hb dX8_append_13 ?_
        refine lv_topi (fun x_331 ex_331 => ?_)
        refine lv_istore_n hx hb dX8_append_14 rfl hl (by decide) (kTo [(3, .int x_331), (2, .int 8), (0, .ref jT), (1, .int p0)]) (fun ls hl => ?_)
        refine lv_iload_n hx hb dX8_append_15 rfl (lv_at hl 0 rfl) ?_
        refine lv_if_eq (tgt := 52) hx hb dX8_append_16 (by decide) (fun c_332 => ?_) (fun c_332 => ?_)
        · refine lv_iinc (v := 0) hx hb dX8_append_52 hl (k := 1) rfl (by decide) (by decide) (kTo [(2, .int 0), (3, .int x_331), (0, .ref jT), (1, .int p0)]) (fun ls hl => ?_)
          refine lv_goto (tgt := 3) hx hb dX8_append_55 (by decide) ?_
          refine lv_iload_n hx hb dX8_append_3 rfl (lv_at hl 0 rfl) ?_
          refine lv_if_lt (tgt := 58) hx hb dX8_append_4 (by decide) (fun c_333 => absurd c_333 (by decide)) (fun c_333 => ?_)
          refine lv_iload_n hx hb dX8_append_7 rfl (lv_at hl 3 rfl) ?_
          refine lv_iload_n hx hb dX8_append_8 rfl (lv_at hl 0 rfl) ?_
          obtain ⟨x_334, ex_334⟩ : ∃ z : Int32, z = (Int32.toUInt32 p0 >>> (Int32.toUInt32 0 &&& Int32.toUInt32 31)).toInt32 := ⟨_, rfl⟩
          refine lv_iushr (v := x_334) hx hb dX8_append_9 ex_334.symm ?_
          refine lv_sipush (v := 255) hx hb dX8_append_10 (by decide) ?_
          refine lv_iand hx hb dX8_append_13 ?_
          refine lv_topi (fun x_335 ex_335 => ?_)
          refine lv_istore_n hx hb dX8_append_14 rfl hl (by decide) (kTo [(3, .int x_335), (2, .int 0), (0, .ref jT), (1, .int p0)]) (fun ls hl => ?_)
          refine lv_iload_n hx hb dX8_append_15 rfl (lv_at hl 0 rfl) ?_
          refine lv_if_eq (tgt := 52) hx hb dX8_append_16 (by decide) (fun c_336 => ?_) (fun c_336 => ?_)
          · refine lv_iinc (v := (-8)) hx hb dX8_append_52 hl (k := 1) rfl (by decide) (by decide) (kTo [(2, .int (-8)), (3, .int x_335), (0, .ref jT), (1, .int p0)]) (fun ls hl => ?_)
            refine lv_goto (tgt := 3) hx hb dX8_append_55 (by decide) ?_
            refine lv_iload_n hx hb dX8_append_3 rfl (lv_at hl 0 rfl) ?_
            refine lv_if_lt (tgt := 58) hx hb dX8_append_4 (by decide) (fun c_337 => ?_) (fun c_337 => absurd (by decide) c_337)
            have hP9 := hP
            have hD9 := hD
            have hK9 := hK
            rw [hQ]
            exact W.vret hx hb hr (fun t ht hW => ⟨⟨(f_323, (kt + 1)), rfl, ⟨by omega, (kNarU ef_323 hgT)⟩,  by rw [ht]; exact hP9, va_K.moved hW.alike hK9, hD9⟩, hS.F ht⟩) hS.2.2 dX8_append_58
          · refine lv_aload_n hx hb dX8_append_19 rfl (lv_at hl 2 rfl) ?_
            refine va_get (D := (dC, dI)) (ci := 8) (v := .int (nI (kt + 1))) (C := RX8) (T := TX8) (N := 2) hx hb hts (fun _ h => List.mem_cons_of_mem _ (List.mem_append_right _ h)) hown hK hP 0 rfl rfl 1 (by decide) (hts (.fieldLink RX8 15 "NotEnded$Tape" "length" "I") (List.mem_cons_of_mem _ (List.mem_append_left _ (List.mem_of_getElem? (i := 0) rfl)))) (fun _ h9 => h9) rfl dX8_append_20 ?_
            refine lv_aload_n hx hb dX8_append_23 rfl (lv_at hl 2 rfl) ?_
            refine va_get (D := (dC, dI)) (ci := 8) (v := .ref t0) (C := RX8) (T := TX8) (N := 2) hx hb hts (fun _ h => List.mem_cons_of_mem _ (List.mem_append_right _ h)) hown hK hP 0 rfl rfl 0 (by decide) (hts (.fieldLink RX8 9 "NotEnded$Tape" "signs" "[C") (List.mem_cons_of_mem _ (List.mem_append_left _ (List.mem_of_getElem? (i := 1) rfl)))) (fun _ h9 => h9) rfl dX8_append_24 ?_
            refine va_alen hx hb hK hP 1 0 rfl rfl (v := 120) rfl dX8_append_27 ?_
            refine lv_icmp_ge (tgt := 52) hx hb dX8_append_28 (by decide) (fun c_338 => ?_) (fun c_338 => ?_)
            · have hn_339 := kle (a := 120) (b := kt + 1) (by omega) (by omega) c_338
              refine lv_iinc (v := (-8)) hx hb dX8_append_52 hl (k := 1) rfl (by decide) (by decide) (kTo [(2, .int (-8)), (3, .int x_335), (0, .ref jT), (1, .int p0)]) (fun ls hl => ?_)
              refine lv_goto (tgt := 3) hx hb dX8_append_55 (by decide) ?_
              refine lv_iload_n hx hb dX8_append_3 rfl (lv_at hl 0 rfl) ?_
              refine lv_if_lt (tgt := 58) hx hb dX8_append_4 (by decide) (fun c_340 => ?_) (fun c_340 => absurd (by decide) c_340)
              have hP9 := hP
              have hD9 := hD
              have hK9 := hK
              rw [hQ]
              exact W.vret hx hb hr (fun t ht hW => ⟨⟨(f_323, (kt + 1)), rfl, ⟨by omega, (kNarU ef_323 hgT)⟩,  by rw [ht]; exact hP9, va_K.moved hW.alike hK9, hD9⟩, hS.F ht⟩) hS.2.2 dX8_append_58
            · have hn_341 := knle (a := 120) (b := kt + 1) (by omega) (by omega) c_338
              refine lv_aload_n hx hb dX8_append_31 rfl (lv_at hl 2 rfl) ?_
              refine va_get (D := (dC, dI)) (ci := 8) (v := .ref t0) (C := RX8) (T := TX8) (N := 2) hx hb hts (fun _ h => List.mem_cons_of_mem _ (List.mem_append_right _ h)) hown hK hP 0 rfl rfl 0 (by decide) (hts (.fieldLink RX8 9 "NotEnded$Tape" "signs" "[C") (List.mem_cons_of_mem _ (List.mem_append_left _ (List.mem_of_getElem? (i := 1) rfl)))) (fun _ h9 => h9) rfl dX8_append_32 ?_
              refine lv_aload_n hx hb dX8_append_35 rfl (lv_at hl 2 rfl) ?_
              refine va_get (D := (dC, dI)) (ci := 8) (v := .int (nI (kt + 1))) (C := RX8) (T := TX8) (N := 2) hx hb hts (fun _ h => List.mem_cons_of_mem _ (List.mem_append_right _ h)) hown hK hP 0 rfl rfl 1 (by decide) (hts (.fieldLink RX8 15 "NotEnded$Tape" "length" "I") (List.mem_cons_of_mem _ (List.mem_append_left _ (List.mem_of_getElem? (i := 0) rfl)))) (fun _ h9 => h9) rfl dX8_append_36 ?_
              refine lv_iload_n hx hb dX8_append_39 rfl (lv_at hl 0 rfl) ?_
              obtain ⟨x_342, ex_342⟩ : ∃ z : Int32, z = (Int32.toUInt32 x_335 % 65536).toInt32 := ⟨_, rfl⟩
              refine lv_i2c (v := x_342) hx hb dX8_append_40 ex_342.symm ?_
              refine va_cast hx hb hK hP hD hS 1 0 rfl rfl (vp_in_nI (n := kt + 1) (N := 120) (by omega) (by omega)) dX8_append_41 (fun H locs hP hD hS => ?_)
              obtain ⟨f_343, ef_343⟩ : ∃ gg9 : Nat → Int32, gg9 = upd f_323 (Int32.toNatClampNeg (nI (kt + 1))) (vp_nar .char x_342) := ⟨_, rfl⟩
              obtain ⟨hP, hD⟩ : kPD dC dI A [(jT, .inr (8, [.ref t0, .int (nI (kt + 1))])), (t0, .inl (cC, 120, .inl f_343))] H := by rw [ef_343]; exact ⟨hP, hD⟩
              refine lv_aload_n hx hb dX8_append_42 rfl (lv_at hl 2 rfl) ?_
              refine lv_dup hx hb dX8_append_43 rfl ?_
              refine va_get (D := (dC, dI)) (ci := 8) (v := .int (nI (kt + 1))) (C := RX8) (T := TX8) (N := 2) hx hb hts (fun _ h => List.mem_cons_of_mem _ (List.mem_append_right _ h)) hown hK hP 0 rfl rfl 1 (by decide) (hts (.fieldLink RX8 15 "NotEnded$Tape" "length" "I") (List.mem_cons_of_mem _ (List.mem_append_left _ (List.mem_of_getElem? (i := 0) rfl)))) (fun _ h9 => h9) rfl dX8_append_44 ?_
              refine lv_iconst (v := 1) hx hb dX8_append_47 (by decide) ?_
              refine lv_iadd hx hb dX8_append_48 ?_
              refine lv_topi (fun y_344 ey_344 => ?_)
              obtain rfl : y_344 = nI (kt + 1 + 1) := ey_344.trans (nI_add (kt + 1) (1))
              refine va_put (D := (dC, dI)) (ci := 8) (v := .int (nI (kt + 1 + 1))) (ty := tyX8 1) (C := RX8) (T := TX8) (N := 2) hx hb hts (fun _ h => List.mem_cons_of_mem _ (List.mem_append_right _ h)) tyX8 tyX8_ok nmX8 hown hK hP hD hS 0 rfl rfl 1 (by decide) (hts (.fieldLink RX8 15 "NotEnded$Tape" "length" "I") (List.mem_cons_of_mem _ (List.mem_append_left _ (List.mem_of_getElem? (i := 0) rfl)))) (fun _ h9 => h9) rfl (tyX8_ok 1 (by decide)) rfl rfl (Nat.le_of_ble_eq_true rfl) dX8_append_49 (fun H locs hP hD hS => ?_)
              obtain ⟨hP, hD⟩ : kPD dC dI A [(jT, .inr (8, [.ref t0, .int (nI (kt + 1 + 1))])), (t0, .inl (cC, 120, .inl f_343))] H := ⟨hP, hD⟩
              refine lv_iinc (v := (-8)) hx hb dX8_append_52 hl (k := 1) rfl (by decide) (by decide) (kTo [(2, .int (-8)), (3, .int x_335), (0, .ref jT), (1, .int p0)]) (fun ls hl => ?_)
              refine lv_goto (tgt := 3) hx hb dX8_append_55 (by decide) ?_
              refine lv_iload_n hx hb dX8_append_3 rfl (lv_at hl 0 rfl) ?_
              refine lv_if_lt (tgt := 58) hx hb dX8_append_4 (by decide) (fun c_345 => ?_) (fun c_345 => absurd (by decide) c_345)
              have hP9 := hP
              have hD9 := hD
              have hK9 := hK
              rw [hQ]
              exact W.vret hx hb hr (fun t ht hW => ⟨⟨(f_343, (kt + 1 + 1)), rfl, ⟨by omega, (kNarU ef_343 (kNarU ef_323 hgT))⟩,  by rw [ht]; exact hP9, va_K.moved hW.alike hK9, hD9⟩, hS.F ht⟩) hS.2.2 dX8_append_58
        · refine lv_aload_n hx hb dX8_append_19 rfl (lv_at hl 2 rfl) ?_
          refine va_get (D := (dC, dI)) (ci := 8) (v := .int (nI (kt + 1))) (C := RX8) (T := TX8) (N := 2) hx hb hts (fun _ h => List.mem_cons_of_mem _ (List.mem_append_right _ h)) hown hK hP 0 rfl rfl 1 (by decide) (hts (.fieldLink RX8 15 "NotEnded$Tape" "length" "I") (List.mem_cons_of_mem _ (List.mem_append_left _ (List.mem_of_getElem? (i := 0) rfl)))) (fun _ h9 => h9) rfl dX8_append_20 ?_
          refine lv_aload_n hx hb dX8_append_23 rfl (lv_at hl 2 rfl) ?_
          refine va_get (D := (dC, dI)) (ci := 8) (v := .ref t0) (C := RX8) (T := TX8) (N := 2) hx hb hts (fun _ h => List.mem_cons_of_mem _ (List.mem_append_right _ h)) hown hK hP 0 rfl rfl 0 (by decide) (hts (.fieldLink RX8 9 "NotEnded$Tape" "signs" "[C") (List.mem_cons_of_mem _ (List.mem_append_left _ (List.mem_of_getElem? (i := 1) rfl)))) (fun _ h9 => h9) rfl dX8_append_24 ?_
          refine va_alen hx hb hK hP 1 0 rfl rfl (v := 120) rfl dX8_append_27 ?_
          refine lv_icmp_ge (tgt := 52) hx hb dX8_append_28 (by decide) (fun c_346 => ?_) (fun c_346 => ?_)
          · have hn_347 := kle (a := 120) (b := kt + 1) (by omega) (by omega) c_346
            refine lv_iinc (v := 0) hx hb dX8_append_52 hl (k := 1) rfl (by decide) (by decide) (kTo [(2, .int 0), (3, .int x_331), (0, .ref jT), (1, .int p0)]) (fun ls hl => ?_)
            refine lv_goto (tgt := 3) hx hb dX8_append_55 (by decide) ?_
            refine lv_iload_n hx hb dX8_append_3 rfl (lv_at hl 0 rfl) ?_
            refine lv_if_lt (tgt := 58) hx hb dX8_append_4 (by decide) (fun c_348 => absurd c_348 (by decide)) (fun c_348 => ?_)
            refine lv_iload_n hx hb dX8_append_7 rfl (lv_at hl 3 rfl) ?_
            refine lv_iload_n hx hb dX8_append_8 rfl (lv_at hl 0 rfl) ?_
            obtain ⟨x_349, ex_349⟩ : ∃ z : Int32, z = (Int32.toUInt32 p0 >>> (Int32.toUInt32 0 &&& Int32.toUInt32 31)).toInt32 := ⟨_, rfl⟩
            refine lv_iushr (v := x_349) hx hb dX8_append_9 ex_349.symm ?_
            refine lv_sipush (v := 255) hx hb dX8_append_10 (by decide) ?_
            refine lv_iand hx hb dX8_append_13 ?_
            refine lv_topi (fun x_350 ex_350 => ?_)
            refine lv_istore_n hx hb dX8_append_14 rfl hl (by decide) (kTo [(3, .int x_350), (2, .int 0), (0, .ref jT), (1, .int p0)]) (fun ls hl => ?_)
            refine lv_iload_n hx hb dX8_append_15 rfl (lv_at hl 0 rfl) ?_
            refine lv_if_eq (tgt := 52) hx hb dX8_append_16 (by decide) (fun c_351 => ?_) (fun c_351 => ?_)
            · refine lv_iinc (v := (-8)) hx hb dX8_append_52 hl (k := 1) rfl (by decide) (by decide) (kTo [(2, .int (-8)), (3, .int x_350), (0, .ref jT), (1, .int p0)]) (fun ls hl => ?_)
              refine lv_goto (tgt := 3) hx hb dX8_append_55 (by decide) ?_
              refine lv_iload_n hx hb dX8_append_3 rfl (lv_at hl 0 rfl) ?_
              refine lv_if_lt (tgt := 58) hx hb dX8_append_4 (by decide) (fun c_352 => ?_) (fun c_352 => absurd (by decide) c_352)
              have hP9 := hP
              have hD9 := hD
              have hK9 := hK
              rw [hQ]
              exact W.vret hx hb hr (fun t ht hW => ⟨⟨(f_323, (kt + 1)), rfl, ⟨by omega, (kNarU ef_323 hgT)⟩,  by rw [ht]; exact hP9, va_K.moved hW.alike hK9, hD9⟩, hS.F ht⟩) hS.2.2 dX8_append_58
            · refine lv_aload_n hx hb dX8_append_19 rfl (lv_at hl 2 rfl) ?_
              refine va_get (D := (dC, dI)) (ci := 8) (v := .int (nI (kt + 1))) (C := RX8) (T := TX8) (N := 2) hx hb hts (fun _ h => List.mem_cons_of_mem _ (List.mem_append_right _ h)) hown hK hP 0 rfl rfl 1 (by decide) (hts (.fieldLink RX8 15 "NotEnded$Tape" "length" "I") (List.mem_cons_of_mem _ (List.mem_append_left _ (List.mem_of_getElem? (i := 0) rfl)))) (fun _ h9 => h9) rfl dX8_append_20 ?_
              refine lv_aload_n hx hb dX8_append_23 rfl (lv_at hl 2 rfl) ?_
              refine va_get (D := (dC, dI)) (ci := 8) (v := .ref t0) (C := RX8) (T := TX8) (N := 2) hx hb hts (fun _ h => List.mem_cons_of_mem _ (List.mem_append_right _ h)) hown hK hP 0 rfl rfl 0 (by decide) (hts (.fieldLink RX8 9 "NotEnded$Tape" "signs" "[C") (List.mem_cons_of_mem _ (List.mem_append_left _ (List.mem_of_getElem? (i := 1) rfl)))) (fun _ h9 => h9) rfl dX8_append_24 ?_
              refine va_alen hx hb hK hP 1 0 rfl rfl (v := 120) rfl dX8_append_27 ?_
              refine lv_icmp_ge (tgt := 52) hx hb dX8_append_28 (by decide) (fun c_353 => ?_) (fun c_353 => ?_)
              · have hn_354 := kle (a := 120) (b := kt + 1) (by omega) (by omega) c_353
                refine lv_iinc (v := (-8)) hx hb dX8_append_52 hl (k := 1) rfl (by decide) (by decide) (kTo [(2, .int (-8)), (3, .int x_350), (0, .ref jT), (1, .int p0)]) (fun ls hl => ?_)
                refine lv_goto (tgt := 3) hx hb dX8_append_55 (by decide) ?_
                refine lv_iload_n hx hb dX8_append_3 rfl (lv_at hl 0 rfl) ?_
                refine lv_if_lt (tgt := 58) hx hb dX8_append_4 (by decide) (fun c_355 => ?_) (fun c_355 => absurd (by decide) c_355)
                have hP9 := hP
                have hD9 := hD
                have hK9 := hK
                rw [hQ]
                exact W.vret hx hb hr (fun t ht hW => ⟨⟨(f_323, (kt + 1)), rfl, ⟨by omega, (kNarU ef_323 hgT)⟩,  by rw [ht]; exact hP9, va_K.moved hW.alike hK9, hD9⟩, hS.F ht⟩) hS.2.2 dX8_append_58
              · have hn_356 := knle (a := 120) (b := kt + 1) (by omega) (by omega) c_353
                refine lv_aload_n hx hb dX8_append_31 rfl (lv_at hl 2 rfl) ?_
                refine va_get (D := (dC, dI)) (ci := 8) (v := .ref t0) (C := RX8) (T := TX8) (N := 2) hx hb hts (fun _ h => List.mem_cons_of_mem _ (List.mem_append_right _ h)) hown hK hP 0 rfl rfl 0 (by decide) (hts (.fieldLink RX8 9 "NotEnded$Tape" "signs" "[C") (List.mem_cons_of_mem _ (List.mem_append_left _ (List.mem_of_getElem? (i := 1) rfl)))) (fun _ h9 => h9) rfl dX8_append_32 ?_
                refine lv_aload_n hx hb dX8_append_35 rfl (lv_at hl 2 rfl) ?_
                refine va_get (D := (dC, dI)) (ci := 8) (v := .int (nI (kt + 1))) (C := RX8) (T := TX8) (N := 2) hx hb hts (fun _ h => List.mem_cons_of_mem _ (List.mem_append_right _ h)) hown hK hP 0 rfl rfl 1 (by decide) (hts (.fieldLink RX8 15 "NotEnded$Tape" "length" "I") (List.mem_cons_of_mem _ (List.mem_append_left _ (List.mem_of_getElem? (i := 0) rfl)))) (fun _ h9 => h9) rfl dX8_append_36 ?_
                refine lv_iload_n hx hb dX8_append_39 rfl (lv_at hl 0 rfl) ?_
                obtain ⟨x_357, ex_357⟩ : ∃ z : Int32, z = (Int32.toUInt32 x_350 % 65536).toInt32 := ⟨_, rfl⟩
                refine lv_i2c (v := x_357) hx hb dX8_append_40 ex_357.symm ?_
                refine va_cast hx hb hK hP hD hS 1 0 rfl rfl (vp_in_nI (n := kt + 1) (N := 120) (by omega) (by omega)) dX8_append_41 (fun H locs hP hD hS => ?_)
                obtain ⟨f_358, ef_358⟩ : ∃ gg9 : Nat → Int32, gg9 = upd f_323 (Int32.toNatClampNeg (nI (kt + 1))) (vp_nar .char x_357) := ⟨_, rfl⟩
                obtain ⟨hP, hD⟩ : kPD dC dI A [(jT, .inr (8, [.ref t0, .int (nI (kt + 1))])), (t0, .inl (cC, 120, .inl f_358))] H := by rw [ef_358]; exact ⟨hP, hD⟩
                refine lv_aload_n hx hb dX8_append_42 rfl (lv_at hl 2 rfl) ?_
                refine lv_dup hx hb dX8_append_43 rfl ?_
                refine va_get (D := (dC, dI)) (ci := 8) (v := .int (nI (kt + 1))) (C := RX8) (T := TX8) (N := 2) hx hb hts (fun _ h => List.mem_cons_of_mem _ (List.mem_append_right _ h)) hown hK hP 0 rfl rfl 1 (by decide) (hts (.fieldLink RX8 15 "NotEnded$Tape" "length" "I") (List.mem_cons_of_mem _ (List.mem_append_left _ (List.mem_of_getElem? (i := 0) rfl)))) (fun _ h9 => h9) rfl dX8_append_44 ?_
                refine lv_iconst (v := 1) hx hb dX8_append_47 (by decide) ?_
                refine lv_iadd hx hb dX8_append_48 ?_
                refine lv_topi (fun y_359 ey_359 => ?_)
                obtain rfl : y_359 = nI (kt + 1 + 1) := ey_359.trans (nI_add (kt + 1) (1))
                refine va_put (D := (dC, dI)) (ci := 8) (v := .int (nI (kt + 1 + 1))) (ty := tyX8 1) (C := RX8) (T := TX8) (N := 2) hx hb hts (fun _ h => List.mem_cons_of_mem _ (List.mem_append_right _ h)) tyX8 tyX8_ok nmX8 hown hK hP hD hS 0 rfl rfl 1 (by decide) (hts (.fieldLink RX8 15 "NotEnded$Tape" "length" "I") (List.mem_cons_of_mem _ (List.mem_append_left _ (List.mem_of_getElem? (i := 0) rfl)))) (fun _ h9 => h9) rfl (tyX8_ok 1 (by decide)) rfl rfl (Nat.le_of_ble_eq_true rfl) dX8_append_49 (fun H locs hP hD hS => ?_)
                obtain ⟨hP, hD⟩ : kPD dC dI A [(jT, .inr (8, [.ref t0, .int (nI (kt + 1 + 1))])), (t0, .inl (cC, 120, .inl f_358))] H := ⟨hP, hD⟩
                refine lv_iinc (v := (-8)) hx hb dX8_append_52 hl (k := 1) rfl (by decide) (by decide) (kTo [(2, .int (-8)), (3, .int x_350), (0, .ref jT), (1, .int p0)]) (fun ls hl => ?_)
                refine lv_goto (tgt := 3) hx hb dX8_append_55 (by decide) ?_
                refine lv_iload_n hx hb dX8_append_3 rfl (lv_at hl 0 rfl) ?_
                refine lv_if_lt (tgt := 58) hx hb dX8_append_4 (by decide) (fun c_360 => ?_) (fun c_360 => absurd (by decide) c_360)
                have hP9 := hP
                have hD9 := hD
                have hK9 := hK
                rw [hQ]
                exact W.vret hx hb hr (fun t ht hW => ⟨⟨(f_358, (kt + 1 + 1)), rfl, ⟨by omega, (kNarU ef_358 (kNarU ef_323 hgT))⟩,  by rw [ht]; exact hP9, va_K.moved hW.alike hK9, hD9⟩, hS.F ht⟩) hS.2.2 dX8_append_58
          · have hn_361 := knle (a := 120) (b := kt + 1) (by omega) (by omega) c_346
            refine lv_aload_n hx hb dX8_append_31 rfl (lv_at hl 2 rfl) ?_
            refine va_get (D := (dC, dI)) (ci := 8) (v := .ref t0) (C := RX8) (T := TX8) (N := 2) hx hb hts (fun _ h => List.mem_cons_of_mem _ (List.mem_append_right _ h)) hown hK hP 0 rfl rfl 0 (by decide) (hts (.fieldLink RX8 9 "NotEnded$Tape" "signs" "[C") (List.mem_cons_of_mem _ (List.mem_append_left _ (List.mem_of_getElem? (i := 1) rfl)))) (fun _ h9 => h9) rfl dX8_append_32 ?_
            refine lv_aload_n hx hb dX8_append_35 rfl (lv_at hl 2 rfl) ?_
            refine va_get (D := (dC, dI)) (ci := 8) (v := .int (nI (kt + 1))) (C := RX8) (T := TX8) (N := 2) hx hb hts (fun _ h => List.mem_cons_of_mem _ (List.mem_append_right _ h)) hown hK hP 0 rfl rfl 1 (by decide) (hts (.fieldLink RX8 15 "NotEnded$Tape" "length" "I") (List.mem_cons_of_mem _ (List.mem_append_left _ (List.mem_of_getElem? (i := 0) rfl)))) (fun _ h9 => h9) rfl dX8_append_36 ?_
            refine lv_iload_n hx hb dX8_append_39 rfl (lv_at hl 0 rfl) ?_
            obtain ⟨x_362, ex_362⟩ : ∃ z : Int32, z = (Int32.toUInt32 x_331 % 65536).toInt32 := ⟨_, rfl⟩
            refine lv_i2c (v := x_362) hx hb dX8_append_40 ex_362.symm ?_
            refine va_cast hx hb hK hP hD hS 1 0 rfl rfl (vp_in_nI (n := kt + 1) (N := 120) (by omega) (by omega)) dX8_append_41 (fun H locs hP hD hS => ?_)
            obtain ⟨f_363, ef_363⟩ : ∃ gg9 : Nat → Int32, gg9 = upd f_323 (Int32.toNatClampNeg (nI (kt + 1))) (vp_nar .char x_362) := ⟨_, rfl⟩
            obtain ⟨hP, hD⟩ : kPD dC dI A [(jT, .inr (8, [.ref t0, .int (nI (kt + 1))])), (t0, .inl (cC, 120, .inl f_363))] H := by rw [ef_363]; exact ⟨hP, hD⟩
            refine lv_aload_n hx hb dX8_append_42 rfl (lv_at hl 2 rfl) ?_
            refine lv_dup hx hb dX8_append_43 rfl ?_
            refine va_get (D := (dC, dI)) (ci := 8) (v := .int (nI (kt + 1))) (C := RX8) (T := TX8) (N := 2) hx hb hts (fun _ h => List.mem_cons_of_mem _ (List.mem_append_right _ h)) hown hK hP 0 rfl rfl 1 (by decide) (hts (.fieldLink RX8 15 "NotEnded$Tape" "length" "I") (List.mem_cons_of_mem _ (List.mem_append_left _ (List.mem_of_getElem? (i := 0) rfl)))) (fun _ h9 => h9) rfl dX8_append_44 ?_
            refine lv_iconst (v := 1) hx hb dX8_append_47 (by decide) ?_
            refine lv_iadd hx hb dX8_append_48 ?_
            refine lv_topi (fun y_364 ey_364 => ?_)
            obtain rfl : y_364 = nI (kt + 1 + 1) := ey_364.trans (nI_add (kt + 1) (1))
            refine va_put (D := (dC, dI)) (ci := 8) (v := .int (nI (kt + 1 + 1))) (ty := tyX8 1) (C := RX8) (T := TX8) (N := 2) hx hb hts (fun _ h => List.mem_cons_of_mem _ (List.mem_append_right _ h)) tyX8 tyX8_ok nmX8 hown hK hP hD hS 0 rfl rfl 1 (by decide) (hts (.fieldLink RX8 15 "NotEnded$Tape" "length" "I") (List.mem_cons_of_mem _ (List.mem_append_left _ (List.mem_of_getElem? (i := 0) rfl)))) (fun _ h9 => h9) rfl (tyX8_ok 1 (by decide)) rfl rfl (Nat.le_of_ble_eq_true rfl) dX8_append_49 (fun H locs hP hD hS => ?_)
            obtain ⟨hP, hD⟩ : kPD dC dI A [(jT, .inr (8, [.ref t0, .int (nI (kt + 1 + 1))])), (t0, .inl (cC, 120, .inl f_363))] H := ⟨hP, hD⟩
            refine lv_iinc (v := 0) hx hb dX8_append_52 hl (k := 1) rfl (by decide) (by decide) (kTo [(2, .int 0), (3, .int x_331), (0, .ref jT), (1, .int p0)]) (fun ls hl => ?_)
            refine lv_goto (tgt := 3) hx hb dX8_append_55 (by decide) ?_
            refine lv_iload_n hx hb dX8_append_3 rfl (lv_at hl 0 rfl) ?_
            refine lv_if_lt (tgt := 58) hx hb dX8_append_4 (by decide) (fun c_365 => absurd c_365 (by decide)) (fun c_365 => ?_)
            refine lv_iload_n hx hb dX8_append_7 rfl (lv_at hl 3 rfl) ?_
            refine lv_iload_n hx hb dX8_append_8 rfl (lv_at hl 0 rfl) ?_
            obtain ⟨x_366, ex_366⟩ : ∃ z : Int32, z = (Int32.toUInt32 p0 >>> (Int32.toUInt32 0 &&& Int32.toUInt32 31)).toInt32 := ⟨_, rfl⟩
            refine lv_iushr (v := x_366) hx hb dX8_append_9 ex_366.symm ?_
            refine lv_sipush (v := 255) hx hb dX8_append_10 (by decide) ?_
            refine lv_iand hx hb dX8_append_13 ?_
            refine lv_topi (fun x_367 ex_367 => ?_)
            refine lv_istore_n hx hb dX8_append_14 rfl hl (by decide) (kTo [(3, .int x_367), (2, .int 0), (0, .ref jT), (1, .int p0)]) (fun ls hl => ?_)
            refine lv_iload_n hx hb dX8_append_15 rfl (lv_at hl 0 rfl) ?_
            refine lv_if_eq (tgt := 52) hx hb dX8_append_16 (by decide) (fun c_368 => ?_) (fun c_368 => ?_)
            · refine lv_iinc (v := (-8)) hx hb dX8_append_52 hl (k := 1) rfl (by decide) (by decide) (kTo [(2, .int (-8)), (3, .int x_367), (0, .ref jT), (1, .int p0)]) (fun ls hl => ?_)
              refine lv_goto (tgt := 3) hx hb dX8_append_55 (by decide) ?_
              refine lv_iload_n hx hb dX8_append_3 rfl (lv_at hl 0 rfl) ?_
              refine lv_if_lt (tgt := 58) hx hb dX8_append_4 (by decide) (fun c_369 => ?_) (fun c_369 => absurd (by decide) c_369)
              have hP9 := hP
              have hD9 := hD
              have hK9 := hK
              rw [hQ]
              exact W.vret hx hb hr (fun t ht hW => ⟨⟨(f_363, (kt + 1 + 1)), rfl, ⟨by omega, (kNarU ef_363 (kNarU ef_323 hgT))⟩,  by rw [ht]; exact hP9, va_K.moved hW.alike hK9, hD9⟩, hS.F ht⟩) hS.2.2 dX8_append_58
            · refine lv_aload_n hx hb dX8_append_19 rfl (lv_at hl 2 rfl) ?_
              refine va_get (D := (dC, dI)) (ci := 8) (v := .int (nI (kt + 1 + 1))) (C := RX8) (T := TX8) (N := 2) hx hb hts (fun _ h => List.mem_cons_of_mem _ (List.mem_append_right _ h)) hown hK hP 0 rfl rfl 1 (by decide) (hts (.fieldLink RX8 15 "NotEnded$Tape" "length" "I") (List.mem_cons_of_mem _ (List.mem_append_left _ (List.mem_of_getElem? (i := 0) rfl)))) (fun _ h9 => h9) rfl dX8_append_20 ?_
              refine lv_aload_n hx hb dX8_append_23 rfl (lv_at hl 2 rfl) ?_
              refine va_get (D := (dC, dI)) (ci := 8) (v := .ref t0) (C := RX8) (T := TX8) (N := 2) hx hb hts (fun _ h => List.mem_cons_of_mem _ (List.mem_append_right _ h)) hown hK hP 0 rfl rfl 0 (by decide) (hts (.fieldLink RX8 9 "NotEnded$Tape" "signs" "[C") (List.mem_cons_of_mem _ (List.mem_append_left _ (List.mem_of_getElem? (i := 1) rfl)))) (fun _ h9 => h9) rfl dX8_append_24 ?_
              refine va_alen hx hb hK hP 1 0 rfl rfl (v := 120) rfl dX8_append_27 ?_
              refine lv_icmp_ge (tgt := 52) hx hb dX8_append_28 (by decide) (fun c_370 => ?_) (fun c_370 => ?_)
              · have hn_371 := kle (a := 120) (b := kt + 1 + 1) (by omega) (by omega) c_370
                refine lv_iinc (v := (-8)) hx hb dX8_append_52 hl (k := 1) rfl (by decide) (by decide) (kTo [(2, .int (-8)), (3, .int x_367), (0, .ref jT), (1, .int p0)]) (fun ls hl => ?_)
                refine lv_goto (tgt := 3) hx hb dX8_append_55 (by decide) ?_
                refine lv_iload_n hx hb dX8_append_3 rfl (lv_at hl 0 rfl) ?_
                refine lv_if_lt (tgt := 58) hx hb dX8_append_4 (by decide) (fun c_372 => ?_) (fun c_372 => absurd (by decide) c_372)
                have hP9 := hP
                have hD9 := hD
                have hK9 := hK
                rw [hQ]
                exact W.vret hx hb hr (fun t ht hW => ⟨⟨(f_363, (kt + 1 + 1)), rfl, ⟨by omega, (kNarU ef_363 (kNarU ef_323 hgT))⟩,  by rw [ht]; exact hP9, va_K.moved hW.alike hK9, hD9⟩, hS.F ht⟩) hS.2.2 dX8_append_58
              · have hn_373 := knle (a := 120) (b := kt + 1 + 1) (by omega) (by omega) c_370
                refine lv_aload_n hx hb dX8_append_31 rfl (lv_at hl 2 rfl) ?_
                refine va_get (D := (dC, dI)) (ci := 8) (v := .ref t0) (C := RX8) (T := TX8) (N := 2) hx hb hts (fun _ h => List.mem_cons_of_mem _ (List.mem_append_right _ h)) hown hK hP 0 rfl rfl 0 (by decide) (hts (.fieldLink RX8 9 "NotEnded$Tape" "signs" "[C") (List.mem_cons_of_mem _ (List.mem_append_left _ (List.mem_of_getElem? (i := 1) rfl)))) (fun _ h9 => h9) rfl dX8_append_32 ?_
                refine lv_aload_n hx hb dX8_append_35 rfl (lv_at hl 2 rfl) ?_
                refine va_get (D := (dC, dI)) (ci := 8) (v := .int (nI (kt + 1 + 1))) (C := RX8) (T := TX8) (N := 2) hx hb hts (fun _ h => List.mem_cons_of_mem _ (List.mem_append_right _ h)) hown hK hP 0 rfl rfl 1 (by decide) (hts (.fieldLink RX8 15 "NotEnded$Tape" "length" "I") (List.mem_cons_of_mem _ (List.mem_append_left _ (List.mem_of_getElem? (i := 0) rfl)))) (fun _ h9 => h9) rfl dX8_append_36 ?_
                refine lv_iload_n hx hb dX8_append_39 rfl (lv_at hl 0 rfl) ?_
                obtain ⟨x_374, ex_374⟩ : ∃ z : Int32, z = (Int32.toUInt32 x_367 % 65536).toInt32 := ⟨_, rfl⟩
                refine lv_i2c (v := x_374) hx hb dX8_append_40 ex_374.symm ?_
                refine va_cast hx hb hK hP hD hS 1 0 rfl rfl (vp_in_nI (n := kt + 1 + 1) (N := 120) (by omega) (by omega)) dX8_append_41 (fun H locs hP hD hS => ?_)
                obtain ⟨f_375, ef_375⟩ : ∃ gg9 : Nat → Int32, gg9 = upd f_363 (Int32.toNatClampNeg (nI (kt + 1 + 1))) (vp_nar .char x_374) := ⟨_, rfl⟩
                obtain ⟨hP, hD⟩ : kPD dC dI A [(jT, .inr (8, [.ref t0, .int (nI (kt + 1 + 1))])), (t0, .inl (cC, 120, .inl f_375))] H := by rw [ef_375]; exact ⟨hP, hD⟩
                refine lv_aload_n hx hb dX8_append_42 rfl (lv_at hl 2 rfl) ?_
                refine lv_dup hx hb dX8_append_43 rfl ?_
                refine va_get (D := (dC, dI)) (ci := 8) (v := .int (nI (kt + 1 + 1))) (C := RX8) (T := TX8) (N := 2) hx hb hts (fun _ h => List.mem_cons_of_mem _ (List.mem_append_right _ h)) hown hK hP 0 rfl rfl 1 (by decide) (hts (.fieldLink RX8 15 "NotEnded$Tape" "length" "I") (List.mem_cons_of_mem _ (List.mem_append_left _ (List.mem_of_getElem? (i := 0) rfl)))) (fun _ h9 => h9) rfl dX8_append_44 ?_
                refine lv_iconst (v := 1) hx hb dX8_append_47 (by decide) ?_
                refine lv_iadd hx hb dX8_append_48 ?_
                refine lv_topi (fun y_376 ey_376 => ?_)
                obtain rfl : y_376 = nI (kt + 1 + 1 + 1) := ey_376.trans (nI_add (kt + 1 + 1) (1))
                refine va_put (D := (dC, dI)) (ci := 8) (v := .int (nI (kt + 1 + 1 + 1))) (ty := tyX8 1) (C := RX8) (T := TX8) (N := 2) hx hb hts (fun _ h => List.mem_cons_of_mem _ (List.mem_append_right _ h)) tyX8 tyX8_ok nmX8 hown hK hP hD hS 0 rfl rfl 1 (by decide) (hts (.fieldLink RX8 15 "NotEnded$Tape" "length" "I") (List.mem_cons_of_mem _ (List.mem_append_left _ (List.mem_of_getElem? (i := 0) rfl)))) (fun _ h9 => h9) rfl (tyX8_ok 1 (by decide)) rfl rfl (Nat.le_of_ble_eq_true rfl) dX8_append_49 (fun H locs hP hD hS => ?_)
                obtain ⟨hP, hD⟩ : kPD dC dI A [(jT, .inr (8, [.ref t0, .int (nI (kt + 1 + 1 + 1))])), (t0, .inl (cC, 120, .inl f_375))] H := ⟨hP, hD⟩
                refine lv_iinc (v := (-8)) hx hb dX8_append_52 hl (k := 1) rfl (by decide) (by decide) (kTo [(2, .int (-8)), (3, .int x_367), (0, .ref jT), (1, .int p0)]) (fun ls hl => ?_)
                refine lv_goto (tgt := 3) hx hb dX8_append_55 (by decide) ?_
                refine lv_iload_n hx hb dX8_append_3 rfl (lv_at hl 0 rfl) ?_
                refine lv_if_lt (tgt := 58) hx hb dX8_append_4 (by decide) (fun c_377 => ?_) (fun c_377 => absurd (by decide) c_377)
                have hP9 := hP
                have hD9 := hD
                have hK9 := hK
                rw [hQ]
                exact W.vret hx hb hr (fun t ht hW => ⟨⟨(f_375, (kt + 1 + 1 + 1)), rfl, ⟨by omega, (kNarU ef_375 (kNarU ef_363 (kNarU ef_323 hgT)))⟩,  by rw [ht]; exact hP9, va_K.moved hW.alike hK9, hD9⟩, hS.F ht⟩) hS.2.2 dX8_append_58
      · refine lv_aload_n hx hb dX8_append_19 rfl (lv_at hl 2 rfl) ?_
        refine va_get (D := (dC, dI)) (ci := 8) (v := .int (nI (kt + 1))) (C := RX8) (T := TX8) (N := 2) hx hb hts (fun _ h => List.mem_cons_of_mem _ (List.mem_append_right _ h)) hown hK hP 0 rfl rfl 1 (by decide) (hts (.fieldLink RX8 15 "NotEnded$Tape" "length" "I") (List.mem_cons_of_mem _ (List.mem_append_left _ (List.mem_of_getElem? (i := 0) rfl)))) (fun _ h9 => h9) rfl dX8_append_20 ?_
        refine lv_aload_n hx hb dX8_append_23 rfl (lv_at hl 2 rfl) ?_
        refine va_get (D := (dC, dI)) (ci := 8) (v := .ref t0) (C := RX8) (T := TX8) (N := 2) hx hb hts (fun _ h => List.mem_cons_of_mem _ (List.mem_append_right _ h)) hown hK hP 0 rfl rfl 0 (by decide) (hts (.fieldLink RX8 9 "NotEnded$Tape" "signs" "[C") (List.mem_cons_of_mem _ (List.mem_append_left _ (List.mem_of_getElem? (i := 1) rfl)))) (fun _ h9 => h9) rfl dX8_append_24 ?_
        refine va_alen hx hb hK hP 1 0 rfl rfl (v := 120) rfl dX8_append_27 ?_
        refine lv_icmp_ge (tgt := 52) hx hb dX8_append_28 (by decide) (fun c_378 => ?_) (fun c_378 => ?_)
        · have hn_379 := kle (a := 120) (b := kt + 1) (by omega) (by omega) c_378
          refine lv_iinc (v := 8) hx hb dX8_append_52 hl (k := 1) rfl (by decide) (by decide) (kTo [(2, .int 8), (3, .int x_327), (0, .ref jT), (1, .int p0)]) (fun ls hl => ?_)
          refine lv_goto (tgt := 3) hx hb dX8_append_55 (by decide) ?_
          refine lv_iload_n hx hb dX8_append_3 rfl (lv_at hl 0 rfl) ?_
          refine lv_if_lt (tgt := 58) hx hb dX8_append_4 (by decide) (fun c_380 => absurd c_380 (by decide)) (fun c_380 => ?_)
          refine lv_iload_n hx hb dX8_append_7 rfl (lv_at hl 3 rfl) ?_
          refine lv_iload_n hx hb dX8_append_8 rfl (lv_at hl 0 rfl) ?_
          obtain ⟨x_381, ex_381⟩ : ∃ z : Int32, z = (Int32.toUInt32 p0 >>> (Int32.toUInt32 8 &&& Int32.toUInt32 31)).toInt32 := ⟨_, rfl⟩
          refine lv_iushr (v := x_381) hx hb dX8_append_9 ex_381.symm ?_
          refine lv_sipush (v := 255) hx hb dX8_append_10 (by decide) ?_
          refine lv_iand hx hb dX8_append_13 ?_
          refine lv_topi (fun x_382 ex_382 => ?_)
          refine lv_istore_n hx hb dX8_append_14 rfl hl (by decide) (kTo [(3, .int x_382), (2, .int 8), (0, .ref jT), (1, .int p0)]) (fun ls hl => ?_)
          refine lv_iload_n hx hb dX8_append_15 rfl (lv_at hl 0 rfl) ?_
          refine lv_if_eq (tgt := 52) hx hb dX8_append_16 (by decide) (fun c_383 => ?_) (fun c_383 => ?_)
          · refine lv_iinc (v := 0) hx hb dX8_append_52 hl (k := 1) rfl (by decide) (by decide) (kTo [(2, .int 0), (3, .int x_382), (0, .ref jT), (1, .int p0)]) (fun ls hl => ?_)
            refine lv_goto (tgt := 3) hx hb dX8_append_55 (by decide) ?_
            refine lv_iload_n hx hb dX8_append_3 rfl (lv_at hl 0 rfl) ?_
            refine lv_if_lt (tgt := 58) hx hb dX8_append_4 (by decide) (fun c_384 => absurd c_384 (by decide)) (fun c_384 => ?_)
            refine lv_iload_n hx hb dX8_append_7 rfl (lv_at hl 3 rfl) ?_
            refine lv_iload_n hx hb dX8_append_8 rfl (lv_at hl 0 rfl) ?_
            obtain ⟨x_385, ex_385⟩ : ∃ z : Int32, z = (Int32.toUInt32 p0 >>> (Int32.toUInt32 0 &&& Int32.toUInt32 31)).toInt32 := ⟨_, rfl⟩
            refine lv_iushr (v := x_385) hx hb dX8_append_9 ex_385.symm ?_
            refine lv_sipush (v := 255) hx hb dX8_append_10 (by decide) ?_
            refine lv_iand hx hb dX8_append_13 ?_
            refine lv_topi (fun x_386 ex_386 => ?_)
            refine lv_istore_n hx hb dX8_append_14 rfl hl (by decide) (kTo [(3, .int x_386), (2, .int 0), (0, .ref jT), (1, .int p0)]) (fun ls hl => ?_)
            refine lv_iload_n hx hb dX8_append_15 rfl (lv_at hl 0 rfl) ?_
            refine lv_if_eq (tgt := 52) hx hb dX8_append_16 (by decide) (fun c_387 => ?_) (fun c_387 => ?_)
            · refine lv_iinc (v := (-8)) hx hb dX8_append_52 hl (k := 1) rfl (by decide) (by decide) (kTo [(2, .int (-8)), (3, .int x_386), (0, .ref jT), (1, .int p0)]) (fun ls hl => ?_)
              refine lv_goto (tgt := 3) hx hb dX8_append_55 (by decide) ?_
              refine lv_iload_n hx hb dX8_append_3 rfl (lv_at hl 0 rfl) ?_
              refine lv_if_lt (tgt := 58) hx hb dX8_append_4 (by decide) (fun c_388 => ?_) (fun c_388 => absurd (by decide) c_388)
              have hP9 := hP
              have hD9 := hD
              have hK9 := hK
              rw [hQ]
              exact W.vret hx hb hr (fun t ht hW => ⟨⟨(f_323, (kt + 1)), rfl, ⟨by omega, (kNarU ef_323 hgT)⟩,  by rw [ht]; exact hP9, va_K.moved hW.alike hK9, hD9⟩, hS.F ht⟩) hS.2.2 dX8_append_58
            · refine lv_aload_n hx hb dX8_append_19 rfl (lv_at hl 2 rfl) ?_
              refine va_get (D := (dC, dI)) (ci := 8) (v := .int (nI (kt + 1))) (C := RX8) (T := TX8) (N := 2) hx hb hts (fun _ h => List.mem_cons_of_mem _ (List.mem_append_right _ h)) hown hK hP 0 rfl rfl 1 (by decide) (hts (.fieldLink RX8 15 "NotEnded$Tape" "length" "I") (List.mem_cons_of_mem _ (List.mem_append_left _ (List.mem_of_getElem? (i := 0) rfl)))) (fun _ h9 => h9) rfl dX8_append_20 ?_
              refine lv_aload_n hx hb dX8_append_23 rfl (lv_at hl 2 rfl) ?_
              refine va_get (D := (dC, dI)) (ci := 8) (v := .ref t0) (C := RX8) (T := TX8) (N := 2) hx hb hts (fun _ h => List.mem_cons_of_mem _ (List.mem_append_right _ h)) hown hK hP 0 rfl rfl 0 (by decide) (hts (.fieldLink RX8 9 "NotEnded$Tape" "signs" "[C") (List.mem_cons_of_mem _ (List.mem_append_left _ (List.mem_of_getElem? (i := 1) rfl)))) (fun _ h9 => h9) rfl dX8_append_24 ?_
              refine va_alen hx hb hK hP 1 0 rfl rfl (v := 120) rfl dX8_append_27 ?_
              refine lv_icmp_ge (tgt := 52) hx hb dX8_append_28 (by decide) (fun c_389 => ?_) (fun c_389 => ?_)
              · have hn_390 := kle (a := 120) (b := kt + 1) (by omega) (by omega) c_389
                refine lv_iinc (v := (-8)) hx hb dX8_append_52 hl (k := 1) rfl (by decide) (by decide) (kTo [(2, .int (-8)), (3, .int x_386), (0, .ref jT), (1, .int p0)]) (fun ls hl => ?_)
                refine lv_goto (tgt := 3) hx hb dX8_append_55 (by decide) ?_
                refine lv_iload_n hx hb dX8_append_3 rfl (lv_at hl 0 rfl) ?_
                refine lv_if_lt (tgt := 58) hx hb dX8_append_4 (by decide) (fun c_391 => ?_) (fun c_391 => absurd (by decide) c_391)
                have hP9 := hP
                have hD9 := hD
                have hK9 := hK
                rw [hQ]
                exact W.vret hx hb hr (fun t ht hW => ⟨⟨(f_323, (kt + 1)), rfl, ⟨by omega, (kNarU ef_323 hgT)⟩,  by rw [ht]; exact hP9, va_K.moved hW.alike hK9, hD9⟩, hS.F ht⟩) hS.2.2 dX8_append_58
              · have hn_392 := knle (a := 120) (b := kt + 1) (by omega) (by omega) c_389
                refine lv_aload_n hx hb dX8_append_31 rfl (lv_at hl 2 rfl) ?_
                refine va_get (D := (dC, dI)) (ci := 8) (v := .ref t0) (C := RX8) (T := TX8) (N := 2) hx hb hts (fun _ h => List.mem_cons_of_mem _ (List.mem_append_right _ h)) hown hK hP 0 rfl rfl 0 (by decide) (hts (.fieldLink RX8 9 "NotEnded$Tape" "signs" "[C") (List.mem_cons_of_mem _ (List.mem_append_left _ (List.mem_of_getElem? (i := 1) rfl)))) (fun _ h9 => h9) rfl dX8_append_32 ?_
                refine lv_aload_n hx hb dX8_append_35 rfl (lv_at hl 2 rfl) ?_
                refine va_get (D := (dC, dI)) (ci := 8) (v := .int (nI (kt + 1))) (C := RX8) (T := TX8) (N := 2) hx hb hts (fun _ h => List.mem_cons_of_mem _ (List.mem_append_right _ h)) hown hK hP 0 rfl rfl 1 (by decide) (hts (.fieldLink RX8 15 "NotEnded$Tape" "length" "I") (List.mem_cons_of_mem _ (List.mem_append_left _ (List.mem_of_getElem? (i := 0) rfl)))) (fun _ h9 => h9) rfl dX8_append_36 ?_
                refine lv_iload_n hx hb dX8_append_39 rfl (lv_at hl 0 rfl) ?_
                obtain ⟨x_393, ex_393⟩ : ∃ z : Int32, z = (Int32.toUInt32 x_386 % 65536).toInt32 := ⟨_, rfl⟩
                refine lv_i2c (v := x_393) hx hb dX8_append_40 ex_393.symm ?_
                refine va_cast hx hb hK hP hD hS 1 0 rfl rfl (vp_in_nI (n := kt + 1) (N := 120) (by omega) (by omega)) dX8_append_41 (fun H locs hP hD hS => ?_)
                obtain ⟨f_394, ef_394⟩ : ∃ gg9 : Nat → Int32, gg9 = upd f_323 (Int32.toNatClampNeg (nI (kt + 1))) (vp_nar .char x_393) := ⟨_, rfl⟩
                obtain ⟨hP, hD⟩ : kPD dC dI A [(jT, .inr (8, [.ref t0, .int (nI (kt + 1))])), (t0, .inl (cC, 120, .inl f_394))] H := by rw [ef_394]; exact ⟨hP, hD⟩
                refine lv_aload_n hx hb dX8_append_42 rfl (lv_at hl 2 rfl) ?_
                refine lv_dup hx hb dX8_append_43 rfl ?_
                refine va_get (D := (dC, dI)) (ci := 8) (v := .int (nI (kt + 1))) (C := RX8) (T := TX8) (N := 2) hx hb hts (fun _ h => List.mem_cons_of_mem _ (List.mem_append_right _ h)) hown hK hP 0 rfl rfl 1 (by decide) (hts (.fieldLink RX8 15 "NotEnded$Tape" "length" "I") (List.mem_cons_of_mem _ (List.mem_append_left _ (List.mem_of_getElem? (i := 0) rfl)))) (fun _ h9 => h9) rfl dX8_append_44 ?_
                refine lv_iconst (v := 1) hx hb dX8_append_47 (by decide) ?_
                refine lv_iadd hx hb dX8_append_48 ?_
                refine lv_topi (fun y_395 ey_395 => ?_)
                obtain rfl : y_395 = nI (kt + 1 + 1) := ey_395.trans (nI_add (kt + 1) (1))
                refine va_put (D := (dC, dI)) (ci := 8) (v := .int (nI (kt + 1 + 1))) (ty := tyX8 1) (C := RX8) (T := TX8) (N := 2) hx hb hts (fun _ h => List.mem_cons_of_mem _ (List.mem_append_right _ h)) tyX8 tyX8_ok nmX8 hown hK hP hD hS 0 rfl rfl 1 (by decide) (hts (.fieldLink RX8 15 "NotEnded$Tape" "length" "I") (List.mem_cons_of_mem _ (List.mem_append_left _ (List.mem_of_getElem? (i := 0) rfl)))) (fun _ h9 => h9) rfl (tyX8_ok 1 (by decide)) rfl rfl (Nat.le_of_ble_eq_true rfl) dX8_append_49 (fun H locs hP hD hS => ?_)
                obtain ⟨hP, hD⟩ : kPD dC dI A [(jT, .inr (8, [.ref t0, .int (nI (kt + 1 + 1))])), (t0, .inl (cC, 120, .inl f_394))] H := ⟨hP, hD⟩
                refine lv_iinc (v := (-8)) hx hb dX8_append_52 hl (k := 1) rfl (by decide) (by decide) (kTo [(2, .int (-8)), (3, .int x_386), (0, .ref jT), (1, .int p0)]) (fun ls hl => ?_)
                refine lv_goto (tgt := 3) hx hb dX8_append_55 (by decide) ?_
                refine lv_iload_n hx hb dX8_append_3 rfl (lv_at hl 0 rfl) ?_
                refine lv_if_lt (tgt := 58) hx hb dX8_append_4 (by decide) (fun c_396 => ?_) (fun c_396 => absurd (by decide) c_396)
                have hP9 := hP
                have hD9 := hD
                have hK9 := hK
                rw [hQ]
                exact W.vret hx hb hr (fun t ht hW => ⟨⟨(f_394, (kt + 1 + 1)), rfl, ⟨by omega, (kNarU ef_394 (kNarU ef_323 hgT))⟩,  by rw [ht]; exact hP9, va_K.moved hW.alike hK9, hD9⟩, hS.F ht⟩) hS.2.2 dX8_append_58
          · refine lv_aload_n hx hb dX8_append_19 rfl (lv_at hl 2 rfl) ?_
            refine va_get (D := (dC, dI)) (ci := 8) (v := .int (nI (kt + 1))) (C := RX8) (T := TX8) (N := 2) hx hb hts (fun _ h => List.mem_cons_of_mem _ (List.mem_append_right _ h)) hown hK hP 0 rfl rfl 1 (by decide) (hts (.fieldLink RX8 15 "NotEnded$Tape" "length" "I") (List.mem_cons_of_mem _ (List.mem_append_left _ (List.mem_of_getElem? (i := 0) rfl)))) (fun _ h9 => h9) rfl dX8_append_20 ?_
            refine lv_aload_n hx hb dX8_append_23 rfl (lv_at hl 2 rfl) ?_
            refine va_get (D := (dC, dI)) (ci := 8) (v := .ref t0) (C := RX8) (T := TX8) (N := 2) hx hb hts (fun _ h => List.mem_cons_of_mem _ (List.mem_append_right _ h)) hown hK hP 0 rfl rfl 0 (by decide) (hts (.fieldLink RX8 9 "NotEnded$Tape" "signs" "[C") (List.mem_cons_of_mem _ (List.mem_append_left _ (List.mem_of_getElem? (i := 1) rfl)))) (fun _ h9 => h9) rfl dX8_append_24 ?_
            refine va_alen hx hb hK hP 1 0 rfl rfl (v := 120) rfl dX8_append_27 ?_
            refine lv_icmp_ge (tgt := 52) hx hb dX8_append_28 (by decide) (fun c_397 => ?_) (fun c_397 => ?_)
            · have hn_398 := kle (a := 120) (b := kt + 1) (by omega) (by omega) c_397
              refine lv_iinc (v := 0) hx hb dX8_append_52 hl (k := 1) rfl (by decide) (by decide) (kTo [(2, .int 0), (3, .int x_382), (0, .ref jT), (1, .int p0)]) (fun ls hl => ?_)
              refine lv_goto (tgt := 3) hx hb dX8_append_55 (by decide) ?_
              refine lv_iload_n hx hb dX8_append_3 rfl (lv_at hl 0 rfl) ?_
              refine lv_if_lt (tgt := 58) hx hb dX8_append_4 (by decide) (fun c_399 => absurd c_399 (by decide)) (fun c_399 => ?_)
              refine lv_iload_n hx hb dX8_append_7 rfl (lv_at hl 3 rfl) ?_
              refine lv_iload_n hx hb dX8_append_8 rfl (lv_at hl 0 rfl) ?_
              obtain ⟨x_400, ex_400⟩ : ∃ z : Int32, z = (Int32.toUInt32 p0 >>> (Int32.toUInt32 0 &&& Int32.toUInt32 31)).toInt32 := ⟨_, rfl⟩
              refine lv_iushr (v := x_400) hx hb dX8_append_9 ex_400.symm ?_
              refine lv_sipush (v := 255) hx hb dX8_append_10 (by decide) ?_
              refine lv_iand hx hb dX8_append_13 ?_
              refine lv_topi (fun x_401 ex_401 => ?_)
              refine lv_istore_n hx hb dX8_append_14 rfl hl (by decide) (kTo [(3, .int x_401), (2, .int 0), (0, .ref jT), (1, .int p0)]) (fun ls hl => ?_)
              refine lv_iload_n hx hb dX8_append_15 rfl (lv_at hl 0 rfl) ?_
              refine lv_if_eq (tgt := 52) hx hb dX8_append_16 (by decide) (fun c_402 => ?_) (fun c_402 => ?_)
              · refine lv_iinc (v := (-8)) hx hb dX8_append_52 hl (k := 1) rfl (by decide) (by decide) (kTo [(2, .int (-8)), (3, .int x_401), (0, .ref jT), (1, .int p0)]) (fun ls hl => ?_)
                refine lv_goto (tgt := 3) hx hb dX8_append_55 (by decide) ?_
                refine lv_iload_n hx hb dX8_append_3 rfl (lv_at hl 0 rfl) ?_
                refine lv_if_lt (tgt := 58) hx hb dX8_append_4 (by decide) (fun c_403 => ?_) (fun c_403 => absurd (by decide) c_403)
                have hP9 := hP
                have hD9 := hD
                have hK9 := hK
                rw [hQ]
                exact W.vret hx hb hr (fun t ht hW => ⟨⟨(f_323, (kt + 1)), rfl, ⟨by omega, (kNarU ef_323 hgT)⟩,  by rw [ht]; exact hP9, va_K.moved hW.alike hK9, hD9⟩, hS.F ht⟩) hS.2.2 dX8_append_58
              · refine lv_aload_n hx hb dX8_append_19 rfl (lv_at hl 2 rfl) ?_
                refine va_get (D := (dC, dI)) (ci := 8) (v := .int (nI (kt + 1))) (C := RX8) (T := TX8) (N := 2) hx hb hts (fun _ h => List.mem_cons_of_mem _ (List.mem_append_right _ h)) hown hK hP 0 rfl rfl 1 (by decide) (hts (.fieldLink RX8 15 "NotEnded$Tape" "length" "I") (List.mem_cons_of_mem _ (List.mem_append_left _ (List.mem_of_getElem? (i := 0) rfl)))) (fun _ h9 => h9) rfl dX8_append_20 ?_
                refine lv_aload_n hx hb dX8_append_23 rfl (lv_at hl 2 rfl) ?_
                refine va_get (D := (dC, dI)) (ci := 8) (v := .ref t0) (C := RX8) (T := TX8) (N := 2) hx hb hts (fun _ h => List.mem_cons_of_mem _ (List.mem_append_right _ h)) hown hK hP 0 rfl rfl 0 (by decide) (hts (.fieldLink RX8 9 "NotEnded$Tape" "signs" "[C") (List.mem_cons_of_mem _ (List.mem_append_left _ (List.mem_of_getElem? (i := 1) rfl)))) (fun _ h9 => h9) rfl dX8_append_24 ?_
                refine va_alen hx hb hK hP 1 0 rfl rfl (v := 120) rfl dX8_append_27 ?_
                refine lv_icmp_ge (tgt := 52) hx hb dX8_append_28 (by decide) (fun c_404 => ?_) (fun c_404 => ?_)
                · have hn_405 := kle (a := 120) (b := kt + 1) (by omega) (by omega) c_404
                  refine lv_iinc (v := (-8)) hx hb dX8_append_52 hl (k := 1) rfl (by decide) (by decide) (kTo [(2, .int (-8)), (3, .int x_401), (0, .ref jT), (1, .int p0)]) (fun ls hl => ?_)
                  refine lv_goto (tgt := 3) hx hb dX8_append_55 (by decide) ?_
                  refine lv_iload_n hx hb dX8_append_3 rfl (lv_at hl 0 rfl) ?_
                  refine lv_if_lt (tgt := 58) hx hb dX8_append_4 (by decide) (fun c_406 => ?_) (fun c_406 => absurd (by decide) c_406)
                  have hP9 := hP
                  have hD9 := hD
                  have hK9 := hK
                  rw [hQ]
                  exact W.vret hx hb hr (fun t ht hW => ⟨⟨(f_323, (kt + 1)), rfl, ⟨by omega, (kNarU ef_323 hgT)⟩,  by rw [ht]; exact hP9, va_K.moved hW.alike hK9, hD9⟩, hS.F ht⟩) hS.2.2 dX8_append_58
                · have hn_407 := knle (a := 120) (b := kt + 1) (by omega) (by omega) c_404
                  refine lv_aload_n hx hb dX8_append_31 rfl (lv_at hl 2 rfl) ?_
                  refine va_get (D := (dC, dI)) (ci := 8) (v := .ref t0) (C := RX8) (T := TX8) (N := 2) hx hb hts (fun _ h => List.mem_cons_of_mem _ (List.mem_append_right _ h)) hown hK hP 0 rfl rfl 0 (by decide) (hts (.fieldLink RX8 9 "NotEnded$Tape" "signs" "[C") (List.mem_cons_of_mem _ (List.mem_append_left _ (List.mem_of_getElem? (i := 1) rfl)))) (fun _ h9 => h9) rfl dX8_append_32 ?_
                  refine lv_aload_n hx hb dX8_append_35 rfl (lv_at hl 2 rfl) ?_
                  refine va_get (D := (dC, dI)) (ci := 8) (v := .int (nI (kt + 1))) (C := RX8) (T := TX8) (N := 2) hx hb hts (fun _ h => List.mem_cons_of_mem _ (List.mem_append_right _ h)) hown hK hP 0 rfl rfl 1 (by decide) (hts (.fieldLink RX8 15 "NotEnded$Tape" "length" "I") (List.mem_cons_of_mem _ (List.mem_append_left _ (List.mem_of_getElem? (i := 0) rfl)))) (fun _ h9 => h9) rfl dX8_append_36 ?_
                  refine lv_iload_n hx hb dX8_append_39 rfl (lv_at hl 0 rfl) ?_
                  obtain ⟨x_408, ex_408⟩ : ∃ z : Int32, z = (Int32.toUInt32 x_401 % 65536).toInt32 := ⟨_, rfl⟩
                  refine lv_i2c (v := x_408) hx hb dX8_append_40 ex_408.symm ?_
                  refine va_cast hx hb hK hP hD hS 1 0 rfl rfl (vp_in_nI (n := kt + 1) (N := 120) (by omega) (by omega)) dX8_append_41 (fun H locs hP hD hS => ?_)
                  obtain ⟨f_409, ef_409⟩ : ∃ gg9 : Nat → Int32, gg9 = upd f_323 (Int32.toNatClampNeg (nI (kt + 1))) (vp_nar .char x_408) := ⟨_, rfl⟩
                  obtain ⟨hP, hD⟩ : kPD dC dI A [(jT, .inr (8, [.ref t0, .int (nI (kt + 1))])), (t0, .inl (cC, 120, .inl f_409))] H := by rw [ef_409]; exact ⟨hP, hD⟩
                  refine lv_aload_n hx hb dX8_append_42 rfl (lv_at hl 2 rfl) ?_
                  refine lv_dup hx hb dX8_append_43 rfl ?_
                  refine va_get (D := (dC, dI)) (ci := 8) (v := .int (nI (kt + 1))) (C := RX8) (T := TX8) (N := 2) hx hb hts (fun _ h => List.mem_cons_of_mem _ (List.mem_append_right _ h)) hown hK hP 0 rfl rfl 1 (by decide) (hts (.fieldLink RX8 15 "NotEnded$Tape" "length" "I") (List.mem_cons_of_mem _ (List.mem_append_left _ (List.mem_of_getElem? (i := 0) rfl)))) (fun _ h9 => h9) rfl dX8_append_44 ?_
                  refine lv_iconst (v := 1) hx hb dX8_append_47 (by decide) ?_
                  refine lv_iadd hx hb dX8_append_48 ?_
                  refine lv_topi (fun y_410 ey_410 => ?_)
                  obtain rfl : y_410 = nI (kt + 1 + 1) := ey_410.trans (nI_add (kt + 1) (1))
                  refine va_put (D := (dC, dI)) (ci := 8) (v := .int (nI (kt + 1 + 1))) (ty := tyX8 1) (C := RX8) (T := TX8) (N := 2) hx hb hts (fun _ h => List.mem_cons_of_mem _ (List.mem_append_right _ h)) tyX8 tyX8_ok nmX8 hown hK hP hD hS 0 rfl rfl 1 (by decide) (hts (.fieldLink RX8 15 "NotEnded$Tape" "length" "I") (List.mem_cons_of_mem _ (List.mem_append_left _ (List.mem_of_getElem? (i := 0) rfl)))) (fun _ h9 => h9) rfl (tyX8_ok 1 (by decide)) rfl rfl (Nat.le_of_ble_eq_true rfl) dX8_append_49 (fun H locs hP hD hS => ?_)
                  obtain ⟨hP, hD⟩ : kPD dC dI A [(jT, .inr (8, [.ref t0, .int (nI (kt + 1 + 1))])), (t0, .inl (cC, 120, .inl f_409))] H := ⟨hP, hD⟩
                  refine lv_iinc (v := (-8)) hx hb dX8_append_52 hl (k := 1) rfl (by decide) (by decide) (kTo [(2, .int (-8)), (3, .int x_401), (0, .ref jT), (1, .int p0)]) (fun ls hl => ?_)
                  refine lv_goto (tgt := 3) hx hb dX8_append_55 (by decide) ?_
                  refine lv_iload_n hx hb dX8_append_3 rfl (lv_at hl 0 rfl) ?_
                  refine lv_if_lt (tgt := 58) hx hb dX8_append_4 (by decide) (fun c_411 => ?_) (fun c_411 => absurd (by decide) c_411)
                  have hP9 := hP
                  have hD9 := hD
                  have hK9 := hK
                  rw [hQ]
                  exact W.vret hx hb hr (fun t ht hW => ⟨⟨(f_409, (kt + 1 + 1)), rfl, ⟨by omega, (kNarU ef_409 (kNarU ef_323 hgT))⟩,  by rw [ht]; exact hP9, va_K.moved hW.alike hK9, hD9⟩, hS.F ht⟩) hS.2.2 dX8_append_58
            · have hn_412 := knle (a := 120) (b := kt + 1) (by omega) (by omega) c_397
              refine lv_aload_n hx hb dX8_append_31 rfl (lv_at hl 2 rfl) ?_
              refine va_get (D := (dC, dI)) (ci := 8) (v := .ref t0) (C := RX8) (T := TX8) (N := 2) hx hb hts (fun _ h => List.mem_cons_of_mem _ (List.mem_append_right _ h)) hown hK hP 0 rfl rfl 0 (by decide) (hts (.fieldLink RX8 9 "NotEnded$Tape" "signs" "[C") (List.mem_cons_of_mem _ (List.mem_append_left _ (List.mem_of_getElem? (i := 1) rfl)))) (fun _ h9 => h9) rfl dX8_append_32 ?_
              refine lv_aload_n hx hb dX8_append_35 rfl (lv_at hl 2 rfl) ?_
              refine va_get (D := (dC, dI)) (ci := 8) (v := .int (nI (kt + 1))) (C := RX8) (T := TX8) (N := 2) hx hb hts (fun _ h => List.mem_cons_of_mem _ (List.mem_append_right _ h)) hown hK hP 0 rfl rfl 1 (by decide) (hts (.fieldLink RX8 15 "NotEnded$Tape" "length" "I") (List.mem_cons_of_mem _ (List.mem_append_left _ (List.mem_of_getElem? (i := 0) rfl)))) (fun _ h9 => h9) rfl dX8_append_36 ?_
              refine lv_iload_n hx hb dX8_append_39 rfl (lv_at hl 0 rfl) ?_
              obtain ⟨x_413, ex_413⟩ : ∃ z : Int32, z = (Int32.toUInt32 x_382 % 65536).toInt32 := ⟨_, rfl⟩
              refine lv_i2c (v := x_413) hx hb dX8_append_40 ex_413.symm ?_
              refine va_cast hx hb hK hP hD hS 1 0 rfl rfl (vp_in_nI (n := kt + 1) (N := 120) (by omega) (by omega)) dX8_append_41 (fun H locs hP hD hS => ?_)
              obtain ⟨f_414, ef_414⟩ : ∃ gg9 : Nat → Int32, gg9 = upd f_323 (Int32.toNatClampNeg (nI (kt + 1))) (vp_nar .char x_413) := ⟨_, rfl⟩
              obtain ⟨hP, hD⟩ : kPD dC dI A [(jT, .inr (8, [.ref t0, .int (nI (kt + 1))])), (t0, .inl (cC, 120, .inl f_414))] H := by rw [ef_414]; exact ⟨hP, hD⟩
              refine lv_aload_n hx hb dX8_append_42 rfl (lv_at hl 2 rfl) ?_
              refine lv_dup hx hb dX8_append_43 rfl ?_
              refine va_get (D := (dC, dI)) (ci := 8) (v := .int (nI (kt + 1))) (C := RX8) (T := TX8) (N := 2) hx hb hts (fun _ h => List.mem_cons_of_mem _ (List.mem_append_right _ h)) hown hK hP 0 rfl rfl 1 (by decide) (hts (.fieldLink RX8 15 "NotEnded$Tape" "length" "I") (List.mem_cons_of_mem _ (List.mem_append_left _ (List.mem_of_getElem? (i := 0) rfl)))) (fun _ h9 => h9) rfl dX8_append_44 ?_
              refine lv_iconst (v := 1) hx hb dX8_append_47 (by decide) ?_
              refine lv_iadd hx hb dX8_append_48 ?_
              refine lv_topi (fun y_415 ey_415 => ?_)
              obtain rfl : y_415 = nI (kt + 1 + 1) := ey_415.trans (nI_add (kt + 1) (1))
              refine va_put (D := (dC, dI)) (ci := 8) (v := .int (nI (kt + 1 + 1))) (ty := tyX8 1) (C := RX8) (T := TX8) (N := 2) hx hb hts (fun _ h => List.mem_cons_of_mem _ (List.mem_append_right _ h)) tyX8 tyX8_ok nmX8 hown hK hP hD hS 0 rfl rfl 1 (by decide) (hts (.fieldLink RX8 15 "NotEnded$Tape" "length" "I") (List.mem_cons_of_mem _ (List.mem_append_left _ (List.mem_of_getElem? (i := 0) rfl)))) (fun _ h9 => h9) rfl (tyX8_ok 1 (by decide)) rfl rfl (Nat.le_of_ble_eq_true rfl) dX8_append_49 (fun H locs hP hD hS => ?_)
              obtain ⟨hP, hD⟩ : kPD dC dI A [(jT, .inr (8, [.ref t0, .int (nI (kt + 1 + 1))])), (t0, .inl (cC, 120, .inl f_414))] H := ⟨hP, hD⟩
              refine lv_iinc (v := 0) hx hb dX8_append_52 hl (k := 1) rfl (by decide) (by decide) (kTo [(2, .int 0), (3, .int x_382), (0, .ref jT), (1, .int p0)]) (fun ls hl => ?_)
              refine lv_goto (tgt := 3) hx hb dX8_append_55 (by decide) ?_
              refine lv_iload_n hx hb dX8_append_3 rfl (lv_at hl 0 rfl) ?_
              refine lv_if_lt (tgt := 58) hx hb dX8_append_4 (by decide) (fun c_416 => absurd c_416 (by decide)) (fun c_416 => ?_)
              refine lv_iload_n hx hb dX8_append_7 rfl (lv_at hl 3 rfl) ?_
              refine lv_iload_n hx hb dX8_append_8 rfl (lv_at hl 0 rfl) ?_
              obtain ⟨x_417, ex_417⟩ : ∃ z : Int32, z = (Int32.toUInt32 p0 >>> (Int32.toUInt32 0 &&& Int32.toUInt32 31)).toInt32 := ⟨_, rfl⟩
              refine lv_iushr (v := x_417) hx hb dX8_append_9 ex_417.symm ?_
              refine lv_sipush (v := 255) hx hb dX8_append_10 (by decide) ?_
              refine lv_iand hx hb dX8_append_13 ?_
              refine lv_topi (fun x_418 ex_418 => ?_)
              refine lv_istore_n hx hb dX8_append_14 rfl hl (by decide) (kTo [(3, .int x_418), (2, .int 0), (0, .ref jT), (1, .int p0)]) (fun ls hl => ?_)
              refine lv_iload_n hx hb dX8_append_15 rfl (lv_at hl 0 rfl) ?_
              refine lv_if_eq (tgt := 52) hx hb dX8_append_16 (by decide) (fun c_419 => ?_) (fun c_419 => ?_)
              · refine lv_iinc (v := (-8)) hx hb dX8_append_52 hl (k := 1) rfl (by decide) (by decide) (kTo [(2, .int (-8)), (3, .int x_418), (0, .ref jT), (1, .int p0)]) (fun ls hl => ?_)
                refine lv_goto (tgt := 3) hx hb dX8_append_55 (by decide) ?_
                refine lv_iload_n hx hb dX8_append_3 rfl (lv_at hl 0 rfl) ?_
                refine lv_if_lt (tgt := 58) hx hb dX8_append_4 (by decide) (fun c_420 => ?_) (fun c_420 => absurd (by decide) c_420)
                have hP9 := hP
                have hD9 := hD
                have hK9 := hK
                rw [hQ]
                exact W.vret hx hb hr (fun t ht hW => ⟨⟨(f_414, (kt + 1 + 1)), rfl, ⟨by omega, (kNarU ef_414 (kNarU ef_323 hgT))⟩,  by rw [ht]; exact hP9, va_K.moved hW.alike hK9, hD9⟩, hS.F ht⟩) hS.2.2 dX8_append_58
              · refine lv_aload_n hx hb dX8_append_19 rfl (lv_at hl 2 rfl) ?_
                refine va_get (D := (dC, dI)) (ci := 8) (v := .int (nI (kt + 1 + 1))) (C := RX8) (T := TX8) (N := 2) hx hb hts (fun _ h => List.mem_cons_of_mem _ (List.mem_append_right _ h)) hown hK hP 0 rfl rfl 1 (by decide) (hts (.fieldLink RX8 15 "NotEnded$Tape" "length" "I") (List.mem_cons_of_mem _ (List.mem_append_left _ (List.mem_of_getElem? (i := 0) rfl)))) (fun _ h9 => h9) rfl dX8_append_20 ?_
                refine lv_aload_n hx hb dX8_append_23 rfl (lv_at hl 2 rfl) ?_
                refine va_get (D := (dC, dI)) (ci := 8) (v := .ref t0) (C := RX8) (T := TX8) (N := 2) hx hb hts (fun _ h => List.mem_cons_of_mem _ (List.mem_append_right _ h)) hown hK hP 0 rfl rfl 0 (by decide) (hts (.fieldLink RX8 9 "NotEnded$Tape" "signs" "[C") (List.mem_cons_of_mem _ (List.mem_append_left _ (List.mem_of_getElem? (i := 1) rfl)))) (fun _ h9 => h9) rfl dX8_append_24 ?_
                refine va_alen hx hb hK hP 1 0 rfl rfl (v := 120) rfl dX8_append_27 ?_
                refine lv_icmp_ge (tgt := 52) hx hb dX8_append_28 (by decide) (fun c_421 => ?_) (fun c_421 => ?_)
                · have hn_422 := kle (a := 120) (b := kt + 1 + 1) (by omega) (by omega) c_421
                  refine lv_iinc (v := (-8)) hx hb dX8_append_52 hl (k := 1) rfl (by decide) (by decide) (kTo [(2, .int (-8)), (3, .int x_418), (0, .ref jT), (1, .int p0)]) (fun ls hl => ?_)
                  refine lv_goto (tgt := 3) hx hb dX8_append_55 (by decide) ?_
                  refine lv_iload_n hx hb dX8_append_3 rfl (lv_at hl 0 rfl) ?_
                  refine lv_if_lt (tgt := 58) hx hb dX8_append_4 (by decide) (fun c_423 => ?_) (fun c_423 => absurd (by decide) c_423)
                  have hP9 := hP
                  have hD9 := hD
                  have hK9 := hK
                  rw [hQ]
                  exact W.vret hx hb hr (fun t ht hW => ⟨⟨(f_414, (kt + 1 + 1)), rfl, ⟨by omega, (kNarU ef_414 (kNarU ef_323 hgT))⟩,  by rw [ht]; exact hP9, va_K.moved hW.alike hK9, hD9⟩, hS.F ht⟩) hS.2.2 dX8_append_58
                · have hn_424 := knle (a := 120) (b := kt + 1 + 1) (by omega) (by omega) c_421
                  refine lv_aload_n hx hb dX8_append_31 rfl (lv_at hl 2 rfl) ?_
                  refine va_get (D := (dC, dI)) (ci := 8) (v := .ref t0) (C := RX8) (T := TX8) (N := 2) hx hb hts (fun _ h => List.mem_cons_of_mem _ (List.mem_append_right _ h)) hown hK hP 0 rfl rfl 0 (by decide) (hts (.fieldLink RX8 9 "NotEnded$Tape" "signs" "[C") (List.mem_cons_of_mem _ (List.mem_append_left _ (List.mem_of_getElem? (i := 1) rfl)))) (fun _ h9 => h9) rfl dX8_append_32 ?_
                  refine lv_aload_n hx hb dX8_append_35 rfl (lv_at hl 2 rfl) ?_
                  refine va_get (D := (dC, dI)) (ci := 8) (v := .int (nI (kt + 1 + 1))) (C := RX8) (T := TX8) (N := 2) hx hb hts (fun _ h => List.mem_cons_of_mem _ (List.mem_append_right _ h)) hown hK hP 0 rfl rfl 1 (by decide) (hts (.fieldLink RX8 15 "NotEnded$Tape" "length" "I") (List.mem_cons_of_mem _ (List.mem_append_left _ (List.mem_of_getElem? (i := 0) rfl)))) (fun _ h9 => h9) rfl dX8_append_36 ?_
                  refine lv_iload_n hx hb dX8_append_39 rfl (lv_at hl 0 rfl) ?_
                  obtain ⟨x_425, ex_425⟩ : ∃ z : Int32, z = (Int32.toUInt32 x_418 % 65536).toInt32 := ⟨_, rfl⟩
                  refine lv_i2c (v := x_425) hx hb dX8_append_40 ex_425.symm ?_
                  refine va_cast hx hb hK hP hD hS 1 0 rfl rfl (vp_in_nI (n := kt + 1 + 1) (N := 120) (by omega) (by omega)) dX8_append_41 (fun H locs hP hD hS => ?_)
                  obtain ⟨f_426, ef_426⟩ : ∃ gg9 : Nat → Int32, gg9 = upd f_414 (Int32.toNatClampNeg (nI (kt + 1 + 1))) (vp_nar .char x_425) := ⟨_, rfl⟩
                  obtain ⟨hP, hD⟩ : kPD dC dI A [(jT, .inr (8, [.ref t0, .int (nI (kt + 1 + 1))])), (t0, .inl (cC, 120, .inl f_426))] H := by rw [ef_426]; exact ⟨hP, hD⟩
                  refine lv_aload_n hx hb dX8_append_42 rfl (lv_at hl 2 rfl) ?_
                  refine lv_dup hx hb dX8_append_43 rfl ?_
                  refine va_get (D := (dC, dI)) (ci := 8) (v := .int (nI (kt + 1 + 1))) (C := RX8) (T := TX8) (N := 2) hx hb hts (fun _ h => List.mem_cons_of_mem _ (List.mem_append_right _ h)) hown hK hP 0 rfl rfl 1 (by decide) (hts (.fieldLink RX8 15 "NotEnded$Tape" "length" "I") (List.mem_cons_of_mem _ (List.mem_append_left _ (List.mem_of_getElem? (i := 0) rfl)))) (fun _ h9 => h9) rfl dX8_append_44 ?_
                  refine lv_iconst (v := 1) hx hb dX8_append_47 (by decide) ?_
                  refine lv_iadd hx hb dX8_append_48 ?_
                  refine lv_topi (fun y_427 ey_427 => ?_)
                  obtain rfl : y_427 = nI (kt + 1 + 1 + 1) := ey_427.trans (nI_add (kt + 1 + 1) (1))
                  refine va_put (D := (dC, dI)) (ci := 8) (v := .int (nI (kt + 1 + 1 + 1))) (ty := tyX8 1) (C := RX8) (T := TX8) (N := 2) hx hb hts (fun _ h => List.mem_cons_of_mem _ (List.mem_append_right _ h)) tyX8 tyX8_ok nmX8 hown hK hP hD hS 0 rfl rfl 1 (by decide) (hts (.fieldLink RX8 15 "NotEnded$Tape" "length" "I") (List.mem_cons_of_mem _ (List.mem_append_left _ (List.mem_of_getElem? (i := 0) rfl)))) (fun _ h9 => h9) rfl (tyX8_ok 1 (by decide)) rfl rfl (Nat.le_of_ble_eq_true rfl) dX8_append_49 (fun H locs hP hD hS => ?_)
                  obtain ⟨hP, hD⟩ : kPD dC dI A [(jT, .inr (8, [.ref t0, .int (nI (kt + 1 + 1 + 1))])), (t0, .inl (cC, 120, .inl f_426))] H := ⟨hP, hD⟩
                  refine lv_iinc (v := (-8)) hx hb dX8_append_52 hl (k := 1) rfl (by decide) (by decide) (kTo [(2, .int (-8)), (3, .int x_418), (0, .ref jT), (1, .int p0)]) (fun ls hl => ?_)
                  refine lv_goto (tgt := 3) hx hb dX8_append_55 (by decide) ?_
                  refine lv_iload_n hx hb dX8_append_3 rfl (lv_at hl 0 rfl) ?_
                  refine lv_if_lt (tgt := 58) hx hb dX8_append_4 (by decide) (fun c_428 => ?_) (fun c_428 => absurd (by decide) c_428)
                  have hP9 := hP
                  have hD9 := hD
                  have hK9 := hK
                  rw [hQ]
                  exact W.vret hx hb hr (fun t ht hW => ⟨⟨(f_426, (kt + 1 + 1 + 1)), rfl, ⟨by omega, (kNarU ef_426 (kNarU ef_414 (kNarU ef_323 hgT)))⟩,  by rw [ht]; exact hP9, va_K.moved hW.alike hK9, hD9⟩, hS.F ht⟩) hS.2.2 dX8_append_58
        · have hn_429 := knle (a := 120) (b := kt + 1) (by omega) (by omega) c_378
          refine lv_aload_n hx hb dX8_append_31 rfl (lv_at hl 2 rfl) ?_
          refine va_get (D := (dC, dI)) (ci := 8) (v := .ref t0) (C := RX8) (T := TX8) (N := 2) hx hb hts (fun _ h => List.mem_cons_of_mem _ (List.mem_append_right _ h)) hown hK hP 0 rfl rfl 0 (by decide) (hts (.fieldLink RX8 9 "NotEnded$Tape" "signs" "[C") (List.mem_cons_of_mem _ (List.mem_append_left _ (List.mem_of_getElem? (i := 1) rfl)))) (fun _ h9 => h9) rfl dX8_append_32 ?_
          refine lv_aload_n hx hb dX8_append_35 rfl (lv_at hl 2 rfl) ?_
          refine va_get (D := (dC, dI)) (ci := 8) (v := .int (nI (kt + 1))) (C := RX8) (T := TX8) (N := 2) hx hb hts (fun _ h => List.mem_cons_of_mem _ (List.mem_append_right _ h)) hown hK hP 0 rfl rfl 1 (by decide) (hts (.fieldLink RX8 15 "NotEnded$Tape" "length" "I") (List.mem_cons_of_mem _ (List.mem_append_left _ (List.mem_of_getElem? (i := 0) rfl)))) (fun _ h9 => h9) rfl dX8_append_36 ?_
          refine lv_iload_n hx hb dX8_append_39 rfl (lv_at hl 0 rfl) ?_
          obtain ⟨x_430, ex_430⟩ : ∃ z : Int32, z = (Int32.toUInt32 x_327 % 65536).toInt32 := ⟨_, rfl⟩
          refine lv_i2c (v := x_430) hx hb dX8_append_40 ex_430.symm ?_
          refine va_cast hx hb hK hP hD hS 1 0 rfl rfl (vp_in_nI (n := kt + 1) (N := 120) (by omega) (by omega)) dX8_append_41 (fun H locs hP hD hS => ?_)
          obtain ⟨f_431, ef_431⟩ : ∃ gg9 : Nat → Int32, gg9 = upd f_323 (Int32.toNatClampNeg (nI (kt + 1))) (vp_nar .char x_430) := ⟨_, rfl⟩
          obtain ⟨hP, hD⟩ : kPD dC dI A [(jT, .inr (8, [.ref t0, .int (nI (kt + 1))])), (t0, .inl (cC, 120, .inl f_431))] H := by rw [ef_431]; exact ⟨hP, hD⟩
          refine lv_aload_n hx hb dX8_append_42 rfl (lv_at hl 2 rfl) ?_
          refine lv_dup hx hb dX8_append_43 rfl ?_
          refine va_get (D := (dC, dI)) (ci := 8) (v := .int (nI (kt + 1))) (C := RX8) (T := TX8) (N := 2) hx hb hts (fun _ h => List.mem_cons_of_mem _ (List.mem_append_right _ h)) hown hK hP 0 rfl rfl 1 (by decide) (hts (.fieldLink RX8 15 "NotEnded$Tape" "length" "I") (List.mem_cons_of_mem _ (List.mem_append_left _ (List.mem_of_getElem? (i := 0) rfl)))) (fun _ h9 => h9) rfl dX8_append_44 ?_
          refine lv_iconst (v := 1) hx hb dX8_append_47 (by decide) ?_
          refine lv_iadd hx hb dX8_append_48 ?_
          refine lv_topi (fun y_432 ey_432 => ?_)
          obtain rfl : y_432 = nI (kt + 1 + 1) := ey_432.trans (nI_add (kt + 1) (1))
          refine va_put (D := (dC, dI)) (ci := 8) (v := .int (nI (kt + 1 + 1))) (ty := tyX8 1) (C := RX8) (T := TX8) (N := 2) hx hb hts (fun _ h => List.mem_cons_of_mem _ (List.mem_append_right _ h)) tyX8 tyX8_ok nmX8 hown hK hP hD hS 0 rfl rfl 1 (by decide) (hts (.fieldLink RX8 15 "NotEnded$Tape" "length" "I") (List.mem_cons_of_mem _ (List.mem_append_left _ (List.mem_of_getElem? (i := 0) rfl)))) (fun _ h9 => h9) rfl (tyX8_ok 1 (by decide)) rfl rfl (Nat.le_of_ble_eq_true rfl) dX8_append_49 (fun H locs hP hD hS => ?_)
          obtain ⟨hP, hD⟩ : kPD dC dI A [(jT, .inr (8, [.ref t0, .int (nI (kt + 1 + 1))])), (t0, .inl (cC, 120, .inl f_431))] H := ⟨hP, hD⟩
          refine lv_iinc (v := 8) hx hb dX8_append_52 hl (k := 1) rfl (by decide) (by decide) (kTo [(2, .int 8), (3, .int x_327), (0, .ref jT), (1, .int p0)]) (fun ls hl => ?_)
          refine lv_goto (tgt := 3) hx hb dX8_append_55 (by decide) ?_
          refine lv_iload_n hx hb dX8_append_3 rfl (lv_at hl 0 rfl) ?_
          refine lv_if_lt (tgt := 58) hx hb dX8_append_4 (by decide) (fun c_433 => absurd c_433 (by decide)) (fun c_433 => ?_)
          refine lv_iload_n hx hb dX8_append_7 rfl (lv_at hl 3 rfl) ?_
          refine lv_iload_n hx hb dX8_append_8 rfl (lv_at hl 0 rfl) ?_
          obtain ⟨x_434, ex_434⟩ : ∃ z : Int32, z = (Int32.toUInt32 p0 >>> (Int32.toUInt32 8 &&& Int32.toUInt32 31)).toInt32 := ⟨_, rfl⟩
          refine lv_iushr (v := x_434) hx hb dX8_append_9 ex_434.symm ?_
          refine lv_sipush (v := 255) hx hb dX8_append_10 (by decide) ?_
          refine lv_iand hx hb dX8_append_13 ?_
          refine lv_topi (fun x_435 ex_435 => ?_)
          refine lv_istore_n hx hb dX8_append_14 rfl hl (by decide) (kTo [(3, .int x_435), (2, .int 8), (0, .ref jT), (1, .int p0)]) (fun ls hl => ?_)
          refine lv_iload_n hx hb dX8_append_15 rfl (lv_at hl 0 rfl) ?_
          refine lv_if_eq (tgt := 52) hx hb dX8_append_16 (by decide) (fun c_436 => ?_) (fun c_436 => ?_)
          · refine lv_iinc (v := 0) hx hb dX8_append_52 hl (k := 1) rfl (by decide) (by decide) (kTo [(2, .int 0), (3, .int x_435), (0, .ref jT), (1, .int p0)]) (fun ls hl => ?_)
            refine lv_goto (tgt := 3) hx hb dX8_append_55 (by decide) ?_
            refine lv_iload_n hx hb dX8_append_3 rfl (lv_at hl 0 rfl) ?_
            refine lv_if_lt (tgt := 58) hx hb dX8_append_4 (by decide) (fun c_437 => absurd c_437 (by decide)) (fun c_437 => ?_)
            refine lv_iload_n hx hb dX8_append_7 rfl (lv_at hl 3 rfl) ?_
            refine lv_iload_n hx hb dX8_append_8 rfl (lv_at hl 0 rfl) ?_
            obtain ⟨x_438, ex_438⟩ : ∃ z : Int32, z = (Int32.toUInt32 p0 >>> (Int32.toUInt32 0 &&& Int32.toUInt32 31)).toInt32 := ⟨_, rfl⟩
            refine lv_iushr (v := x_438) hx hb dX8_append_9 ex_438.symm ?_
            refine lv_sipush (v := 255) hx hb dX8_append_10 (by decide) ?_
            refine lv_iand hx hb dX8_append_13 ?_
            refine lv_topi (fun x_439 ex_439 => ?_)
            refine lv_istore_n hx hb dX8_append_14 rfl hl (by decide) (kTo [(3, .int x_439), (2, .int 0), (0, .ref jT), (1, .int p0)]) (fun ls hl => ?_)
            refine lv_iload_n hx hb dX8_append_15 rfl (lv_at hl 0 rfl) ?_
            refine lv_if_eq (tgt := 52) hx hb dX8_append_16 (by decide) (fun c_440 => ?_) (fun c_440 => ?_)
            · refine lv_iinc (v := (-8)) hx hb dX8_append_52 hl (k := 1) rfl (by decide) (by decide) (kTo [(2, .int (-8)), (3, .int x_439), (0, .ref jT), (1, .int p0)]) (fun ls hl => ?_)
              refine lv_goto (tgt := 3) hx hb dX8_append_55 (by decide) ?_
              refine lv_iload_n hx hb dX8_append_3 rfl (lv_at hl 0 rfl) ?_
              refine lv_if_lt (tgt := 58) hx hb dX8_append_4 (by decide) (fun c_441 => ?_) (fun c_441 => absurd (by decide) c_441)
              have hP9 := hP
              have hD9 := hD
              have hK9 := hK
              rw [hQ]
              exact W.vret hx hb hr (fun t ht hW => ⟨⟨(f_431, (kt + 1 + 1)), rfl, ⟨by omega, (kNarU ef_431 (kNarU ef_323 hgT))⟩,  by rw [ht]; exact hP9, va_K.moved hW.alike hK9, hD9⟩, hS.F ht⟩) hS.2.2 dX8_append_58
            · refine lv_aload_n hx hb dX8_append_19 rfl (lv_at hl 2 rfl) ?_
              refine va_get (D := (dC, dI)) (ci := 8) (v := .int (nI (kt + 1 + 1))) (C := RX8) (T := TX8) (N := 2) hx hb hts (fun _ h => List.mem_cons_of_mem _ (List.mem_append_right _ h)) hown hK hP 0 rfl rfl 1 (by decide) (hts (.fieldLink RX8 15 "NotEnded$Tape" "length" "I") (List.mem_cons_of_mem _ (List.mem_append_left _ (List.mem_of_getElem? (i := 0) rfl)))) (fun _ h9 => h9) rfl dX8_append_20 ?_
              refine lv_aload_n hx hb dX8_append_23 rfl (lv_at hl 2 rfl) ?_
              refine va_get (D := (dC, dI)) (ci := 8) (v := .ref t0) (C := RX8) (T := TX8) (N := 2) hx hb hts (fun _ h => List.mem_cons_of_mem _ (List.mem_append_right _ h)) hown hK hP 0 rfl rfl 0 (by decide) (hts (.fieldLink RX8 9 "NotEnded$Tape" "signs" "[C") (List.mem_cons_of_mem _ (List.mem_append_left _ (List.mem_of_getElem? (i := 1) rfl)))) (fun _ h9 => h9) rfl dX8_append_24 ?_
              refine va_alen hx hb hK hP 1 0 rfl rfl (v := 120) rfl dX8_append_27 ?_
              refine lv_icmp_ge (tgt := 52) hx hb dX8_append_28 (by decide) (fun c_442 => ?_) (fun c_442 => ?_)
              · have hn_443 := kle (a := 120) (b := kt + 1 + 1) (by omega) (by omega) c_442
                refine lv_iinc (v := (-8)) hx hb dX8_append_52 hl (k := 1) rfl (by decide) (by decide) (kTo [(2, .int (-8)), (3, .int x_439), (0, .ref jT), (1, .int p0)]) (fun ls hl => ?_)
                refine lv_goto (tgt := 3) hx hb dX8_append_55 (by decide) ?_
                refine lv_iload_n hx hb dX8_append_3 rfl (lv_at hl 0 rfl) ?_
                refine lv_if_lt (tgt := 58) hx hb dX8_append_4 (by decide) (fun c_444 => ?_) (fun c_444 => absurd (by decide) c_444)
                have hP9 := hP
                have hD9 := hD
                have hK9 := hK
                rw [hQ]
                exact W.vret hx hb hr (fun t ht hW => ⟨⟨(f_431, (kt + 1 + 1)), rfl, ⟨by omega, (kNarU ef_431 (kNarU ef_323 hgT))⟩,  by rw [ht]; exact hP9, va_K.moved hW.alike hK9, hD9⟩, hS.F ht⟩) hS.2.2 dX8_append_58
              · have hn_445 := knle (a := 120) (b := kt + 1 + 1) (by omega) (by omega) c_442
                refine lv_aload_n hx hb dX8_append_31 rfl (lv_at hl 2 rfl) ?_
                refine va_get (D := (dC, dI)) (ci := 8) (v := .ref t0) (C := RX8) (T := TX8) (N := 2) hx hb hts (fun _ h => List.mem_cons_of_mem _ (List.mem_append_right _ h)) hown hK hP 0 rfl rfl 0 (by decide) (hts (.fieldLink RX8 9 "NotEnded$Tape" "signs" "[C") (List.mem_cons_of_mem _ (List.mem_append_left _ (List.mem_of_getElem? (i := 1) rfl)))) (fun _ h9 => h9) rfl dX8_append_32 ?_
                refine lv_aload_n hx hb dX8_append_35 rfl (lv_at hl 2 rfl) ?_
                refine va_get (D := (dC, dI)) (ci := 8) (v := .int (nI (kt + 1 + 1))) (C := RX8) (T := TX8) (N := 2) hx hb hts (fun _ h => List.mem_cons_of_mem _ (List.mem_append_right _ h)) hown hK hP 0 rfl rfl 1 (by decide) (hts (.fieldLink RX8 15 "NotEnded$Tape" "length" "I") (List.mem_cons_of_mem _ (List.mem_append_left _ (List.mem_of_getElem? (i := 0) rfl)))) (fun _ h9 => h9) rfl dX8_append_36 ?_
                refine lv_iload_n hx hb dX8_append_39 rfl (lv_at hl 0 rfl) ?_
                obtain ⟨x_446, ex_446⟩ : ∃ z : Int32, z = (Int32.toUInt32 x_439 % 65536).toInt32 := ⟨_, rfl⟩
                refine lv_i2c (v := x_446) hx hb dX8_append_40 ex_446.symm ?_
                refine va_cast hx hb hK hP hD hS 1 0 rfl rfl (vp_in_nI (n := kt + 1 + 1) (N := 120) (by omega) (by omega)) dX8_append_41 (fun H locs hP hD hS => ?_)
                obtain ⟨f_447, ef_447⟩ : ∃ gg9 : Nat → Int32, gg9 = upd f_431 (Int32.toNatClampNeg (nI (kt + 1 + 1))) (vp_nar .char x_446) := ⟨_, rfl⟩
                obtain ⟨hP, hD⟩ : kPD dC dI A [(jT, .inr (8, [.ref t0, .int (nI (kt + 1 + 1))])), (t0, .inl (cC, 120, .inl f_447))] H := by rw [ef_447]; exact ⟨hP, hD⟩
                refine lv_aload_n hx hb dX8_append_42 rfl (lv_at hl 2 rfl) ?_
                refine lv_dup hx hb dX8_append_43 rfl ?_
                refine va_get (D := (dC, dI)) (ci := 8) (v := .int (nI (kt + 1 + 1))) (C := RX8) (T := TX8) (N := 2) hx hb hts (fun _ h => List.mem_cons_of_mem _ (List.mem_append_right _ h)) hown hK hP 0 rfl rfl 1 (by decide) (hts (.fieldLink RX8 15 "NotEnded$Tape" "length" "I") (List.mem_cons_of_mem _ (List.mem_append_left _ (List.mem_of_getElem? (i := 0) rfl)))) (fun _ h9 => h9) rfl dX8_append_44 ?_
                refine lv_iconst (v := 1) hx hb dX8_append_47 (by decide) ?_
                refine lv_iadd hx hb dX8_append_48 ?_
                refine lv_topi (fun y_448 ey_448 => ?_)
                obtain rfl : y_448 = nI (kt + 1 + 1 + 1) := ey_448.trans (nI_add (kt + 1 + 1) (1))
                refine va_put (D := (dC, dI)) (ci := 8) (v := .int (nI (kt + 1 + 1 + 1))) (ty := tyX8 1) (C := RX8) (T := TX8) (N := 2) hx hb hts (fun _ h => List.mem_cons_of_mem _ (List.mem_append_right _ h)) tyX8 tyX8_ok nmX8 hown hK hP hD hS 0 rfl rfl 1 (by decide) (hts (.fieldLink RX8 15 "NotEnded$Tape" "length" "I") (List.mem_cons_of_mem _ (List.mem_append_left _ (List.mem_of_getElem? (i := 0) rfl)))) (fun _ h9 => h9) rfl (tyX8_ok 1 (by decide)) rfl rfl (Nat.le_of_ble_eq_true rfl) dX8_append_49 (fun H locs hP hD hS => ?_)
                obtain ⟨hP, hD⟩ : kPD dC dI A [(jT, .inr (8, [.ref t0, .int (nI (kt + 1 + 1 + 1))])), (t0, .inl (cC, 120, .inl f_447))] H := ⟨hP, hD⟩
                refine lv_iinc (v := (-8)) hx hb dX8_append_52 hl (k := 1) rfl (by decide) (by decide) (kTo [(2, .int (-8)), (3, .int x_439), (0, .ref jT), (1, .int p0)]) (fun ls hl => ?_)
                refine lv_goto (tgt := 3) hx hb dX8_append_55 (by decide) ?_
                refine lv_iload_n hx hb dX8_append_3 rfl (lv_at hl 0 rfl) ?_
                refine lv_if_lt (tgt := 58) hx hb dX8_append_4 (by decide) (fun c_449 => ?_) (fun c_449 => absurd (by decide) c_449)
                have hP9 := hP
                have hD9 := hD
                have hK9 := hK
                rw [hQ]
                exact W.vret hx hb hr (fun t ht hW => ⟨⟨(f_447, (kt + 1 + 1 + 1)), rfl, ⟨by omega, (kNarU ef_447 (kNarU ef_431 (kNarU ef_323 hgT)))⟩,  by rw [ht]; exact hP9, va_K.moved hW.alike hK9, hD9⟩, hS.F ht⟩) hS.2.2 dX8_append_58
          · refine lv_aload_n hx hb dX8_append_19 rfl (lv_at hl 2 rfl) ?_
            refine va_get (D := (dC, dI)) (ci := 8) (v := .int (nI (kt + 1 + 1))) (C := RX8) (T := TX8) (N := 2) hx hb hts (fun _ h => List.mem_cons_of_mem _ (List.mem_append_right _ h)) hown hK hP 0 rfl rfl 1 (by decide) (hts (.fieldLink RX8 15 "NotEnded$Tape" "length" "I") (List.mem_cons_of_mem _ (List.mem_append_left _ (List.mem_of_getElem? (i := 0) rfl)))) (fun _ h9 => h9) rfl dX8_append_20 ?_
            refine lv_aload_n hx hb dX8_append_23 rfl (lv_at hl 2 rfl) ?_
            refine va_get (D := (dC, dI)) (ci := 8) (v := .ref t0) (C := RX8) (T := TX8) (N := 2) hx hb hts (fun _ h => List.mem_cons_of_mem _ (List.mem_append_right _ h)) hown hK hP 0 rfl rfl 0 (by decide) (hts (.fieldLink RX8 9 "NotEnded$Tape" "signs" "[C") (List.mem_cons_of_mem _ (List.mem_append_left _ (List.mem_of_getElem? (i := 1) rfl)))) (fun _ h9 => h9) rfl dX8_append_24 ?_
            refine va_alen hx hb hK hP 1 0 rfl rfl (v := 120) rfl dX8_append_27 ?_
            refine lv_icmp_ge (tgt := 52) hx hb dX8_append_28 (by decide) (fun c_450 => ?_) (fun c_450 => ?_)
            · have hn_451 := kle (a := 120) (b := kt + 1 + 1) (by omega) (by omega) c_450
              refine lv_iinc (v := 0) hx hb dX8_append_52 hl (k := 1) rfl (by decide) (by decide) (kTo [(2, .int 0), (3, .int x_435), (0, .ref jT), (1, .int p0)]) (fun ls hl => ?_)
              refine lv_goto (tgt := 3) hx hb dX8_append_55 (by decide) ?_
              refine lv_iload_n hx hb dX8_append_3 rfl (lv_at hl 0 rfl) ?_
              refine lv_if_lt (tgt := 58) hx hb dX8_append_4 (by decide) (fun c_452 => absurd c_452 (by decide)) (fun c_452 => ?_)
              refine lv_iload_n hx hb dX8_append_7 rfl (lv_at hl 3 rfl) ?_
              refine lv_iload_n hx hb dX8_append_8 rfl (lv_at hl 0 rfl) ?_
              obtain ⟨x_453, ex_453⟩ : ∃ z : Int32, z = (Int32.toUInt32 p0 >>> (Int32.toUInt32 0 &&& Int32.toUInt32 31)).toInt32 := ⟨_, rfl⟩
              refine lv_iushr (v := x_453) hx hb dX8_append_9 ex_453.symm ?_
              refine lv_sipush (v := 255) hx hb dX8_append_10 (by decide) ?_
              refine lv_iand hx hb dX8_append_13 ?_
              refine lv_topi (fun x_454 ex_454 => ?_)
              refine lv_istore_n hx hb dX8_append_14 rfl hl (by decide) (kTo [(3, .int x_454), (2, .int 0), (0, .ref jT), (1, .int p0)]) (fun ls hl => ?_)
              refine lv_iload_n hx hb dX8_append_15 rfl (lv_at hl 0 rfl) ?_
              refine lv_if_eq (tgt := 52) hx hb dX8_append_16 (by decide) (fun c_455 => ?_) (fun c_455 => ?_)
              · refine lv_iinc (v := (-8)) hx hb dX8_append_52 hl (k := 1) rfl (by decide) (by decide) (kTo [(2, .int (-8)), (3, .int x_454), (0, .ref jT), (1, .int p0)]) (fun ls hl => ?_)
                refine lv_goto (tgt := 3) hx hb dX8_append_55 (by decide) ?_
                refine lv_iload_n hx hb dX8_append_3 rfl (lv_at hl 0 rfl) ?_
                refine lv_if_lt (tgt := 58) hx hb dX8_append_4 (by decide) (fun c_456 => ?_) (fun c_456 => absurd (by decide) c_456)
                have hP9 := hP
                have hD9 := hD
                have hK9 := hK
                rw [hQ]
                exact W.vret hx hb hr (fun t ht hW => ⟨⟨(f_431, (kt + 1 + 1)), rfl, ⟨by omega, (kNarU ef_431 (kNarU ef_323 hgT))⟩,  by rw [ht]; exact hP9, va_K.moved hW.alike hK9, hD9⟩, hS.F ht⟩) hS.2.2 dX8_append_58
              · refine lv_aload_n hx hb dX8_append_19 rfl (lv_at hl 2 rfl) ?_
                refine va_get (D := (dC, dI)) (ci := 8) (v := .int (nI (kt + 1 + 1))) (C := RX8) (T := TX8) (N := 2) hx hb hts (fun _ h => List.mem_cons_of_mem _ (List.mem_append_right _ h)) hown hK hP 0 rfl rfl 1 (by decide) (hts (.fieldLink RX8 15 "NotEnded$Tape" "length" "I") (List.mem_cons_of_mem _ (List.mem_append_left _ (List.mem_of_getElem? (i := 0) rfl)))) (fun _ h9 => h9) rfl dX8_append_20 ?_
                refine lv_aload_n hx hb dX8_append_23 rfl (lv_at hl 2 rfl) ?_
                refine va_get (D := (dC, dI)) (ci := 8) (v := .ref t0) (C := RX8) (T := TX8) (N := 2) hx hb hts (fun _ h => List.mem_cons_of_mem _ (List.mem_append_right _ h)) hown hK hP 0 rfl rfl 0 (by decide) (hts (.fieldLink RX8 9 "NotEnded$Tape" "signs" "[C") (List.mem_cons_of_mem _ (List.mem_append_left _ (List.mem_of_getElem? (i := 1) rfl)))) (fun _ h9 => h9) rfl dX8_append_24 ?_
                refine va_alen hx hb hK hP 1 0 rfl rfl (v := 120) rfl dX8_append_27 ?_
                refine lv_icmp_ge (tgt := 52) hx hb dX8_append_28 (by decide) (fun c_457 => ?_) (fun c_457 => ?_)
                · have hn_458 := kle (a := 120) (b := kt + 1 + 1) (by omega) (by omega) c_457
                  refine lv_iinc (v := (-8)) hx hb dX8_append_52 hl (k := 1) rfl (by decide) (by decide) (kTo [(2, .int (-8)), (3, .int x_454), (0, .ref jT), (1, .int p0)]) (fun ls hl => ?_)
                  refine lv_goto (tgt := 3) hx hb dX8_append_55 (by decide) ?_
                  refine lv_iload_n hx hb dX8_append_3 rfl (lv_at hl 0 rfl) ?_
                  refine lv_if_lt (tgt := 58) hx hb dX8_append_4 (by decide) (fun c_459 => ?_) (fun c_459 => absurd (by decide) c_459)
                  have hP9 := hP
                  have hD9 := hD
                  have hK9 := hK
                  rw [hQ]
                  exact W.vret hx hb hr (fun t ht hW => ⟨⟨(f_431, (kt + 1 + 1)), rfl, ⟨by omega, (kNarU ef_431 (kNarU ef_323 hgT))⟩,  by rw [ht]; exact hP9, va_K.moved hW.alike hK9, hD9⟩, hS.F ht⟩) hS.2.2 dX8_append_58
                · have hn_460 := knle (a := 120) (b := kt + 1 + 1) (by omega) (by omega) c_457
                  refine lv_aload_n hx hb dX8_append_31 rfl (lv_at hl 2 rfl) ?_
                  refine va_get (D := (dC, dI)) (ci := 8) (v := .ref t0) (C := RX8) (T := TX8) (N := 2) hx hb hts (fun _ h => List.mem_cons_of_mem _ (List.mem_append_right _ h)) hown hK hP 0 rfl rfl 0 (by decide) (hts (.fieldLink RX8 9 "NotEnded$Tape" "signs" "[C") (List.mem_cons_of_mem _ (List.mem_append_left _ (List.mem_of_getElem? (i := 1) rfl)))) (fun _ h9 => h9) rfl dX8_append_32 ?_
                  refine lv_aload_n hx hb dX8_append_35 rfl (lv_at hl 2 rfl) ?_
                  refine va_get (D := (dC, dI)) (ci := 8) (v := .int (nI (kt + 1 + 1))) (C := RX8) (T := TX8) (N := 2) hx hb hts (fun _ h => List.mem_cons_of_mem _ (List.mem_append_right _ h)) hown hK hP 0 rfl rfl 1 (by decide) (hts (.fieldLink RX8 15 "NotEnded$Tape" "length" "I") (List.mem_cons_of_mem _ (List.mem_append_left _ (List.mem_of_getElem? (i := 0) rfl)))) (fun _ h9 => h9) rfl dX8_append_36 ?_
                  refine lv_iload_n hx hb dX8_append_39 rfl (lv_at hl 0 rfl) ?_
                  obtain ⟨x_461, ex_461⟩ : ∃ z : Int32, z = (Int32.toUInt32 x_454 % 65536).toInt32 := ⟨_, rfl⟩
                  refine lv_i2c (v := x_461) hx hb dX8_append_40 ex_461.symm ?_
                  refine va_cast hx hb hK hP hD hS 1 0 rfl rfl (vp_in_nI (n := kt + 1 + 1) (N := 120) (by omega) (by omega)) dX8_append_41 (fun H locs hP hD hS => ?_)
                  obtain ⟨f_462, ef_462⟩ : ∃ gg9 : Nat → Int32, gg9 = upd f_431 (Int32.toNatClampNeg (nI (kt + 1 + 1))) (vp_nar .char x_461) := ⟨_, rfl⟩
                  obtain ⟨hP, hD⟩ : kPD dC dI A [(jT, .inr (8, [.ref t0, .int (nI (kt + 1 + 1))])), (t0, .inl (cC, 120, .inl f_462))] H := by rw [ef_462]; exact ⟨hP, hD⟩
                  refine lv_aload_n hx hb dX8_append_42 rfl (lv_at hl 2 rfl) ?_
                  refine lv_dup hx hb dX8_append_43 rfl ?_
                  refine va_get (D := (dC, dI)) (ci := 8) (v := .int (nI (kt + 1 + 1))) (C := RX8) (T := TX8) (N := 2) hx hb hts (fun _ h => List.mem_cons_of_mem _ (List.mem_append_right _ h)) hown hK hP 0 rfl rfl 1 (by decide) (hts (.fieldLink RX8 15 "NotEnded$Tape" "length" "I") (List.mem_cons_of_mem _ (List.mem_append_left _ (List.mem_of_getElem? (i := 0) rfl)))) (fun _ h9 => h9) rfl dX8_append_44 ?_
                  refine lv_iconst (v := 1) hx hb dX8_append_47 (by decide) ?_
                  refine lv_iadd hx hb dX8_append_48 ?_
                  refine lv_topi (fun y_463 ey_463 => ?_)
                  obtain rfl : y_463 = nI (kt + 1 + 1 + 1) := ey_463.trans (nI_add (kt + 1 + 1) (1))
                  refine va_put (D := (dC, dI)) (ci := 8) (v := .int (nI (kt + 1 + 1 + 1))) (ty := tyX8 1) (C := RX8) (T := TX8) (N := 2) hx hb hts (fun _ h => List.mem_cons_of_mem _ (List.mem_append_right _ h)) tyX8 tyX8_ok nmX8 hown hK hP hD hS 0 rfl rfl 1 (by decide) (hts (.fieldLink RX8 15 "NotEnded$Tape" "length" "I") (List.mem_cons_of_mem _ (List.mem_append_left _ (List.mem_of_getElem? (i := 0) rfl)))) (fun _ h9 => h9) rfl (tyX8_ok 1 (by decide)) rfl rfl (Nat.le_of_ble_eq_true rfl) dX8_append_49 (fun H locs hP hD hS => ?_)
                  obtain ⟨hP, hD⟩ : kPD dC dI A [(jT, .inr (8, [.ref t0, .int (nI (kt + 1 + 1 + 1))])), (t0, .inl (cC, 120, .inl f_462))] H := ⟨hP, hD⟩
                  refine lv_iinc (v := (-8)) hx hb dX8_append_52 hl (k := 1) rfl (by decide) (by decide) (kTo [(2, .int (-8)), (3, .int x_454), (0, .ref jT), (1, .int p0)]) (fun ls hl => ?_)
                  refine lv_goto (tgt := 3) hx hb dX8_append_55 (by decide) ?_
                  refine lv_iload_n hx hb dX8_append_3 rfl (lv_at hl 0 rfl) ?_
                  refine lv_if_lt (tgt := 58) hx hb dX8_append_4 (by decide) (fun c_464 => ?_) (fun c_464 => absurd (by decide) c_464)
                  have hP9 := hP
                  have hD9 := hD
                  have hK9 := hK
                  rw [hQ]
                  exact W.vret hx hb hr (fun t ht hW => ⟨⟨(f_462, (kt + 1 + 1 + 1)), rfl, ⟨by omega, (kNarU ef_462 (kNarU ef_431 (kNarU ef_323 hgT)))⟩,  by rw [ht]; exact hP9, va_K.moved hW.alike hK9, hD9⟩, hS.F ht⟩) hS.2.2 dX8_append_58
            · have hn_465 := knle (a := 120) (b := kt + 1 + 1) (by omega) (by omega) c_450
              refine lv_aload_n hx hb dX8_append_31 rfl (lv_at hl 2 rfl) ?_
              refine va_get (D := (dC, dI)) (ci := 8) (v := .ref t0) (C := RX8) (T := TX8) (N := 2) hx hb hts (fun _ h => List.mem_cons_of_mem _ (List.mem_append_right _ h)) hown hK hP 0 rfl rfl 0 (by decide) (hts (.fieldLink RX8 9 "NotEnded$Tape" "signs" "[C") (List.mem_cons_of_mem _ (List.mem_append_left _ (List.mem_of_getElem? (i := 1) rfl)))) (fun _ h9 => h9) rfl dX8_append_32 ?_
              refine lv_aload_n hx hb dX8_append_35 rfl (lv_at hl 2 rfl) ?_
              refine va_get (D := (dC, dI)) (ci := 8) (v := .int (nI (kt + 1 + 1))) (C := RX8) (T := TX8) (N := 2) hx hb hts (fun _ h => List.mem_cons_of_mem _ (List.mem_append_right _ h)) hown hK hP 0 rfl rfl 1 (by decide) (hts (.fieldLink RX8 15 "NotEnded$Tape" "length" "I") (List.mem_cons_of_mem _ (List.mem_append_left _ (List.mem_of_getElem? (i := 0) rfl)))) (fun _ h9 => h9) rfl dX8_append_36 ?_
              refine lv_iload_n hx hb dX8_append_39 rfl (lv_at hl 0 rfl) ?_
              obtain ⟨x_466, ex_466⟩ : ∃ z : Int32, z = (Int32.toUInt32 x_435 % 65536).toInt32 := ⟨_, rfl⟩
              refine lv_i2c (v := x_466) hx hb dX8_append_40 ex_466.symm ?_
              refine va_cast hx hb hK hP hD hS 1 0 rfl rfl (vp_in_nI (n := kt + 1 + 1) (N := 120) (by omega) (by omega)) dX8_append_41 (fun H locs hP hD hS => ?_)
              obtain ⟨f_467, ef_467⟩ : ∃ gg9 : Nat → Int32, gg9 = upd f_431 (Int32.toNatClampNeg (nI (kt + 1 + 1))) (vp_nar .char x_466) := ⟨_, rfl⟩
              obtain ⟨hP, hD⟩ : kPD dC dI A [(jT, .inr (8, [.ref t0, .int (nI (kt + 1 + 1))])), (t0, .inl (cC, 120, .inl f_467))] H := by rw [ef_467]; exact ⟨hP, hD⟩
              refine lv_aload_n hx hb dX8_append_42 rfl (lv_at hl 2 rfl) ?_
              refine lv_dup hx hb dX8_append_43 rfl ?_
              refine va_get (D := (dC, dI)) (ci := 8) (v := .int (nI (kt + 1 + 1))) (C := RX8) (T := TX8) (N := 2) hx hb hts (fun _ h => List.mem_cons_of_mem _ (List.mem_append_right _ h)) hown hK hP 0 rfl rfl 1 (by decide) (hts (.fieldLink RX8 15 "NotEnded$Tape" "length" "I") (List.mem_cons_of_mem _ (List.mem_append_left _ (List.mem_of_getElem? (i := 0) rfl)))) (fun _ h9 => h9) rfl dX8_append_44 ?_
              refine lv_iconst (v := 1) hx hb dX8_append_47 (by decide) ?_
              refine lv_iadd hx hb dX8_append_48 ?_
              refine lv_topi (fun y_468 ey_468 => ?_)
              obtain rfl : y_468 = nI (kt + 1 + 1 + 1) := ey_468.trans (nI_add (kt + 1 + 1) (1))
              refine va_put (D := (dC, dI)) (ci := 8) (v := .int (nI (kt + 1 + 1 + 1))) (ty := tyX8 1) (C := RX8) (T := TX8) (N := 2) hx hb hts (fun _ h => List.mem_cons_of_mem _ (List.mem_append_right _ h)) tyX8 tyX8_ok nmX8 hown hK hP hD hS 0 rfl rfl 1 (by decide) (hts (.fieldLink RX8 15 "NotEnded$Tape" "length" "I") (List.mem_cons_of_mem _ (List.mem_append_left _ (List.mem_of_getElem? (i := 0) rfl)))) (fun _ h9 => h9) rfl (tyX8_ok 1 (by decide)) rfl rfl (Nat.le_of_ble_eq_true rfl) dX8_append_49 (fun H locs hP hD hS => ?_)
              obtain ⟨hP, hD⟩ : kPD dC dI A [(jT, .inr (8, [.ref t0, .int (nI (kt + 1 + 1 + 1))])), (t0, .inl (cC, 120, .inl f_467))] H := ⟨hP, hD⟩
              refine lv_iinc (v := 0) hx hb dX8_append_52 hl (k := 1) rfl (by decide) (by decide) (kTo [(2, .int 0), (3, .int x_435), (0, .ref jT), (1, .int p0)]) (fun ls hl => ?_)
              refine lv_goto (tgt := 3) hx hb dX8_append_55 (by decide) ?_
              refine lv_iload_n hx hb dX8_append_3 rfl (lv_at hl 0 rfl) ?_
              refine lv_if_lt (tgt := 58) hx hb dX8_append_4 (by decide) (fun c_469 => absurd c_469 (by decide)) (fun c_469 => ?_)
              refine lv_iload_n hx hb dX8_append_7 rfl (lv_at hl 3 rfl) ?_
              refine lv_iload_n hx hb dX8_append_8 rfl (lv_at hl 0 rfl) ?_
              obtain ⟨x_470, ex_470⟩ : ∃ z : Int32, z = (Int32.toUInt32 p0 >>> (Int32.toUInt32 0 &&& Int32.toUInt32 31)).toInt32 := ⟨_, rfl⟩
              refine lv_iushr (v := x_470) hx hb dX8_append_9 ex_470.symm ?_
              refine lv_sipush (v := 255) hx hb dX8_append_10 (by decide) ?_
              refine lv_iand hx hb dX8_append_13 ?_
              refine lv_topi (fun x_471 ex_471 => ?_)
              refine lv_istore_n hx hb dX8_append_14 rfl hl (by decide) (kTo [(3, .int x_471), (2, .int 0), (0, .ref jT), (1, .int p0)]) (fun ls hl => ?_)
              refine lv_iload_n hx hb dX8_append_15 rfl (lv_at hl 0 rfl) ?_
              refine lv_if_eq (tgt := 52) hx hb dX8_append_16 (by decide) (fun c_472 => ?_) (fun c_472 => ?_)
              · refine lv_iinc (v := (-8)) hx hb dX8_append_52 hl (k := 1) rfl (by decide) (by decide) (kTo [(2, .int (-8)), (3, .int x_471), (0, .ref jT), (1, .int p0)]) (fun ls hl => ?_)
                refine lv_goto (tgt := 3) hx hb dX8_append_55 (by decide) ?_
                refine lv_iload_n hx hb dX8_append_3 rfl (lv_at hl 0 rfl) ?_
                refine lv_if_lt (tgt := 58) hx hb dX8_append_4 (by decide) (fun c_473 => ?_) (fun c_473 => absurd (by decide) c_473)
                have hP9 := hP
                have hD9 := hD
                have hK9 := hK
                rw [hQ]
                exact W.vret hx hb hr (fun t ht hW => ⟨⟨(f_467, (kt + 1 + 1 + 1)), rfl, ⟨by omega, (kNarU ef_467 (kNarU ef_431 (kNarU ef_323 hgT)))⟩,  by rw [ht]; exact hP9, va_K.moved hW.alike hK9, hD9⟩, hS.F ht⟩) hS.2.2 dX8_append_58
              · refine lv_aload_n hx hb dX8_append_19 rfl (lv_at hl 2 rfl) ?_
                refine va_get (D := (dC, dI)) (ci := 8) (v := .int (nI (kt + 1 + 1 + 1))) (C := RX8) (T := TX8) (N := 2) hx hb hts (fun _ h => List.mem_cons_of_mem _ (List.mem_append_right _ h)) hown hK hP 0 rfl rfl 1 (by decide) (hts (.fieldLink RX8 15 "NotEnded$Tape" "length" "I") (List.mem_cons_of_mem _ (List.mem_append_left _ (List.mem_of_getElem? (i := 0) rfl)))) (fun _ h9 => h9) rfl dX8_append_20 ?_
                refine lv_aload_n hx hb dX8_append_23 rfl (lv_at hl 2 rfl) ?_
                refine va_get (D := (dC, dI)) (ci := 8) (v := .ref t0) (C := RX8) (T := TX8) (N := 2) hx hb hts (fun _ h => List.mem_cons_of_mem _ (List.mem_append_right _ h)) hown hK hP 0 rfl rfl 0 (by decide) (hts (.fieldLink RX8 9 "NotEnded$Tape" "signs" "[C") (List.mem_cons_of_mem _ (List.mem_append_left _ (List.mem_of_getElem? (i := 1) rfl)))) (fun _ h9 => h9) rfl dX8_append_24 ?_
                refine va_alen hx hb hK hP 1 0 rfl rfl (v := 120) rfl dX8_append_27 ?_
                refine lv_icmp_ge (tgt := 52) hx hb dX8_append_28 (by decide) (fun c_474 => ?_) (fun c_474 => ?_)
                · have hn_475 := kle (a := 120) (b := kt + 1 + 1 + 1) (by omega) (by omega) c_474
                  refine lv_iinc (v := (-8)) hx hb dX8_append_52 hl (k := 1) rfl (by decide) (by decide) (kTo [(2, .int (-8)), (3, .int x_471), (0, .ref jT), (1, .int p0)]) (fun ls hl => ?_)
                  refine lv_goto (tgt := 3) hx hb dX8_append_55 (by decide) ?_
                  refine lv_iload_n hx hb dX8_append_3 rfl (lv_at hl 0 rfl) ?_
                  refine lv_if_lt (tgt := 58) hx hb dX8_append_4 (by decide) (fun c_476 => ?_) (fun c_476 => absurd (by decide) c_476)
                  have hP9 := hP
                  have hD9 := hD
                  have hK9 := hK
                  rw [hQ]
                  exact W.vret hx hb hr (fun t ht hW => ⟨⟨(f_467, (kt + 1 + 1 + 1)), rfl, ⟨by omega, (kNarU ef_467 (kNarU ef_431 (kNarU ef_323 hgT)))⟩,  by rw [ht]; exact hP9, va_K.moved hW.alike hK9, hD9⟩, hS.F ht⟩) hS.2.2 dX8_append_58
                · have hn_477 := knle (a := 120) (b := kt + 1 + 1 + 1) (by omega) (by omega) c_474
                  refine lv_aload_n hx hb dX8_append_31 rfl (lv_at hl 2 rfl) ?_
                  refine va_get (D := (dC, dI)) (ci := 8) (v := .ref t0) (C := RX8) (T := TX8) (N := 2) hx hb hts (fun _ h => List.mem_cons_of_mem _ (List.mem_append_right _ h)) hown hK hP 0 rfl rfl 0 (by decide) (hts (.fieldLink RX8 9 "NotEnded$Tape" "signs" "[C") (List.mem_cons_of_mem _ (List.mem_append_left _ (List.mem_of_getElem? (i := 1) rfl)))) (fun _ h9 => h9) rfl dX8_append_32 ?_
                  refine lv_aload_n hx hb dX8_append_35 rfl (lv_at hl 2 rfl) ?_
                  refine va_get (D := (dC, dI)) (ci := 8) (v := .int (nI (kt + 1 + 1 + 1))) (C := RX8) (T := TX8) (N := 2) hx hb hts (fun _ h => List.mem_cons_of_mem _ (List.mem_append_right _ h)) hown hK hP 0 rfl rfl 1 (by decide) (hts (.fieldLink RX8 15 "NotEnded$Tape" "length" "I") (List.mem_cons_of_mem _ (List.mem_append_left _ (List.mem_of_getElem? (i := 0) rfl)))) (fun _ h9 => h9) rfl dX8_append_36 ?_
                  refine lv_iload_n hx hb dX8_append_39 rfl (lv_at hl 0 rfl) ?_
                  obtain ⟨x_478, ex_478⟩ : ∃ z : Int32, z = (Int32.toUInt32 x_471 % 65536).toInt32 := ⟨_, rfl⟩
                  refine lv_i2c (v := x_478) hx hb dX8_append_40 ex_478.symm ?_
                  refine va_cast hx hb hK hP hD hS 1 0 rfl rfl (vp_in_nI (n := kt + 1 + 1 + 1) (N := 120) (by omega) (by omega)) dX8_append_41 (fun H locs hP hD hS => ?_)
                  obtain ⟨f_479, ef_479⟩ : ∃ gg9 : Nat → Int32, gg9 = upd f_467 (Int32.toNatClampNeg (nI (kt + 1 + 1 + 1))) (vp_nar .char x_478) := ⟨_, rfl⟩
                  obtain ⟨hP, hD⟩ : kPD dC dI A [(jT, .inr (8, [.ref t0, .int (nI (kt + 1 + 1 + 1))])), (t0, .inl (cC, 120, .inl f_479))] H := by rw [ef_479]; exact ⟨hP, hD⟩
                  refine lv_aload_n hx hb dX8_append_42 rfl (lv_at hl 2 rfl) ?_
                  refine lv_dup hx hb dX8_append_43 rfl ?_
                  refine va_get (D := (dC, dI)) (ci := 8) (v := .int (nI (kt + 1 + 1 + 1))) (C := RX8) (T := TX8) (N := 2) hx hb hts (fun _ h => List.mem_cons_of_mem _ (List.mem_append_right _ h)) hown hK hP 0 rfl rfl 1 (by decide) (hts (.fieldLink RX8 15 "NotEnded$Tape" "length" "I") (List.mem_cons_of_mem _ (List.mem_append_left _ (List.mem_of_getElem? (i := 0) rfl)))) (fun _ h9 => h9) rfl dX8_append_44 ?_
                  refine lv_iconst (v := 1) hx hb dX8_append_47 (by decide) ?_
                  refine lv_iadd hx hb dX8_append_48 ?_
                  refine lv_topi (fun y_480 ey_480 => ?_)
                  obtain rfl : y_480 = nI (kt + 1 + 1 + 1 + 1) := ey_480.trans (nI_add (kt + 1 + 1 + 1) (1))
                  refine va_put (D := (dC, dI)) (ci := 8) (v := .int (nI (kt + 1 + 1 + 1 + 1))) (ty := tyX8 1) (C := RX8) (T := TX8) (N := 2) hx hb hts (fun _ h => List.mem_cons_of_mem _ (List.mem_append_right _ h)) tyX8 tyX8_ok nmX8 hown hK hP hD hS 0 rfl rfl 1 (by decide) (hts (.fieldLink RX8 15 "NotEnded$Tape" "length" "I") (List.mem_cons_of_mem _ (List.mem_append_left _ (List.mem_of_getElem? (i := 0) rfl)))) (fun _ h9 => h9) rfl (tyX8_ok 1 (by decide)) rfl rfl (Nat.le_of_ble_eq_true rfl) dX8_append_49 (fun H locs hP hD hS => ?_)
                  obtain ⟨hP, hD⟩ : kPD dC dI A [(jT, .inr (8, [.ref t0, .int (nI (kt + 1 + 1 + 1 + 1))])), (t0, .inl (cC, 120, .inl f_479))] H := ⟨hP, hD⟩
                  refine lv_iinc (v := (-8)) hx hb dX8_append_52 hl (k := 1) rfl (by decide) (by decide) (kTo [(2, .int (-8)), (3, .int x_471), (0, .ref jT), (1, .int p0)]) (fun ls hl => ?_)
                  refine lv_goto (tgt := 3) hx hb dX8_append_55 (by decide) ?_
                  refine lv_iload_n hx hb dX8_append_3 rfl (lv_at hl 0 rfl) ?_
                  refine lv_if_lt (tgt := 58) hx hb dX8_append_4 (by decide) (fun c_481 => ?_) (fun c_481 => absurd (by decide) c_481)
                  have hP9 := hP
                  have hD9 := hD
                  have hK9 := hK
                  rw [hQ]
                  exact W.vret hx hb hr (fun t ht hW => ⟨⟨(f_479, (kt + 1 + 1 + 1 + 1)), rfl, ⟨by omega, (kNarU ef_479 (kNarU ef_467 (kNarU ef_431 (kNarU ef_323 hgT))))⟩,  by rw [ht]; exact hP9, va_K.moved hW.alike hK9, hD9⟩, hS.F ht⟩) hS.2.2 dX8_append_58

def w_s_withinN9 : List Cond := .code yX9_within cX9_within 3 (some .int) :: ([])
theorem gw_s_withinN9 : (w_s_withinN9).all goodWord = true := kGc rfl kGn
set_option maxHeartbeats 4000000 in
set_option maxRecDepth 100000 in
theorem s_withinN9 (l : Launch) (dC : Nat → ClassId) (dI : Nat → Nat → Nat) (pa : Nat) (pb : Nat) (hpa : pa ≤ pb) (hpb : pb ≤ 1000) : Met l yX9_within w_s_withinN9 ({ frames := 1, cells := 0, slots := 0, locals := 60 }) (kR dC dI [.int (nI (pa)), .int 0, .int (nI (pb))] [] [] kT) (vp_Si (fun r : Int32 => r = nI pa)) 0 0 (fun _ => False) := by
  refine Met.ofW (cc := cX9_within) (maxL := 3) (ret := (some .int)) (by decide) rfl ?_
  intro p e s m args below meth c s₁ B hml hv
  obtain ⟨rfl, hP, hK, hX⟩ := hv
  have hx := B.exec
  have hb := B.bytes
  have hr := B.returns
  have hts := atoms_spec (ws := w_s_withinN9) B.pre
  have hown : s.vm.findClass RX9 = some m.cls := findClass_of_methodNamed B.named
  have hlocks := B.notSynchronized
  have hP : va_P (dC, dI) vwCl [] s.heap := hP
  have hl := lv_entry ([.int (nI (pa)), .int 0, .int (nI (pb))]) (n := 3) (Nat.le_of_ble_eq_true rfl)
  rw [lg_entry_eq]
  generalize (lg_sl ([.int (nI (pa)), .int 0, .int (nI (pb))]) ++ List.replicate (3 - (lg_sl ([.int (nI (pa)), .int 0, .int (nI (pb))])).length) Slot.unset).toArray = ls at hl ⊢
  have hl : lv_has ls 3 [(0, .int (nI (pa))), (1, .int 0), (2, .int (nI (pb)))] := hl
  refine kQ (fun Q hQ => ?_)
  refine lv_iload_n hx hb dX9_within_0 rfl (lv_at hl 0 rfl) ?_
  refine lv_iload_n hx hb dX9_within_1 rfl (lv_at hl 1 rfl) ?_
  refine lv_icmp_ge (tgt := 7) hx hb dX9_within_2 (by decide) (fun c_1 => ?_) (fun c_1 => absurd (nI_pos' (n := pa) (by omega)) c_1)
  refine lv_iload_n hx hb dX9_within_7 rfl (lv_at hl 0 rfl) ?_
  refine lv_iload_n hx hb dX9_within_8 rfl (lv_at hl 2 rfl) ?_
  refine lv_icmp_le (tgt := 16) hx hb dX9_within_9 (by decide) (fun c_2 => ?_) (fun c_2 => absurd (nI_le (a := pa) (b := pb) (by omega) (by omega)) c_2)
  refine lv_iload_n hx hb dX9_within_16 rfl (lv_at hl 0 rfl) ?_
  rw [hQ]
  exact W.iret (v := nI (pa)) hx hb hr (fun t ht hW => ⟨nI (pa), rfl, rfl, ht⟩) (fun _ h => nomatch h) dX9_within_17

theorem dX8_cutTo_0 : decode cX8_cutTo 0 = .ok (.aload_n 0, 1) := by decide +kernel
theorem dX8_cutTo_1 : decode cX8_cutTo 1 = .ok (.iload_n 1, 1) := by decide +kernel
theorem dX8_cutTo_2 : decode cX8_cutTo 2 = .ok (.iconst 0, 1) := by decide +kernel
theorem dX8_cutTo_3 : decode cX8_cutTo 3 = .ok (.aload_n 0, 1) := by decide +kernel
theorem dX8_cutTo_4 : decode cX8_cutTo 4 = .ok (.getfield 15, 3) := by decide +kernel
theorem dX8_cutTo_7 : decode cX8_cutTo 7 = .ok (.invokestatic 19, 3) := by decide +kernel
theorem dX8_cutTo_10 : decode cX8_cutTo 10 = .ok (.putfield 15, 3) := by decide +kernel
theorem dX8_cutTo_13 : decode cX8_cutTo 13 = .ok (.return_, 1) := by decide +kernel
def w_s_cutTo8 : List Cond := .code yX8_cutTo cX8_cutTo 2 none :: ([.fieldLink RX8 15 "NotEnded$Tape" "length" "I", .initialized RX9, .static yX9_within] ++ (wsX80 ++ (w_s_withinN9)))
theorem gw_s_cutTo8 : (w_s_cutTo8).all goodWord = true := kGc rfl (kGa (by decide +kernel) (kGa gw_wsX80 gw_s_withinN9))
theorem hd_X8_cutTo : yX8_cutTo.cls ≠ "java/lang/invoke/MethodHandle" ∧ yX8_cutTo.cls ≠ "java/lang/invoke/VarHandle" ∧ (parseMethodDescriptor yX8_cutTo.desc).map (fun d => d.parameters.length) = some 1 := by decide +kernel
set_option maxHeartbeats 4000000 in
set_option maxRecDepth 100000 in
theorem s_cutTo8 (l : Launch) (dC : Nat → ClassId) (dI : Nat → Nat → Nat) (jT : Nat) (t0 : Nat) (cC : ClassId) (gT : Nat → Int32) (kt : Nat) (hkt : kt ≤ 120) (hgT : ∀ j : Nat, narrow .char (.int (gT j)) = .int (gT j)) (pn : Nat) (hpn : pn ≤ kt) (sz : Nat) : Met l yX8_cutTo w_s_cutTo8 ({ frames := 2, cells := 0, slots := 0, locals := 120 }) (kW dC dI [.ref jT, .int (nI (pn))] [(jT, .inr (8, [.ref t0, .int (nI (kt))])), (t0, .inl (cC, 120, .inl gT))] [(cC, .char)] kNL sz) (va_Qv (fun (ku : Nat) => ku = pn) (fun (ku : Nat) => fun t : State => kB dC dI [(jT, .inr (8, [.ref t0, .int (nI (ku))])), (t0, .inl (cC, 120, .inl gT))] [(cC, .char)] (va_A [(jT, .inr (8, [.ref t0, .int (nI (kt))])), (t0, .inl (cC, 120, .inl gT))] sz) t) (va_A [(jT, .inr (8, [.ref t0, .int (nI (kt))])), (t0, .inl (cC, 120, .inl gT))] sz)) 0 0 (va_A [(jT, .inr (8, [.ref t0, .int (nI (kt))])), (t0, .inl (cC, 120, .inl gT))] sz) := by
  refine Met.ofW (cc := cX8_cutTo) (maxL := 2) (ret := none) (by decide) rfl ?_
  intro p e s m args below meth c s₁ B hml hv
  obtain ⟨rfl, hsz, hP, hK, hD0, hX⟩ := hv
  have hx := B.exec
  have hb := B.bytes
  have hr := B.returns
  have hts := atoms_spec (ws := w_s_cutTo8) B.pre
  have hown : s.vm.findClass RX8 = some m.cls := findClass_of_methodNamed B.named
  have hlocks := B.notSynchronized
  subst hsz
  have hD := hD0.self (sz := s.heap.size)
  generalize hAe : va_A [(jT, .inr (8, [.ref t0, .int (nI (kt))])), (t0, .inl (cC, 120, .inl gT))] s.heap.size = A at hD ⊢
  have hA : ∀ q : Nat, s.heap.size ≤ q → A q := fun q h => by rw [← hAe]; exact Or.inr h
  have hS : va_S A s.heap s.heap [] := va_S.rf
  have hP : va_P (dC, dI) vwCl [(jT, .inr (8, [.ref t0, .int (nI (kt))])), (t0, .inl (cC, 120, .inl gT))] s.heap := hP
  have hl := lv_entry ([.ref jT, .int (nI (pn))]) (n := 2) (Nat.le_of_ble_eq_true rfl)
  rw [lg_entry_eq]
  generalize (lg_sl ([.ref jT, .int (nI (pn))]) ++ List.replicate (2 - (lg_sl ([.ref jT, .int (nI (pn))])).length) Slot.unset).toArray = ls at hl ⊢
  have hl : lv_has ls 2 [(0, .ref jT), (1, .int (nI (pn)))] := hl
  refine kQ (fun Q hQ => ?_)
  refine lv_aload_n hx hb dX8_cutTo_0 rfl (lv_at hl 0 rfl) ?_
  refine lv_iload_n hx hb dX8_cutTo_1 rfl (lv_at hl 1 rfl) ?_
  refine lv_iconst (v := 0) hx hb dX8_cutTo_2 (by decide) ?_
  refine lv_aload_n hx hb dX8_cutTo_3 rfl (lv_at hl 0 rfl) ?_
  refine va_get (D := (dC, dI)) (ci := 8) (v := .int (nI (kt))) (C := RX8) (T := TX8) (N := 2) hx hb hts (fun _ h => List.mem_cons_of_mem _ (List.mem_append_right _ (List.mem_append_left _ h))) hown hK hP 0 rfl rfl 1 (by decide) (hts (.fieldLink RX8 15 "NotEnded$Tape" "length" "I") (List.mem_cons_of_mem _ (List.mem_append_left _ (List.mem_of_getElem? (i := 0) rfl)))) (fun _ h9 => h9) rfl dX8_cutTo_4 ?_
  have hPc := hP.sb (ws2 := []) [] rfl
  have hKc := hK.sb (tys2 := []) [] rfl
  refine vp_callSi (va_runSN (As := [.int (nI (pn)), .int 0, .int (nI (kt))]) (rest := [.ref jT]) ⟨hx, hb, hml, hown, hts⟩ (s_withinN9 l dC dI pn kt (by omega) (by omega)) (⟨va_cnB 3 hts (goodIn_sub (fun _ h => List.mem_cons_of_mem _ (List.mem_append_right _ (List.mem_append_right _ h))) gw_s_withinN9) rfl rfl rfl (hX _ (List.mem_of_getElem? (i := 9) rfl)) (hts (.initialized RX9) (List.mem_cons_of_mem _ (List.mem_append_left _ (List.mem_of_getElem? (i := 1) rfl)))) hd_X9_within ⟨(Nat.le_of_ble_eq_true rfl), (Nat.le_of_ble_eq_true rfl)⟩, (hts (.static yX9_within) (List.mem_cons_of_mem _ (List.mem_append_left _ (List.mem_of_getElem? (i := 2) rfl)))), trivial⟩) (kR_S kT_blind kT_give hPc hKc) rfl rfl hl.1 rfl (lv_room (Nat.le_of_ble_eq_true rfl)) dX8_cutTo_7 ⟨(Nat.le_of_ble_eq_true rfl), (Nat.le_of_ble_eq_true rfl)⟩).run (fun r_1 hw => ?_)
  obtain rfl : r_1 = nI (pn) := hw
  refine va_put (D := (dC, dI)) (ci := 8) (v := .int (nI (pn))) (ty := tyX8 1) (C := RX8) (T := TX8) (N := 2) hx hb hts (fun _ h => List.mem_cons_of_mem _ (List.mem_append_right _ (List.mem_append_left _ h))) tyX8 tyX8_ok nmX8 hown hK hP hD hS 0 rfl rfl 1 (by decide) (hts (.fieldLink RX8 15 "NotEnded$Tape" "length" "I") (List.mem_cons_of_mem _ (List.mem_append_left _ (List.mem_of_getElem? (i := 0) rfl)))) (fun _ h9 => h9) rfl (tyX8_ok 1 (by decide)) rfl rfl (Nat.le_of_ble_eq_true rfl) dX8_cutTo_10 (fun H locs hP hD hS => ?_)
  obtain ⟨hP, hD⟩ : kPD dC dI A [(jT, .inr (8, [.ref t0, .int (nI (pn))])), (t0, .inl (cC, 120, .inl gT))] H := ⟨hP, hD⟩
  have hP9 := hP
  have hD9 := hD
  have hK9 := hK
  rw [hQ]
  exact W.vret hx hb hr (fun t ht hW => ⟨⟨pn, rfl, rfl,  by rw [ht]; exact hP9, va_K.moved hW.alike hK9, hD9⟩, hS.F ht⟩) hS.2.2 dX8_cutTo_13
