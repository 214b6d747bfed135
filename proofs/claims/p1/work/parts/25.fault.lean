theorem dX8_at_0 : decode cX8_at 0 = .ok (.iload_n 1, 1) := by decide +kernel
theorem dX8_at_1 : decode cX8_at 1 = .ok (.ifCond .lt 29, 3) := by decide +kernel
theorem dX8_at_4 : decode cX8_at 4 = .ok (.iload_n 1, 1) := by decide +kernel
theorem dX8_at_5 : decode cX8_at 5 = .ok (.aload_n 0, 1) := by decide +kernel
theorem dX8_at_6 : decode cX8_at 6 = .ok (.getfield 15, 3) := by decide +kernel
theorem dX8_at_9 : decode cX8_at 9 = .ok (.if_icmp .ge 21, 3) := by decide +kernel
theorem dX8_at_30 : decode cX8_at 30 = .ok (.iconst 0, 1) := by decide +kernel
theorem dX8_at_31 : decode cX8_at 31 = .ok (.ireturn, 1) := by decide +kernel
def w_c_at8 : List Cond := .code yX8_at cX8_at 2 (some .char) :: ([.fieldLink RX8 15 "NotEnded$Tape" "length" "I"] ++ (wsX80))
theorem gw_c_at8 : (w_c_at8).all goodWord = true := by decide +kernel
set_option maxHeartbeats 4000000 in
set_option maxRecDepth 100000 in
theorem c_at8 (l : Launch) (dC : Nat → ClassId) (dI : Nat → Nat → Nat) (h0 : Nat) (v0 : Value) : Met l yX8_at w_c_at8 ({ frames := 1, cells := 0, slots := 0, locals := 60 }) (kR dC dI [.ref h0, .int 0] [(h0, .inr (8, [v0, .int 0]))] [] kT) (vp_Si (fun r : Int32 => r = 0)) 0 0 (fun _ => False) := by
  refine Met.ofW (cc := cX8_at) (maxL := 2) (ret := (some .char)) (by decide) rfl ?_
  intro p e s m args below meth c s₁ B hml hv
  obtain ⟨rfl, hP, hK, hX⟩ := hv
  have hx := B.exec
  have hb := B.bytes
  have hr := B.returns
  have hts := atoms_spec (ws := w_c_at8) B.pre
  have hown : s.vm.findClass RX8 = some m.cls := findClass_of_methodNamed B.named
  have hlocks := B.notSynchronized
  have hP : va_P (dC, dI) vwCl [(h0, .inr (8, [v0, .int 0]))] s.heap := hP
  have hl := lv_entry ([.ref h0, .int 0]) (n := 2) (Nat.le_of_ble_eq_true rfl)
  rw [lg_entry_eq]
  generalize (lg_sl ([.ref h0, .int 0]) ++ List.replicate (2 - (lg_sl ([.ref h0, .int 0])).length) Slot.unset).toArray = ls at hl ⊢
  have hl : lv_has ls 2 [(0, .ref h0), (1, .int 0)] := hl
  refine lv_iload_n hx hb dX8_at_0 rfl (lv_at hl 1 rfl) ?_
  refine lv_if_lt (tgt := 30) hx hb dX8_at_1 (by decide) (fun c_1 => absurd c_1 (by decide)) (fun c_1 => ?_)
  refine lv_iload_n hx hb dX8_at_4 rfl (lv_at hl 1 rfl) ?_
  refine lv_aload_n hx hb dX8_at_5 rfl (lv_at hl 0 rfl) ?_
  refine va_get (D := (dC, dI)) (ci := 8) (v := .int 0) (C := RX8) (T := TX8) (N := 2) hx hb hts (fun _ h => List.mem_cons_of_mem _ (List.mem_append_right _ h)) hown hK hP 0 rfl rfl 1 (by decide) (hts (.fieldLink RX8 15 "NotEnded$Tape" "length" "I") (List.mem_cons_of_mem _ (List.mem_append_left _ (List.mem_of_getElem? (i := 0) rfl)))) (fun _ h9 => h9) rfl dX8_at_6 ?_
  refine lv_icmp_ge (tgt := 30) hx hb dX8_at_9 (by decide) (fun c_2 => ?_) (fun c_2 => absurd (by decide) c_2)
  refine lv_iconst (v := 0) hx hb dX8_at_30 (by decide) ?_
  exact W.zret (v := 0) hx hb hr rfl (fun t ht hW => ⟨0, rfl, rfl, ht⟩) (fun _ h => nomatch h) dX8_at_31

theorem dX4_look_0 : decode cX4_look 0 = .ok (.iconst 0, 1) := by decide +kernel
theorem dX4_look_1 : decode cX4_look 1 = .ok (.istore_n 1, 1) := by decide +kernel
theorem dX4_look_2 : decode cX4_look 2 = .ok (.iload_n 1, 1) := by decide +kernel
theorem dX4_look_3 : decode cX4_look 3 = .ok (.bipush 120, 2) := by decide +kernel
theorem dX4_look_5 : decode cX4_look 5 = .ok (.if_icmp .ge 35, 3) := by decide +kernel
theorem dX4_look_8 : decode cX4_look 8 = .ok (.aload_n 0, 1) := by decide +kernel
theorem dX4_look_9 : decode cX4_look 9 = .ok (.getfield 37, 3) := by decide +kernel
theorem dX4_look_12 : decode cX4_look 12 = .ok (.aload_n 0, 1) := by decide +kernel
theorem dX4_look_13 : decode cX4_look 13 = .ok (.getfield 25, 3) := by decide +kernel
theorem dX4_look_16 : decode cX4_look 16 = .ok (.invokevirtual 117, 3) := by decide +kernel
theorem dX4_look_19 : decode cX4_look 19 = .ok (.bipush 32, 2) := by decide +kernel
theorem dX4_look_21 : decode cX4_look 21 = .ok (.if_icmp .ne 19, 3) := by decide +kernel
theorem dX4_look_40 : decode cX4_look 40 = .ok (.aload_n 0, 1) := by decide +kernel
theorem dX4_look_41 : decode cX4_look 41 = .ok (.getfield 37, 3) := by decide +kernel
theorem dX4_look_44 : decode cX4_look 44 = .ok (.aload_n 0, 1) := by decide +kernel
theorem dX4_look_45 : decode cX4_look 45 = .ok (.getfield 25, 3) := by decide +kernel
theorem dX4_look_48 : decode cX4_look 48 = .ok (.invokevirtual 117, 3) := by decide +kernel
theorem dX4_look_51 : decode cX4_look 51 = .ok (.ireturn, 1) := by decide +kernel
def w_c_look4 : List Cond := .code yX4_look cX4_look 2 (some .char) :: ([.fieldLink RX4 37 "NotEnded$Reader" "tape" "LNotEnded$Tape;", .fieldLink RX4 25 "NotEnded$Reader" "place" "I", .initialized RX8, .selects RX8 yX8_at yX8_at, .instanceMethod yX8_at, .methodLink RX4 117 yX8_at] ++ (wsX40 ++ (w_c_at8)))
theorem gw_c_look4 : (w_c_look4).all goodWord = true := by decide +kernel
set_option maxHeartbeats 4000000 in
set_option maxRecDepth 100000 in
theorem c_look4 (l : Launch) (dC : Nat → ClassId) (dI : Nat → Nat → Nat) (h0 : Nat) (hT : Nat) (t0 : Value) (r1 : Value) (r2 : Value) (r3 : Value) (r4 : Value) (r6 : Value) (r7 : Value) : Met l yX4_look w_c_look4 ({ frames := 2, cells := 0, slots := 0, locals := 120 }) (kR dC dI [.ref h0] [(h0, .inr (4, [.ref hT, r1, r2, r3, r4, .int 0, r6, r7])), (hT, .inr (8, [t0, .int 0]))] [] kT) (vp_Si (fun r : Int32 => r = 0)) 0 0 (fun _ => False) := by
  refine Met.ofW (cc := cX4_look) (maxL := 2) (ret := (some .char)) (by decide) rfl ?_
  intro p e s m args below meth c s₁ B hml hv
  obtain ⟨rfl, hP, hK, hX⟩ := hv
  have hx := B.exec
  have hb := B.bytes
  have hr := B.returns
  have hts := atoms_spec (ws := w_c_look4) B.pre
  have hown : s.vm.findClass RX4 = some m.cls := findClass_of_methodNamed B.named
  have hlocks := B.notSynchronized
  have hP : va_P (dC, dI) vwCl [(h0, .inr (4, [.ref hT, r1, r2, r3, r4, .int 0, r6, r7])), (hT, .inr (8, [t0, .int 0]))] s.heap := hP
  have hl := lv_entry ([.ref h0]) (n := 2) (Nat.le_of_ble_eq_true rfl)
  rw [lg_entry_eq]
  generalize (lg_sl ([.ref h0]) ++ List.replicate (2 - (lg_sl ([.ref h0])).length) Slot.unset).toArray = ls at hl ⊢
  have hl : lv_has ls 2 [(0, .ref h0)] := hl
  refine lv_iconst (v := 0) hx hb dX4_look_0 (by decide) ?_
  refine lv_istore_n (lv' := [(1, .int 0), (0, .ref h0)]) hx hb dX4_look_1 rfl hl (by decide) rfl (fun ls hl => ?_)
  refine lv_iload_n hx hb dX4_look_2 rfl (lv_at hl 0 rfl) ?_
  refine lv_bipush (v := 120) hx hb dX4_look_3 (by decide) ?_
  refine lv_icmp_ge (tgt := 40) hx hb dX4_look_5 (by decide) (fun c_1 => absurd c_1 (by decide)) (fun c_1 => ?_)
  refine lv_aload_n hx hb dX4_look_8 rfl (lv_at hl 1 rfl) ?_
  refine va_get (D := (dC, dI)) (ci := 4) (v := .ref hT) (C := RX4) (T := TX4) (N := 8) hx hb hts (fun _ h => List.mem_cons_of_mem _ (List.mem_append_right _ (List.mem_append_left _ h))) hown hK hP 0 rfl rfl 0 (by decide) (hts (.fieldLink RX4 37 "NotEnded$Reader" "tape" "LNotEnded$Tape;") (List.mem_cons_of_mem _ (List.mem_append_left _ (List.mem_of_getElem? (i := 0) rfl)))) (fun _ h9 => h9) rfl dX4_look_9 ?_
  refine lv_aload_n hx hb dX4_look_12 rfl (lv_at hl 1 rfl) ?_
  refine va_get (D := (dC, dI)) (ci := 4) (v := .int 0) (C := RX4) (T := TX4) (N := 8) hx hb hts (fun _ h => List.mem_cons_of_mem _ (List.mem_append_right _ (List.mem_append_left _ h))) hown hK hP 0 rfl rfl 5 (by decide) (hts (.fieldLink RX4 25 "NotEnded$Reader" "place" "I") (List.mem_cons_of_mem _ (List.mem_append_left _ (List.mem_of_getElem? (i := 1) rfl)))) (fun _ h9 => h9) rfl dX4_look_13 ?_
  have hPc := hP.sub (ws' := [(hT, .inr (8, [t0, .int 0]))]) [1] rfl
  have hKc := hK.sub (tys' := []) [] rfl
  refine vp_callSi (va_runV (As := [.int 0]) (rest := []) ⟨hx, hb, hml, hown, hts⟩ (c_at8 l dC dI hT (t0 : Value)) (cwV 1 hts (kG (List.forall_mem_cons.mpr ⟨(List.mem_cons_of_mem _ (List.mem_append_left _ (List.mem_of_getElem? (i := 5) rfl))), (List.forall_mem_cons.mpr ⟨(List.mem_cons_of_mem _ (List.mem_append_left _ (List.mem_of_getElem? (i := 4) rfl))), (List.forall_mem_cons.mpr ⟨(List.mem_cons_of_mem _ (List.mem_append_left _ (List.mem_of_getElem? (i := 3) rfl))), (List.forall_mem_cons.mpr ⟨(List.mem_cons_of_mem _ (List.mem_append_left _ (List.mem_of_getElem? (i := 2) rfl))), (fun _ h => absurd h List.not_mem_nil)⟩)⟩)⟩)⟩) (by decide +kernel) (fun _ h => List.mem_cons_of_mem _ (List.mem_append_right _ (List.mem_append_right _ h))) gw_c_at8) rfl rfl rfl (by decide +kernel) ⟨(Nat.le_of_ble_eq_true rfl), (Nat.le_of_ble_eq_true rfl)⟩) (kR_V kT_blind kT_give (va_recv hKc hPc (ci := 8) (q0 := 0) rfl rfl) hPc hKc) rfl rfl hl.1 rfl (lv_room (Nat.le_of_ble_eq_true rfl)) dX4_look_16 ⟨(Nat.le_of_ble_eq_true rfl), (Nat.le_of_ble_eq_true rfl)⟩).run (fun r_2 hw => ?_)
  obtain rfl : r_2 = 0 := hw
  refine lv_bipush (v := 32) hx hb dX4_look_19 (by decide) ?_
  refine lv_icmp_ne (tgt := 40) hx hb dX4_look_21 (by decide) (fun c_3 => ?_) (fun c_3 => absurd c_3 (by decide))
  refine lv_aload_n hx hb dX4_look_40 rfl (lv_at hl 1 rfl) ?_
  refine va_get (D := (dC, dI)) (ci := 4) (v := .ref hT) (C := RX4) (T := TX4) (N := 8) hx hb hts (fun _ h => List.mem_cons_of_mem _ (List.mem_append_right _ (List.mem_append_left _ h))) hown hK hP 0 rfl rfl 0 (by decide) (hts (.fieldLink RX4 37 "NotEnded$Reader" "tape" "LNotEnded$Tape;") (List.mem_cons_of_mem _ (List.mem_append_left _ (List.mem_of_getElem? (i := 0) rfl)))) (fun _ h9 => h9) rfl dX4_look_41 ?_
  refine lv_aload_n hx hb dX4_look_44 rfl (lv_at hl 1 rfl) ?_
  refine va_get (D := (dC, dI)) (ci := 4) (v := .int 0) (C := RX4) (T := TX4) (N := 8) hx hb hts (fun _ h => List.mem_cons_of_mem _ (List.mem_append_right _ (List.mem_append_left _ h))) hown hK hP 0 rfl rfl 5 (by decide) (hts (.fieldLink RX4 25 "NotEnded$Reader" "place" "I") (List.mem_cons_of_mem _ (List.mem_append_left _ (List.mem_of_getElem? (i := 1) rfl)))) (fun _ h9 => h9) rfl dX4_look_45 ?_
  have hPc := hP.sub (ws' := [(hT, .inr (8, [t0, .int 0]))]) [1] rfl
  have hKc := hK.sub (tys' := []) [] rfl
  refine vp_callSi (va_runV (As := [.int 0]) (rest := []) ⟨hx, hb, hml, hown, hts⟩ (c_at8 l dC dI hT (t0 : Value)) (cwV 1 hts (kG (List.forall_mem_cons.mpr ⟨(List.mem_cons_of_mem _ (List.mem_append_left _ (List.mem_of_getElem? (i := 5) rfl))), (List.forall_mem_cons.mpr ⟨(List.mem_cons_of_mem _ (List.mem_append_left _ (List.mem_of_getElem? (i := 4) rfl))), (List.forall_mem_cons.mpr ⟨(List.mem_cons_of_mem _ (List.mem_append_left _ (List.mem_of_getElem? (i := 3) rfl))), (List.forall_mem_cons.mpr ⟨(List.mem_cons_of_mem _ (List.mem_append_left _ (List.mem_of_getElem? (i := 2) rfl))), (fun _ h => absurd h List.not_mem_nil)⟩)⟩)⟩)⟩) (by decide +kernel) (fun _ h => List.mem_cons_of_mem _ (List.mem_append_right _ (List.mem_append_right _ h))) gw_c_at8) rfl rfl rfl (by decide +kernel) ⟨(Nat.le_of_ble_eq_true rfl), (Nat.le_of_ble_eq_true rfl)⟩) (kR_V kT_blind kT_give (va_recv hKc hPc (ci := 8) (q0 := 0) rfl rfl) hPc hKc) rfl rfl hl.1 rfl (lv_room (Nat.le_of_ble_eq_true rfl)) dX4_look_48 ⟨(Nat.le_of_ble_eq_true rfl), (Nat.le_of_ble_eq_true rfl)⟩).run (fun r_4 hw => ?_)
  obtain rfl : r_4 = 0 := hw
  exact W.zret (v := 0) hx hb hr rfl (fun t ht hW => ⟨0, rfl, rfl, ht⟩) (fun _ h => nomatch h) dX4_look_51

theorem dX4_readClause_0 : decode cX4_readClause 0 = .ok (.aload_n 0, 1) := by decide +kernel
theorem dX4_readClause_1 : decode cX4_readClause 1 = .ok (.getfield 30, 3) := by decide +kernel
theorem dX4_readClause_4 : decode cX4_readClause 4 = .ok (.aload_n 0, 1) := by decide +kernel
theorem dX4_readClause_5 : decode cX4_readClause 5 = .ok (.invokevirtual 53, 3) := by decide +kernel
theorem dX4_readClause_8 : decode cX4_readClause 8 = .ok (.invokevirtual 72, 3) := by decide +kernel
theorem dX4_readClause_11 : decode cX4_readClause 11 = .ok (.istore_n 1, 1) := by decide +kernel
theorem dX4_readClause_12 : decode cX4_readClause 12 = .ok (.iload_n 1, 1) := by decide +kernel
theorem dX4_readClause_13 : decode cX4_readClause 13 = .ok (.ifCond .ge 5, 3) := by decide +kernel
theorem dX4_readClause_16 : decode cX4_readClause 16 = .ok (.iconst 0, 1) := by decide +kernel
theorem dX4_readClause_17 : decode cX4_readClause 17 = .ok (.ireturn, 1) := by decide +kernel
def w_c_readClause_ygx : List Cond := .code yX4_readClause cX4_readClause 5 (some .boolean) :: ([.fieldLink RX4 30 "NotEnded$Reader" "labelSigns" "Ljava/lang/String;", .initialized RX4, .selects RX4 yX4_look yX4_look, .instanceMethod yX4_look, .methodLink RX4 53 yX4_look, .initialized RJ0, .selects RJ0 yJ0_indexOf_0f7a4 yJ0_indexOf_0f7a4, .instanceMethod yJ0_indexOf_0f7a4, .methodLink RX4 72 yJ0_indexOf_0f7a4] ++ (wsX40 ++ (w_c_look4 ++ (w_c_t_ix_ygx))))
theorem gw_c_readClause_ygx : (w_c_readClause_ygx).all goodWord = true := by decide +kernel
set_option maxHeartbeats 4000000 in
set_option maxRecDepth 100000 in
theorem c_readClause_ygx (l : Launch) (dC : Nat → ClassId) (dI : Nat → Nat → Nat) (h0 : Nat) (q : Nat) (b : Nat) (A : Nat → Prop) (hT : Nat) (t0 : Value) (r1 : Value) (r2 : Value) (r3 : Value) (r4 : Value) (r7 : Value) : Met l yX4_readClause w_c_readClause_ygx ({ frames := 5, cells := 0, slots := 0, locals := 300 }) (kR dC dI [.ref h0] [(h0, .inr (4, [.ref hT, r1, r2, r3, r4, .int 0, .ref q, r7])), (hT, .inr (8, [t0, .int 0]))] [] (kSt q b 3 (kTx [121, 103, 120]) A)) (vp_Si (fun r : Int32 => r = 0)) 0 0 (fun _ => False) := by
  refine Met.ofW (cc := cX4_readClause) (maxL := 5) (ret := (some .boolean)) (by decide) rfl ?_
  intro p e s m args below meth c s₁ B hml hv
  obtain ⟨rfl, hP, hK, hX⟩ := hv
  have hx := B.exec
  have hb := B.bytes
  have hr := B.returns
  have hts := atoms_spec (ws := w_c_readClause_ygx) B.pre
  have hown : s.vm.findClass RX4 = some m.cls := findClass_of_methodNamed B.named
  have hlocks := B.notSynchronized
  have hS : va_S A s.heap s.heap [] := va_S.rf
  have hP : va_P (dC, dI) vwCl [(h0, .inr (4, [.ref hT, r1, r2, r3, r4, .int 0, .ref q, r7])), (hT, .inr (8, [t0, .int 0]))] s.heap := hP
  have hl := lv_entry ([.ref h0]) (n := 5) (Nat.le_of_ble_eq_true rfl)
  rw [lg_entry_eq]
  generalize (lg_sl ([.ref h0]) ++ List.replicate (5 - (lg_sl ([.ref h0])).length) Slot.unset).toArray = ls at hl ⊢
  have hl : lv_has ls 5 [(0, .ref h0)] := hl
  refine lv_aload_n hx hb dX4_readClause_0 rfl (lv_at hl 0 rfl) ?_
  refine va_get (D := (dC, dI)) (ci := 4) (v := .ref q) (C := RX4) (T := TX4) (N := 8) hx hb hts (fun _ h => List.mem_cons_of_mem _ (List.mem_append_right _ (List.mem_append_left _ h))) hown hK hP 0 rfl rfl 6 (by decide) (hts (.fieldLink RX4 30 "NotEnded$Reader" "labelSigns" "Ljava/lang/String;") (List.mem_cons_of_mem _ (List.mem_append_left _ (List.mem_of_getElem? (i := 0) rfl)))) (fun _ h9 => h9) rfl dX4_readClause_1 ?_
  refine lv_aload_n hx hb dX4_readClause_4 rfl (lv_at hl 0 rfl) ?_
  have hPc := hP.sub (ws' := [(h0, .inr (4, [.ref hT, r1, r2, r3, r4, .int 0, .ref q, r7])), (hT, .inr (8, [t0, .int 0]))]) [0, 1] rfl
  have hKc := hK.sub (tys' := []) [] rfl
  refine vp_callSi (va_runV (As := []) (rest := [.ref q]) ⟨hx, hb, hml, hown, hts⟩ (c_look4 l dC dI h0 hT (t0 : Value) (r1 : Value) (r2 : Value) (r3 : Value) (r4 : Value) (.ref q : Value) (r7 : Value)) (cwV 0 hts (kG (List.forall_mem_cons.mpr ⟨(List.mem_cons_of_mem _ (List.mem_append_left _ (List.mem_of_getElem? (i := 4) rfl))), (List.forall_mem_cons.mpr ⟨(List.mem_cons_of_mem _ (List.mem_append_left _ (List.mem_of_getElem? (i := 3) rfl))), (List.forall_mem_cons.mpr ⟨(List.mem_cons_of_mem _ (List.mem_append_left _ (List.mem_of_getElem? (i := 2) rfl))), (List.forall_mem_cons.mpr ⟨(List.mem_cons_of_mem _ (List.mem_append_left _ (List.mem_of_getElem? (i := 1) rfl))), (fun _ h => absurd h List.not_mem_nil)⟩)⟩)⟩)⟩) (by decide +kernel) (fun _ h => List.mem_cons_of_mem _ (List.mem_append_right _ (List.mem_append_right _ (List.mem_append_left _ h)))) gw_c_look4) rfl rfl rfl (by decide +kernel) ⟨(Nat.le_of_ble_eq_true rfl), (Nat.le_of_ble_eq_true rfl)⟩) (kR_V kT_blind kT_give (va_recv hKc hPc (ci := 4) (q0 := 0) rfl rfl) hPc hKc) rfl rfl hl.1 rfl (lv_room (Nat.le_of_ble_eq_true rfl)) dX4_readClause_5 ⟨(Nat.le_of_ble_eq_true rfl), (Nat.le_of_ble_eq_true rfl)⟩).run (fun r_1 hw => ?_)
  obtain rfl : r_1 = 0 := hw
  have hPc := hP.sub (ws' := []) [] rfl
  have hKc := hK.sub (tys' := []) [] rfl
  refine vp_callSi (va_runV (As := [.int 0]) (rest := []) ⟨hx, hb, hml, hown, hts⟩ (c_t_ix_ygx l dC dI q b A) (cwV 1 hts (kG (List.forall_mem_cons.mpr ⟨(List.mem_cons_of_mem _ (List.mem_append_left _ (List.mem_of_getElem? (i := 8) rfl))), (List.forall_mem_cons.mpr ⟨(List.mem_cons_of_mem _ (List.mem_append_left _ (List.mem_of_getElem? (i := 7) rfl))), (List.forall_mem_cons.mpr ⟨(List.mem_cons_of_mem _ (List.mem_append_left _ (List.mem_of_getElem? (i := 6) rfl))), (List.forall_mem_cons.mpr ⟨(List.mem_cons_of_mem _ (List.mem_append_left _ (List.mem_of_getElem? (i := 5) rfl))), (fun _ h => absurd h List.not_mem_nil)⟩)⟩)⟩)⟩) (by decide +kernel) (fun _ h => List.mem_cons_of_mem _ (List.mem_append_right _ (List.mem_append_right _ (List.mem_append_right _ h)))) gw_c_t_ix_ygx) rfl rfl rfl (by decide +kernel) ⟨(Nat.le_of_ble_eq_true rfl), (Nat.le_of_ble_eq_true rfl)⟩) (kR_V kSt_blind (kSt_give hX hS) (kSt_recv hX hS) hPc hKc) rfl rfl hl.1 rfl (lv_room (Nat.le_of_ble_eq_true rfl)) dX4_readClause_8 ⟨(Nat.le_of_ble_eq_true rfl), (Nat.le_of_ble_eq_true rfl)⟩).run (fun r_2 hw => ?_)
  obtain rfl : r_2 = (-1) := hw
  refine lv_istore_n (lv' := [(1, .int (-1)), (0, .ref h0)]) hx hb dX4_readClause_11 rfl hl (by decide) rfl (fun ls hl => ?_)
  refine lv_iload_n hx hb dX4_readClause_12 rfl (lv_at hl 0 rfl) ?_
  refine lv_if_ge (tgt := 18) hx hb dX4_readClause_13 (by decide) (fun c_3 => absurd c_3 (by decide)) (fun c_3 => ?_)
  refine lv_iconst (v := 0) hx hb dX4_readClause_16 (by decide) ?_
  exact W.zret (v := 0) hx hb hr rfl (fun t ht hW => ⟨0, rfl, rfl, ht⟩) (fun _ h => nomatch h) dX4_readClause_17

def w_c_readClause_w : List Cond := .code yX4_readClause cX4_readClause 5 (some .boolean) :: ([.fieldLink RX4 30 "NotEnded$Reader" "labelSigns" "Ljava/lang/String;", .initialized RX4, .selects RX4 yX4_look yX4_look, .instanceMethod yX4_look, .methodLink RX4 53 yX4_look, .initialized RJ0, .selects RJ0 yJ0_indexOf_0f7a4 yJ0_indexOf_0f7a4, .instanceMethod yJ0_indexOf_0f7a4, .methodLink RX4 72 yJ0_indexOf_0f7a4] ++ (wsX40 ++ (w_c_look4 ++ (w_c_t_ix_w))))
theorem gw_c_readClause_w : (w_c_readClause_w).all goodWord = true := by decide +kernel
set_option maxHeartbeats 4000000 in
set_option maxRecDepth 100000 in
theorem c_readClause_w (l : Launch) (dC : Nat → ClassId) (dI : Nat → Nat → Nat) (h0 : Nat) (q : Nat) (b : Nat) (A : Nat → Prop) (hT : Nat) (t0 : Value) (r1 : Value) (r2 : Value) (r3 : Value) (r4 : Value) (r7 : Value) : Met l yX4_readClause w_c_readClause_w ({ frames := 5, cells := 0, slots := 0, locals := 300 }) (kR dC dI [.ref h0] [(h0, .inr (4, [.ref hT, r1, r2, r3, r4, .int 0, .ref q, r7])), (hT, .inr (8, [t0, .int 0]))] [] (kSt q b 1 (kTx [119]) A)) (vp_Si (fun r : Int32 => r = 0)) 0 0 (fun _ => False) := by
  refine Met.ofW (cc := cX4_readClause) (maxL := 5) (ret := (some .boolean)) (by decide) rfl ?_
  intro p e s m args below meth c s₁ B hml hv
  obtain ⟨rfl, hP, hK, hX⟩ := hv
  have hx := B.exec
  have hb := B.bytes
  have hr := B.returns
  have hts := atoms_spec (ws := w_c_readClause_w) B.pre
  have hown : s.vm.findClass RX4 = some m.cls := findClass_of_methodNamed B.named
  have hlocks := B.notSynchronized
  have hS : va_S A s.heap s.heap [] := va_S.rf
  have hP : va_P (dC, dI) vwCl [(h0, .inr (4, [.ref hT, r1, r2, r3, r4, .int 0, .ref q, r7])), (hT, .inr (8, [t0, .int 0]))] s.heap := hP
  have hl := lv_entry ([.ref h0]) (n := 5) (Nat.le_of_ble_eq_true rfl)
  rw [lg_entry_eq]
  generalize (lg_sl ([.ref h0]) ++ List.replicate (5 - (lg_sl ([.ref h0])).length) Slot.unset).toArray = ls at hl ⊢
  have hl : lv_has ls 5 [(0, .ref h0)] := hl
  refine lv_aload_n hx hb dX4_readClause_0 rfl (lv_at hl 0 rfl) ?_
  refine va_get (D := (dC, dI)) (ci := 4) (v := .ref q) (C := RX4) (T := TX4) (N := 8) hx hb hts (fun _ h => List.mem_cons_of_mem _ (List.mem_append_right _ (List.mem_append_left _ h))) hown hK hP 0 rfl rfl 6 (by decide) (hts (.fieldLink RX4 30 "NotEnded$Reader" "labelSigns" "Ljava/lang/String;") (List.mem_cons_of_mem _ (List.mem_append_left _ (List.mem_of_getElem? (i := 0) rfl)))) (fun _ h9 => h9) rfl dX4_readClause_1 ?_
  refine lv_aload_n hx hb dX4_readClause_4 rfl (lv_at hl 0 rfl) ?_
  have hPc := hP.sub (ws' := [(h0, .inr (4, [.ref hT, r1, r2, r3, r4, .int 0, .ref q, r7])), (hT, .inr (8, [t0, .int 0]))]) [0, 1] rfl
  have hKc := hK.sub (tys' := []) [] rfl
  refine vp_callSi (va_runV (As := []) (rest := [.ref q]) ⟨hx, hb, hml, hown, hts⟩ (c_look4 l dC dI h0 hT (t0 : Value) (r1 : Value) (r2 : Value) (r3 : Value) (r4 : Value) (.ref q : Value) (r7 : Value)) (cwV 0 hts (kG (List.forall_mem_cons.mpr ⟨(List.mem_cons_of_mem _ (List.mem_append_left _ (List.mem_of_getElem? (i := 4) rfl))), (List.forall_mem_cons.mpr ⟨(List.mem_cons_of_mem _ (List.mem_append_left _ (List.mem_of_getElem? (i := 3) rfl))), (List.forall_mem_cons.mpr ⟨(List.mem_cons_of_mem _ (List.mem_append_left _ (List.mem_of_getElem? (i := 2) rfl))), (List.forall_mem_cons.mpr ⟨(List.mem_cons_of_mem _ (List.mem_append_left _ (List.mem_of_getElem? (i := 1) rfl))), (fun _ h => absurd h List.not_mem_nil)⟩)⟩)⟩)⟩) (by decide +kernel) (fun _ h => List.mem_cons_of_mem _ (List.mem_append_right _ (List.mem_append_right _ (List.mem_append_left _ h)))) gw_c_look4) rfl rfl rfl (by decide +kernel) ⟨(Nat.le_of_ble_eq_true rfl), (Nat.le_of_ble_eq_true rfl)⟩) (kR_V kT_blind kT_give (va_recv hKc hPc (ci := 4) (q0 := 0) rfl rfl) hPc hKc) rfl rfl hl.1 rfl (lv_room (Nat.le_of_ble_eq_true rfl)) dX4_readClause_5 ⟨(Nat.le_of_ble_eq_true rfl), (Nat.le_of_ble_eq_true rfl)⟩).run (fun r_1 hw => ?_)
  obtain rfl : r_1 = 0 := hw
  have hPc := hP.sub (ws' := []) [] rfl
  have hKc := hK.sub (tys' := []) [] rfl
  refine vp_callSi (va_runV (As := [.int 0]) (rest := []) ⟨hx, hb, hml, hown, hts⟩ (c_t_ix_w l dC dI q b A) (cwV 1 hts (kG (List.forall_mem_cons.mpr ⟨(List.mem_cons_of_mem _ (List.mem_append_left _ (List.mem_of_getElem? (i := 8) rfl))), (List.forall_mem_cons.mpr ⟨(List.mem_cons_of_mem _ (List.mem_append_left _ (List.mem_of_getElem? (i := 7) rfl))), (List.forall_mem_cons.mpr ⟨(List.mem_cons_of_mem _ (List.mem_append_left _ (List.mem_of_getElem? (i := 6) rfl))), (List.forall_mem_cons.mpr ⟨(List.mem_cons_of_mem _ (List.mem_append_left _ (List.mem_of_getElem? (i := 5) rfl))), (fun _ h => absurd h List.not_mem_nil)⟩)⟩)⟩)⟩) (by decide +kernel) (fun _ h => List.mem_cons_of_mem _ (List.mem_append_right _ (List.mem_append_right _ (List.mem_append_right _ h)))) gw_c_t_ix_w) rfl rfl rfl (by decide +kernel) ⟨(Nat.le_of_ble_eq_true rfl), (Nat.le_of_ble_eq_true rfl)⟩) (kR_V kSt_blind (kSt_give hX hS) (kSt_recv hX hS) hPc hKc) rfl rfl hl.1 rfl (lv_room (Nat.le_of_ble_eq_true rfl)) dX4_readClause_8 ⟨(Nat.le_of_ble_eq_true rfl), (Nat.le_of_ble_eq_true rfl)⟩).run (fun r_2 hw => ?_)
  obtain rfl : r_2 = (-1) := hw
  refine lv_istore_n (lv' := [(1, .int (-1)), (0, .ref h0)]) hx hb dX4_readClause_11 rfl hl (by decide) rfl (fun ls hl => ?_)
  refine lv_iload_n hx hb dX4_readClause_12 rfl (lv_at hl 0 rfl) ?_
  refine lv_if_ge (tgt := 18) hx hb dX4_readClause_13 (by decide) (fun c_3 => absurd c_3 (by decide)) (fun c_3 => ?_)
  refine lv_iconst (v := 0) hx hb dX4_readClause_16 (by decide) ?_
  exact W.zret (v := 0) hx hb hr rfl (fun t ht hW => ⟨0, rfl, rfl, ht⟩) (fun _ h => nomatch h) dX4_readClause_17

theorem dX4_read_0 : decode cX4_read 0 = .ok (.aload_n 0, 1) := by decide +kernel
theorem dX4_read_1 : decode cX4_read 1 = .ok (.iload_n 1, 1) := by decide +kernel
theorem dX4_read_2 : decode cX4_read 2 = .ok (.ifCond .ne 8, 3) := by decide +kernel
theorem dX4_read_5 : decode cX4_read 5 = .ok (.ldc 41, 2) := by decide +kernel
theorem dX4_read_7 : decode cX4_read 7 = .ok (.goto 5, 3) := by decide +kernel
theorem dX4_read_12 : decode cX4_read 12 = .ok (.putfield 30, 3) := by decide +kernel
theorem dX4_read_15 : decode cX4_read 15 = .ok (.aload_n 0, 1) := by decide +kernel
theorem dX4_read_16 : decode cX4_read 16 = .ok (.iload_n 1, 1) := by decide +kernel
theorem dX4_read_17 : decode cX4_read 17 = .ok (.ifCond .ne 8, 3) := by decide +kernel
theorem dX4_read_20 : decode cX4_read 20 = .ok (.ldc 45, 2) := by decide +kernel
theorem dX4_read_22 : decode cX4_read 22 = .ok (.goto 5, 3) := by decide +kernel
theorem dX4_read_27 : decode cX4_read 27 = .ok (.putfield 34, 3) := by decide +kernel
theorem dX4_read_30 : decode cX4_read 30 = .ok (.aload_n 0, 1) := by decide +kernel
theorem dX4_read_31 : decode cX4_read 31 = .ok (.iconst 0, 1) := by decide +kernel
theorem dX4_read_32 : decode cX4_read 32 = .ok (.putfield 18, 3) := by decide +kernel
theorem dX4_read_35 : decode cX4_read 35 = .ok (.aload_n 0, 1) := by decide +kernel
theorem dX4_read_36 : decode cX4_read 36 = .ok (.iconst 0, 1) := by decide +kernel
theorem dX4_read_37 : decode cX4_read 37 = .ok (.putfield 22, 3) := by decide +kernel
theorem dX4_read_40 : decode cX4_read 40 = .ok (.aload_n 0, 1) := by decide +kernel
theorem dX4_read_41 : decode cX4_read 41 = .ok (.iconst 0, 1) := by decide +kernel
theorem dX4_read_42 : decode cX4_read 42 = .ok (.putfield 25, 3) := by decide +kernel
theorem dX4_read_45 : decode cX4_read 45 = .ok (.iconst 0, 1) := by decide +kernel
theorem dX4_read_46 : decode cX4_read 46 = .ok (.istore_n 2, 1) := by decide +kernel
theorem dX4_read_47 : decode cX4_read 47 = .ok (.iload_n 2, 1) := by decide +kernel
theorem dX4_read_48 : decode cX4_read 48 = .ok (.bipush 31, 2) := by decide +kernel
theorem dX4_read_50 : decode cX4_read 50 = .ok (.if_icmp .ge 44, 3) := by decide +kernel
theorem dX4_read_53 : decode cX4_read 53 = .ok (.aload_n 0, 1) := by decide +kernel
theorem dX4_read_54 : decode cX4_read 54 = .ok (.invokevirtual 49, 3) := by decide +kernel
theorem dX4_read_57 : decode cX4_read 57 = .ok (.ifCond .ne 8, 3) := by decide +kernel
theorem dX4_read_60 : decode cX4_read 60 = .ok (.aload_n 0, 1) := by decide +kernel
theorem dX4_read_61 : decode cX4_read 61 = .ok (.getfield 25, 3) := by decide +kernel
theorem dX4_read_64 : decode cX4_read 64 = .ok (.ireturn, 1) := by decide +kernel
def w_c_read_ygx : List Cond := .code yX4_read cX4_read 3 (some .int) :: ([.fieldLink RX4 30 "NotEnded$Reader" "labelSigns" "Ljava/lang/String;", .fieldLink RX4 34 "NotEnded$Reader" "letterSigns" "Ljava/lang/String;", .fieldLink RX4 18 "NotEnded$Reader" "written" "I", .fieldLink RX4 22 "NotEnded$Reader" "filled" "I", .fieldLink RX4 25 "NotEnded$Reader" "place" "I", .initialized RX4, .selects RX4 yX4_readClause yX4_readClause, .instanceMethod yX4_readClause, .methodLink RX4 49 yX4_readClause] ++ (wsX40 ++ (w_c_readClause_ygx)))
theorem gw_c_read_ygx : (w_c_read_ygx).all goodWord = true := by decide +kernel
set_option maxHeartbeats 4000000 in
set_option maxRecDepth 100000 in
theorem c_read_ygx (l : Launch) (dC : Nat → ClassId) (dI : Nat → Nat → Nat) (ad : Nat → Nat) (bA : Nat) (bB : Nat) (h0 : Nat) (hT : Nat) (t0 : Value) (r1 : Value) (r2 : Value) (r3 : Value) (r4 : Value) (r6 : Value) (r7 : Value) (sz : Nat) : Met l yX4_read w_c_read_ygx ({ frames := 6, cells := 0, slots := 0, locals := 360 }) (kW dC dI [.ref h0, .int 0] [(h0, .inr (4, [.ref hT, r1, r2, r3, r4, .int 0, r6, r7])), (hT, .inr (8, [t0, .int 0]))] [] (kF ad 1 2 bA bB (va_A [(h0, .inr (4, [.ref hT, r1, r2, r3, r4, .int 0, r6, r7])), (hT, .inr (8, [t0, .int 0]))] sz)) sz) (va_Qi (fun (r : Int32) (_ : Unit) => r = 0) (fun _ _ => True) (va_A [(h0, .inr (4, [.ref hT, r1, r2, r3, r4, .int 0, r6, r7])), (hT, .inr (8, [t0, .int 0]))] sz)) 0 0 (va_A [(h0, .inr (4, [.ref hT, r1, r2, r3, r4, .int 0, r6, r7])), (hT, .inr (8, [t0, .int 0]))] sz) := by
  refine Met.ofW (cc := cX4_read) (maxL := 3) (ret := (some .int)) (by decide) rfl ?_
  intro p e s m args below meth c s₁ B hml hv
  obtain ⟨rfl, hsz, hP, hK, hD0, hX⟩ := hv
  have hx := B.exec
  have hb := B.bytes
  have hr := B.returns
  have hts := atoms_spec (ws := w_c_read_ygx) B.pre
  have hown : s.vm.findClass RX4 = some m.cls := findClass_of_methodNamed B.named
  have hlocks := B.notSynchronized
  subst hsz
  have hD := hD0.self (sz := s.heap.size)
  generalize hAe : va_A [(h0, .inr (4, [.ref hT, r1, r2, r3, r4, .int 0, r6, r7])), (hT, .inr (8, [t0, .int 0]))] s.heap.size = A at hD hX ⊢
  have hA : ∀ q : Nat, s.heap.size ≤ q → A q := fun q h => by rw [← hAe]; exact Or.inr h
  have hS : va_S A s.heap s.heap [] := va_S.rf
  have hP : va_P (dC, dI) vwCl [(h0, .inr (4, [.ref hT, r1, r2, r3, r4, .int 0, r6, r7])), (hT, .inr (8, [t0, .int 0]))] s.heap := hP
  have hl := lv_entry ([.ref h0, .int 0]) (n := 3) (Nat.le_of_ble_eq_true rfl)
  rw [lg_entry_eq]
  generalize (lg_sl ([.ref h0, .int 0]) ++ List.replicate (3 - (lg_sl ([.ref h0, .int 0])).length) Slot.unset).toArray = ls at hl ⊢
  have hl : lv_has ls 3 [(0, .ref h0), (1, .int 0)] := hl
  refine lv_aload_n hx hb dX4_read_0 rfl (lv_at hl 0 rfl) ?_
  refine lv_iload_n hx hb dX4_read_1 rfl (lv_at hl 1 rfl) ?_
  refine lv_if_ne (tgt := 10) hx hb dX4_read_2 (by decide) (fun c_1 => absurd (by decide) c_1) (fun c_1 => ?_)
  refine va_ldcS hx hb hown hX.1.2.1 dX4_read_5 ?_
  refine lv_goto (tgt := 12) hx hb dX4_read_7 (by decide) ?_
  refine va_put (D := (dC, dI)) (ci := 4) (v := .ref (ad 1)) (ty := tyX4 6) (C := RX4) (T := TX4) (N := 8) hx hb hts (fun _ h => List.mem_cons_of_mem _ (List.mem_append_right _ (List.mem_append_left _ h))) tyX4 tyX4_ok nmX4 hown hK hP hD hS 0 rfl rfl 6 (by decide) (hts (.fieldLink RX4 30 "NotEnded$Reader" "labelSigns" "Ljava/lang/String;") (List.mem_cons_of_mem _ (List.mem_append_left _ (List.mem_of_getElem? (i := 0) rfl)))) (fun _ h9 => h9) rfl (tyX4_ok 6 (by decide)) rfl rfl (Nat.le_of_ble_eq_true rfl) dX4_read_12 (fun H locs hP hD hS => ?_)
  have hP : va_P (dC, dI) vwCl [(h0, .inr (4, [.ref hT, r1, r2, r3, r4, .int 0, .ref (ad 1), r7])), (hT, .inr (8, [t0, .int 0]))] H := hP
  have hD : va_D A [(h0, .inr (4, [.ref hT, r1, r2, r3, r4, .int 0, .ref (ad 1), r7])), (hT, .inr (8, [t0, .int 0]))] := hD
  refine lv_aload_n hx hb dX4_read_15 rfl (lv_at hl 0 rfl) ?_
  refine lv_iload_n hx hb dX4_read_16 rfl (lv_at hl 1 rfl) ?_
  refine lv_if_ne (tgt := 25) hx hb dX4_read_17 (by decide) (fun c_2 => absurd (by decide) c_2) (fun c_2 => ?_)
  refine va_ldcS hx hb hown hX.1.2.2.2.1 dX4_read_20 ?_
  refine lv_goto (tgt := 27) hx hb dX4_read_22 (by decide) ?_
  refine va_put (D := (dC, dI)) (ci := 4) (v := .ref (ad 3)) (ty := tyX4 7) (C := RX4) (T := TX4) (N := 8) hx hb hts (fun _ h => List.mem_cons_of_mem _ (List.mem_append_right _ (List.mem_append_left _ h))) tyX4 tyX4_ok nmX4 hown hK hP hD hS 0 rfl rfl 7 (by decide) (hts (.fieldLink RX4 34 "NotEnded$Reader" "letterSigns" "Ljava/lang/String;") (List.mem_cons_of_mem _ (List.mem_append_left _ (List.mem_of_getElem? (i := 1) rfl)))) (fun _ h9 => h9) rfl (tyX4_ok 7 (by decide)) rfl rfl (Nat.le_of_ble_eq_true rfl) dX4_read_27 (fun H locs hP hD hS => ?_)
  have hP : va_P (dC, dI) vwCl [(h0, .inr (4, [.ref hT, r1, r2, r3, r4, .int 0, .ref (ad 1), .ref (ad 3)])), (hT, .inr (8, [t0, .int 0]))] H := hP
  have hD : va_D A [(h0, .inr (4, [.ref hT, r1, r2, r3, r4, .int 0, .ref (ad 1), .ref (ad 3)])), (hT, .inr (8, [t0, .int 0]))] := hD
  refine lv_aload_n hx hb dX4_read_30 rfl (lv_at hl 0 rfl) ?_
  refine lv_iconst (v := 0) hx hb dX4_read_31 (by decide) ?_
  refine va_put (D := (dC, dI)) (ci := 4) (v := .int 0) (ty := tyX4 3) (C := RX4) (T := TX4) (N := 8) hx hb hts (fun _ h => List.mem_cons_of_mem _ (List.mem_append_right _ (List.mem_append_left _ h))) tyX4 tyX4_ok nmX4 hown hK hP hD hS 0 rfl rfl 3 (by decide) (hts (.fieldLink RX4 18 "NotEnded$Reader" "written" "I") (List.mem_cons_of_mem _ (List.mem_append_left _ (List.mem_of_getElem? (i := 2) rfl)))) (fun _ h9 => h9) rfl (tyX4_ok 3 (by decide)) rfl rfl (Nat.le_of_ble_eq_true rfl) dX4_read_32 (fun H locs hP hD hS => ?_)
  have hP : va_P (dC, dI) vwCl [(h0, .inr (4, [.ref hT, r1, r2, .int 0, r4, .int 0, .ref (ad 1), .ref (ad 3)])), (hT, .inr (8, [t0, .int 0]))] H := hP
  have hD : va_D A [(h0, .inr (4, [.ref hT, r1, r2, .int 0, r4, .int 0, .ref (ad 1), .ref (ad 3)])), (hT, .inr (8, [t0, .int 0]))] := hD
  refine lv_aload_n hx hb dX4_read_35 rfl (lv_at hl 0 rfl) ?_
  refine lv_iconst (v := 0) hx hb dX4_read_36 (by decide) ?_
  refine va_put (D := (dC, dI)) (ci := 4) (v := .int 0) (ty := tyX4 4) (C := RX4) (T := TX4) (N := 8) hx hb hts (fun _ h => List.mem_cons_of_mem _ (List.mem_append_right _ (List.mem_append_left _ h))) tyX4 tyX4_ok nmX4 hown hK hP hD hS 0 rfl rfl 4 (by decide) (hts (.fieldLink RX4 22 "NotEnded$Reader" "filled" "I") (List.mem_cons_of_mem _ (List.mem_append_left _ (List.mem_of_getElem? (i := 3) rfl)))) (fun _ h9 => h9) rfl (tyX4_ok 4 (by decide)) rfl rfl (Nat.le_of_ble_eq_true rfl) dX4_read_37 (fun H locs hP hD hS => ?_)
  have hP : va_P (dC, dI) vwCl [(h0, .inr (4, [.ref hT, r1, r2, .int 0, .int 0, .int 0, .ref (ad 1), .ref (ad 3)])), (hT, .inr (8, [t0, .int 0]))] H := hP
  have hD : va_D A [(h0, .inr (4, [.ref hT, r1, r2, .int 0, .int 0, .int 0, .ref (ad 1), .ref (ad 3)])), (hT, .inr (8, [t0, .int 0]))] := hD
  refine lv_aload_n hx hb dX4_read_40 rfl (lv_at hl 0 rfl) ?_
  refine lv_iconst (v := 0) hx hb dX4_read_41 (by decide) ?_
  refine va_put (D := (dC, dI)) (ci := 4) (v := .int 0) (ty := tyX4 5) (C := RX4) (T := TX4) (N := 8) hx hb hts (fun _ h => List.mem_cons_of_mem _ (List.mem_append_right _ (List.mem_append_left _ h))) tyX4 tyX4_ok nmX4 hown hK hP hD hS 0 rfl rfl 5 (by decide) (hts (.fieldLink RX4 25 "NotEnded$Reader" "place" "I") (List.mem_cons_of_mem _ (List.mem_append_left _ (List.mem_of_getElem? (i := 4) rfl)))) (fun _ h9 => h9) rfl (tyX4_ok 5 (by decide)) rfl rfl (Nat.le_of_ble_eq_true rfl) dX4_read_42 (fun H locs hP hD hS => ?_)
  have hP : va_P (dC, dI) vwCl [(h0, .inr (4, [.ref hT, r1, r2, .int 0, .int 0, .int 0, .ref (ad 1), .ref (ad 3)])), (hT, .inr (8, [t0, .int 0]))] H := hP
  have hD : va_D A [(h0, .inr (4, [.ref hT, r1, r2, .int 0, .int 0, .int 0, .ref (ad 1), .ref (ad 3)])), (hT, .inr (8, [t0, .int 0]))] := hD
  refine lv_iconst (v := 0) hx hb dX4_read_45 (by decide) ?_
  refine lv_istore_n (lv' := [(2, .int 0), (0, .ref h0), (1, .int 0)]) hx hb dX4_read_46 rfl hl (by decide) rfl (fun ls hl => ?_)
  refine lv_iload_n hx hb dX4_read_47 rfl (lv_at hl 0 rfl) ?_
  refine lv_bipush (v := 31) hx hb dX4_read_48 (by decide) ?_
  refine lv_icmp_ge (tgt := 94) hx hb dX4_read_50 (by decide) (fun c_3 => absurd c_3 (by decide)) (fun c_3 => ?_)
  refine lv_aload_n hx hb dX4_read_53 rfl (lv_at hl 1 rfl) ?_
  have hPc := hP.sub (ws' := [(h0, .inr (4, [.ref hT, r1, r2, .int 0, .int 0, .int 0, .ref (ad 1), .ref (ad 3)])), (hT, .inr (8, [t0, .int 0]))]) [0, 1] rfl
  have hKc := hK.sub (tys' := []) [] rfl
  refine vp_callSi (va_runV (As := []) (rest := []) ⟨hx, hb, hml, hown, hts⟩ (c_readClause_ygx l dC dI h0 (ad 1) bA A hT (t0 : Value) (r1 : Value) (r2 : Value) (.int 0 : Value) (.int 0 : Value) (.ref (ad 3) : Value)) (cwV 0 hts (kG (List.forall_mem_cons.mpr ⟨(List.mem_cons_of_mem _ (List.mem_append_left _ (List.mem_of_getElem? (i := 8) rfl))), (List.forall_mem_cons.mpr ⟨(List.mem_cons_of_mem _ (List.mem_append_left _ (List.mem_of_getElem? (i := 7) rfl))), (List.forall_mem_cons.mpr ⟨(List.mem_cons_of_mem _ (List.mem_append_left _ (List.mem_of_getElem? (i := 6) rfl))), (List.forall_mem_cons.mpr ⟨(List.mem_cons_of_mem _ (List.mem_append_left _ (List.mem_of_getElem? (i := 5) rfl))), (fun _ h => absurd h List.not_mem_nil)⟩)⟩)⟩)⟩) (by decide +kernel) (fun _ h => List.mem_cons_of_mem _ (List.mem_append_right _ (List.mem_append_right _ h))) gw_c_readClause_ygx) rfl rfl rfl (by decide +kernel) ⟨(Nat.le_of_ble_eq_true rfl), (Nat.le_of_ble_eq_true rfl)⟩) (kR_V kSt_blind (kSt_give hX.2.1 hS) (va_recv hKc hPc (ci := 4) (q0 := 0) rfl rfl) hPc hKc) rfl rfl hl.1 rfl (lv_room (Nat.le_of_ble_eq_true rfl)) dX4_read_54 ⟨(Nat.le_of_ble_eq_true rfl), (Nat.le_of_ble_eq_true rfl)⟩).run (fun r_4 hw => ?_)
  obtain rfl : r_4 = 0 := hw
  refine lv_if_ne (tgt := 65) hx hb dX4_read_57 (by decide) (fun c_5 => absurd (by decide) c_5) (fun c_5 => ?_)
  refine lv_aload_n hx hb dX4_read_60 rfl (lv_at hl 1 rfl) ?_
  refine va_get (D := (dC, dI)) (ci := 4) (v := .int 0) (C := RX4) (T := TX4) (N := 8) hx hb hts (fun _ h => List.mem_cons_of_mem _ (List.mem_append_right _ (List.mem_append_left _ h))) hown hK hP 0 rfl rfl 5 (by decide) (hts (.fieldLink RX4 25 "NotEnded$Reader" "place" "I") (List.mem_cons_of_mem _ (List.mem_append_left _ (List.mem_of_getElem? (i := 4) rfl)))) (fun _ h9 => h9) rfl dX4_read_61 ?_
  exact W.iret (v := 0) hx hb hr (fun t ht hW => ⟨⟨0, (), rfl, rfl, trivial⟩, hS.F ht⟩) hS.2.2 dX4_read_64

theorem dX4_read_10 : decode cX4_read 10 = .ok (.ldc 43, 2) := by decide +kernel
theorem dX4_read_25 : decode cX4_read 25 = .ok (.ldc 47, 2) := by decide +kernel
def w_c_read_w : List Cond := .code yX4_read cX4_read 3 (some .int) :: ([.fieldLink RX4 30 "NotEnded$Reader" "labelSigns" "Ljava/lang/String;", .fieldLink RX4 34 "NotEnded$Reader" "letterSigns" "Ljava/lang/String;", .fieldLink RX4 18 "NotEnded$Reader" "written" "I", .fieldLink RX4 22 "NotEnded$Reader" "filled" "I", .fieldLink RX4 25 "NotEnded$Reader" "place" "I", .initialized RX4, .selects RX4 yX4_readClause yX4_readClause, .instanceMethod yX4_readClause, .methodLink RX4 49 yX4_readClause] ++ (wsX40 ++ (w_c_readClause_w)))
theorem gw_c_read_w : (w_c_read_w).all goodWord = true := by decide +kernel
set_option maxHeartbeats 4000000 in
set_option maxRecDepth 100000 in
theorem c_read_w (l : Launch) (dC : Nat → ClassId) (dI : Nat → Nat → Nat) (ad : Nat → Nat) (bA : Nat) (bB : Nat) (h0 : Nat) (hT : Nat) (t0 : Value) (r1 : Value) (r2 : Value) (r3 : Value) (r4 : Value) (r6 : Value) (r7 : Value) (sz : Nat) : Met l yX4_read w_c_read_w ({ frames := 6, cells := 0, slots := 0, locals := 360 }) (kW dC dI [.ref h0, .int 1] [(h0, .inr (4, [.ref hT, r1, r2, r3, r4, .int 0, r6, r7])), (hT, .inr (8, [t0, .int 0]))] [] (kF ad 1 2 bA bB (va_A [(h0, .inr (4, [.ref hT, r1, r2, r3, r4, .int 0, r6, r7])), (hT, .inr (8, [t0, .int 0]))] sz)) sz) (va_Qi (fun (r : Int32) (_ : Unit) => r = 0) (fun _ _ => True) (va_A [(h0, .inr (4, [.ref hT, r1, r2, r3, r4, .int 0, r6, r7])), (hT, .inr (8, [t0, .int 0]))] sz)) 0 0 (va_A [(h0, .inr (4, [.ref hT, r1, r2, r3, r4, .int 0, r6, r7])), (hT, .inr (8, [t0, .int 0]))] sz) := by
  refine Met.ofW (cc := cX4_read) (maxL := 3) (ret := (some .int)) (by decide) rfl ?_
  intro p e s m args below meth c s₁ B hml hv
  obtain ⟨rfl, hsz, hP, hK, hD0, hX⟩ := hv
  have hx := B.exec
  have hb := B.bytes
  have hr := B.returns
  have hts := atoms_spec (ws := w_c_read_w) B.pre
  have hown : s.vm.findClass RX4 = some m.cls := findClass_of_methodNamed B.named
  have hlocks := B.notSynchronized
  subst hsz
  have hD := hD0.self (sz := s.heap.size)
  generalize hAe : va_A [(h0, .inr (4, [.ref hT, r1, r2, r3, r4, .int 0, r6, r7])), (hT, .inr (8, [t0, .int 0]))] s.heap.size = A at hD hX ⊢
  have hA : ∀ q : Nat, s.heap.size ≤ q → A q := fun q h => by rw [← hAe]; exact Or.inr h
  have hS : va_S A s.heap s.heap [] := va_S.rf
  have hP : va_P (dC, dI) vwCl [(h0, .inr (4, [.ref hT, r1, r2, r3, r4, .int 0, r6, r7])), (hT, .inr (8, [t0, .int 0]))] s.heap := hP
  have hl := lv_entry ([.ref h0, .int 1]) (n := 3) (Nat.le_of_ble_eq_true rfl)
  rw [lg_entry_eq]
  generalize (lg_sl ([.ref h0, .int 1]) ++ List.replicate (3 - (lg_sl ([.ref h0, .int 1])).length) Slot.unset).toArray = ls at hl ⊢
  have hl : lv_has ls 3 [(0, .ref h0), (1, .int 1)] := hl
  refine lv_aload_n hx hb dX4_read_0 rfl (lv_at hl 0 rfl) ?_
  refine lv_iload_n hx hb dX4_read_1 rfl (lv_at hl 1 rfl) ?_
  refine lv_if_ne (tgt := 10) hx hb dX4_read_2 (by decide) (fun c_1 => ?_) (fun c_1 => absurd c_1 (by decide))
  refine va_ldcS hx hb hown hX.1.2.2.1 dX4_read_10 ?_
  refine va_put (D := (dC, dI)) (ci := 4) (v := .ref (ad 2)) (ty := tyX4 6) (C := RX4) (T := TX4) (N := 8) hx hb hts (fun _ h => List.mem_cons_of_mem _ (List.mem_append_right _ (List.mem_append_left _ h))) tyX4 tyX4_ok nmX4 hown hK hP hD hS 0 rfl rfl 6 (by decide) (hts (.fieldLink RX4 30 "NotEnded$Reader" "labelSigns" "Ljava/lang/String;") (List.mem_cons_of_mem _ (List.mem_append_left _ (List.mem_of_getElem? (i := 0) rfl)))) (fun _ h9 => h9) rfl (tyX4_ok 6 (by decide)) rfl rfl (Nat.le_of_ble_eq_true rfl) dX4_read_12 (fun H locs hP hD hS => ?_)
  have hP : va_P (dC, dI) vwCl [(h0, .inr (4, [.ref hT, r1, r2, r3, r4, .int 0, .ref (ad 2), r7])), (hT, .inr (8, [t0, .int 0]))] H := hP
  have hD : va_D A [(h0, .inr (4, [.ref hT, r1, r2, r3, r4, .int 0, .ref (ad 2), r7])), (hT, .inr (8, [t0, .int 0]))] := hD
  refine lv_aload_n hx hb dX4_read_15 rfl (lv_at hl 0 rfl) ?_
  refine lv_iload_n hx hb dX4_read_16 rfl (lv_at hl 1 rfl) ?_
  refine lv_if_ne (tgt := 25) hx hb dX4_read_17 (by decide) (fun c_2 => ?_) (fun c_2 => absurd c_2 (by decide))
  refine va_ldcS hx hb hown hX.1.2.2.2.2.1 dX4_read_25 ?_
  refine va_put (D := (dC, dI)) (ci := 4) (v := .ref (ad 4)) (ty := tyX4 7) (C := RX4) (T := TX4) (N := 8) hx hb hts (fun _ h => List.mem_cons_of_mem _ (List.mem_append_right _ (List.mem_append_left _ h))) tyX4 tyX4_ok nmX4 hown hK hP hD hS 0 rfl rfl 7 (by decide) (hts (.fieldLink RX4 34 "NotEnded$Reader" "letterSigns" "Ljava/lang/String;") (List.mem_cons_of_mem _ (List.mem_append_left _ (List.mem_of_getElem? (i := 1) rfl)))) (fun _ h9 => h9) rfl (tyX4_ok 7 (by decide)) rfl rfl (Nat.le_of_ble_eq_true rfl) dX4_read_27 (fun H locs hP hD hS => ?_)
  have hP : va_P (dC, dI) vwCl [(h0, .inr (4, [.ref hT, r1, r2, r3, r4, .int 0, .ref (ad 2), .ref (ad 4)])), (hT, .inr (8, [t0, .int 0]))] H := hP
  have hD : va_D A [(h0, .inr (4, [.ref hT, r1, r2, r3, r4, .int 0, .ref (ad 2), .ref (ad 4)])), (hT, .inr (8, [t0, .int 0]))] := hD
  refine lv_aload_n hx hb dX4_read_30 rfl (lv_at hl 0 rfl) ?_
  refine lv_iconst (v := 0) hx hb dX4_read_31 (by decide) ?_
  refine va_put (D := (dC, dI)) (ci := 4) (v := .int 0) (ty := tyX4 3) (C := RX4) (T := TX4) (N := 8) hx hb hts (fun _ h => List.mem_cons_of_mem _ (List.mem_append_right _ (List.mem_append_left _ h))) tyX4 tyX4_ok nmX4 hown hK hP hD hS 0 rfl rfl 3 (by decide) (hts (.fieldLink RX4 18 "NotEnded$Reader" "written" "I") (List.mem_cons_of_mem _ (List.mem_append_left _ (List.mem_of_getElem? (i := 2) rfl)))) (fun _ h9 => h9) rfl (tyX4_ok 3 (by decide)) rfl rfl (Nat.le_of_ble_eq_true rfl) dX4_read_32 (fun H locs hP hD hS => ?_)
  have hP : va_P (dC, dI) vwCl [(h0, .inr (4, [.ref hT, r1, r2, .int 0, r4, .int 0, .ref (ad 2), .ref (ad 4)])), (hT, .inr (8, [t0, .int 0]))] H := hP
  have hD : va_D A [(h0, .inr (4, [.ref hT, r1, r2, .int 0, r4, .int 0, .ref (ad 2), .ref (ad 4)])), (hT, .inr (8, [t0, .int 0]))] := hD
  refine lv_aload_n hx hb dX4_read_35 rfl (lv_at hl 0 rfl) ?_
  refine lv_iconst (v := 0) hx hb dX4_read_36 (by decide) ?_
  refine va_put (D := (dC, dI)) (ci := 4) (v := .int 0) (ty := tyX4 4) (C := RX4) (T := TX4) (N := 8) hx hb hts (fun _ h => List.mem_cons_of_mem _ (List.mem_append_right _ (List.mem_append_left _ h))) tyX4 tyX4_ok nmX4 hown hK hP hD hS 0 rfl rfl 4 (by decide) (hts (.fieldLink RX4 22 "NotEnded$Reader" "filled" "I") (List.mem_cons_of_mem _ (List.mem_append_left _ (List.mem_of_getElem? (i := 3) rfl)))) (fun _ h9 => h9) rfl (tyX4_ok 4 (by decide)) rfl rfl (Nat.le_of_ble_eq_true rfl) dX4_read_37 (fun H locs hP hD hS => ?_)
  have hP : va_P (dC, dI) vwCl [(h0, .inr (4, [.ref hT, r1, r2, .int 0, .int 0, .int 0, .ref (ad 2), .ref (ad 4)])), (hT, .inr (8, [t0, .int 0]))] H := hP
  have hD : va_D A [(h0, .inr (4, [.ref hT, r1, r2, .int 0, .int 0, .int 0, .ref (ad 2), .ref (ad 4)])), (hT, .inr (8, [t0, .int 0]))] := hD
  refine lv_aload_n hx hb dX4_read_40 rfl (lv_at hl 0 rfl) ?_
  refine lv_iconst (v := 0) hx hb dX4_read_41 (by decide) ?_
  refine va_put (D := (dC, dI)) (ci := 4) (v := .int 0) (ty := tyX4 5) (C := RX4) (T := TX4) (N := 8) hx hb hts (fun _ h => List.mem_cons_of_mem _ (List.mem_append_right _ (List.mem_append_left _ h))) tyX4 tyX4_ok nmX4 hown hK hP hD hS 0 rfl rfl 5 (by decide) (hts (.fieldLink RX4 25 "NotEnded$Reader" "place" "I") (List.mem_cons_of_mem _ (List.mem_append_left _ (List.mem_of_getElem? (i := 4) rfl)))) (fun _ h9 => h9) rfl (tyX4_ok 5 (by decide)) rfl rfl (Nat.le_of_ble_eq_true rfl) dX4_read_42 (fun H locs hP hD hS => ?_)
  have hP : va_P (dC, dI) vwCl [(h0, .inr (4, [.ref hT, r1, r2, .int 0, .int 0, .int 0, .ref (ad 2), .ref (ad 4)])), (hT, .inr (8, [t0, .int 0]))] H := hP
  have hD : va_D A [(h0, .inr (4, [.ref hT, r1, r2, .int 0, .int 0, .int 0, .ref (ad 2), .ref (ad 4)])), (hT, .inr (8, [t0, .int 0]))] := hD
  refine lv_iconst (v := 0) hx hb dX4_read_45 (by decide) ?_
  refine lv_istore_n (lv' := [(2, .int 0), (0, .ref h0), (1, .int 1)]) hx hb dX4_read_46 rfl hl (by decide) rfl (fun ls hl => ?_)
  refine lv_iload_n hx hb dX4_read_47 rfl (lv_at hl 0 rfl) ?_
  refine lv_bipush (v := 31) hx hb dX4_read_48 (by decide) ?_
  refine lv_icmp_ge (tgt := 94) hx hb dX4_read_50 (by decide) (fun c_3 => absurd c_3 (by decide)) (fun c_3 => ?_)
  refine lv_aload_n hx hb dX4_read_53 rfl (lv_at hl 1 rfl) ?_
  have hPc := hP.sub (ws' := [(h0, .inr (4, [.ref hT, r1, r2, .int 0, .int 0, .int 0, .ref (ad 2), .ref (ad 4)])), (hT, .inr (8, [t0, .int 0]))]) [0, 1] rfl
  have hKc := hK.sub (tys' := []) [] rfl
  refine vp_callSi (va_runV (As := []) (rest := []) ⟨hx, hb, hml, hown, hts⟩ (c_readClause_w l dC dI h0 (ad 2) bB A hT (t0 : Value) (r1 : Value) (r2 : Value) (.int 0 : Value) (.int 0 : Value) (.ref (ad 4) : Value)) (cwV 0 hts (kG (List.forall_mem_cons.mpr ⟨(List.mem_cons_of_mem _ (List.mem_append_left _ (List.mem_of_getElem? (i := 8) rfl))), (List.forall_mem_cons.mpr ⟨(List.mem_cons_of_mem _ (List.mem_append_left _ (List.mem_of_getElem? (i := 7) rfl))), (List.forall_mem_cons.mpr ⟨(List.mem_cons_of_mem _ (List.mem_append_left _ (List.mem_of_getElem? (i := 6) rfl))), (List.forall_mem_cons.mpr ⟨(List.mem_cons_of_mem _ (List.mem_append_left _ (List.mem_of_getElem? (i := 5) rfl))), (fun _ h => absurd h List.not_mem_nil)⟩)⟩)⟩)⟩) (by decide +kernel) (fun _ h => List.mem_cons_of_mem _ (List.mem_append_right _ (List.mem_append_right _ h))) gw_c_readClause_w) rfl rfl rfl (by decide +kernel) ⟨(Nat.le_of_ble_eq_true rfl), (Nat.le_of_ble_eq_true rfl)⟩) (kR_V kSt_blind (kSt_give hX.2.2 hS) (va_recv hKc hPc (ci := 4) (q0 := 0) rfl rfl) hPc hKc) rfl rfl hl.1 rfl (lv_room (Nat.le_of_ble_eq_true rfl)) dX4_read_54 ⟨(Nat.le_of_ble_eq_true rfl), (Nat.le_of_ble_eq_true rfl)⟩).run (fun r_4 hw => ?_)
  obtain rfl : r_4 = 0 := hw
  refine lv_if_ne (tgt := 65) hx hb dX4_read_57 (by decide) (fun c_5 => absurd (by decide) c_5) (fun c_5 => ?_)
  refine lv_aload_n hx hb dX4_read_60 rfl (lv_at hl 1 rfl) ?_
  refine va_get (D := (dC, dI)) (ci := 4) (v := .int 0) (C := RX4) (T := TX4) (N := 8) hx hb hts (fun _ h => List.mem_cons_of_mem _ (List.mem_append_right _ (List.mem_append_left _ h))) hown hK hP 0 rfl rfl 5 (by decide) (hts (.fieldLink RX4 25 "NotEnded$Reader" "place" "I") (List.mem_cons_of_mem _ (List.mem_append_left _ (List.mem_of_getElem? (i := 4) rfl)))) (fun _ h9 => h9) rfl dX4_read_61 ?_
  exact W.iret (v := 0) hx hb hr (fun t ht hW => ⟨⟨0, (), rfl, rfl, trivial⟩, hS.F ht⟩) hS.2.2 dX4_read_64

theorem dX7_isFull_0 : decode cX7_isFull 0 = .ok (.aload_n 0, 1) := by decide +kernel
theorem dX7_isFull_1 : decode cX7_isFull 1 = .ok (.getfield 9, 3) := by decide +kernel
theorem dX7_isFull_4 : decode cX7_isFull 4 = .ok (.aload_n 0, 1) := by decide +kernel
theorem dX7_isFull_5 : decode cX7_isFull 5 = .ok (.getfield 17, 3) := by decide +kernel
theorem dX7_isFull_8 : decode cX7_isFull 8 = .ok (.arraylength, 1) := by decide +kernel
theorem dX7_isFull_9 : decode cX7_isFull 9 = .ok (.if_icmp .lt 7, 3) := by decide +kernel
theorem dX7_isFull_16 : decode cX7_isFull 16 = .ok (.iconst 0, 1) := by decide +kernel
theorem dX7_isFull_17 : decode cX7_isFull 17 = .ok (.ireturn, 1) := by decide +kernel
def w_c_full7_6 : List Cond := .code yX7_isFull cX7_isFull 1 (some .boolean) :: ([.fieldLink RX7 9 "NotEnded$Shelf" "size" "I", .fieldLink RX7 17 "NotEnded$Shelf" "rules" "[LNotEnded$Rule;"] ++ (wsX70))
theorem gw_c_full7_6 : (w_c_full7_6).all goodWord = true := by decide +kernel
set_option maxHeartbeats 4000000 in
set_option maxRecDepth 100000 in
theorem c_full7_6 (l : Launch) (dC : Nat → ClassId) (dI : Nat → Nat → Nat) (h0 : Nat) (q0 : Nat) (cR : ClassId) (g : Nat → Option Nat) : Met l yX7_isFull w_c_full7_6 ({ frames := 1, cells := 0, slots := 0, locals := 60 }) (kR dC dI [.ref h0] [(h0, .inr (7, [.ref q0, .int 0])), (q0, .inl (cR, 6, .inr (.inr (.inr (.inr g)))))] [(cR, .object RX6)] kT) (vp_Si (fun r : Int32 => r = 0)) 0 0 (fun _ => False) := by
  refine Met.ofW (cc := cX7_isFull) (maxL := 1) (ret := (some .boolean)) (by decide) rfl ?_
  intro p e s m args below meth c s₁ B hml hv
  obtain ⟨rfl, hP, hK, hX⟩ := hv
  have hx := B.exec
  have hb := B.bytes
  have hr := B.returns
  have hts := atoms_spec (ws := w_c_full7_6) B.pre
  have hown : s.vm.findClass RX7 = some m.cls := findClass_of_methodNamed B.named
  have hlocks := B.notSynchronized
  have hP : va_P (dC, dI) vwCl [(h0, .inr (7, [.ref q0, .int 0])), (q0, .inl (cR, 6, .inr (.inr (.inr (.inr g)))))] s.heap := hP
  have hl := lv_entry ([.ref h0]) (n := 1) (Nat.le_of_ble_eq_true rfl)
  rw [lg_entry_eq]
  generalize (lg_sl ([.ref h0]) ++ List.replicate (1 - (lg_sl ([.ref h0])).length) Slot.unset).toArray = ls at hl ⊢
  have hl : lv_has ls 1 [(0, .ref h0)] := hl
  refine lv_aload_n hx hb dX7_isFull_0 rfl (lv_at hl 0 rfl) ?_
  refine va_get (D := (dC, dI)) (ci := 7) (v := .int 0) (C := RX7) (T := TX7) (N := 2) hx hb hts (fun _ h => List.mem_cons_of_mem _ (List.mem_append_right _ h)) hown hK hP 0 rfl rfl 1 (by decide) (hts (.fieldLink RX7 9 "NotEnded$Shelf" "size" "I") (List.mem_cons_of_mem _ (List.mem_append_left _ (List.mem_of_getElem? (i := 0) rfl)))) (fun _ h9 => h9) rfl dX7_isFull_1 ?_
  refine lv_aload_n hx hb dX7_isFull_4 rfl (lv_at hl 0 rfl) ?_
  refine va_get (D := (dC, dI)) (ci := 7) (v := .ref q0) (C := RX7) (T := TX7) (N := 2) hx hb hts (fun _ h => List.mem_cons_of_mem _ (List.mem_append_right _ h)) hown hK hP 0 rfl rfl 0 (by decide) (hts (.fieldLink RX7 17 "NotEnded$Shelf" "rules" "[LNotEnded$Rule;") (List.mem_cons_of_mem _ (List.mem_append_left _ (List.mem_of_getElem? (i := 1) rfl)))) (fun _ h9 => h9) rfl dX7_isFull_5 ?_
  refine va_alen hx hb hK hP 1 0 rfl rfl (v := 6) rfl dX7_isFull_8 ?_
  refine lv_icmp_lt (tgt := 16) hx hb dX7_isFull_9 (by decide) (fun c_1 => ?_) (fun c_1 => absurd (by decide) c_1)
  refine lv_iconst (v := 0) hx hb dX7_isFull_16 (by decide) ?_
  exact W.zret (v := 0) hx hb hr rfl (fun t ht hW => ⟨0, rfl, rfl, ht⟩) (fun _ h => nomatch h) dX7_isFull_17

def w_c_full7_8 : List Cond := .code yX7_isFull cX7_isFull 1 (some .boolean) :: ([.fieldLink RX7 9 "NotEnded$Shelf" "size" "I", .fieldLink RX7 17 "NotEnded$Shelf" "rules" "[LNotEnded$Rule;"] ++ (wsX70))
theorem gw_c_full7_8 : (w_c_full7_8).all goodWord = true := by decide +kernel
set_option maxHeartbeats 4000000 in
set_option maxRecDepth 100000 in
theorem c_full7_8 (l : Launch) (dC : Nat → ClassId) (dI : Nat → Nat → Nat) (h0 : Nat) (q0 : Nat) (cR : ClassId) (g : Nat → Option Nat) : Met l yX7_isFull w_c_full7_8 ({ frames := 1, cells := 0, slots := 0, locals := 60 }) (kR dC dI [.ref h0] [(h0, .inr (7, [.ref q0, .int 0])), (q0, .inl (cR, 8, .inr (.inr (.inr (.inr g)))))] [(cR, .object RX6)] kT) (vp_Si (fun r : Int32 => r = 0)) 0 0 (fun _ => False) := by
  refine Met.ofW (cc := cX7_isFull) (maxL := 1) (ret := (some .boolean)) (by decide) rfl ?_
  intro p e s m args below meth c s₁ B hml hv
  obtain ⟨rfl, hP, hK, hX⟩ := hv
  have hx := B.exec
  have hb := B.bytes
  have hr := B.returns
  have hts := atoms_spec (ws := w_c_full7_8) B.pre
  have hown : s.vm.findClass RX7 = some m.cls := findClass_of_methodNamed B.named
  have hlocks := B.notSynchronized
  have hP : va_P (dC, dI) vwCl [(h0, .inr (7, [.ref q0, .int 0])), (q0, .inl (cR, 8, .inr (.inr (.inr (.inr g)))))] s.heap := hP
  have hl := lv_entry ([.ref h0]) (n := 1) (Nat.le_of_ble_eq_true rfl)
  rw [lg_entry_eq]
  generalize (lg_sl ([.ref h0]) ++ List.replicate (1 - (lg_sl ([.ref h0])).length) Slot.unset).toArray = ls at hl ⊢
  have hl : lv_has ls 1 [(0, .ref h0)] := hl
  refine lv_aload_n hx hb dX7_isFull_0 rfl (lv_at hl 0 rfl) ?_
  refine va_get (D := (dC, dI)) (ci := 7) (v := .int 0) (C := RX7) (T := TX7) (N := 2) hx hb hts (fun _ h => List.mem_cons_of_mem _ (List.mem_append_right _ h)) hown hK hP 0 rfl rfl 1 (by decide) (hts (.fieldLink RX7 9 "NotEnded$Shelf" "size" "I") (List.mem_cons_of_mem _ (List.mem_append_left _ (List.mem_of_getElem? (i := 0) rfl)))) (fun _ h9 => h9) rfl dX7_isFull_1 ?_
  refine lv_aload_n hx hb dX7_isFull_4 rfl (lv_at hl 0 rfl) ?_
  refine va_get (D := (dC, dI)) (ci := 7) (v := .ref q0) (C := RX7) (T := TX7) (N := 2) hx hb hts (fun _ h => List.mem_cons_of_mem _ (List.mem_append_right _ h)) hown hK hP 0 rfl rfl 0 (by decide) (hts (.fieldLink RX7 17 "NotEnded$Shelf" "rules" "[LNotEnded$Rule;") (List.mem_cons_of_mem _ (List.mem_append_left _ (List.mem_of_getElem? (i := 1) rfl)))) (fun _ h9 => h9) rfl dX7_isFull_5 ?_
  refine va_alen hx hb hK hP 1 0 rfl rfl (v := 8) rfl dX7_isFull_8 ?_
  refine lv_icmp_lt (tgt := 16) hx hb dX7_isFull_9 (by decide) (fun c_1 => ?_) (fun c_1 => absurd (by decide) c_1)
  refine lv_iconst (v := 0) hx hb dX7_isFull_16 (by decide) ?_
  exact W.zret (v := 0) hx hb hr rfl (fun t ht hW => ⟨0, rfl, rfl, ht⟩) (fun _ h => nomatch h) dX7_isFull_17

theorem dX9_fault_0 : decode cX9_fault 0 = .ok (.iload_n 1, 1) := by decide +kernel
theorem dX9_fault_1 : decode cX9_fault 1 = .ok (.invokestatic 98, 3) := by decide +kernel
theorem dX9_fault_4 : decode cX9_fault 4 = .ok (.ifCond .eq 14, 3) := by decide +kernel
theorem dX9_fault_18 : decode cX9_fault 18 = .ok (.bipush (-2), 2) := by decide +kernel
theorem dX9_fault_20 : decode cX9_fault 20 = .ok (.ireturn, 1) := by decide +kernel
theorem dX9_fault_7 : decode cX9_fault 7 = .ok (.aload_n 0, 1) := by decide +kernel
theorem dX9_fault_8 : decode cX9_fault 8 = .ok (.getfield 21, 3) := by decide +kernel
theorem dX9_fault_11 : decode cX9_fault 11 = .ok (.iload_n 1, 1) := by decide +kernel
theorem dX9_fault_12 : decode cX9_fault 12 = .ok (.invokevirtual 102, 3) := by decide +kernel
theorem dX9_fault_15 : decode cX9_fault 15 = .ok (.goto 5, 3) := by decide +kernel
def w_c_fault9 : List Cond := .code yX9_fault cX9_fault 2 (some .int) :: ([.initialized RX9, .static yX9_isSort, .methodLink RX9 98 yX9_isSort, .fieldLink RX9 21 "NotEnded" "reader" "LNotEnded$Reader;", .initialized RX4, .selects RX4 yX4_read yX4_read, .instanceMethod yX4_read, .methodLink RX9 102 yX4_read] ++ (w_c_isSort9 ++ (wsX90 ++ (w_c_read_ygx ++ (w_c_read_w)))))
theorem gw_c_fault9 : (w_c_fault9).all goodWord = true := by decide +kernel
set_option maxHeartbeats 4000000 in
set_option maxRecDepth 100000 in
theorem c_fault9 (l : Launch) (dC : Nat → ClassId) (dI : Nat → Nat → Nat) (ad : Nat → Nat) (bA : Nat) (bB : Nat) (h0 : Nat) (hR : Nat) (v2 : Value) (v3 : Value) (v4 : Value) (v5 : Value) (v6 : Value) (v7 : Value) (v8 : Value) (v9 : Value) (hT : Nat) (t0 : Value) (r1 : Value) (r2 : Value) (r3 : Value) (r4 : Value) (r6 : Value) (r7 : Value) (p0 : Int32) (sz : Nat) : Met l yX9_fault w_c_fault9 ({ frames := 7, cells := 0, slots := 0, locals := 420 }) (kW dC dI [.ref h0, .int p0] [(h0, .inr (9, [.ref hT, .ref hR, v2, v3, v4, v5, v6, v7, v8, v9])), (hR, .inr (4, [.ref hT, r1, r2, r3, r4, .int 0, r6, r7])), (hT, .inr (8, [t0, .int 0]))] [] (kF ad 1 2 bA bB (va_A [(h0, .inr (9, [.ref hT, .ref hR, v2, v3, v4, v5, v6, v7, v8, v9])), (hR, .inr (4, [.ref hT, r1, r2, r3, r4, .int 0, r6, r7])), (hT, .inr (8, [t0, .int 0]))] sz)) sz) (va_Qi (fun (r : Int32) (_ : Unit) => r = kFault p0) (fun _ _ => True) (va_A [(h0, .inr (9, [.ref hT, .ref hR, v2, v3, v4, v5, v6, v7, v8, v9])), (hR, .inr (4, [.ref hT, r1, r2, r3, r4, .int 0, r6, r7])), (hT, .inr (8, [t0, .int 0]))] sz)) 0 0 (va_A [(h0, .inr (9, [.ref hT, .ref hR, v2, v3, v4, v5, v6, v7, v8, v9])), (hR, .inr (4, [.ref hT, r1, r2, r3, r4, .int 0, r6, r7])), (hT, .inr (8, [t0, .int 0]))] sz) := by
  refine Met.ofW (cc := cX9_fault) (maxL := 2) (ret := (some .int)) (by decide) rfl ?_
  intro p e s m args below meth c s₁ B hml hv
  obtain ⟨rfl, hsz, hP, hK, hD0, hX⟩ := hv
  have hx := B.exec
  have hb := B.bytes
  have hr := B.returns
  have hts := atoms_spec (ws := w_c_fault9) B.pre
  have hown : s.vm.findClass RX9 = some m.cls := findClass_of_methodNamed B.named
  have hlocks := B.notSynchronized
  subst hsz
  have hD := hD0.self (sz := s.heap.size)
  generalize hAe : va_A [(h0, .inr (9, [.ref hT, .ref hR, v2, v3, v4, v5, v6, v7, v8, v9])), (hR, .inr (4, [.ref hT, r1, r2, r3, r4, .int 0, r6, r7])), (hT, .inr (8, [t0, .int 0]))] s.heap.size = A at hD hX ⊢
  have hA : ∀ q : Nat, s.heap.size ≤ q → A q := fun q h => by rw [← hAe]; exact Or.inr h
  have hS : va_S A s.heap s.heap [] := va_S.rf
  have hP : va_P (dC, dI) vwCl [(h0, .inr (9, [.ref hT, .ref hR, v2, v3, v4, v5, v6, v7, v8, v9])), (hR, .inr (4, [.ref hT, r1, r2, r3, r4, .int 0, r6, r7])), (hT, .inr (8, [t0, .int 0]))] s.heap := hP
  have hl := lv_entry ([.ref h0, .int p0]) (n := 2) (Nat.le_of_ble_eq_true rfl)
  rw [lg_entry_eq]
  generalize (lg_sl ([.ref h0, .int p0]) ++ List.replicate (2 - (lg_sl ([.ref h0, .int p0])).length) Slot.unset).toArray = ls at hl ⊢
  have hl : lv_has ls 2 [(0, .ref h0), (1, .int p0)] := hl
  refine lv_iload_n hx hb dX9_fault_0 rfl (lv_at hl 1 rfl) ?_
  have hPc := hP.sub (ws' := []) [] rfl
  have hKc := hK.sub (tys' := []) [] rfl
  refine vp_callSi (va_runS (As := [.int p0]) (rest := []) ⟨hx, hb, hml, hown, hts⟩ (c_isSort9 l dC dI p0) (va_cwS 1 hts (kG (List.forall_mem_cons.mpr ⟨(List.mem_cons_of_mem _ (List.mem_append_left _ (List.mem_of_getElem? (i := 2) rfl))), (List.forall_mem_cons.mpr ⟨(List.mem_cons_of_mem _ (List.mem_append_left _ (List.mem_of_getElem? (i := 1) rfl))), (List.forall_mem_cons.mpr ⟨(List.mem_cons_of_mem _ (List.mem_append_left _ (List.mem_of_getElem? (i := 0) rfl))), (fun _ h => absurd h List.not_mem_nil)⟩)⟩)⟩) (by decide +kernel) (fun _ h => List.mem_cons_of_mem _ (List.mem_append_right _ (List.mem_append_left _ h))) gw_c_isSort9) rfl rfl rfl (by decide +kernel) ⟨(Nat.le_of_ble_eq_true rfl), (Nat.le_of_ble_eq_true rfl)⟩) (kR_S kT_blind kT_give hPc hKc) rfl rfl hl.1 rfl (lv_room (Nat.le_of_ble_eq_true rfl)) dX9_fault_1 ⟨(Nat.le_of_ble_eq_true rfl), (Nat.le_of_ble_eq_true rfl)⟩).run (fun r_1 hw => ?_)
  have hw_2 := hw
  refine lv_if_eq (tgt := 18) hx hb dX9_fault_4 (by decide) (fun c_3 => ?_) (fun c_3 => ?_)
  · refine lv_bipush (v := (-2)) hx hb dX9_fault_18 (by decide) ?_
    exact W.iret (v := (-2)) hx hb hr (fun t ht hW => ⟨⟨(-2), (), rfl, (by simp [kFault, c_3, ← hw_2]), trivial⟩, hS.F ht⟩) hS.2.2 dX9_fault_20
  · rcases kSort_or (fun z => c_3 (hw_2.trans z)) with rfl | rfl
    · refine lv_aload_n hx hb dX9_fault_7 rfl (lv_at hl 0 rfl) ?_
      refine va_get (D := (dC, dI)) (ci := 9) (v := .ref hR) (C := RX9) (T := TX9) (N := 10) hx hb hts (fun _ h => List.mem_cons_of_mem _ (List.mem_append_right _ (List.mem_append_right _ (List.mem_append_left _ h)))) hown hK hP 0 rfl rfl 1 (by decide) (hts (.fieldLink RX9 21 "NotEnded" "reader" "LNotEnded$Reader;") (List.mem_cons_of_mem _ (List.mem_append_left _ (List.mem_of_getElem? (i := 3) rfl)))) (fun _ h9 => h9) rfl dX9_fault_8 ?_
      refine lv_iload_n hx hb dX9_fault_11 rfl (lv_at hl 1 rfl) ?_
      have hPc := hP.sub (ws' := [(hR, .inr (4, [.ref hT, r1, r2, r3, r4, .int 0, r6, r7])), (hT, .inr (8, [t0, .int 0]))]) [1, 2] rfl
      have hKc := hK.sub (tys' := []) [] rfl
      have hDc := hD.sub (ws' := [(hR, .inr (4, [.ref hT, r1, r2, r3, r4, .int 0, r6, r7])), (hT, .inr (8, [t0, .int 0]))]) [1, 2] (by decide) rfl
      have hFc := va_free (wc := [(hR, .inr (4, [.ref hT, r1, r2, r3, r4, .int 0, r6, r7])), (hT, .inr (8, [t0, .int 0]))]) hD hS hA [1, 2] rfl
      refine va_calli (va_runV (As := [.int 0]) (rest := []) ⟨hx, hb, hml, hown, hts⟩ (c_read_ygx l dC dI ad bA bB hR hT (t0 : Value) (r1 : Value) (r2 : Value) (r3 : Value) (r4 : Value) (r6 : Value) (r7 : Value) s.heap.size) (cwV 1 hts (kG (List.forall_mem_cons.mpr ⟨(List.mem_cons_of_mem _ (List.mem_append_left _ (List.mem_of_getElem? (i := 7) rfl))), (List.forall_mem_cons.mpr ⟨(List.mem_cons_of_mem _ (List.mem_append_left _ (List.mem_of_getElem? (i := 6) rfl))), (List.forall_mem_cons.mpr ⟨(List.mem_cons_of_mem _ (List.mem_append_left _ (List.mem_of_getElem? (i := 5) rfl))), (List.forall_mem_cons.mpr ⟨(List.mem_cons_of_mem _ (List.mem_append_left _ (List.mem_of_getElem? (i := 4) rfl))), (fun _ h => absurd h List.not_mem_nil)⟩)⟩)⟩)⟩) (by decide +kernel) (fun _ h => List.mem_cons_of_mem _ (List.mem_append_right _ (List.mem_append_right _ (List.mem_append_right _ (List.mem_append_left _ h))))) gw_c_read_ygx) rfl rfl rfl (by decide +kernel) ⟨(Nat.le_of_ble_eq_true rfl), (Nat.le_of_ble_eq_true rfl)⟩) (kW_V kF_blind (kF_give hX hS hFc) (va_recv hKc hPc (ci := 4) (q0 := 0) rfl rfl) hPc hKc hDc) rfl rfl hl.1 rfl (lv_room (Nat.le_of_ble_eq_true rfl)) dX9_fault_12 ⟨(Nat.le_of_ble_eq_true rfl), (Nat.le_of_ble_eq_true rfl)⟩) hS (fun q _ h => hFc q h) hFc (fun r_4 u t H1 locs ht hvm hw hB hz1 hk1 hS => ?_)
      have hP1 : va_P (dC, dI) vwCl [] H1 := fun k q h => by simp at h
      have hD1 : va_D (va_A [(hR, .inr (4, [.ref hT, r1, r2, r3, r4, .int 0, r6, r7])), (hT, .inr (8, [t0, .int 0]))] s.heap.size) [] := ⟨fun i j p q h => by simp at h, fun k q h => by simp at h⟩
      try dsimp only at hw
      obtain ⟨hP, hD⟩ := va_join (wr := [(h0, .inr (9, [.ref hT, .ref hR, v2, v3, v4, v5, v6, v7, v8, v9]))]) (w1 := []) hP hD [1, 2] [0] rfl rfl (by decide) (by decide) hk1 hFc hP1 hD1
      generalize H1 = H at hP hS ⊢
      have hP : va_P (dC, dI) vwCl [(h0, .inr (9, [.ref hT, .ref hR, v2, v3, v4, v5, v6, v7, v8, v9]))] H := hP
      have hD : va_D A [(h0, .inr (9, [.ref hT, .ref hR, v2, v3, v4, v5, v6, v7, v8, v9]))] := hD
      obtain rfl : r_4 = 0 := hw
      refine lv_goto (tgt := 20) hx hb dX9_fault_15 (by decide) ?_
      exact W.iret (v := 0) hx hb hr (fun t ht hW => ⟨⟨0, (), rfl, (by decide), trivial⟩, hS.F ht⟩) hS.2.2 dX9_fault_20
    · refine lv_aload_n hx hb dX9_fault_7 rfl (lv_at hl 0 rfl) ?_
      refine va_get (D := (dC, dI)) (ci := 9) (v := .ref hR) (C := RX9) (T := TX9) (N := 10) hx hb hts (fun _ h => List.mem_cons_of_mem _ (List.mem_append_right _ (List.mem_append_right _ (List.mem_append_left _ h)))) hown hK hP 0 rfl rfl 1 (by decide) (hts (.fieldLink RX9 21 "NotEnded" "reader" "LNotEnded$Reader;") (List.mem_cons_of_mem _ (List.mem_append_left _ (List.mem_of_getElem? (i := 3) rfl)))) (fun _ h9 => h9) rfl dX9_fault_8 ?_
      refine lv_iload_n hx hb dX9_fault_11 rfl (lv_at hl 1 rfl) ?_
      have hPc := hP.sub (ws' := [(hR, .inr (4, [.ref hT, r1, r2, r3, r4, .int 0, r6, r7])), (hT, .inr (8, [t0, .int 0]))]) [1, 2] rfl
      have hKc := hK.sub (tys' := []) [] rfl
      have hDc := hD.sub (ws' := [(hR, .inr (4, [.ref hT, r1, r2, r3, r4, .int 0, r6, r7])), (hT, .inr (8, [t0, .int 0]))]) [1, 2] (by decide) rfl
      have hFc := va_free (wc := [(hR, .inr (4, [.ref hT, r1, r2, r3, r4, .int 0, r6, r7])), (hT, .inr (8, [t0, .int 0]))]) hD hS hA [1, 2] rfl
      refine va_calli (va_runV (As := [.int 1]) (rest := []) ⟨hx, hb, hml, hown, hts⟩ (c_read_w l dC dI ad bA bB hR hT (t0 : Value) (r1 : Value) (r2 : Value) (r3 : Value) (r4 : Value) (r6 : Value) (r7 : Value) s.heap.size) (cwV 1 hts (kG (List.forall_mem_cons.mpr ⟨(List.mem_cons_of_mem _ (List.mem_append_left _ (List.mem_of_getElem? (i := 7) rfl))), (List.forall_mem_cons.mpr ⟨(List.mem_cons_of_mem _ (List.mem_append_left _ (List.mem_of_getElem? (i := 6) rfl))), (List.forall_mem_cons.mpr ⟨(List.mem_cons_of_mem _ (List.mem_append_left _ (List.mem_of_getElem? (i := 5) rfl))), (List.forall_mem_cons.mpr ⟨(List.mem_cons_of_mem _ (List.mem_append_left _ (List.mem_of_getElem? (i := 4) rfl))), (fun _ h => absurd h List.not_mem_nil)⟩)⟩)⟩)⟩) (by decide +kernel) (fun _ h => List.mem_cons_of_mem _ (List.mem_append_right _ (List.mem_append_right _ (List.mem_append_right _ (List.mem_append_right _ h))))) gw_c_read_w) rfl rfl rfl (by decide +kernel) ⟨(Nat.le_of_ble_eq_true rfl), (Nat.le_of_ble_eq_true rfl)⟩) (kW_V kF_blind (kF_give hX hS hFc) (va_recv hKc hPc (ci := 4) (q0 := 0) rfl rfl) hPc hKc hDc) rfl rfl hl.1 rfl (lv_room (Nat.le_of_ble_eq_true rfl)) dX9_fault_12 ⟨(Nat.le_of_ble_eq_true rfl), (Nat.le_of_ble_eq_true rfl)⟩) hS (fun q _ h => hFc q h) hFc (fun r_5 u t H1 locs ht hvm hw hB hz1 hk1 hS => ?_)
      have hP1 : va_P (dC, dI) vwCl [] H1 := fun k q h => by simp at h
      have hD1 : va_D (va_A [(hR, .inr (4, [.ref hT, r1, r2, r3, r4, .int 0, r6, r7])), (hT, .inr (8, [t0, .int 0]))] s.heap.size) [] := ⟨fun i j p q h => by simp at h, fun k q h => by simp at h⟩
      try dsimp only at hw
      obtain ⟨hP, hD⟩ := va_join (wr := [(h0, .inr (9, [.ref hT, .ref hR, v2, v3, v4, v5, v6, v7, v8, v9]))]) (w1 := []) hP hD [1, 2] [0] rfl rfl (by decide) (by decide) hk1 hFc hP1 hD1
      generalize H1 = H at hP hS ⊢
      have hP : va_P (dC, dI) vwCl [(h0, .inr (9, [.ref hT, .ref hR, v2, v3, v4, v5, v6, v7, v8, v9]))] H := hP
      have hD : va_D A [(h0, .inr (9, [.ref hT, .ref hR, v2, v3, v4, v5, v6, v7, v8, v9]))] := hD
      obtain rfl : r_5 = 0 := hw
      refine lv_goto (tgt := 20) hx hb dX9_fault_15 (by decide) ?_
      exact W.iret (v := 0) hx hb hr (fun t ht hW => ⟨⟨0, (), rfl, (by decide), trivial⟩, hS.F ht⟩) hS.2.2 dX9_fault_20

theorem dX9_text_0 : decode cX9_text 0 = .ok (.iload_n 1, 1) := by decide +kernel
theorem dX9_text_1 : decode cX9_text 1 = .ok (.invokestatic 98, 3) := by decide +kernel
theorem dX9_text_4 : decode cX9_text 4 = .ok (.ifCond .ne 5, 3) := by decide +kernel
theorem dX9_text_9 : decode cX9_text 9 = .ok (.iload_n 1, 1) := by decide +kernel
theorem dX9_text_10 : decode cX9_text 10 = .ok (.ifCond .ne 10, 3) := by decide +kernel
theorem dX9_text_13 : decode cX9_text 13 = .ok (.aload_n 0, 1) := by decide +kernel
theorem dX9_text_14 : decode cX9_text 14 = .ok (.getfield 37, 3) := by decide +kernel
theorem dX9_text_17 : decode cX9_text 17 = .ok (.goto 7, 3) := by decide +kernel
theorem dX9_text_24 : decode cX9_text 24 = .ok (.astore_n 2, 1) := by decide +kernel
theorem dX9_text_25 : decode cX9_text 25 = .ok (.aload_n 2, 1) := by decide +kernel
theorem dX9_text_26 : decode cX9_text 26 = .ok (.invokevirtual 105, 3) := by decide +kernel
theorem dX9_text_29 : decode cX9_text 29 = .ok (.ifCond .ne 15, 3) := by decide +kernel
theorem dX9_text_32 : decode cX9_text 32 = .ok (.aload_n 0, 1) := by decide +kernel
theorem dX9_text_33 : decode cX9_text 33 = .ok (.getfield 21, 3) := by decide +kernel
theorem dX9_text_36 : decode cX9_text 36 = .ok (.iload_n 1, 1) := by decide +kernel
theorem dX9_text_37 : decode cX9_text 37 = .ok (.invokevirtual 102, 3) := by decide +kernel
theorem dX9_text_40 : decode cX9_text 40 = .ok (.iconst (-1), 1) := by decide +kernel
theorem dX9_text_41 : decode cX9_text 41 = .ok (.if_icmp .eq 5, 3) := by decide +kernel
theorem dX9_text_44 : decode cX9_text 44 = .ok (.iconst (-1), 1) := by decide +kernel
theorem dX9_text_45 : decode cX9_text 45 = .ok (.ireturn, 1) := by decide +kernel
theorem dX9_text_20 : decode cX9_text 20 = .ok (.aload_n 0, 1) := by decide +kernel
theorem dX9_text_21 : decode cX9_text 21 = .ok (.getfield 41, 3) := by decide +kernel
theorem dX9_text_7 : decode cX9_text 7 = .ok (.iconst (-1), 1) := by decide +kernel
theorem dX9_text_8 : decode cX9_text 8 = .ok (.ireturn, 1) := by decide +kernel
def w_c_text9 : List Cond := .code yX9_text cX9_text 3 (some .int) :: ([.initialized RX9, .static yX9_isSort, .methodLink RX9 98 yX9_isSort, .fieldLink RX9 37 "NotEnded" "laws" "LNotEnded$Shelf;", .initialized RX7, .selects RX7 yX7_isFull yX7_isFull, .instanceMethod yX7_isFull, .methodLink RX9 105 yX7_isFull, .fieldLink RX9 21 "NotEnded" "reader" "LNotEnded$Reader;", .initialized RX4, .selects RX4 yX4_read yX4_read, .instanceMethod yX4_read, .methodLink RX9 102 yX4_read, .fieldLink RX9 41 "NotEnded" "turnings" "LNotEnded$Shelf;"] ++ (w_c_isSort9 ++ (wsX90 ++ (w_c_full7_6 ++ (w_c_read_ygx ++ (w_c_full7_8 ++ (w_c_read_w)))))))
theorem gw_c_text9 : (w_c_text9).all goodWord = true := by decide +kernel
set_option maxHeartbeats 4000000 in
set_option maxRecDepth 100000 in
theorem c_text9 (l : Launch) (dC : Nat → ClassId) (dI : Nat → Nat → Nat) (ad : Nat → Nat) (bA : Nat) (bB : Nat) (h0 : Nat) (hR : Nat) (hL : Nat) (hU : Nat) (l0 : Nat) (m0 : Nat) (cL : ClassId) (cM : ClassId) (gL : Nat → Option Nat) (gM : Nat → Option Nat) (v2 : Value) (v5 : Value) (v6 : Value) (v7 : Value) (v8 : Value) (v9 : Value) (hT : Nat) (t0 : Value) (r1 : Value) (r2 : Value) (r3 : Value) (r4 : Value) (r6 : Value) (r7 : Value) (p0 : Int32) (sz : Nat) : Met l yX9_text w_c_text9 ({ frames := 7, cells := 0, slots := 0, locals := 420 }) (kW dC dI [.ref h0, .int p0] [(h0, .inr (9, [.ref hT, .ref hR, v2, .ref hL, .ref hU, v5, v6, v7, v8, v9])), (hR, .inr (4, [.ref hT, r1, r2, r3, r4, .int 0, r6, r7])), (hT, .inr (8, [t0, .int 0])), (hL, .inr (7, [.ref l0, .int 0])), (l0, .inl (cL, 6, .inr (.inr (.inr (.inr gL))))), (hU, .inr (7, [.ref m0, .int 0])), (m0, .inl (cM, 8, .inr (.inr (.inr (.inr gM)))))] [(cL, .object RX6), (cM, .object RX6)] (kF ad 1 2 bA bB (va_A [(h0, .inr (9, [.ref hT, .ref hR, v2, .ref hL, .ref hU, v5, v6, v7, v8, v9])), (hR, .inr (4, [.ref hT, r1, r2, r3, r4, .int 0, r6, r7])), (hT, .inr (8, [t0, .int 0])), (hL, .inr (7, [.ref l0, .int 0])), (l0, .inl (cL, 6, .inr (.inr (.inr (.inr gL))))), (hU, .inr (7, [.ref m0, .int 0])), (m0, .inl (cM, 8, .inr (.inr (.inr (.inr gM)))))] sz)) sz) (va_Qi (fun (r : Int32) (_ : Unit) => r = (-1)) (fun _ _ => True) (va_A [(h0, .inr (9, [.ref hT, .ref hR, v2, .ref hL, .ref hU, v5, v6, v7, v8, v9])), (hR, .inr (4, [.ref hT, r1, r2, r3, r4, .int 0, r6, r7])), (hT, .inr (8, [t0, .int 0])), (hL, .inr (7, [.ref l0, .int 0])), (l0, .inl (cL, 6, .inr (.inr (.inr (.inr gL))))), (hU, .inr (7, [.ref m0, .int 0])), (m0, .inl (cM, 8, .inr (.inr (.inr (.inr gM)))))] sz)) 0 0 (va_A [(h0, .inr (9, [.ref hT, .ref hR, v2, .ref hL, .ref hU, v5, v6, v7, v8, v9])), (hR, .inr (4, [.ref hT, r1, r2, r3, r4, .int 0, r6, r7])), (hT, .inr (8, [t0, .int 0])), (hL, .inr (7, [.ref l0, .int 0])), (l0, .inl (cL, 6, .inr (.inr (.inr (.inr gL))))), (hU, .inr (7, [.ref m0, .int 0])), (m0, .inl (cM, 8, .inr (.inr (.inr (.inr gM)))))] sz) := by
  refine Met.ofW (cc := cX9_text) (maxL := 3) (ret := (some .int)) (by decide) rfl ?_
  intro p e s m args below meth c s₁ B hml hv
  obtain ⟨rfl, hsz, hP, hK, hD0, hX⟩ := hv
  have hx := B.exec
  have hb := B.bytes
  have hr := B.returns
  have hts := atoms_spec (ws := w_c_text9) B.pre
  have hown : s.vm.findClass RX9 = some m.cls := findClass_of_methodNamed B.named
  have hlocks := B.notSynchronized
  subst hsz
  have hD := hD0.self (sz := s.heap.size)
  generalize hAe : va_A [(h0, .inr (9, [.ref hT, .ref hR, v2, .ref hL, .ref hU, v5, v6, v7, v8, v9])), (hR, .inr (4, [.ref hT, r1, r2, r3, r4, .int 0, r6, r7])), (hT, .inr (8, [t0, .int 0])), (hL, .inr (7, [.ref l0, .int 0])), (l0, .inl (cL, 6, .inr (.inr (.inr (.inr gL))))), (hU, .inr (7, [.ref m0, .int 0])), (m0, .inl (cM, 8, .inr (.inr (.inr (.inr gM)))))] s.heap.size = A at hD hX ⊢
  have hA : ∀ q : Nat, s.heap.size ≤ q → A q := fun q h => by rw [← hAe]; exact Or.inr h
  have hS : va_S A s.heap s.heap [] := va_S.rf
  have hP : va_P (dC, dI) vwCl [(h0, .inr (9, [.ref hT, .ref hR, v2, .ref hL, .ref hU, v5, v6, v7, v8, v9])), (hR, .inr (4, [.ref hT, r1, r2, r3, r4, .int 0, r6, r7])), (hT, .inr (8, [t0, .int 0])), (hL, .inr (7, [.ref l0, .int 0])), (l0, .inl (cL, 6, .inr (.inr (.inr (.inr gL))))), (hU, .inr (7, [.ref m0, .int 0])), (m0, .inl (cM, 8, .inr (.inr (.inr (.inr gM)))))] s.heap := hP
  have hl := lv_entry ([.ref h0, .int p0]) (n := 3) (Nat.le_of_ble_eq_true rfl)
  rw [lg_entry_eq]
  generalize (lg_sl ([.ref h0, .int p0]) ++ List.replicate (3 - (lg_sl ([.ref h0, .int p0])).length) Slot.unset).toArray = ls at hl ⊢
  have hl : lv_has ls 3 [(0, .ref h0), (1, .int p0)] := hl
  refine lv_iload_n hx hb dX9_text_0 rfl (lv_at hl 1 rfl) ?_
  have hPc := hP.sub (ws' := []) [] rfl
  have hKc := hK.sub (tys' := []) [] rfl
  refine vp_callSi (va_runS (As := [.int p0]) (rest := []) ⟨hx, hb, hml, hown, hts⟩ (c_isSort9 l dC dI p0) (va_cwS 1 hts (kG (List.forall_mem_cons.mpr ⟨(List.mem_cons_of_mem _ (List.mem_append_left _ (List.mem_of_getElem? (i := 2) rfl))), (List.forall_mem_cons.mpr ⟨(List.mem_cons_of_mem _ (List.mem_append_left _ (List.mem_of_getElem? (i := 1) rfl))), (List.forall_mem_cons.mpr ⟨(List.mem_cons_of_mem _ (List.mem_append_left _ (List.mem_of_getElem? (i := 0) rfl))), (fun _ h => absurd h List.not_mem_nil)⟩)⟩)⟩) (by decide +kernel) (fun _ h => List.mem_cons_of_mem _ (List.mem_append_right _ (List.mem_append_left _ h))) gw_c_isSort9) rfl rfl rfl (by decide +kernel) ⟨(Nat.le_of_ble_eq_true rfl), (Nat.le_of_ble_eq_true rfl)⟩) (kR_S kT_blind kT_give hPc hKc) rfl rfl hl.1 rfl (lv_room (Nat.le_of_ble_eq_true rfl)) dX9_text_1 ⟨(Nat.le_of_ble_eq_true rfl), (Nat.le_of_ble_eq_true rfl)⟩).run (fun r_1 hw => ?_)
  have hw_2 := hw
  refine lv_if_ne (tgt := 9) hx hb dX9_text_4 (by decide) (fun c_3 => ?_) (fun c_3 => ?_)
  · rcases kSort_or (fun z => c_3 (hw_2.trans z)) with rfl | rfl
    · refine lv_iload_n hx hb dX9_text_9 rfl (lv_at hl 1 rfl) ?_
      refine lv_if_ne (tgt := 20) hx hb dX9_text_10 (by decide) (fun c_4 => absurd (by decide) c_4) (fun c_4 => ?_)
      refine lv_aload_n hx hb dX9_text_13 rfl (lv_at hl 0 rfl) ?_
      refine va_get (D := (dC, dI)) (ci := 9) (v := .ref hL) (C := RX9) (T := TX9) (N := 10) hx hb hts (fun _ h => List.mem_cons_of_mem _ (List.mem_append_right _ (List.mem_append_right _ (List.mem_append_left _ h)))) hown hK hP 0 rfl rfl 3 (by decide) (hts (.fieldLink RX9 37 "NotEnded" "laws" "LNotEnded$Shelf;") (List.mem_cons_of_mem _ (List.mem_append_left _ (List.mem_of_getElem? (i := 3) rfl)))) (fun _ h9 => h9) rfl dX9_text_14 ?_
      refine lv_goto (tgt := 24) hx hb dX9_text_17 (by decide) ?_
      refine lv_astore_n (lv' := [(2, .ref hL), (0, .ref h0), (1, .int 0)]) hx hb dX9_text_24 rfl hl (by decide) rfl (fun ls hl => ?_)
      refine lv_aload_n hx hb dX9_text_25 rfl (lv_at hl 0 rfl) ?_
      have hPc := hP.sub (ws' := [(hL, .inr (7, [.ref l0, .int 0])), (l0, .inl (cL, 6, .inr (.inr (.inr (.inr gL)))))]) [3, 4] rfl
      have hKc := hK.sub (tys' := [(cL, .object RX6)]) [0] rfl
      refine vp_callSi (va_runV (As := []) (rest := []) ⟨hx, hb, hml, hown, hts⟩ (c_full7_6 l dC dI hL l0 cL gL) (cwV 0 hts (kG (List.forall_mem_cons.mpr ⟨(List.mem_cons_of_mem _ (List.mem_append_left _ (List.mem_of_getElem? (i := 7) rfl))), (List.forall_mem_cons.mpr ⟨(List.mem_cons_of_mem _ (List.mem_append_left _ (List.mem_of_getElem? (i := 6) rfl))), (List.forall_mem_cons.mpr ⟨(List.mem_cons_of_mem _ (List.mem_append_left _ (List.mem_of_getElem? (i := 5) rfl))), (List.forall_mem_cons.mpr ⟨(List.mem_cons_of_mem _ (List.mem_append_left _ (List.mem_of_getElem? (i := 4) rfl))), (fun _ h => absurd h List.not_mem_nil)⟩)⟩)⟩)⟩) (by decide +kernel) (fun _ h => List.mem_cons_of_mem _ (List.mem_append_right _ (List.mem_append_right _ (List.mem_append_right _ (List.mem_append_left _ h))))) gw_c_full7_6) rfl rfl rfl (by decide +kernel) ⟨(Nat.le_of_ble_eq_true rfl), (Nat.le_of_ble_eq_true rfl)⟩) (kR_V kT_blind kT_give (va_recv hKc hPc (ci := 7) (q0 := 0) rfl rfl) hPc hKc) rfl rfl hl.1 rfl (lv_room (Nat.le_of_ble_eq_true rfl)) dX9_text_26 ⟨(Nat.le_of_ble_eq_true rfl), (Nat.le_of_ble_eq_true rfl)⟩).run (fun r_5 hw => ?_)
      obtain rfl : r_5 = 0 := hw
      refine lv_if_ne (tgt := 44) hx hb dX9_text_29 (by decide) (fun c_6 => absurd (by decide) c_6) (fun c_6 => ?_)
      refine lv_aload_n hx hb dX9_text_32 rfl (lv_at hl 1 rfl) ?_
      refine va_get (D := (dC, dI)) (ci := 9) (v := .ref hR) (C := RX9) (T := TX9) (N := 10) hx hb hts (fun _ h => List.mem_cons_of_mem _ (List.mem_append_right _ (List.mem_append_right _ (List.mem_append_left _ h)))) hown hK hP 0 rfl rfl 1 (by decide) (hts (.fieldLink RX9 21 "NotEnded" "reader" "LNotEnded$Reader;") (List.mem_cons_of_mem _ (List.mem_append_left _ (List.mem_of_getElem? (i := 8) rfl)))) (fun _ h9 => h9) rfl dX9_text_33 ?_
      refine lv_iload_n hx hb dX9_text_36 rfl (lv_at hl 2 rfl) ?_
      have hPc := hP.sub (ws' := [(hR, .inr (4, [.ref hT, r1, r2, r3, r4, .int 0, r6, r7])), (hT, .inr (8, [t0, .int 0]))]) [1, 2] rfl
      have hKc := hK.sub (tys' := []) [] rfl
      have hDc := hD.sub (ws' := [(hR, .inr (4, [.ref hT, r1, r2, r3, r4, .int 0, r6, r7])), (hT, .inr (8, [t0, .int 0]))]) [1, 2] (by decide) rfl
      have hFc := va_free (wc := [(hR, .inr (4, [.ref hT, r1, r2, r3, r4, .int 0, r6, r7])), (hT, .inr (8, [t0, .int 0]))]) hD hS hA [1, 2] rfl
      refine va_calli (va_runV (As := [.int 0]) (rest := []) ⟨hx, hb, hml, hown, hts⟩ (c_read_ygx l dC dI ad bA bB hR hT (t0 : Value) (r1 : Value) (r2 : Value) (r3 : Value) (r4 : Value) (r6 : Value) (r7 : Value) s.heap.size) (cwV 1 hts (kG (List.forall_mem_cons.mpr ⟨(List.mem_cons_of_mem _ (List.mem_append_left _ (List.mem_of_getElem? (i := 12) rfl))), (List.forall_mem_cons.mpr ⟨(List.mem_cons_of_mem _ (List.mem_append_left _ (List.mem_of_getElem? (i := 11) rfl))), (List.forall_mem_cons.mpr ⟨(List.mem_cons_of_mem _ (List.mem_append_left _ (List.mem_of_getElem? (i := 10) rfl))), (List.forall_mem_cons.mpr ⟨(List.mem_cons_of_mem _ (List.mem_append_left _ (List.mem_of_getElem? (i := 9) rfl))), (fun _ h => absurd h List.not_mem_nil)⟩)⟩)⟩)⟩) (by decide +kernel) (fun _ h => List.mem_cons_of_mem _ (List.mem_append_right _ (List.mem_append_right _ (List.mem_append_right _ (List.mem_append_right _ (List.mem_append_left _ h)))))) gw_c_read_ygx) rfl rfl rfl (by decide +kernel) ⟨(Nat.le_of_ble_eq_true rfl), (Nat.le_of_ble_eq_true rfl)⟩) (kW_V kF_blind (kF_give hX hS hFc) (va_recv hKc hPc (ci := 4) (q0 := 0) rfl rfl) hPc hKc hDc) rfl rfl hl.1 rfl (lv_room (Nat.le_of_ble_eq_true rfl)) dX9_text_37 ⟨(Nat.le_of_ble_eq_true rfl), (Nat.le_of_ble_eq_true rfl)⟩) hS (fun q _ h => hFc q h) hFc (fun r_7 u t H1 locs ht hvm hw hB hz1 hk1 hS => ?_)
      have hP1 : va_P (dC, dI) vwCl [] H1 := fun k q h => by simp at h
      have hD1 : va_D (va_A [(hR, .inr (4, [.ref hT, r1, r2, r3, r4, .int 0, r6, r7])), (hT, .inr (8, [t0, .int 0]))] s.heap.size) [] := ⟨fun i j p q h => by simp at h, fun k q h => by simp at h⟩
      try dsimp only at hw
      obtain ⟨hP, hD⟩ := va_join (wr := [(h0, .inr (9, [.ref hT, .ref hR, v2, .ref hL, .ref hU, v5, v6, v7, v8, v9])), (hL, .inr (7, [.ref l0, .int 0])), (l0, .inl (cL, 6, .inr (.inr (.inr (.inr gL))))), (hU, .inr (7, [.ref m0, .int 0])), (m0, .inl (cM, 8, .inr (.inr (.inr (.inr gM)))))]) (w1 := []) hP hD [1, 2] [0, 3, 4, 5, 6] rfl rfl (by decide) (by decide) hk1 hFc hP1 hD1
      generalize H1 = H at hP hS ⊢
      have hP : va_P (dC, dI) vwCl [(h0, .inr (9, [.ref hT, .ref hR, v2, .ref hL, .ref hU, v5, v6, v7, v8, v9])), (hL, .inr (7, [.ref l0, .int 0])), (l0, .inl (cL, 6, .inr (.inr (.inr (.inr gL))))), (hU, .inr (7, [.ref m0, .int 0])), (m0, .inl (cM, 8, .inr (.inr (.inr (.inr gM)))))] H := hP
      have hD : va_D A [(h0, .inr (9, [.ref hT, .ref hR, v2, .ref hL, .ref hU, v5, v6, v7, v8, v9])), (hL, .inr (7, [.ref l0, .int 0])), (l0, .inl (cL, 6, .inr (.inr (.inr (.inr gL))))), (hU, .inr (7, [.ref m0, .int 0])), (m0, .inl (cM, 8, .inr (.inr (.inr (.inr gM)))))] := hD
      obtain rfl : r_7 = 0 := hw
      refine lv_iconst (v := (-1)) hx hb dX9_text_40 (by decide) ?_
      refine lv_icmp_eq (tgt := 46) hx hb dX9_text_41 (by decide) (fun c_8 => absurd c_8 (by decide)) (fun c_8 => ?_)
      refine lv_iconst (v := (-1)) hx hb dX9_text_44 (by decide) ?_
      exact W.iret (v := (-1)) hx hb hr (fun t ht hW => ⟨⟨(-1), (), rfl, rfl, trivial⟩, hS.F ht⟩) hS.2.2 dX9_text_45
    · refine lv_iload_n hx hb dX9_text_9 rfl (lv_at hl 1 rfl) ?_
      refine lv_if_ne (tgt := 20) hx hb dX9_text_10 (by decide) (fun c_9 => ?_) (fun c_9 => absurd c_9 (by decide))
      refine lv_aload_n hx hb dX9_text_20 rfl (lv_at hl 0 rfl) ?_
      refine va_get (D := (dC, dI)) (ci := 9) (v := .ref hU) (C := RX9) (T := TX9) (N := 10) hx hb hts (fun _ h => List.mem_cons_of_mem _ (List.mem_append_right _ (List.mem_append_right _ (List.mem_append_left _ h)))) hown hK hP 0 rfl rfl 4 (by decide) (hts (.fieldLink RX9 41 "NotEnded" "turnings" "LNotEnded$Shelf;") (List.mem_cons_of_mem _ (List.mem_append_left _ (List.mem_of_getElem? (i := 13) rfl)))) (fun _ h9 => h9) rfl dX9_text_21 ?_
      refine lv_astore_n (lv' := [(2, .ref hU), (0, .ref h0), (1, .int 1)]) hx hb dX9_text_24 rfl hl (by decide) rfl (fun ls hl => ?_)
      refine lv_aload_n hx hb dX9_text_25 rfl (lv_at hl 0 rfl) ?_
      have hPc := hP.sub (ws' := [(hU, .inr (7, [.ref m0, .int 0])), (m0, .inl (cM, 8, .inr (.inr (.inr (.inr gM)))))]) [5, 6] rfl
      have hKc := hK.sub (tys' := [(cM, .object RX6)]) [1] rfl
      refine vp_callSi (va_runV (As := []) (rest := []) ⟨hx, hb, hml, hown, hts⟩ (c_full7_8 l dC dI hU m0 cM gM) (cwV 0 hts (kG (List.forall_mem_cons.mpr ⟨(List.mem_cons_of_mem _ (List.mem_append_left _ (List.mem_of_getElem? (i := 7) rfl))), (List.forall_mem_cons.mpr ⟨(List.mem_cons_of_mem _ (List.mem_append_left _ (List.mem_of_getElem? (i := 6) rfl))), (List.forall_mem_cons.mpr ⟨(List.mem_cons_of_mem _ (List.mem_append_left _ (List.mem_of_getElem? (i := 5) rfl))), (List.forall_mem_cons.mpr ⟨(List.mem_cons_of_mem _ (List.mem_append_left _ (List.mem_of_getElem? (i := 4) rfl))), (fun _ h => absurd h List.not_mem_nil)⟩)⟩)⟩)⟩) (by decide +kernel) (fun _ h => List.mem_cons_of_mem _ (List.mem_append_right _ (List.mem_append_right _ (List.mem_append_right _ (List.mem_append_right _ (List.mem_append_right _ (List.mem_append_left _ h))))))) gw_c_full7_8) rfl rfl rfl (by decide +kernel) ⟨(Nat.le_of_ble_eq_true rfl), (Nat.le_of_ble_eq_true rfl)⟩) (kR_V kT_blind kT_give (va_recv hKc hPc (ci := 7) (q0 := 0) rfl rfl) hPc hKc) rfl rfl hl.1 rfl (lv_room (Nat.le_of_ble_eq_true rfl)) dX9_text_26 ⟨(Nat.le_of_ble_eq_true rfl), (Nat.le_of_ble_eq_true rfl)⟩).run (fun r_10 hw => ?_)
      obtain rfl : r_10 = 0 := hw
      refine lv_if_ne (tgt := 44) hx hb dX9_text_29 (by decide) (fun c_11 => absurd (by decide) c_11) (fun c_11 => ?_)
      refine lv_aload_n hx hb dX9_text_32 rfl (lv_at hl 1 rfl) ?_
      refine va_get (D := (dC, dI)) (ci := 9) (v := .ref hR) (C := RX9) (T := TX9) (N := 10) hx hb hts (fun _ h => List.mem_cons_of_mem _ (List.mem_append_right _ (List.mem_append_right _ (List.mem_append_left _ h)))) hown hK hP 0 rfl rfl 1 (by decide) (hts (.fieldLink RX9 21 "NotEnded" "reader" "LNotEnded$Reader;") (List.mem_cons_of_mem _ (List.mem_append_left _ (List.mem_of_getElem? (i := 8) rfl)))) (fun _ h9 => h9) rfl dX9_text_33 ?_
      refine lv_iload_n hx hb dX9_text_36 rfl (lv_at hl 2 rfl) ?_
      have hPc := hP.sub (ws' := [(hR, .inr (4, [.ref hT, r1, r2, r3, r4, .int 0, r6, r7])), (hT, .inr (8, [t0, .int 0]))]) [1, 2] rfl
      have hKc := hK.sub (tys' := []) [] rfl
      have hDc := hD.sub (ws' := [(hR, .inr (4, [.ref hT, r1, r2, r3, r4, .int 0, r6, r7])), (hT, .inr (8, [t0, .int 0]))]) [1, 2] (by decide) rfl
      have hFc := va_free (wc := [(hR, .inr (4, [.ref hT, r1, r2, r3, r4, .int 0, r6, r7])), (hT, .inr (8, [t0, .int 0]))]) hD hS hA [1, 2] rfl
      refine va_calli (va_runV (As := [.int 1]) (rest := []) ⟨hx, hb, hml, hown, hts⟩ (c_read_w l dC dI ad bA bB hR hT (t0 : Value) (r1 : Value) (r2 : Value) (r3 : Value) (r4 : Value) (r6 : Value) (r7 : Value) s.heap.size) (cwV 1 hts (kG (List.forall_mem_cons.mpr ⟨(List.mem_cons_of_mem _ (List.mem_append_left _ (List.mem_of_getElem? (i := 12) rfl))), (List.forall_mem_cons.mpr ⟨(List.mem_cons_of_mem _ (List.mem_append_left _ (List.mem_of_getElem? (i := 11) rfl))), (List.forall_mem_cons.mpr ⟨(List.mem_cons_of_mem _ (List.mem_append_left _ (List.mem_of_getElem? (i := 10) rfl))), (List.forall_mem_cons.mpr ⟨(List.mem_cons_of_mem _ (List.mem_append_left _ (List.mem_of_getElem? (i := 9) rfl))), (fun _ h => absurd h List.not_mem_nil)⟩)⟩)⟩)⟩) (by decide +kernel) (fun _ h => List.mem_cons_of_mem _ (List.mem_append_right _ (List.mem_append_right _ (List.mem_append_right _ (List.mem_append_right _ (List.mem_append_right _ (List.mem_append_right _ h))))))) gw_c_read_w) rfl rfl rfl (by decide +kernel) ⟨(Nat.le_of_ble_eq_true rfl), (Nat.le_of_ble_eq_true rfl)⟩) (kW_V kF_blind (kF_give hX hS hFc) (va_recv hKc hPc (ci := 4) (q0 := 0) rfl rfl) hPc hKc hDc) rfl rfl hl.1 rfl (lv_room (Nat.le_of_ble_eq_true rfl)) dX9_text_37 ⟨(Nat.le_of_ble_eq_true rfl), (Nat.le_of_ble_eq_true rfl)⟩) hS (fun q _ h => hFc q h) hFc (fun r_12 u t H1 locs ht hvm hw hB hz1 hk1 hS => ?_)
      have hP1 : va_P (dC, dI) vwCl [] H1 := fun k q h => by simp at h
      have hD1 : va_D (va_A [(hR, .inr (4, [.ref hT, r1, r2, r3, r4, .int 0, r6, r7])), (hT, .inr (8, [t0, .int 0]))] s.heap.size) [] := ⟨fun i j p q h => by simp at h, fun k q h => by simp at h⟩
      try dsimp only at hw
      obtain ⟨hP, hD⟩ := va_join (wr := [(h0, .inr (9, [.ref hT, .ref hR, v2, .ref hL, .ref hU, v5, v6, v7, v8, v9])), (hL, .inr (7, [.ref l0, .int 0])), (l0, .inl (cL, 6, .inr (.inr (.inr (.inr gL))))), (hU, .inr (7, [.ref m0, .int 0])), (m0, .inl (cM, 8, .inr (.inr (.inr (.inr gM)))))]) (w1 := []) hP hD [1, 2] [0, 3, 4, 5, 6] rfl rfl (by decide) (by decide) hk1 hFc hP1 hD1
      generalize H1 = H at hP hS ⊢
      have hP : va_P (dC, dI) vwCl [(h0, .inr (9, [.ref hT, .ref hR, v2, .ref hL, .ref hU, v5, v6, v7, v8, v9])), (hL, .inr (7, [.ref l0, .int 0])), (l0, .inl (cL, 6, .inr (.inr (.inr (.inr gL))))), (hU, .inr (7, [.ref m0, .int 0])), (m0, .inl (cM, 8, .inr (.inr (.inr (.inr gM)))))] H := hP
      have hD : va_D A [(h0, .inr (9, [.ref hT, .ref hR, v2, .ref hL, .ref hU, v5, v6, v7, v8, v9])), (hL, .inr (7, [.ref l0, .int 0])), (l0, .inl (cL, 6, .inr (.inr (.inr (.inr gL))))), (hU, .inr (7, [.ref m0, .int 0])), (m0, .inl (cM, 8, .inr (.inr (.inr (.inr gM)))))] := hD
      obtain rfl : r_12 = 0 := hw
      refine lv_iconst (v := (-1)) hx hb dX9_text_40 (by decide) ?_
      refine lv_icmp_eq (tgt := 46) hx hb dX9_text_41 (by decide) (fun c_13 => absurd c_13 (by decide)) (fun c_13 => ?_)
      refine lv_iconst (v := (-1)) hx hb dX9_text_44 (by decide) ?_
      exact W.iret (v := (-1)) hx hb hr (fun t ht hW => ⟨⟨(-1), (), rfl, rfl, trivial⟩, hS.F ht⟩) hS.2.2 dX9_text_45
  · refine lv_iconst (v := (-1)) hx hb dX9_text_7 (by decide) ?_
    exact W.iret (v := (-1)) hx hb hr (fun t ht hW => ⟨⟨(-1), (), rfl, rfl, trivial⟩, hS.F ht⟩) hS.2.2 dX9_text_8
