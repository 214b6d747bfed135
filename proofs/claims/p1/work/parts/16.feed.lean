theorem dX9_feed_0 : decode cX9_feed 0 = .ok (.iload_n 1, 1) := by decide +kernel
theorem dX9_feed_1 : decode cX9_feed 1 = .ok (.invokestatic 84, 3) := by decide +kernel
theorem dX9_feed_4 : decode cX9_feed 4 = .ok (.iload_n 2, 1) := by decide +kernel
theorem dX9_feed_5 : decode cX9_feed 5 = .ok (.invokestatic 84, 3) := by decide +kernel
theorem dX9_feed_8 : decode cX9_feed 8 = .ok (.iadd, 1) := by decide +kernel
theorem dX9_feed_9 : decode cX9_feed 9 = .ok (.iload_n 3, 1) := by decide +kernel
theorem dX9_feed_10 : decode cX9_feed 10 = .ok (.invokestatic 84, 3) := by decide +kernel
theorem dX9_feed_13 : decode cX9_feed 13 = .ok (.iadd, 1) := by decide +kernel
theorem dX9_feed_14 : decode cX9_feed 14 = .ok (.iload 4, 2) := by decide +kernel
theorem dX9_feed_16 : decode cX9_feed 16 = .ok (.invokestatic 84, 3) := by decide +kernel
theorem dX9_feed_19 : decode cX9_feed 19 = .ok (.iadd, 1) := by decide +kernel
theorem dX9_feed_20 : decode cX9_feed 20 = .ok (.iload 5, 2) := by decide +kernel
theorem dX9_feed_22 : decode cX9_feed 22 = .ok (.invokestatic 84, 3) := by decide +kernel
theorem dX9_feed_25 : decode cX9_feed 25 = .ok (.iadd, 1) := by decide +kernel
theorem dX9_feed_26 : decode cX9_feed 26 = .ok (.istore 6, 2) := by decide +kernel
theorem dX9_feed_28 : decode cX9_feed 28 = .ok (.aload_n 0, 1) := by decide +kernel
theorem dX9_feed_29 : decode cX9_feed 29 = .ok (.getfield 12, 3) := by decide +kernel
theorem dX9_feed_32 : decode cX9_feed 32 = .ok (.invokevirtual 88, 3) := by decide +kernel
theorem dX9_feed_35 : decode cX9_feed 35 = .ok (.iload 6, 2) := by decide +kernel
theorem dX9_feed_37 : decode cX9_feed 37 = .ok (.iadd, 1) := by decide +kernel
theorem dX9_feed_38 : decode cX9_feed 38 = .ok (.bipush 120, 2) := by decide +kernel
theorem dX9_feed_40 : decode cX9_feed 40 = .ok (.if_icmp .le 5, 3) := by decide +kernel
theorem dX9_feed_45 : decode cX9_feed 45 = .ok (.aload_n 0, 1) := by decide +kernel
theorem dX9_feed_46 : decode cX9_feed 46 = .ok (.getfield 12, 3) := by decide +kernel
theorem dX9_feed_49 : decode cX9_feed 49 = .ok (.iload_n 1, 1) := by decide +kernel
theorem dX9_feed_50 : decode cX9_feed 50 = .ok (.invokevirtual 92, 3) := by decide +kernel
theorem dX9_feed_53 : decode cX9_feed 53 = .ok (.aload_n 0, 1) := by decide +kernel
theorem dX9_feed_54 : decode cX9_feed 54 = .ok (.getfield 12, 3) := by decide +kernel
theorem dX9_feed_57 : decode cX9_feed 57 = .ok (.iload_n 2, 1) := by decide +kernel
theorem dX9_feed_58 : decode cX9_feed 58 = .ok (.invokevirtual 92, 3) := by decide +kernel
theorem dX9_feed_61 : decode cX9_feed 61 = .ok (.aload_n 0, 1) := by decide +kernel
theorem dX9_feed_62 : decode cX9_feed 62 = .ok (.getfield 12, 3) := by decide +kernel
theorem dX9_feed_65 : decode cX9_feed 65 = .ok (.iload_n 3, 1) := by decide +kernel
theorem dX9_feed_66 : decode cX9_feed 66 = .ok (.invokevirtual 92, 3) := by decide +kernel
theorem dX9_feed_69 : decode cX9_feed 69 = .ok (.aload_n 0, 1) := by decide +kernel
theorem dX9_feed_70 : decode cX9_feed 70 = .ok (.getfield 12, 3) := by decide +kernel
theorem dX9_feed_73 : decode cX9_feed 73 = .ok (.iload 4, 2) := by decide +kernel
theorem dX9_feed_75 : decode cX9_feed 75 = .ok (.invokevirtual 92, 3) := by decide +kernel
theorem dX9_feed_78 : decode cX9_feed 78 = .ok (.aload_n 0, 1) := by decide +kernel
theorem dX9_feed_79 : decode cX9_feed 79 = .ok (.getfield 12, 3) := by decide +kernel
theorem dX9_feed_82 : decode cX9_feed 82 = .ok (.iload 5, 2) := by decide +kernel
theorem dX9_feed_84 : decode cX9_feed 84 = .ok (.invokevirtual 92, 3) := by decide +kernel
theorem dX9_feed_87 : decode cX9_feed 87 = .ok (.aload_n 0, 1) := by decide +kernel
theorem dX9_feed_88 : decode cX9_feed 88 = .ok (.getfield 12, 3) := by decide +kernel
theorem dX9_feed_91 : decode cX9_feed 91 = .ok (.invokevirtual 88, 3) := by decide +kernel
theorem dX9_feed_94 : decode cX9_feed 94 = .ok (.ireturn, 1) := by decide +kernel
def w_c_feed9 : List Cond := .code yX9_feed cX9_feed 7 (some .int) :: ([.initialized RX8, .static yX8_bytesIn, .methodLink RX9 84 yX8_bytesIn, .fieldLink RX9 12 "NotEnded" "tape" "LNotEnded$Tape;", .selects RX8 yX8_length yX8_length, .instanceMethod yX8_length, .methodLink RX9 88 yX8_length, .selects RX8 yX8_append yX8_append, .instanceMethod yX8_append, .methodLink RX9 92 yX8_append] ++ (w_c_bytes8 ++ (wsX90 ++ (w_c_length8 ++ (w_c_append8)))))
theorem gw_c_feed9 : (w_c_feed9).all goodWord = true := by decide +kernel
set_option maxHeartbeats 4000000 in
set_option maxRecDepth 100000 in
theorem c_feed9 (l : Launch) (dC : Nat → ClassId) (dI : Nat → Nat → Nat) (h0 : Nat) (hT : Nat) (q0 : Nat) (cC : ClassId) (g : Nat → Int32) (v1 : Value) (v2 : Value) (v3 : Value) (v4 : Value) (v5 : Value) (v6 : Value) (v7 : Value) (v8 : Value) (v9 : Value) (p0 : Int32) (p1 : Int32) (p2 : Int32) (p3 : Int32) (p4 : Int32) (sz : Nat) : Met l yX9_feed w_c_feed9 ({ frames := 2, cells := 0, slots := 0, locals := 120 }) (kW dC dI [.ref h0, .int p0, .int p1, .int p2, .int p3, .int p4] [(h0, .inr (9, [.ref hT, v1, v2, v3, v4, v5, v6, v7, v8, v9])), (hT, .inr (8, [.ref q0, .int 0])), (q0, .inl (cC, 120, .inl g))] [(cC, .char)] kT sz) (va_Qi (fun (r : Int32) (_ : Unit) => r = kFeed p0 p1 p2 p3 p4) (fun _ _ => True) (va_A [(h0, .inr (9, [.ref hT, v1, v2, v3, v4, v5, v6, v7, v8, v9])), (hT, .inr (8, [.ref q0, .int 0])), (q0, .inl (cC, 120, .inl g))] sz)) 0 0 (va_A [(h0, .inr (9, [.ref hT, v1, v2, v3, v4, v5, v6, v7, v8, v9])), (hT, .inr (8, [.ref q0, .int 0])), (q0, .inl (cC, 120, .inl g))] sz) := by
  refine Met.ofW (cc := cX9_feed) (maxL := 7) (ret := (some .int)) (by decide) rfl ?_
  intro p e s m args below meth c s₁ B hml hv
  obtain ⟨rfl, hsz, hP, hK, hD0, hX⟩ := hv
  have hx := B.exec
  have hb := B.bytes
  have hr := B.returns
  have hts := atoms_spec (ws := w_c_feed9) B.pre
  have hown : s.vm.findClass RX9 = some m.cls := findClass_of_methodNamed B.named
  have hlocks := B.notSynchronized
  subst hsz
  have hD := hD0.self (sz := s.heap.size)
  generalize hAe : va_A [(h0, .inr (9, [.ref hT, v1, v2, v3, v4, v5, v6, v7, v8, v9])), (hT, .inr (8, [.ref q0, .int 0])), (q0, .inl (cC, 120, .inl g))] s.heap.size = A at hD ⊢
  have hA : ∀ q : Nat, s.heap.size ≤ q → A q := fun q h => by rw [← hAe]; exact Or.inr h
  have hS : va_S A s.heap s.heap [] := va_S.rf
  have hP : va_P (dC, dI) vwCl [(h0, .inr (9, [.ref hT, v1, v2, v3, v4, v5, v6, v7, v8, v9])), (hT, .inr (8, [.ref q0, .int 0])), (q0, .inl (cC, 120, .inl g))] s.heap := hP
  have hl := lv_entry ([.ref h0, .int p0, .int p1, .int p2, .int p3, .int p4]) (n := 7) (Nat.le_of_ble_eq_true rfl)
  rw [lg_entry_eq]
  generalize (lg_sl ([.ref h0, .int p0, .int p1, .int p2, .int p3, .int p4]) ++ List.replicate (7 - (lg_sl ([.ref h0, .int p0, .int p1, .int p2, .int p3, .int p4])).length) Slot.unset).toArray = ls at hl ⊢
  have hl : lv_has ls 7 [(0, .ref h0), (1, .int p0), (2, .int p1), (3, .int p2), (4, .int p3), (5, .int p4)] := hl
  refine lv_iload_n hx hb dX9_feed_0 rfl (lv_at hl 1 rfl) ?_
  have hPc := hP.sub (ws' := []) [] rfl
  have hKc := hK.sub (tys' := []) [] rfl
  refine vp_callSi (va_runS (As := [.int p0]) (rest := []) ⟨hx, hb, hml, hown, hts⟩ (c_bytes8 l dC dI p0) (va_cwS 1 hts (kG (List.forall_mem_cons.mpr ⟨(List.mem_cons_of_mem _ (List.mem_append_left _ (List.mem_of_getElem? (i := 2) rfl))), (List.forall_mem_cons.mpr ⟨(List.mem_cons_of_mem _ (List.mem_append_left _ (List.mem_of_getElem? (i := 1) rfl))), (List.forall_mem_cons.mpr ⟨(List.mem_cons_of_mem _ (List.mem_append_left _ (List.mem_of_getElem? (i := 0) rfl))), (fun _ h => absurd h List.not_mem_nil)⟩)⟩)⟩) (by decide +kernel) (fun _ h => List.mem_cons_of_mem _ (List.mem_append_right _ (List.mem_append_left _ h))) gw_c_bytes8) rfl rfl rfl (by decide +kernel) ⟨(Nat.le_of_ble_eq_true rfl), (Nat.le_of_ble_eq_true rfl)⟩) (kR_S kT_blind kT_give hPc hKc) rfl rfl hl.1 rfl (lv_room (Nat.le_of_ble_eq_true rfl)) dX9_feed_1 ⟨(Nat.le_of_ble_eq_true rfl), (Nat.le_of_ble_eq_true rfl)⟩).run (fun r_1 hw => ?_)
  obtain rfl : r_1 = nI (kCnt p0) := hw
  refine lv_iload_n hx hb dX9_feed_4 rfl (lv_at hl 2 rfl) ?_
  have hPc := hP.sub (ws' := []) [] rfl
  have hKc := hK.sub (tys' := []) [] rfl
  refine vp_callSi (va_runS (As := [.int p1]) (rest := [.int (nI (kCnt p0))]) ⟨hx, hb, hml, hown, hts⟩ (c_bytes8 l dC dI p1) (va_cwS 1 hts (kG (List.forall_mem_cons.mpr ⟨(List.mem_cons_of_mem _ (List.mem_append_left _ (List.mem_of_getElem? (i := 2) rfl))), (List.forall_mem_cons.mpr ⟨(List.mem_cons_of_mem _ (List.mem_append_left _ (List.mem_of_getElem? (i := 1) rfl))), (List.forall_mem_cons.mpr ⟨(List.mem_cons_of_mem _ (List.mem_append_left _ (List.mem_of_getElem? (i := 0) rfl))), (fun _ h => absurd h List.not_mem_nil)⟩)⟩)⟩) (by decide +kernel) (fun _ h => List.mem_cons_of_mem _ (List.mem_append_right _ (List.mem_append_left _ h))) gw_c_bytes8) rfl rfl rfl (by decide +kernel) ⟨(Nat.le_of_ble_eq_true rfl), (Nat.le_of_ble_eq_true rfl)⟩) (kR_S kT_blind kT_give hPc hKc) rfl rfl hl.1 rfl (lv_room (Nat.le_of_ble_eq_true rfl)) dX9_feed_5 ⟨(Nat.le_of_ble_eq_true rfl), (Nat.le_of_ble_eq_true rfl)⟩).run (fun r_2 hw => ?_)
  obtain rfl : r_2 = nI (kCnt p1) := hw
  refine lv_iadd hx hb dX9_feed_8 ?_
  refine lv_topi (fun y_3 ey_3 => ?_)
  obtain rfl : y_3 = nI (kCnt p0 + kCnt p1) := ey_3.trans (nI_add (kCnt p0) (kCnt p1))
  refine lv_iload_n hx hb dX9_feed_9 rfl (lv_at hl 3 rfl) ?_
  have hPc := hP.sub (ws' := []) [] rfl
  have hKc := hK.sub (tys' := []) [] rfl
  refine vp_callSi (va_runS (As := [.int p2]) (rest := [.int (nI (kCnt p0 + kCnt p1))]) ⟨hx, hb, hml, hown, hts⟩ (c_bytes8 l dC dI p2) (va_cwS 1 hts (kG (List.forall_mem_cons.mpr ⟨(List.mem_cons_of_mem _ (List.mem_append_left _ (List.mem_of_getElem? (i := 2) rfl))), (List.forall_mem_cons.mpr ⟨(List.mem_cons_of_mem _ (List.mem_append_left _ (List.mem_of_getElem? (i := 1) rfl))), (List.forall_mem_cons.mpr ⟨(List.mem_cons_of_mem _ (List.mem_append_left _ (List.mem_of_getElem? (i := 0) rfl))), (fun _ h => absurd h List.not_mem_nil)⟩)⟩)⟩) (by decide +kernel) (fun _ h => List.mem_cons_of_mem _ (List.mem_append_right _ (List.mem_append_left _ h))) gw_c_bytes8) rfl rfl rfl (by decide +kernel) ⟨(Nat.le_of_ble_eq_true rfl), (Nat.le_of_ble_eq_true rfl)⟩) (kR_S kT_blind kT_give hPc hKc) rfl rfl hl.1 rfl (lv_room (Nat.le_of_ble_eq_true rfl)) dX9_feed_10 ⟨(Nat.le_of_ble_eq_true rfl), (Nat.le_of_ble_eq_true rfl)⟩).run (fun r_4 hw => ?_)
  obtain rfl : r_4 = nI (kCnt p2) := hw
  refine lv_iadd hx hb dX9_feed_13 ?_
  refine lv_topi (fun y_5 ey_5 => ?_)
  obtain rfl : y_5 = nI (kCnt p0 + kCnt p1 + kCnt p2) := ey_5.trans (nI_add (kCnt p0 + kCnt p1) (kCnt p2))
  refine lv_iload hx hb dX9_feed_14 (lv_at hl 4 rfl) ?_
  have hPc := hP.sub (ws' := []) [] rfl
  have hKc := hK.sub (tys' := []) [] rfl
  refine vp_callSi (va_runS (As := [.int p3]) (rest := [.int (nI (kCnt p0 + kCnt p1 + kCnt p2))]) ⟨hx, hb, hml, hown, hts⟩ (c_bytes8 l dC dI p3) (va_cwS 1 hts (kG (List.forall_mem_cons.mpr ⟨(List.mem_cons_of_mem _ (List.mem_append_left _ (List.mem_of_getElem? (i := 2) rfl))), (List.forall_mem_cons.mpr ⟨(List.mem_cons_of_mem _ (List.mem_append_left _ (List.mem_of_getElem? (i := 1) rfl))), (List.forall_mem_cons.mpr ⟨(List.mem_cons_of_mem _ (List.mem_append_left _ (List.mem_of_getElem? (i := 0) rfl))), (fun _ h => absurd h List.not_mem_nil)⟩)⟩)⟩) (by decide +kernel) (fun _ h => List.mem_cons_of_mem _ (List.mem_append_right _ (List.mem_append_left _ h))) gw_c_bytes8) rfl rfl rfl (by decide +kernel) ⟨(Nat.le_of_ble_eq_true rfl), (Nat.le_of_ble_eq_true rfl)⟩) (kR_S kT_blind kT_give hPc hKc) rfl rfl hl.1 rfl (lv_room (Nat.le_of_ble_eq_true rfl)) dX9_feed_16 ⟨(Nat.le_of_ble_eq_true rfl), (Nat.le_of_ble_eq_true rfl)⟩).run (fun r_6 hw => ?_)
  obtain rfl : r_6 = nI (kCnt p3) := hw
  refine lv_iadd hx hb dX9_feed_19 ?_
  refine lv_topi (fun y_7 ey_7 => ?_)
  obtain rfl : y_7 = nI (kCnt p0 + kCnt p1 + kCnt p2 + kCnt p3) := ey_7.trans (nI_add (kCnt p0 + kCnt p1 + kCnt p2) (kCnt p3))
  refine lv_iload hx hb dX9_feed_20 (lv_at hl 5 rfl) ?_
  have hPc := hP.sub (ws' := []) [] rfl
  have hKc := hK.sub (tys' := []) [] rfl
  refine vp_callSi (va_runS (As := [.int p4]) (rest := [.int (nI (kCnt p0 + kCnt p1 + kCnt p2 + kCnt p3))]) ⟨hx, hb, hml, hown, hts⟩ (c_bytes8 l dC dI p4) (va_cwS 1 hts (kG (List.forall_mem_cons.mpr ⟨(List.mem_cons_of_mem _ (List.mem_append_left _ (List.mem_of_getElem? (i := 2) rfl))), (List.forall_mem_cons.mpr ⟨(List.mem_cons_of_mem _ (List.mem_append_left _ (List.mem_of_getElem? (i := 1) rfl))), (List.forall_mem_cons.mpr ⟨(List.mem_cons_of_mem _ (List.mem_append_left _ (List.mem_of_getElem? (i := 0) rfl))), (fun _ h => absurd h List.not_mem_nil)⟩)⟩)⟩) (by decide +kernel) (fun _ h => List.mem_cons_of_mem _ (List.mem_append_right _ (List.mem_append_left _ h))) gw_c_bytes8) rfl rfl rfl (by decide +kernel) ⟨(Nat.le_of_ble_eq_true rfl), (Nat.le_of_ble_eq_true rfl)⟩) (kR_S kT_blind kT_give hPc hKc) rfl rfl hl.1 rfl (lv_room (Nat.le_of_ble_eq_true rfl)) dX9_feed_22 ⟨(Nat.le_of_ble_eq_true rfl), (Nat.le_of_ble_eq_true rfl)⟩).run (fun r_8 hw => ?_)
  obtain rfl : r_8 = nI (kCnt p4) := hw
  refine lv_iadd hx hb dX9_feed_25 ?_
  refine lv_topi (fun y_9 ey_9 => ?_)
  obtain rfl : y_9 = nI (kCnt p0 + kCnt p1 + kCnt p2 + kCnt p3 + kCnt p4) := ey_9.trans (nI_add (kCnt p0 + kCnt p1 + kCnt p2 + kCnt p3) (kCnt p4))
  refine lv_istore (lv' := [(6, .int (nI (kCnt p0 + kCnt p1 + kCnt p2 + kCnt p3 + kCnt p4))), (0, .ref h0), (1, .int p0), (2, .int p1), (3, .int p2), (4, .int p3), (5, .int p4)]) hx hb dX9_feed_26 hl (by decide) rfl (fun ls hl => ?_)
  refine lv_aload_n hx hb dX9_feed_28 rfl (lv_at hl 1 rfl) ?_
  refine va_get (D := (dC, dI)) (ci := 9) (v := .ref hT) (C := RX9) (T := TX9) (N := 10) hx hb hts (fun _ h => List.mem_cons_of_mem _ (List.mem_append_right _ (List.mem_append_right _ (List.mem_append_left _ h)))) hown hK hP 0 rfl rfl 0 (by decide) (hts (.fieldLink RX9 12 "NotEnded" "tape" "LNotEnded$Tape;") (List.mem_cons_of_mem _ (List.mem_append_left _ (List.mem_of_getElem? (i := 3) rfl)))) (fun _ h9 => h9) rfl dX9_feed_29 ?_
  have hPc := hP.sub (ws' := [(hT, .inr (8, [.ref q0, .int 0]))]) [1] rfl
  have hKc := hK.sub (tys' := []) [] rfl
  refine vp_callSi (va_runV (As := []) (rest := []) ⟨hx, hb, hml, hown, hts⟩ (c_length8 l dC dI hT (.ref q0 : Value) 0) (cwV 0 hts (kG (List.forall_mem_cons.mpr ⟨(List.mem_cons_of_mem _ (List.mem_append_left _ (List.mem_of_getElem? (i := 6) rfl))), (List.forall_mem_cons.mpr ⟨(List.mem_cons_of_mem _ (List.mem_append_left _ (List.mem_of_getElem? (i := 5) rfl))), (List.forall_mem_cons.mpr ⟨(List.mem_cons_of_mem _ (List.mem_append_left _ (List.mem_of_getElem? (i := 4) rfl))), (List.forall_mem_cons.mpr ⟨(List.mem_cons_of_mem _ (List.mem_append_left _ (List.mem_of_getElem? (i := 0) rfl))), (fun _ h => absurd h List.not_mem_nil)⟩)⟩)⟩)⟩) (by decide +kernel) (fun _ h => List.mem_cons_of_mem _ (List.mem_append_right _ (List.mem_append_right _ (List.mem_append_right _ (List.mem_append_left _ h))))) gw_c_length8) rfl rfl rfl (by decide +kernel) ⟨(Nat.le_of_ble_eq_true rfl), (Nat.le_of_ble_eq_true rfl)⟩) (kR_V kT_blind kT_give (va_recv hKc hPc (ci := 8) (q0 := 0) rfl rfl) hPc hKc) rfl rfl hl.1 rfl (lv_room (Nat.le_of_ble_eq_true rfl)) dX9_feed_32 ⟨(Nat.le_of_ble_eq_true rfl), (Nat.le_of_ble_eq_true rfl)⟩).run (fun r_10 hw => ?_)
  obtain rfl : r_10 = 0 := hw
  refine lv_iload hx hb dX9_feed_35 (lv_at hl 0 rfl) ?_
  refine lv_iadd hx hb dX9_feed_37 ?_
  refine lv_topi (fun y_11 ey_11 => ?_)
  obtain rfl : y_11 = nI (0 + (kCnt p0 + kCnt p1 + kCnt p2 + kCnt p3 + kCnt p4)) := ey_11.trans (nI_add (0) (kCnt p0 + kCnt p1 + kCnt p2 + kCnt p3 + kCnt p4))
  refine lv_bipush (v := 120) hx hb dX9_feed_38 (by decide) ?_
  refine lv_icmp_le (tgt := 45) hx hb dX9_feed_40 (by decide) (fun c_12 => ?_) (fun c_12 => absurd (nI_le (a := 0 + (kCnt p0 + kCnt p1 + kCnt p2 + kCnt p3 + kCnt p4)) (b := 120) (by have h1 := kCnt_le p0; have h2 := kCnt_le p1; have h3 := kCnt_le p2; have h4 := kCnt_le p3; have h5 := kCnt_le p4; omega) (by decide)) c_12)
  refine lv_aload_n hx hb dX9_feed_45 rfl (lv_at hl 1 rfl) ?_
  refine va_get (D := (dC, dI)) (ci := 9) (v := .ref hT) (C := RX9) (T := TX9) (N := 10) hx hb hts (fun _ h => List.mem_cons_of_mem _ (List.mem_append_right _ (List.mem_append_right _ (List.mem_append_left _ h)))) hown hK hP 0 rfl rfl 0 (by decide) (hts (.fieldLink RX9 12 "NotEnded" "tape" "LNotEnded$Tape;") (List.mem_cons_of_mem _ (List.mem_append_left _ (List.mem_of_getElem? (i := 3) rfl)))) (fun _ h9 => h9) rfl dX9_feed_46 ?_
  refine lv_iload_n hx hb dX9_feed_49 rfl (lv_at hl 2 rfl) ?_
  have hPc := hP.sub (ws' := [(hT, .inr (8, [.ref q0, .int 0])), (q0, .inl (cC, 120, .inl g))]) [1, 2] rfl
  have hKc := hK.sub (tys' := [(cC, .char)]) [0] rfl
  have hDc := hD.sub (ws' := [(hT, .inr (8, [.ref q0, .int 0])), (q0, .inl (cC, 120, .inl g))]) [1, 2] (by decide) rfl
  have hFc := va_free (wc := [(hT, .inr (8, [.ref q0, .int 0])), (q0, .inl (cC, 120, .inl g))]) hD hS hA [1, 2] rfl
  refine va_callv (va_runV (As := [.int p0]) (rest := []) ⟨hx, hb, hml, hown, hts⟩ (c_append8 l dC dI hT q0 cC g 0 (0) rfl (by have h1 := kCnt_le p0; have h2 := kCnt_le p1; have h3 := kCnt_le p2; have h4 := kCnt_le p3; have h5 := kCnt_le p4; omega) p0 s.heap.size) (cwV 1 hts (kG (List.forall_mem_cons.mpr ⟨(List.mem_cons_of_mem _ (List.mem_append_left _ (List.mem_of_getElem? (i := 9) rfl))), (List.forall_mem_cons.mpr ⟨(List.mem_cons_of_mem _ (List.mem_append_left _ (List.mem_of_getElem? (i := 8) rfl))), (List.forall_mem_cons.mpr ⟨(List.mem_cons_of_mem _ (List.mem_append_left _ (List.mem_of_getElem? (i := 7) rfl))), (List.forall_mem_cons.mpr ⟨(List.mem_cons_of_mem _ (List.mem_append_left _ (List.mem_of_getElem? (i := 0) rfl))), (fun _ h => absurd h List.not_mem_nil)⟩)⟩)⟩)⟩) (by decide +kernel) (fun _ h => List.mem_cons_of_mem _ (List.mem_append_right _ (List.mem_append_right _ (List.mem_append_right _ (List.mem_append_right _ h))))) gw_c_append8) rfl rfl rfl (by decide +kernel) ⟨(Nat.le_of_ble_eq_true rfl), (Nat.le_of_ble_eq_true rfl)⟩) (kW_V kT_blind kT_give (va_recv hKc hPc (ci := 8) (q0 := 0) rfl rfl) hPc hKc hDc) rfl rfl hl.1 rfl (lv_room (Nat.le_of_ble_eq_true rfl)) dX9_feed_50 ⟨(Nat.le_of_ble_eq_true rfl), (Nat.le_of_ble_eq_true rfl)⟩) hS (fun q _ h => hFc q h) hFc (fun u t H1 locs ht hvm hw hB hz1 hk1 hS => ?_)
  obtain ⟨g1_13, rfl⟩ : ∃ z, z = u := ⟨_, rfl⟩
  obtain ⟨hP1, hK1, hD1⟩ := hB
  rw [ht] at hP1
  try dsimp only at hw
  obtain ⟨hP, hD⟩ := va_join (wr := [(h0, .inr (9, [.ref hT, v1, v2, v3, v4, v5, v6, v7, v8, v9]))]) (w1 := [(hT, .inr (8, [.ref q0, .int (nI ((0) + kCnt p0))])), (q0, .inl (cC, 120, .inl g1_13))]) hP hD [1, 2] [0] rfl rfl (by decide) (by decide) hk1 hFc hP1 hD1
  generalize H1 = H at hP hS ⊢
  have hP : va_P (dC, dI) vwCl [(h0, .inr (9, [.ref hT, v1, v2, v3, v4, v5, v6, v7, v8, v9])), (hT, .inr (8, [.ref q0, .int (nI ((0) + kCnt p0))])), (q0, .inl (cC, 120, .inl g1_13))] H := hP
  have hD : va_D A [(h0, .inr (9, [.ref hT, v1, v2, v3, v4, v5, v6, v7, v8, v9])), (hT, .inr (8, [.ref q0, .int (nI ((0) + kCnt p0))])), (q0, .inl (cC, 120, .inl g1_13))] := hD
  refine lv_aload_n hx hb dX9_feed_53 rfl (lv_at hl 1 rfl) ?_
  refine va_get (D := (dC, dI)) (ci := 9) (v := .ref hT) (C := RX9) (T := TX9) (N := 10) hx hb hts (fun _ h => List.mem_cons_of_mem _ (List.mem_append_right _ (List.mem_append_right _ (List.mem_append_left _ h)))) hown hK hP 0 rfl rfl 0 (by decide) (hts (.fieldLink RX9 12 "NotEnded" "tape" "LNotEnded$Tape;") (List.mem_cons_of_mem _ (List.mem_append_left _ (List.mem_of_getElem? (i := 3) rfl)))) (fun _ h9 => h9) rfl dX9_feed_54 ?_
  refine lv_iload_n hx hb dX9_feed_57 rfl (lv_at hl 3 rfl) ?_
  have hPc := hP.sub (ws' := [(hT, .inr (8, [.ref q0, .int (nI ((0) + kCnt p0))])), (q0, .inl (cC, 120, .inl g1_13))]) [1, 2] rfl
  have hKc := hK.sub (tys' := [(cC, .char)]) [0] rfl
  have hDc := hD.sub (ws' := [(hT, .inr (8, [.ref q0, .int (nI ((0) + kCnt p0))])), (q0, .inl (cC, 120, .inl g1_13))]) [1, 2] (by decide) rfl
  have hFc := va_free (wc := [(hT, .inr (8, [.ref q0, .int (nI ((0) + kCnt p0))])), (q0, .inl (cC, 120, .inl g1_13))]) hD hS hA [1, 2] rfl
  refine va_callv (va_runV (As := [.int p1]) (rest := []) ⟨hx, hb, hml, hown, hts⟩ (c_append8 l dC dI hT q0 cC g1_13 (nI ((0) + kCnt p0)) ((0) + kCnt p0) rfl (by have h1 := kCnt_le p0; have h2 := kCnt_le p1; have h3 := kCnt_le p2; have h4 := kCnt_le p3; have h5 := kCnt_le p4; omega) p1 H.size) (cwV 1 hts (kG (List.forall_mem_cons.mpr ⟨(List.mem_cons_of_mem _ (List.mem_append_left _ (List.mem_of_getElem? (i := 9) rfl))), (List.forall_mem_cons.mpr ⟨(List.mem_cons_of_mem _ (List.mem_append_left _ (List.mem_of_getElem? (i := 8) rfl))), (List.forall_mem_cons.mpr ⟨(List.mem_cons_of_mem _ (List.mem_append_left _ (List.mem_of_getElem? (i := 7) rfl))), (List.forall_mem_cons.mpr ⟨(List.mem_cons_of_mem _ (List.mem_append_left _ (List.mem_of_getElem? (i := 0) rfl))), (fun _ h => absurd h List.not_mem_nil)⟩)⟩)⟩)⟩) (by decide +kernel) (fun _ h => List.mem_cons_of_mem _ (List.mem_append_right _ (List.mem_append_right _ (List.mem_append_right _ (List.mem_append_right _ h))))) gw_c_append8) rfl rfl rfl (by decide +kernel) ⟨(Nat.le_of_ble_eq_true rfl), (Nat.le_of_ble_eq_true rfl)⟩) (kW_V kT_blind kT_give (va_recv hKc hPc (ci := 8) (q0 := 0) rfl rfl) hPc hKc hDc) rfl rfl hl.1 rfl (lv_room (Nat.le_of_ble_eq_true rfl)) dX9_feed_58 ⟨(Nat.le_of_ble_eq_true rfl), (Nat.le_of_ble_eq_true rfl)⟩) hS (fun q _ h => hFc q h) hFc (fun u t H1 locs ht hvm hw hB hz1 hk1 hS => ?_)
  obtain ⟨g1_15, rfl⟩ : ∃ z, z = u := ⟨_, rfl⟩
  obtain ⟨hP1, hK1, hD1⟩ := hB
  rw [ht] at hP1
  try dsimp only at hw
  obtain ⟨hP, hD⟩ := va_join (wr := [(h0, .inr (9, [.ref hT, v1, v2, v3, v4, v5, v6, v7, v8, v9]))]) (w1 := [(hT, .inr (8, [.ref q0, .int (nI (((0) + kCnt p0) + kCnt p1))])), (q0, .inl (cC, 120, .inl g1_15))]) hP hD [1, 2] [0] rfl rfl (by decide) (by decide) hk1 hFc hP1 hD1
  generalize H1 = H at hP hS ⊢
  have hP : va_P (dC, dI) vwCl [(h0, .inr (9, [.ref hT, v1, v2, v3, v4, v5, v6, v7, v8, v9])), (hT, .inr (8, [.ref q0, .int (nI (((0) + kCnt p0) + kCnt p1))])), (q0, .inl (cC, 120, .inl g1_15))] H := hP
  have hD : va_D A [(h0, .inr (9, [.ref hT, v1, v2, v3, v4, v5, v6, v7, v8, v9])), (hT, .inr (8, [.ref q0, .int (nI (((0) + kCnt p0) + kCnt p1))])), (q0, .inl (cC, 120, .inl g1_15))] := hD
  refine lv_aload_n hx hb dX9_feed_61 rfl (lv_at hl 1 rfl) ?_
  refine va_get (D := (dC, dI)) (ci := 9) (v := .ref hT) (C := RX9) (T := TX9) (N := 10) hx hb hts (fun _ h => List.mem_cons_of_mem _ (List.mem_append_right _ (List.mem_append_right _ (List.mem_append_left _ h)))) hown hK hP 0 rfl rfl 0 (by decide) (hts (.fieldLink RX9 12 "NotEnded" "tape" "LNotEnded$Tape;") (List.mem_cons_of_mem _ (List.mem_append_left _ (List.mem_of_getElem? (i := 3) rfl)))) (fun _ h9 => h9) rfl dX9_feed_62 ?_
  refine lv_iload_n hx hb dX9_feed_65 rfl (lv_at hl 4 rfl) ?_
  have hPc := hP.sub (ws' := [(hT, .inr (8, [.ref q0, .int (nI (((0) + kCnt p0) + kCnt p1))])), (q0, .inl (cC, 120, .inl g1_15))]) [1, 2] rfl
  have hKc := hK.sub (tys' := [(cC, .char)]) [0] rfl
  have hDc := hD.sub (ws' := [(hT, .inr (8, [.ref q0, .int (nI (((0) + kCnt p0) + kCnt p1))])), (q0, .inl (cC, 120, .inl g1_15))]) [1, 2] (by decide) rfl
  have hFc := va_free (wc := [(hT, .inr (8, [.ref q0, .int (nI (((0) + kCnt p0) + kCnt p1))])), (q0, .inl (cC, 120, .inl g1_15))]) hD hS hA [1, 2] rfl
  refine va_callv (va_runV (As := [.int p2]) (rest := []) ⟨hx, hb, hml, hown, hts⟩ (c_append8 l dC dI hT q0 cC g1_15 (nI (((0) + kCnt p0) + kCnt p1)) (((0) + kCnt p0) + kCnt p1) rfl (by have h1 := kCnt_le p0; have h2 := kCnt_le p1; have h3 := kCnt_le p2; have h4 := kCnt_le p3; have h5 := kCnt_le p4; omega) p2 H.size) (cwV 1 hts (kG (List.forall_mem_cons.mpr ⟨(List.mem_cons_of_mem _ (List.mem_append_left _ (List.mem_of_getElem? (i := 9) rfl))), (List.forall_mem_cons.mpr ⟨(List.mem_cons_of_mem _ (List.mem_append_left _ (List.mem_of_getElem? (i := 8) rfl))), (List.forall_mem_cons.mpr ⟨(List.mem_cons_of_mem _ (List.mem_append_left _ (List.mem_of_getElem? (i := 7) rfl))), (List.forall_mem_cons.mpr ⟨(List.mem_cons_of_mem _ (List.mem_append_left _ (List.mem_of_getElem? (i := 0) rfl))), (fun _ h => absurd h List.not_mem_nil)⟩)⟩)⟩)⟩) (by decide +kernel) (fun _ h => List.mem_cons_of_mem _ (List.mem_append_right _ (List.mem_append_right _ (List.mem_append_right _ (List.mem_append_right _ h))))) gw_c_append8) rfl rfl rfl (by decide +kernel) ⟨(Nat.le_of_ble_eq_true rfl), (Nat.le_of_ble_eq_true rfl)⟩) (kW_V kT_blind kT_give (va_recv hKc hPc (ci := 8) (q0 := 0) rfl rfl) hPc hKc hDc) rfl rfl hl.1 rfl (lv_room (Nat.le_of_ble_eq_true rfl)) dX9_feed_66 ⟨(Nat.le_of_ble_eq_true rfl), (Nat.le_of_ble_eq_true rfl)⟩) hS (fun q _ h => hFc q h) hFc (fun u t H1 locs ht hvm hw hB hz1 hk1 hS => ?_)
  obtain ⟨g1_17, rfl⟩ : ∃ z, z = u := ⟨_, rfl⟩
  obtain ⟨hP1, hK1, hD1⟩ := hB
  rw [ht] at hP1
  try dsimp only at hw
  obtain ⟨hP, hD⟩ := va_join (wr := [(h0, .inr (9, [.ref hT, v1, v2, v3, v4, v5, v6, v7, v8, v9]))]) (w1 := [(hT, .inr (8, [.ref q0, .int (nI ((((0) + kCnt p0) + kCnt p1) + kCnt p2))])), (q0, .inl (cC, 120, .inl g1_17))]) hP hD [1, 2] [0] rfl rfl (by decide) (by decide) hk1 hFc hP1 hD1
  generalize H1 = H at hP hS ⊢
  have hP : va_P (dC, dI) vwCl [(h0, .inr (9, [.ref hT, v1, v2, v3, v4, v5, v6, v7, v8, v9])), (hT, .inr (8, [.ref q0, .int (nI ((((0) + kCnt p0) + kCnt p1) + kCnt p2))])), (q0, .inl (cC, 120, .inl g1_17))] H := hP
  have hD : va_D A [(h0, .inr (9, [.ref hT, v1, v2, v3, v4, v5, v6, v7, v8, v9])), (hT, .inr (8, [.ref q0, .int (nI ((((0) + kCnt p0) + kCnt p1) + kCnt p2))])), (q0, .inl (cC, 120, .inl g1_17))] := hD
  refine lv_aload_n hx hb dX9_feed_69 rfl (lv_at hl 1 rfl) ?_
  refine va_get (D := (dC, dI)) (ci := 9) (v := .ref hT) (C := RX9) (T := TX9) (N := 10) hx hb hts (fun _ h => List.mem_cons_of_mem _ (List.mem_append_right _ (List.mem_append_right _ (List.mem_append_left _ h)))) hown hK hP 0 rfl rfl 0 (by decide) (hts (.fieldLink RX9 12 "NotEnded" "tape" "LNotEnded$Tape;") (List.mem_cons_of_mem _ (List.mem_append_left _ (List.mem_of_getElem? (i := 3) rfl)))) (fun _ h9 => h9) rfl dX9_feed_70 ?_
  refine lv_iload hx hb dX9_feed_73 (lv_at hl 5 rfl) ?_
  have hPc := hP.sub (ws' := [(hT, .inr (8, [.ref q0, .int (nI ((((0) + kCnt p0) + kCnt p1) + kCnt p2))])), (q0, .inl (cC, 120, .inl g1_17))]) [1, 2] rfl
  have hKc := hK.sub (tys' := [(cC, .char)]) [0] rfl
  have hDc := hD.sub (ws' := [(hT, .inr (8, [.ref q0, .int (nI ((((0) + kCnt p0) + kCnt p1) + kCnt p2))])), (q0, .inl (cC, 120, .inl g1_17))]) [1, 2] (by decide) rfl
  have hFc := va_free (wc := [(hT, .inr (8, [.ref q0, .int (nI ((((0) + kCnt p0) + kCnt p1) + kCnt p2))])), (q0, .inl (cC, 120, .inl g1_17))]) hD hS hA [1, 2] rfl
  refine va_callv (va_runV (As := [.int p3]) (rest := []) ⟨hx, hb, hml, hown, hts⟩ (c_append8 l dC dI hT q0 cC g1_17 (nI ((((0) + kCnt p0) + kCnt p1) + kCnt p2)) ((((0) + kCnt p0) + kCnt p1) + kCnt p2) rfl (by have h1 := kCnt_le p0; have h2 := kCnt_le p1; have h3 := kCnt_le p2; have h4 := kCnt_le p3; have h5 := kCnt_le p4; omega) p3 H.size) (cwV 1 hts (kG (List.forall_mem_cons.mpr ⟨(List.mem_cons_of_mem _ (List.mem_append_left _ (List.mem_of_getElem? (i := 9) rfl))), (List.forall_mem_cons.mpr ⟨(List.mem_cons_of_mem _ (List.mem_append_left _ (List.mem_of_getElem? (i := 8) rfl))), (List.forall_mem_cons.mpr ⟨(List.mem_cons_of_mem _ (List.mem_append_left _ (List.mem_of_getElem? (i := 7) rfl))), (List.forall_mem_cons.mpr ⟨(List.mem_cons_of_mem _ (List.mem_append_left _ (List.mem_of_getElem? (i := 0) rfl))), (fun _ h => absurd h List.not_mem_nil)⟩)⟩)⟩)⟩) (by decide +kernel) (fun _ h => List.mem_cons_of_mem _ (List.mem_append_right _ (List.mem_append_right _ (List.mem_append_right _ (List.mem_append_right _ h))))) gw_c_append8) rfl rfl rfl (by decide +kernel) ⟨(Nat.le_of_ble_eq_true rfl), (Nat.le_of_ble_eq_true rfl)⟩) (kW_V kT_blind kT_give (va_recv hKc hPc (ci := 8) (q0 := 0) rfl rfl) hPc hKc hDc) rfl rfl hl.1 rfl (lv_room (Nat.le_of_ble_eq_true rfl)) dX9_feed_75 ⟨(Nat.le_of_ble_eq_true rfl), (Nat.le_of_ble_eq_true rfl)⟩) hS (fun q _ h => hFc q h) hFc (fun u t H1 locs ht hvm hw hB hz1 hk1 hS => ?_)
  obtain ⟨g1_19, rfl⟩ : ∃ z, z = u := ⟨_, rfl⟩
  obtain ⟨hP1, hK1, hD1⟩ := hB
  rw [ht] at hP1
  try dsimp only at hw
  obtain ⟨hP, hD⟩ := va_join (wr := [(h0, .inr (9, [.ref hT, v1, v2, v3, v4, v5, v6, v7, v8, v9]))]) (w1 := [(hT, .inr (8, [.ref q0, .int (nI (((((0) + kCnt p0) + kCnt p1) + kCnt p2) + kCnt p3))])), (q0, .inl (cC, 120, .inl g1_19))]) hP hD [1, 2] [0] rfl rfl (by decide) (by decide) hk1 hFc hP1 hD1
  generalize H1 = H at hP hS ⊢
  have hP : va_P (dC, dI) vwCl [(h0, .inr (9, [.ref hT, v1, v2, v3, v4, v5, v6, v7, v8, v9])), (hT, .inr (8, [.ref q0, .int (nI (((((0) + kCnt p0) + kCnt p1) + kCnt p2) + kCnt p3))])), (q0, .inl (cC, 120, .inl g1_19))] H := hP
  have hD : va_D A [(h0, .inr (9, [.ref hT, v1, v2, v3, v4, v5, v6, v7, v8, v9])), (hT, .inr (8, [.ref q0, .int (nI (((((0) + kCnt p0) + kCnt p1) + kCnt p2) + kCnt p3))])), (q0, .inl (cC, 120, .inl g1_19))] := hD
  refine lv_aload_n hx hb dX9_feed_78 rfl (lv_at hl 1 rfl) ?_
  refine va_get (D := (dC, dI)) (ci := 9) (v := .ref hT) (C := RX9) (T := TX9) (N := 10) hx hb hts (fun _ h => List.mem_cons_of_mem _ (List.mem_append_right _ (List.mem_append_right _ (List.mem_append_left _ h)))) hown hK hP 0 rfl rfl 0 (by decide) (hts (.fieldLink RX9 12 "NotEnded" "tape" "LNotEnded$Tape;") (List.mem_cons_of_mem _ (List.mem_append_left _ (List.mem_of_getElem? (i := 3) rfl)))) (fun _ h9 => h9) rfl dX9_feed_79 ?_
  refine lv_iload hx hb dX9_feed_82 (lv_at hl 6 rfl) ?_
  have hPc := hP.sub (ws' := [(hT, .inr (8, [.ref q0, .int (nI (((((0) + kCnt p0) + kCnt p1) + kCnt p2) + kCnt p3))])), (q0, .inl (cC, 120, .inl g1_19))]) [1, 2] rfl
  have hKc := hK.sub (tys' := [(cC, .char)]) [0] rfl
  have hDc := hD.sub (ws' := [(hT, .inr (8, [.ref q0, .int (nI (((((0) + kCnt p0) + kCnt p1) + kCnt p2) + kCnt p3))])), (q0, .inl (cC, 120, .inl g1_19))]) [1, 2] (by decide) rfl
  have hFc := va_free (wc := [(hT, .inr (8, [.ref q0, .int (nI (((((0) + kCnt p0) + kCnt p1) + kCnt p2) + kCnt p3))])), (q0, .inl (cC, 120, .inl g1_19))]) hD hS hA [1, 2] rfl
  refine va_callv (va_runV (As := [.int p4]) (rest := []) ⟨hx, hb, hml, hown, hts⟩ (c_append8 l dC dI hT q0 cC g1_19 (nI (((((0) + kCnt p0) + kCnt p1) + kCnt p2) + kCnt p3)) (((((0) + kCnt p0) + kCnt p1) + kCnt p2) + kCnt p3) rfl (by have h1 := kCnt_le p0; have h2 := kCnt_le p1; have h3 := kCnt_le p2; have h4 := kCnt_le p3; have h5 := kCnt_le p4; omega) p4 H.size) (cwV 1 hts (kG (List.forall_mem_cons.mpr ⟨(List.mem_cons_of_mem _ (List.mem_append_left _ (List.mem_of_getElem? (i := 9) rfl))), (List.forall_mem_cons.mpr ⟨(List.mem_cons_of_mem _ (List.mem_append_left _ (List.mem_of_getElem? (i := 8) rfl))), (List.forall_mem_cons.mpr ⟨(List.mem_cons_of_mem _ (List.mem_append_left _ (List.mem_of_getElem? (i := 7) rfl))), (List.forall_mem_cons.mpr ⟨(List.mem_cons_of_mem _ (List.mem_append_left _ (List.mem_of_getElem? (i := 0) rfl))), (fun _ h => absurd h List.not_mem_nil)⟩)⟩)⟩)⟩) (by decide +kernel) (fun _ h => List.mem_cons_of_mem _ (List.mem_append_right _ (List.mem_append_right _ (List.mem_append_right _ (List.mem_append_right _ h))))) gw_c_append8) rfl rfl rfl (by decide +kernel) ⟨(Nat.le_of_ble_eq_true rfl), (Nat.le_of_ble_eq_true rfl)⟩) (kW_V kT_blind kT_give (va_recv hKc hPc (ci := 8) (q0 := 0) rfl rfl) hPc hKc hDc) rfl rfl hl.1 rfl (lv_room (Nat.le_of_ble_eq_true rfl)) dX9_feed_84 ⟨(Nat.le_of_ble_eq_true rfl), (Nat.le_of_ble_eq_true rfl)⟩) hS (fun q _ h => hFc q h) hFc (fun u t H1 locs ht hvm hw hB hz1 hk1 hS => ?_)
  obtain ⟨g1_21, rfl⟩ : ∃ z, z = u := ⟨_, rfl⟩
  obtain ⟨hP1, hK1, hD1⟩ := hB
  rw [ht] at hP1
  try dsimp only at hw
  obtain ⟨hP, hD⟩ := va_join (wr := [(h0, .inr (9, [.ref hT, v1, v2, v3, v4, v5, v6, v7, v8, v9]))]) (w1 := [(hT, .inr (8, [.ref q0, .int (nI ((((((0) + kCnt p0) + kCnt p1) + kCnt p2) + kCnt p3) + kCnt p4))])), (q0, .inl (cC, 120, .inl g1_21))]) hP hD [1, 2] [0] rfl rfl (by decide) (by decide) hk1 hFc hP1 hD1
  generalize H1 = H at hP hS ⊢
  have hP : va_P (dC, dI) vwCl [(h0, .inr (9, [.ref hT, v1, v2, v3, v4, v5, v6, v7, v8, v9])), (hT, .inr (8, [.ref q0, .int (nI ((((((0) + kCnt p0) + kCnt p1) + kCnt p2) + kCnt p3) + kCnt p4))])), (q0, .inl (cC, 120, .inl g1_21))] H := hP
  have hD : va_D A [(h0, .inr (9, [.ref hT, v1, v2, v3, v4, v5, v6, v7, v8, v9])), (hT, .inr (8, [.ref q0, .int (nI ((((((0) + kCnt p0) + kCnt p1) + kCnt p2) + kCnt p3) + kCnt p4))])), (q0, .inl (cC, 120, .inl g1_21))] := hD
  refine lv_aload_n hx hb dX9_feed_87 rfl (lv_at hl 1 rfl) ?_
  refine va_get (D := (dC, dI)) (ci := 9) (v := .ref hT) (C := RX9) (T := TX9) (N := 10) hx hb hts (fun _ h => List.mem_cons_of_mem _ (List.mem_append_right _ (List.mem_append_right _ (List.mem_append_left _ h)))) hown hK hP 0 rfl rfl 0 (by decide) (hts (.fieldLink RX9 12 "NotEnded" "tape" "LNotEnded$Tape;") (List.mem_cons_of_mem _ (List.mem_append_left _ (List.mem_of_getElem? (i := 3) rfl)))) (fun _ h9 => h9) rfl dX9_feed_88 ?_
  have hPc := hP.sub (ws' := [(hT, .inr (8, [.ref q0, .int (nI ((((((0) + kCnt p0) + kCnt p1) + kCnt p2) + kCnt p3) + kCnt p4))]))]) [1] rfl
  have hKc := hK.sub (tys' := []) [] rfl
  refine vp_callSi (va_runV (As := []) (rest := []) ⟨hx, hb, hml, hown, hts⟩ (c_length8 l dC dI hT (.ref q0 : Value) (nI ((((((0) + kCnt p0) + kCnt p1) + kCnt p2) + kCnt p3) + kCnt p4))) (cwV 0 hts (kG (List.forall_mem_cons.mpr ⟨(List.mem_cons_of_mem _ (List.mem_append_left _ (List.mem_of_getElem? (i := 6) rfl))), (List.forall_mem_cons.mpr ⟨(List.mem_cons_of_mem _ (List.mem_append_left _ (List.mem_of_getElem? (i := 5) rfl))), (List.forall_mem_cons.mpr ⟨(List.mem_cons_of_mem _ (List.mem_append_left _ (List.mem_of_getElem? (i := 4) rfl))), (List.forall_mem_cons.mpr ⟨(List.mem_cons_of_mem _ (List.mem_append_left _ (List.mem_of_getElem? (i := 0) rfl))), (fun _ h => absurd h List.not_mem_nil)⟩)⟩)⟩)⟩) (by decide +kernel) (fun _ h => List.mem_cons_of_mem _ (List.mem_append_right _ (List.mem_append_right _ (List.mem_append_right _ (List.mem_append_left _ h))))) gw_c_length8) rfl rfl rfl (by decide +kernel) ⟨(Nat.le_of_ble_eq_true rfl), (Nat.le_of_ble_eq_true rfl)⟩) (kR_V kT_blind kT_give (va_recv hKc hPc (ci := 8) (q0 := 0) rfl rfl) hPc hKc) rfl rfl hl.1 rfl (lv_room (Nat.le_of_ble_eq_true rfl)) dX9_feed_91 ⟨(Nat.le_of_ble_eq_true rfl), (Nat.le_of_ble_eq_true rfl)⟩).run (fun r_23 hw => ?_)
  obtain rfl : r_23 = (nI ((((((0) + kCnt p0) + kCnt p1) + kCnt p2) + kCnt p3) + kCnt p4)) := hw
  exact W.iret (v := (nI ((((((0) + kCnt p0) + kCnt p1) + kCnt p2) + kCnt p3) + kCnt p4))) hx hb hr (fun t ht hW => ⟨⟨(nI ((((((0) + kCnt p0) + kCnt p1) + kCnt p2) + kCnt p3) + kCnt p4)), (), rfl, (by simp [kFeed]), trivial⟩, hS.F ht⟩) hS.2.2 dX9_feed_94

theorem dX10_put_0 : decode cX10_put 0 = .ok (.bipush 24, 2) := by decide +kernel
theorem dX10_put_2 : decode cX10_put 2 = .ok (.istore_n 2, 1) := by decide +kernel
theorem dX10_put_3 : decode cX10_put 3 = .ok (.iload_n 2, 1) := by decide +kernel
theorem dX10_put_4 : decode cX10_put 4 = .ok (.ifCond .lt 45, 3) := by decide +kernel
theorem dX10_put_7 : decode cX10_put 7 = .ok (.iload_n 1, 1) := by decide +kernel
theorem dX10_put_8 : decode cX10_put 8 = .ok (.iload_n 2, 1) := by decide +kernel
theorem dX10_put_9 : decode cX10_put 9 = .ok (.ishr, 1) := by decide +kernel
theorem dX10_put_10 : decode cX10_put 10 = .ok (.sipush 255, 3) := by decide +kernel
theorem dX10_put_13 : decode cX10_put 13 = .ok (.iand, 1) := by decide +kernel
theorem dX10_put_14 : decode cX10_put 14 = .ok (.ifCond .ne 6, 3) := by decide +kernel
theorem dX10_put_20 : decode cX10_put 20 = .ok (.aload_n 0, 1) := by decide +kernel
theorem dX10_put_21 : decode cX10_put 21 = .ok (.getfield 9, 3) := by decide +kernel
theorem dX10_put_24 : decode cX10_put 24 = .ok (.aload_n 0, 1) := by decide +kernel
theorem dX10_put_25 : decode cX10_put 25 = .ok (.getfield 131, 3) := by decide +kernel
theorem dX10_put_28 : decode cX10_put 28 = .ok (.iload_n 1, 1) := by decide +kernel
theorem dX10_put_29 : decode cX10_put 29 = .ok (.iload_n 2, 1) := by decide +kernel
theorem dX10_put_30 : decode cX10_put 30 = .ok (.ishr, 1) := by decide +kernel
theorem dX10_put_31 : decode cX10_put 31 = .ok (.i2b, 1) := by decide +kernel
theorem dX10_put_32 : decode cX10_put 32 = .ok (.bastore, 1) := by decide +kernel
theorem dX10_put_33 : decode cX10_put 33 = .ok (.aload_n 0, 1) := by decide +kernel
theorem dX10_put_34 : decode cX10_put 34 = .ok (.dup, 1) := by decide +kernel
theorem dX10_put_35 : decode cX10_put 35 = .ok (.getfield 131, 3) := by decide +kernel
theorem dX10_put_38 : decode cX10_put 38 = .ok (.iconst 1, 1) := by decide +kernel
theorem dX10_put_39 : decode cX10_put 39 = .ok (.iadd, 1) := by decide +kernel
theorem dX10_put_40 : decode cX10_put 40 = .ok (.putfield 131, 3) := by decide +kernel
theorem dX10_put_43 : decode cX10_put 43 = .ok (.iinc 2 (-8), 3) := by decide +kernel
theorem dX10_put_46 : decode cX10_put 46 = .ok (.goto (-43), 3) := by decide +kernel
theorem dX10_put_49 : decode cX10_put 49 = .ok (.return_, 1) := by decide +kernel
theorem dX10_put_17 : decode cX10_put 17 = .ok (.goto 26, 3) := by decide +kernel
def w_c_put10 : List Cond := .code yX10_put cX10_put 3 none :: ([.fieldLink RX10 9 "NotEndedModel" "tape" "[B", .fieldLink RX10 131 "NotEndedModel" "length" "I"] ++ (wsX100))
theorem gw_c_put10 : (w_c_put10).all goodWord = true := by decide +kernel
set_option maxHeartbeats 4000000 in
set_option maxRecDepth 100000 in
theorem c_put10 (l : Launch) (dC : Nat → ClassId) (dI : Nat → Nat → Nat) (h0 : Nat) (q1 : Nat) (cC : ClassId) (g : Nat → Int32) (v0 : Value) (v2 : Value) (v3 : Value) (v4 : Value) (v5 : Value) (v7 : Value) (v8 : Value) (v9 : Value) (v10 : Value) (v11 : Value) (v12 : Value) (v13 : Value) (v14 : Value) (v15 : Value) (v16 : Value) (v17 : Value) (v18 : Value) (v19 : Value) (v20 : Value) (v21 : Value) (v22 : Value) (v23 : Value) (v24 : Value) (v25 : Value) (v26 : Value) (v27 : Value) (v28 : Value) (v29 : Value) (v30 : Value) (v31 : Value) (v32 : Value) (v33 : Value) (v34 : Value) (v35 : Value) (v36 : Value) (v37 : Value) (v38 : Value) (v39 : Value) (v40 : Value) (v41 : Value) (v42 : Value) (v43 : Value) (v44 : Value) (v45 : Value) (v46 : Value) (v47 : Value) (v48 : Value) (v49 : Value) (v50 : Value) (v51 : Value) (n : Int32) (k : Nat) (en : n = nI k) (hk : k ≤ 100) (p0 : Int32) (sz : Nat) : Met l yX10_put w_c_put10 ({ frames := 1, cells := 0, slots := 0, locals := 60 }) (kW dC dI [.ref h0, .int p0] [(h0, .inr (10, [v0, .ref q1, v2, v3, v4, v5, .int n, v7, v8, v9, v10, v11, v12, v13, v14, v15, v16, v17, v18, v19, v20, v21, v22, v23, v24, v25, v26, v27, v28, v29, v30, v31, v32, v33, v34, v35, v36, v37, v38, v39, v40, v41, v42, v43, v44, v45, v46, v47, v48, v49, v50, v51])), (q1, .inl (cC, 120, .inl g))] [(cC, .byte)] kT sz) (va_Qv (fun (g1 : Nat → Int32) => True) (fun (g1 : Nat → Int32) => fun t : State => kB dC dI [(h0, .inr (10, [v0, .ref q1, v2, v3, v4, v5, .int (nI (k + kCnt p0)), v7, v8, v9, v10, v11, v12, v13, v14, v15, v16, v17, v18, v19, v20, v21, v22, v23, v24, v25, v26, v27, v28, v29, v30, v31, v32, v33, v34, v35, v36, v37, v38, v39, v40, v41, v42, v43, v44, v45, v46, v47, v48, v49, v50, v51])), (q1, .inl (cC, 120, .inl g1))] [(cC, .byte)] (va_A [(h0, .inr (10, [v0, .ref q1, v2, v3, v4, v5, .int n, v7, v8, v9, v10, v11, v12, v13, v14, v15, v16, v17, v18, v19, v20, v21, v22, v23, v24, v25, v26, v27, v28, v29, v30, v31, v32, v33, v34, v35, v36, v37, v38, v39, v40, v41, v42, v43, v44, v45, v46, v47, v48, v49, v50, v51])), (q1, .inl (cC, 120, .inl g))] sz) t) (va_A [(h0, .inr (10, [v0, .ref q1, v2, v3, v4, v5, .int n, v7, v8, v9, v10, v11, v12, v13, v14, v15, v16, v17, v18, v19, v20, v21, v22, v23, v24, v25, v26, v27, v28, v29, v30, v31, v32, v33, v34, v35, v36, v37, v38, v39, v40, v41, v42, v43, v44, v45, v46, v47, v48, v49, v50, v51])), (q1, .inl (cC, 120, .inl g))] sz)) 0 0 (va_A [(h0, .inr (10, [v0, .ref q1, v2, v3, v4, v5, .int n, v7, v8, v9, v10, v11, v12, v13, v14, v15, v16, v17, v18, v19, v20, v21, v22, v23, v24, v25, v26, v27, v28, v29, v30, v31, v32, v33, v34, v35, v36, v37, v38, v39, v40, v41, v42, v43, v44, v45, v46, v47, v48, v49, v50, v51])), (q1, .inl (cC, 120, .inl g))] sz) := by
  refine Met.ofW (cc := cX10_put) (maxL := 3) (ret := none) (by decide) rfl ?_
  intro p e s m args below meth c s₁ B hml hv
  obtain ⟨rfl, hsz, hP, hK, hD0, hX⟩ := hv
  have hx := B.exec
  have hb := B.bytes
  have hr := B.returns
  have hts := atoms_spec (ws := w_c_put10) B.pre
  have hown : s.vm.findClass RX10 = some m.cls := findClass_of_methodNamed B.named
  have hlocks := B.notSynchronized
  subst hsz
  have hD := hD0.self (sz := s.heap.size)
  generalize hAe : va_A [(h0, .inr (10, [v0, .ref q1, v2, v3, v4, v5, .int n, v7, v8, v9, v10, v11, v12, v13, v14, v15, v16, v17, v18, v19, v20, v21, v22, v23, v24, v25, v26, v27, v28, v29, v30, v31, v32, v33, v34, v35, v36, v37, v38, v39, v40, v41, v42, v43, v44, v45, v46, v47, v48, v49, v50, v51])), (q1, .inl (cC, 120, .inl g))] s.heap.size = A at hD ⊢
  have hA : ∀ q : Nat, s.heap.size ≤ q → A q := fun q h => by rw [← hAe]; exact Or.inr h
  have hS : va_S A s.heap s.heap [] := va_S.rf
  have hP : va_P (dC, dI) vwCl [(h0, .inr (10, [v0, .ref q1, v2, v3, v4, v5, .int n, v7, v8, v9, v10, v11, v12, v13, v14, v15, v16, v17, v18, v19, v20, v21, v22, v23, v24, v25, v26, v27, v28, v29, v30, v31, v32, v33, v34, v35, v36, v37, v38, v39, v40, v41, v42, v43, v44, v45, v46, v47, v48, v49, v50, v51])), (q1, .inl (cC, 120, .inl g))] s.heap := hP
  have hl := lv_entry ([.ref h0, .int p0]) (n := 3) (Nat.le_of_ble_eq_true rfl)
  rw [lg_entry_eq]
  generalize (lg_sl ([.ref h0, .int p0]) ++ List.replicate (3 - (lg_sl ([.ref h0, .int p0])).length) Slot.unset).toArray = ls at hl ⊢
  have hl : lv_has ls 3 [(0, .ref h0), (1, .int p0)] := hl
  subst en
  refine lv_bipush (v := 24) hx hb dX10_put_0 (by decide) ?_
  refine lv_istore_n (lv' := [(2, .int 24), (0, .ref h0), (1, .int p0)]) hx hb dX10_put_2 rfl hl (by decide) rfl (fun ls hl => ?_)
  refine lv_iload_n hx hb dX10_put_3 rfl (lv_at hl 0 rfl) ?_
  refine lv_if_lt (tgt := 49) hx hb dX10_put_4 (by decide) (fun c_1 => absurd c_1 (by decide)) (fun c_1 => ?_)
  refine lv_iload_n hx hb dX10_put_7 rfl (lv_at hl 2 rfl) ?_
  refine lv_iload_n hx hb dX10_put_8 rfl (lv_at hl 0 rfl) ?_
  refine lv_ishr hx hb dX10_put_9 ?_
  refine lv_topi (fun x_2 ex_2 => ?_)
  refine lv_sipush (v := 255) hx hb dX10_put_10 (by decide) ?_
  refine lv_iand hx hb dX10_put_13 ?_
  refine lv_topi (fun x_3 ex_3 => ?_)
  have hy_4 : kS p0 24 = x_3 := by rw [ex_3, ex_2]; rfl
  refine lv_if_ne (tgt := 20) hx hb dX10_put_14 (by decide) (fun c_5 => ?_) (fun c_5 => ?_)
  · refine lv_aload_n hx hb dX10_put_20 rfl (lv_at hl 1 rfl) ?_
    refine va_get (D := (dC, dI)) (ci := 10) (v := .ref q1) (C := RX10) (T := TX10) (N := 52) hx hb hts (fun _ h => List.mem_cons_of_mem _ (List.mem_append_right _ h)) hown hK hP 0 rfl rfl 1 (by decide) (hts (.fieldLink RX10 9 "NotEndedModel" "tape" "[B") (List.mem_cons_of_mem _ (List.mem_append_left _ (List.mem_of_getElem? (i := 0) rfl)))) (fun _ h9 => h9) rfl dX10_put_21 ?_
    refine lv_aload_n hx hb dX10_put_24 rfl (lv_at hl 1 rfl) ?_
    refine va_get (D := (dC, dI)) (ci := 10) (v := .int (nI (k))) (C := RX10) (T := TX10) (N := 52) hx hb hts (fun _ h => List.mem_cons_of_mem _ (List.mem_append_right _ h)) hown hK hP 0 rfl rfl 6 (by decide) (hts (.fieldLink RX10 131 "NotEndedModel" "length" "I") (List.mem_cons_of_mem _ (List.mem_append_left _ (List.mem_of_getElem? (i := 1) rfl)))) (fun _ h9 => h9) rfl dX10_put_25 ?_
    refine lv_iload_n hx hb dX10_put_28 rfl (lv_at hl 2 rfl) ?_
    refine lv_iload_n hx hb dX10_put_29 rfl (lv_at hl 0 rfl) ?_
    refine lv_ishr hx hb dX10_put_30 ?_
    refine lv_topi (fun x_6 ex_6 => ?_)
    obtain ⟨x_7, ex_7⟩ : ∃ z : Int32, z = (Int32.toInt8 x_6).toInt32 := ⟨_, rfl⟩
    refine lv_i2b (v := x_7) hx hb dX10_put_31 ex_7.symm ?_
    refine va_bast hx hb hK hP hD hS 1 0 rfl rfl (vp_in_nI (n := k) (N := 120) (by omega) (by decide)) dX10_put_32 (fun H locs hP hD hS => ?_)
    obtain ⟨f_8, ef_8⟩ : ∃ gg9 : Nat → Int32, gg9 = upd g (Int32.toNatClampNeg (nI (k))) (vp_nar .byte x_7) := ⟨_, rfl⟩
    have hP : va_P (dC, dI) vwCl [(h0, .inr (10, [v0, .ref q1, v2, v3, v4, v5, .int (nI (k)), v7, v8, v9, v10, v11, v12, v13, v14, v15, v16, v17, v18, v19, v20, v21, v22, v23, v24, v25, v26, v27, v28, v29, v30, v31, v32, v33, v34, v35, v36, v37, v38, v39, v40, v41, v42, v43, v44, v45, v46, v47, v48, v49, v50, v51])), (q1, .inl (cC, 120, .inl f_8))] H := by rw [ef_8]; exact hP
    have hD : va_D A [(h0, .inr (10, [v0, .ref q1, v2, v3, v4, v5, .int (nI (k)), v7, v8, v9, v10, v11, v12, v13, v14, v15, v16, v17, v18, v19, v20, v21, v22, v23, v24, v25, v26, v27, v28, v29, v30, v31, v32, v33, v34, v35, v36, v37, v38, v39, v40, v41, v42, v43, v44, v45, v46, v47, v48, v49, v50, v51])), (q1, .inl (cC, 120, .inl f_8))] := by rw [ef_8]; exact hD
    refine lv_aload_n hx hb dX10_put_33 rfl (lv_at hl 1 rfl) ?_
    refine lv_dup hx hb dX10_put_34 rfl ?_
    refine va_get (D := (dC, dI)) (ci := 10) (v := .int (nI (k))) (C := RX10) (T := TX10) (N := 52) hx hb hts (fun _ h => List.mem_cons_of_mem _ (List.mem_append_right _ h)) hown hK hP 0 rfl rfl 6 (by decide) (hts (.fieldLink RX10 131 "NotEndedModel" "length" "I") (List.mem_cons_of_mem _ (List.mem_append_left _ (List.mem_of_getElem? (i := 1) rfl)))) (fun _ h9 => h9) rfl dX10_put_35 ?_
    refine lv_iconst (v := 1) hx hb dX10_put_38 (by decide) ?_
    refine lv_iadd hx hb dX10_put_39 ?_
    refine lv_topi (fun y_9 ey_9 => ?_)
    obtain rfl : y_9 = nI (k + 1) := ey_9.trans (nI_add (k) (1))
    refine va_put (D := (dC, dI)) (ci := 10) (v := .int (nI (k + 1))) (ty := tyX10 6) (C := RX10) (T := TX10) (N := 52) hx hb hts (fun _ h => List.mem_cons_of_mem _ (List.mem_append_right _ h)) tyX10 tyX10_ok nmX10 hown hK hP hD hS 0 rfl rfl 6 (by decide) (hts (.fieldLink RX10 131 "NotEndedModel" "length" "I") (List.mem_cons_of_mem _ (List.mem_append_left _ (List.mem_of_getElem? (i := 1) rfl)))) (fun _ h9 => h9) rfl (tyX10_ok 6 (by decide)) rfl rfl (Nat.le_of_ble_eq_true rfl) dX10_put_40 (fun H locs hP hD hS => ?_)
    have hP : va_P (dC, dI) vwCl [(h0, .inr (10, [v0, .ref q1, v2, v3, v4, v5, .int (nI (k + 1)), v7, v8, v9, v10, v11, v12, v13, v14, v15, v16, v17, v18, v19, v20, v21, v22, v23, v24, v25, v26, v27, v28, v29, v30, v31, v32, v33, v34, v35, v36, v37, v38, v39, v40, v41, v42, v43, v44, v45, v46, v47, v48, v49, v50, v51])), (q1, .inl (cC, 120, .inl f_8))] H := hP
    have hD : va_D A [(h0, .inr (10, [v0, .ref q1, v2, v3, v4, v5, .int (nI (k + 1)), v7, v8, v9, v10, v11, v12, v13, v14, v15, v16, v17, v18, v19, v20, v21, v22, v23, v24, v25, v26, v27, v28, v29, v30, v31, v32, v33, v34, v35, v36, v37, v38, v39, v40, v41, v42, v43, v44, v45, v46, v47, v48, v49, v50, v51])), (q1, .inl (cC, 120, .inl f_8))] := hD
    refine lv_iinc (v := 16) (lv' := [(2, .int 16), (0, .ref h0), (1, .int p0)]) hx hb dX10_put_43 hl (k := 0) rfl (by decide) (by decide) rfl (fun ls hl => ?_)
    refine lv_goto (tgt := 3) hx hb dX10_put_46 (by decide) ?_
    refine lv_iload_n hx hb dX10_put_3 rfl (lv_at hl 0 rfl) ?_
    refine lv_if_lt (tgt := 49) hx hb dX10_put_4 (by decide) (fun c_10 => absurd c_10 (by decide)) (fun c_10 => ?_)
    refine lv_iload_n hx hb dX10_put_7 rfl (lv_at hl 2 rfl) ?_
    refine lv_iload_n hx hb dX10_put_8 rfl (lv_at hl 0 rfl) ?_
    refine lv_ishr hx hb dX10_put_9 ?_
    refine lv_topi (fun x_11 ex_11 => ?_)
    refine lv_sipush (v := 255) hx hb dX10_put_10 (by decide) ?_
    refine lv_iand hx hb dX10_put_13 ?_
    refine lv_topi (fun x_12 ex_12 => ?_)
    have hy_13 : kS p0 16 = x_12 := by rw [ex_12, ex_11]; rfl
    refine lv_if_ne (tgt := 20) hx hb dX10_put_14 (by decide) (fun c_14 => ?_) (fun c_14 => ?_)
    · refine lv_aload_n hx hb dX10_put_20 rfl (lv_at hl 1 rfl) ?_
      refine va_get (D := (dC, dI)) (ci := 10) (v := .ref q1) (C := RX10) (T := TX10) (N := 52) hx hb hts (fun _ h => List.mem_cons_of_mem _ (List.mem_append_right _ h)) hown hK hP 0 rfl rfl 1 (by decide) (hts (.fieldLink RX10 9 "NotEndedModel" "tape" "[B") (List.mem_cons_of_mem _ (List.mem_append_left _ (List.mem_of_getElem? (i := 0) rfl)))) (fun _ h9 => h9) rfl dX10_put_21 ?_
      refine lv_aload_n hx hb dX10_put_24 rfl (lv_at hl 1 rfl) ?_
      refine va_get (D := (dC, dI)) (ci := 10) (v := .int (nI (k + 1))) (C := RX10) (T := TX10) (N := 52) hx hb hts (fun _ h => List.mem_cons_of_mem _ (List.mem_append_right _ h)) hown hK hP 0 rfl rfl 6 (by decide) (hts (.fieldLink RX10 131 "NotEndedModel" "length" "I") (List.mem_cons_of_mem _ (List.mem_append_left _ (List.mem_of_getElem? (i := 1) rfl)))) (fun _ h9 => h9) rfl dX10_put_25 ?_
      refine lv_iload_n hx hb dX10_put_28 rfl (lv_at hl 2 rfl) ?_
      refine lv_iload_n hx hb dX10_put_29 rfl (lv_at hl 0 rfl) ?_
      refine lv_ishr hx hb dX10_put_30 ?_
      refine lv_topi (fun x_15 ex_15 => ?_)
      obtain ⟨x_16, ex_16⟩ : ∃ z : Int32, z = (Int32.toInt8 x_15).toInt32 := ⟨_, rfl⟩
      refine lv_i2b (v := x_16) hx hb dX10_put_31 ex_16.symm ?_
      refine va_bast hx hb hK hP hD hS 1 0 rfl rfl (vp_in_nI (n := k + 1) (N := 120) (by omega) (by decide)) dX10_put_32 (fun H locs hP hD hS => ?_)
      obtain ⟨f_17, ef_17⟩ : ∃ gg9 : Nat → Int32, gg9 = upd f_8 (Int32.toNatClampNeg (nI (k + 1))) (vp_nar .byte x_16) := ⟨_, rfl⟩
      have hP : va_P (dC, dI) vwCl [(h0, .inr (10, [v0, .ref q1, v2, v3, v4, v5, .int (nI (k + 1)), v7, v8, v9, v10, v11, v12, v13, v14, v15, v16, v17, v18, v19, v20, v21, v22, v23, v24, v25, v26, v27, v28, v29, v30, v31, v32, v33, v34, v35, v36, v37, v38, v39, v40, v41, v42, v43, v44, v45, v46, v47, v48, v49, v50, v51])), (q1, .inl (cC, 120, .inl f_17))] H := by rw [ef_17]; exact hP
      have hD : va_D A [(h0, .inr (10, [v0, .ref q1, v2, v3, v4, v5, .int (nI (k + 1)), v7, v8, v9, v10, v11, v12, v13, v14, v15, v16, v17, v18, v19, v20, v21, v22, v23, v24, v25, v26, v27, v28, v29, v30, v31, v32, v33, v34, v35, v36, v37, v38, v39, v40, v41, v42, v43, v44, v45, v46, v47, v48, v49, v50, v51])), (q1, .inl (cC, 120, .inl f_17))] := by rw [ef_17]; exact hD
      refine lv_aload_n hx hb dX10_put_33 rfl (lv_at hl 1 rfl) ?_
      refine lv_dup hx hb dX10_put_34 rfl ?_
      refine va_get (D := (dC, dI)) (ci := 10) (v := .int (nI (k + 1))) (C := RX10) (T := TX10) (N := 52) hx hb hts (fun _ h => List.mem_cons_of_mem _ (List.mem_append_right _ h)) hown hK hP 0 rfl rfl 6 (by decide) (hts (.fieldLink RX10 131 "NotEndedModel" "length" "I") (List.mem_cons_of_mem _ (List.mem_append_left _ (List.mem_of_getElem? (i := 1) rfl)))) (fun _ h9 => h9) rfl dX10_put_35 ?_
      refine lv_iconst (v := 1) hx hb dX10_put_38 (by decide) ?_
      refine lv_iadd hx hb dX10_put_39 ?_
      refine lv_topi (fun y_18 ey_18 => ?_)
      obtain rfl : y_18 = nI (k + 1 + 1) := ey_18.trans (nI_add (k + 1) (1))
      refine va_put (D := (dC, dI)) (ci := 10) (v := .int (nI (k + 1 + 1))) (ty := tyX10 6) (C := RX10) (T := TX10) (N := 52) hx hb hts (fun _ h => List.mem_cons_of_mem _ (List.mem_append_right _ h)) tyX10 tyX10_ok nmX10 hown hK hP hD hS 0 rfl rfl 6 (by decide) (hts (.fieldLink RX10 131 "NotEndedModel" "length" "I") (List.mem_cons_of_mem _ (List.mem_append_left _ (List.mem_of_getElem? (i := 1) rfl)))) (fun _ h9 => h9) rfl (tyX10_ok 6 (by decide)) rfl rfl (Nat.le_of_ble_eq_true rfl) dX10_put_40 (fun H locs hP hD hS => ?_)
      have hP : va_P (dC, dI) vwCl [(h0, .inr (10, [v0, .ref q1, v2, v3, v4, v5, .int (nI (k + 1 + 1)), v7, v8, v9, v10, v11, v12, v13, v14, v15, v16, v17, v18, v19, v20, v21, v22, v23, v24, v25, v26, v27, v28, v29, v30, v31, v32, v33, v34, v35, v36, v37, v38, v39, v40, v41, v42, v43, v44, v45, v46, v47, v48, v49, v50, v51])), (q1, .inl (cC, 120, .inl f_17))] H := hP
      have hD : va_D A [(h0, .inr (10, [v0, .ref q1, v2, v3, v4, v5, .int (nI (k + 1 + 1)), v7, v8, v9, v10, v11, v12, v13, v14, v15, v16, v17, v18, v19, v20, v21, v22, v23, v24, v25, v26, v27, v28, v29, v30, v31, v32, v33, v34, v35, v36, v37, v38, v39, v40, v41, v42, v43, v44, v45, v46, v47, v48, v49, v50, v51])), (q1, .inl (cC, 120, .inl f_17))] := hD
      refine lv_iinc (v := 8) (lv' := [(2, .int 8), (0, .ref h0), (1, .int p0)]) hx hb dX10_put_43 hl (k := 0) rfl (by decide) (by decide) rfl (fun ls hl => ?_)
      refine lv_goto (tgt := 3) hx hb dX10_put_46 (by decide) ?_
      refine lv_iload_n hx hb dX10_put_3 rfl (lv_at hl 0 rfl) ?_
      refine lv_if_lt (tgt := 49) hx hb dX10_put_4 (by decide) (fun c_19 => absurd c_19 (by decide)) (fun c_19 => ?_)
      refine lv_iload_n hx hb dX10_put_7 rfl (lv_at hl 2 rfl) ?_
      refine lv_iload_n hx hb dX10_put_8 rfl (lv_at hl 0 rfl) ?_
      refine lv_ishr hx hb dX10_put_9 ?_
      refine lv_topi (fun x_20 ex_20 => ?_)
      refine lv_sipush (v := 255) hx hb dX10_put_10 (by decide) ?_
      refine lv_iand hx hb dX10_put_13 ?_
      refine lv_topi (fun x_21 ex_21 => ?_)
      have hy_22 : kS p0 8 = x_21 := by rw [ex_21, ex_20]; rfl
      refine lv_if_ne (tgt := 20) hx hb dX10_put_14 (by decide) (fun c_23 => ?_) (fun c_23 => ?_)
      · refine lv_aload_n hx hb dX10_put_20 rfl (lv_at hl 1 rfl) ?_
        refine va_get (D := (dC, dI)) (ci := 10) (v := .ref q1) (C := RX10) (T := TX10) (N := 52) hx hb hts (fun _ h => List.mem_cons_of_mem _ (List.mem_append_right _ h)) hown hK hP 0 rfl rfl 1 (by decide) (hts (.fieldLink RX10 9 "NotEndedModel" "tape" "[B") (List.mem_cons_of_mem _ (List.mem_append_left _ (List.mem_of_getElem? (i := 0) rfl)))) (fun _ h9 => h9) rfl dX10_put_21 ?_
        refine lv_aload_n hx hb dX10_put_24 rfl (lv_at hl 1 rfl) ?_
        refine va_get (D := (dC, dI)) (ci := 10) (v := .int (nI (k + 1 + 1))) (C := RX10) (T := TX10) (N := 52) hx hb hts (fun _ h => List.mem_cons_of_mem _ (List.mem_append_right _ h)) hown hK hP 0 rfl rfl 6 (by decide) (hts (.fieldLink RX10 131 "NotEndedModel" "length" "I") (List.mem_cons_of_mem _ (List.mem_append_left _ (List.mem_of_getElem? (i := 1) rfl)))) (fun _ h9 => h9) rfl dX10_put_25 ?_
        refine lv_iload_n hx hb dX10_put_28 rfl (lv_at hl 2 rfl) ?_
        refine lv_iload_n hx hb dX10_put_29 rfl (lv_at hl 0 rfl) ?_
        refine lv_ishr hx hb dX10_put_30 ?_
        refine lv_topi (fun x_24 ex_24 => ?_)
        obtain ⟨x_25, ex_25⟩ : ∃ z : Int32, z = (Int32.toInt8 x_24).toInt32 := ⟨_, rfl⟩
        refine lv_i2b (v := x_25) hx hb dX10_put_31 ex_25.symm ?_
        refine va_bast hx hb hK hP hD hS 1 0 rfl rfl (vp_in_nI (n := k + 1 + 1) (N := 120) (by omega) (by decide)) dX10_put_32 (fun H locs hP hD hS => ?_)
        obtain ⟨f_26, ef_26⟩ : ∃ gg9 : Nat → Int32, gg9 = upd f_17 (Int32.toNatClampNeg (nI (k + 1 + 1))) (vp_nar .byte x_25) := ⟨_, rfl⟩
        have hP : va_P (dC, dI) vwCl [(h0, .inr (10, [v0, .ref q1, v2, v3, v4, v5, .int (nI (k + 1 + 1)), v7, v8, v9, v10, v11, v12, v13, v14, v15, v16, v17, v18, v19, v20, v21, v22, v23, v24, v25, v26, v27, v28, v29, v30, v31, v32, v33, v34, v35, v36, v37, v38, v39, v40, v41, v42, v43, v44, v45, v46, v47, v48, v49, v50, v51])), (q1, .inl (cC, 120, .inl f_26))] H := by rw [ef_26]; exact hP
        have hD : va_D A [(h0, .inr (10, [v0, .ref q1, v2, v3, v4, v5, .int (nI (k + 1 + 1)), v7, v8, v9, v10, v11, v12, v13, v14, v15, v16, v17, v18, v19, v20, v21, v22, v23, v24, v25, v26, v27, v28, v29, v30, v31, v32, v33, v34, v35, v36, v37, v38, v39, v40, v41, v42, v43, v44, v45, v46, v47, v48, v49, v50, v51])), (q1, .inl (cC, 120, .inl f_26))] := by rw [ef_26]; exact hD
        refine lv_aload_n hx hb dX10_put_33 rfl (lv_at hl 1 rfl) ?_
        refine lv_dup hx hb dX10_put_34 rfl ?_
        refine va_get (D := (dC, dI)) (ci := 10) (v := .int (nI (k + 1 + 1))) (C := RX10) (T := TX10) (N := 52) hx hb hts (fun _ h => List.mem_cons_of_mem _ (List.mem_append_right _ h)) hown hK hP 0 rfl rfl 6 (by decide) (hts (.fieldLink RX10 131 "NotEndedModel" "length" "I") (List.mem_cons_of_mem _ (List.mem_append_left _ (List.mem_of_getElem? (i := 1) rfl)))) (fun _ h9 => h9) rfl dX10_put_35 ?_
        refine lv_iconst (v := 1) hx hb dX10_put_38 (by decide) ?_
        refine lv_iadd hx hb dX10_put_39 ?_
        refine lv_topi (fun y_27 ey_27 => ?_)
        obtain rfl : y_27 = nI (k + 1 + 1 + 1) := ey_27.trans (nI_add (k + 1 + 1) (1))
        refine va_put (D := (dC, dI)) (ci := 10) (v := .int (nI (k + 1 + 1 + 1))) (ty := tyX10 6) (C := RX10) (T := TX10) (N := 52) hx hb hts (fun _ h => List.mem_cons_of_mem _ (List.mem_append_right _ h)) tyX10 tyX10_ok nmX10 hown hK hP hD hS 0 rfl rfl 6 (by decide) (hts (.fieldLink RX10 131 "NotEndedModel" "length" "I") (List.mem_cons_of_mem _ (List.mem_append_left _ (List.mem_of_getElem? (i := 1) rfl)))) (fun _ h9 => h9) rfl (tyX10_ok 6 (by decide)) rfl rfl (Nat.le_of_ble_eq_true rfl) dX10_put_40 (fun H locs hP hD hS => ?_)
        have hP : va_P (dC, dI) vwCl [(h0, .inr (10, [v0, .ref q1, v2, v3, v4, v5, .int (nI (k + 1 + 1 + 1)), v7, v8, v9, v10, v11, v12, v13, v14, v15, v16, v17, v18, v19, v20, v21, v22, v23, v24, v25, v26, v27, v28, v29, v30, v31, v32, v33, v34, v35, v36, v37, v38, v39, v40, v41, v42, v43, v44, v45, v46, v47, v48, v49, v50, v51])), (q1, .inl (cC, 120, .inl f_26))] H := hP
        have hD : va_D A [(h0, .inr (10, [v0, .ref q1, v2, v3, v4, v5, .int (nI (k + 1 + 1 + 1)), v7, v8, v9, v10, v11, v12, v13, v14, v15, v16, v17, v18, v19, v20, v21, v22, v23, v24, v25, v26, v27, v28, v29, v30, v31, v32, v33, v34, v35, v36, v37, v38, v39, v40, v41, v42, v43, v44, v45, v46, v47, v48, v49, v50, v51])), (q1, .inl (cC, 120, .inl f_26))] := hD
        refine lv_iinc (v := 0) (lv' := [(2, .int 0), (0, .ref h0), (1, .int p0)]) hx hb dX10_put_43 hl (k := 0) rfl (by decide) (by decide) rfl (fun ls hl => ?_)
        refine lv_goto (tgt := 3) hx hb dX10_put_46 (by decide) ?_
        refine lv_iload_n hx hb dX10_put_3 rfl (lv_at hl 0 rfl) ?_
        refine lv_if_lt (tgt := 49) hx hb dX10_put_4 (by decide) (fun c_28 => absurd c_28 (by decide)) (fun c_28 => ?_)
        refine lv_iload_n hx hb dX10_put_7 rfl (lv_at hl 2 rfl) ?_
        refine lv_iload_n hx hb dX10_put_8 rfl (lv_at hl 0 rfl) ?_
        refine lv_ishr hx hb dX10_put_9 ?_
        refine lv_topi (fun x_29 ex_29 => ?_)
        refine lv_sipush (v := 255) hx hb dX10_put_10 (by decide) ?_
        refine lv_iand hx hb dX10_put_13 ?_
        refine lv_topi (fun x_30 ex_30 => ?_)
        have hy_31 : kS p0 0 = x_30 := by rw [ex_30, ex_29]; rfl
        refine lv_if_ne (tgt := 20) hx hb dX10_put_14 (by decide) (fun c_32 => ?_) (fun c_32 => ?_)
        · refine lv_aload_n hx hb dX10_put_20 rfl (lv_at hl 1 rfl) ?_
          refine va_get (D := (dC, dI)) (ci := 10) (v := .ref q1) (C := RX10) (T := TX10) (N := 52) hx hb hts (fun _ h => List.mem_cons_of_mem _ (List.mem_append_right _ h)) hown hK hP 0 rfl rfl 1 (by decide) (hts (.fieldLink RX10 9 "NotEndedModel" "tape" "[B") (List.mem_cons_of_mem _ (List.mem_append_left _ (List.mem_of_getElem? (i := 0) rfl)))) (fun _ h9 => h9) rfl dX10_put_21 ?_
          refine lv_aload_n hx hb dX10_put_24 rfl (lv_at hl 1 rfl) ?_
          refine va_get (D := (dC, dI)) (ci := 10) (v := .int (nI (k + 1 + 1 + 1))) (C := RX10) (T := TX10) (N := 52) hx hb hts (fun _ h => List.mem_cons_of_mem _ (List.mem_append_right _ h)) hown hK hP 0 rfl rfl 6 (by decide) (hts (.fieldLink RX10 131 "NotEndedModel" "length" "I") (List.mem_cons_of_mem _ (List.mem_append_left _ (List.mem_of_getElem? (i := 1) rfl)))) (fun _ h9 => h9) rfl dX10_put_25 ?_
          refine lv_iload_n hx hb dX10_put_28 rfl (lv_at hl 2 rfl) ?_
          refine lv_iload_n hx hb dX10_put_29 rfl (lv_at hl 0 rfl) ?_
          refine lv_ishr hx hb dX10_put_30 ?_
          refine lv_topi (fun x_33 ex_33 => ?_)
          obtain ⟨x_34, ex_34⟩ : ∃ z : Int32, z = (Int32.toInt8 x_33).toInt32 := ⟨_, rfl⟩
          refine lv_i2b (v := x_34) hx hb dX10_put_31 ex_34.symm ?_
          refine va_bast hx hb hK hP hD hS 1 0 rfl rfl (vp_in_nI (n := k + 1 + 1 + 1) (N := 120) (by omega) (by decide)) dX10_put_32 (fun H locs hP hD hS => ?_)
          obtain ⟨f_35, ef_35⟩ : ∃ gg9 : Nat → Int32, gg9 = upd f_26 (Int32.toNatClampNeg (nI (k + 1 + 1 + 1))) (vp_nar .byte x_34) := ⟨_, rfl⟩
          have hP : va_P (dC, dI) vwCl [(h0, .inr (10, [v0, .ref q1, v2, v3, v4, v5, .int (nI (k + 1 + 1 + 1)), v7, v8, v9, v10, v11, v12, v13, v14, v15, v16, v17, v18, v19, v20, v21, v22, v23, v24, v25, v26, v27, v28, v29, v30, v31, v32, v33, v34, v35, v36, v37, v38, v39, v40, v41, v42, v43, v44, v45, v46, v47, v48, v49, v50, v51])), (q1, .inl (cC, 120, .inl f_35))] H := by rw [ef_35]; exact hP
          have hD : va_D A [(h0, .inr (10, [v0, .ref q1, v2, v3, v4, v5, .int (nI (k + 1 + 1 + 1)), v7, v8, v9, v10, v11, v12, v13, v14, v15, v16, v17, v18, v19, v20, v21, v22, v23, v24, v25, v26, v27, v28, v29, v30, v31, v32, v33, v34, v35, v36, v37, v38, v39, v40, v41, v42, v43, v44, v45, v46, v47, v48, v49, v50, v51])), (q1, .inl (cC, 120, .inl f_35))] := by rw [ef_35]; exact hD
          refine lv_aload_n hx hb dX10_put_33 rfl (lv_at hl 1 rfl) ?_
          refine lv_dup hx hb dX10_put_34 rfl ?_
          refine va_get (D := (dC, dI)) (ci := 10) (v := .int (nI (k + 1 + 1 + 1))) (C := RX10) (T := TX10) (N := 52) hx hb hts (fun _ h => List.mem_cons_of_mem _ (List.mem_append_right _ h)) hown hK hP 0 rfl rfl 6 (by decide) (hts (.fieldLink RX10 131 "NotEndedModel" "length" "I") (List.mem_cons_of_mem _ (List.mem_append_left _ (List.mem_of_getElem? (i := 1) rfl)))) (fun _ h9 => h9) rfl dX10_put_35 ?_
          refine lv_iconst (v := 1) hx hb dX10_put_38 (by decide) ?_
          refine lv_iadd hx hb dX10_put_39 ?_
          refine lv_topi (fun y_36 ey_36 => ?_)
          obtain rfl : y_36 = nI (k + 1 + 1 + 1 + 1) := ey_36.trans (nI_add (k + 1 + 1 + 1) (1))
          refine va_put (D := (dC, dI)) (ci := 10) (v := .int (nI (k + 1 + 1 + 1 + 1))) (ty := tyX10 6) (C := RX10) (T := TX10) (N := 52) hx hb hts (fun _ h => List.mem_cons_of_mem _ (List.mem_append_right _ h)) tyX10 tyX10_ok nmX10 hown hK hP hD hS 0 rfl rfl 6 (by decide) (hts (.fieldLink RX10 131 "NotEndedModel" "length" "I") (List.mem_cons_of_mem _ (List.mem_append_left _ (List.mem_of_getElem? (i := 1) rfl)))) (fun _ h9 => h9) rfl (tyX10_ok 6 (by decide)) rfl rfl (Nat.le_of_ble_eq_true rfl) dX10_put_40 (fun H locs hP hD hS => ?_)
          have hP : va_P (dC, dI) vwCl [(h0, .inr (10, [v0, .ref q1, v2, v3, v4, v5, .int (nI (k + 1 + 1 + 1 + 1)), v7, v8, v9, v10, v11, v12, v13, v14, v15, v16, v17, v18, v19, v20, v21, v22, v23, v24, v25, v26, v27, v28, v29, v30, v31, v32, v33, v34, v35, v36, v37, v38, v39, v40, v41, v42, v43, v44, v45, v46, v47, v48, v49, v50, v51])), (q1, .inl (cC, 120, .inl f_35))] H := hP
          have hD : va_D A [(h0, .inr (10, [v0, .ref q1, v2, v3, v4, v5, .int (nI (k + 1 + 1 + 1 + 1)), v7, v8, v9, v10, v11, v12, v13, v14, v15, v16, v17, v18, v19, v20, v21, v22, v23, v24, v25, v26, v27, v28, v29, v30, v31, v32, v33, v34, v35, v36, v37, v38, v39, v40, v41, v42, v43, v44, v45, v46, v47, v48, v49, v50, v51])), (q1, .inl (cC, 120, .inl f_35))] := hD
          refine lv_iinc (v := (-8)) (lv' := [(2, .int (-8)), (0, .ref h0), (1, .int p0)]) hx hb dX10_put_43 hl (k := 0) rfl (by decide) (by decide) rfl (fun ls hl => ?_)
          refine lv_goto (tgt := 3) hx hb dX10_put_46 (by decide) ?_
          refine lv_iload_n hx hb dX10_put_3 rfl (lv_at hl 0 rfl) ?_
          refine lv_if_lt (tgt := 49) hx hb dX10_put_4 (by decide) (fun c_37 => ?_) (fun c_37 => absurd (by decide) c_37)
          have hk9 : kCnt p0 = 4 := by simp [kCnt, kC1, hy_4, hy_13, hy_22, hy_31, c_5, c_14, c_23, c_32]
          have hP9 : va_P (dC, dI) vwCl [(h0, .inr (10, [v0, .ref q1, v2, v3, v4, v5, .int (nI (k + kCnt p0)), v7, v8, v9, v10, v11, v12, v13, v14, v15, v16, v17, v18, v19, v20, v21, v22, v23, v24, v25, v26, v27, v28, v29, v30, v31, v32, v33, v34, v35, v36, v37, v38, v39, v40, v41, v42, v43, v44, v45, v46, v47, v48, v49, v50, v51])), (q1, .inl (cC, 120, .inl f_35))] H := by rw [hk9]; exact hP.sub [0, 1] rfl
          have hD9 : va_D A [(h0, .inr (10, [v0, .ref q1, v2, v3, v4, v5, .int (nI (k + kCnt p0)), v7, v8, v9, v10, v11, v12, v13, v14, v15, v16, v17, v18, v19, v20, v21, v22, v23, v24, v25, v26, v27, v28, v29, v30, v31, v32, v33, v34, v35, v36, v37, v38, v39, v40, v41, v42, v43, v44, v45, v46, v47, v48, v49, v50, v51])), (q1, .inl (cC, 120, .inl f_35))] := by rw [hk9]; exact hD.sub [0, 1] (by decide) rfl
          have hK9 := hK.sub (tys' := [(cC, .byte)]) [0] rfl
          exact W.vret hx hb hr (fun t ht hW => ⟨⟨f_35, rfl, trivial,  by rw [ht]; exact hP9, va_K.moved hW.alike hK9, hD9⟩, hS.F ht⟩) hS.2.2 dX10_put_49
        · refine lv_goto (tgt := 43) hx hb dX10_put_17 (by decide) ?_
          refine lv_iinc (v := (-8)) (lv' := [(2, .int (-8)), (0, .ref h0), (1, .int p0)]) hx hb dX10_put_43 hl (k := 0) rfl (by decide) (by decide) rfl (fun ls hl => ?_)
          refine lv_goto (tgt := 3) hx hb dX10_put_46 (by decide) ?_
          refine lv_iload_n hx hb dX10_put_3 rfl (lv_at hl 0 rfl) ?_
          refine lv_if_lt (tgt := 49) hx hb dX10_put_4 (by decide) (fun c_38 => ?_) (fun c_38 => absurd (by decide) c_38)
          have hk9 : kCnt p0 = 3 := by simp [kCnt, kC1, hy_4, hy_13, hy_22, hy_31, c_5, c_14, c_23, c_32]
          have hP9 : va_P (dC, dI) vwCl [(h0, .inr (10, [v0, .ref q1, v2, v3, v4, v5, .int (nI (k + kCnt p0)), v7, v8, v9, v10, v11, v12, v13, v14, v15, v16, v17, v18, v19, v20, v21, v22, v23, v24, v25, v26, v27, v28, v29, v30, v31, v32, v33, v34, v35, v36, v37, v38, v39, v40, v41, v42, v43, v44, v45, v46, v47, v48, v49, v50, v51])), (q1, .inl (cC, 120, .inl f_26))] H := by rw [hk9]; exact hP.sub [0, 1] rfl
          have hD9 : va_D A [(h0, .inr (10, [v0, .ref q1, v2, v3, v4, v5, .int (nI (k + kCnt p0)), v7, v8, v9, v10, v11, v12, v13, v14, v15, v16, v17, v18, v19, v20, v21, v22, v23, v24, v25, v26, v27, v28, v29, v30, v31, v32, v33, v34, v35, v36, v37, v38, v39, v40, v41, v42, v43, v44, v45, v46, v47, v48, v49, v50, v51])), (q1, .inl (cC, 120, .inl f_26))] := by rw [hk9]; exact hD.sub [0, 1] (by decide) rfl
          have hK9 := hK.sub (tys' := [(cC, .byte)]) [0] rfl
          exact W.vret hx hb hr (fun t ht hW => ⟨⟨f_26, rfl, trivial,  by rw [ht]; exact hP9, va_K.moved hW.alike hK9, hD9⟩, hS.F ht⟩) hS.2.2 dX10_put_49
      · refine lv_goto (tgt := 43) hx hb dX10_put_17 (by decide) ?_
        refine lv_iinc (v := 0) (lv' := [(2, .int 0), (0, .ref h0), (1, .int p0)]) hx hb dX10_put_43 hl (k := 0) rfl (by decide) (by decide) rfl (fun ls hl => ?_)
        refine lv_goto (tgt := 3) hx hb dX10_put_46 (by decide) ?_
        refine lv_iload_n hx hb dX10_put_3 rfl (lv_at hl 0 rfl) ?_
        refine lv_if_lt (tgt := 49) hx hb dX10_put_4 (by decide) (fun c_39 => absurd c_39 (by decide)) (fun c_39 => ?_)
        refine lv_iload_n hx hb dX10_put_7 rfl (lv_at hl 2 rfl) ?_
        refine lv_iload_n hx hb dX10_put_8 rfl (lv_at hl 0 rfl) ?_
        refine lv_ishr hx hb dX10_put_9 ?_
        refine lv_topi (fun x_40 ex_40 => ?_)
        refine lv_sipush (v := 255) hx hb dX10_put_10 (by decide) ?_
        refine lv_iand hx hb dX10_put_13 ?_
        refine lv_topi (fun x_41 ex_41 => ?_)
        have hy_42 : kS p0 0 = x_41 := by rw [ex_41, ex_40]; rfl
        refine lv_if_ne (tgt := 20) hx hb dX10_put_14 (by decide) (fun c_43 => ?_) (fun c_43 => ?_)
        · refine lv_aload_n hx hb dX10_put_20 rfl (lv_at hl 1 rfl) ?_
          refine va_get (D := (dC, dI)) (ci := 10) (v := .ref q1) (C := RX10) (T := TX10) (N := 52) hx hb hts (fun _ h => List.mem_cons_of_mem _ (List.mem_append_right _ h)) hown hK hP 0 rfl rfl 1 (by decide) (hts (.fieldLink RX10 9 "NotEndedModel" "tape" "[B") (List.mem_cons_of_mem _ (List.mem_append_left _ (List.mem_of_getElem? (i := 0) rfl)))) (fun _ h9 => h9) rfl dX10_put_21 ?_
          refine lv_aload_n hx hb dX10_put_24 rfl (lv_at hl 1 rfl) ?_
          refine va_get (D := (dC, dI)) (ci := 10) (v := .int (nI (k + 1 + 1))) (C := RX10) (T := TX10) (N := 52) hx hb hts (fun _ h => List.mem_cons_of_mem _ (List.mem_append_right _ h)) hown hK hP 0 rfl rfl 6 (by decide) (hts (.fieldLink RX10 131 "NotEndedModel" "length" "I") (List.mem_cons_of_mem _ (List.mem_append_left _ (List.mem_of_getElem? (i := 1) rfl)))) (fun _ h9 => h9) rfl dX10_put_25 ?_
          refine lv_iload_n hx hb dX10_put_28 rfl (lv_at hl 2 rfl) ?_
          refine lv_iload_n hx hb dX10_put_29 rfl (lv_at hl 0 rfl) ?_
          refine lv_ishr hx hb dX10_put_30 ?_
          refine lv_topi (fun x_44 ex_44 => ?_)
          obtain ⟨x_45, ex_45⟩ : ∃ z : Int32, z = (Int32.toInt8 x_44).toInt32 := ⟨_, rfl⟩
          refine lv_i2b (v := x_45) hx hb dX10_put_31 ex_45.symm ?_
          refine va_bast hx hb hK hP hD hS 1 0 rfl rfl (vp_in_nI (n := k + 1 + 1) (N := 120) (by omega) (by decide)) dX10_put_32 (fun H locs hP hD hS => ?_)
          obtain ⟨f_46, ef_46⟩ : ∃ gg9 : Nat → Int32, gg9 = upd f_17 (Int32.toNatClampNeg (nI (k + 1 + 1))) (vp_nar .byte x_45) := ⟨_, rfl⟩
          have hP : va_P (dC, dI) vwCl [(h0, .inr (10, [v0, .ref q1, v2, v3, v4, v5, .int (nI (k + 1 + 1)), v7, v8, v9, v10, v11, v12, v13, v14, v15, v16, v17, v18, v19, v20, v21, v22, v23, v24, v25, v26, v27, v28, v29, v30, v31, v32, v33, v34, v35, v36, v37, v38, v39, v40, v41, v42, v43, v44, v45, v46, v47, v48, v49, v50, v51])), (q1, .inl (cC, 120, .inl f_46))] H := by rw [ef_46]; exact hP
          have hD : va_D A [(h0, .inr (10, [v0, .ref q1, v2, v3, v4, v5, .int (nI (k + 1 + 1)), v7, v8, v9, v10, v11, v12, v13, v14, v15, v16, v17, v18, v19, v20, v21, v22, v23, v24, v25, v26, v27, v28, v29, v30, v31, v32, v33, v34, v35, v36, v37, v38, v39, v40, v41, v42, v43, v44, v45, v46, v47, v48, v49, v50, v51])), (q1, .inl (cC, 120, .inl f_46))] := by rw [ef_46]; exact hD
          refine lv_aload_n hx hb dX10_put_33 rfl (lv_at hl 1 rfl) ?_
          refine lv_dup hx hb dX10_put_34 rfl ?_
          refine va_get (D := (dC, dI)) (ci := 10) (v := .int (nI (k + 1 + 1))) (C := RX10) (T := TX10) (N := 52) hx hb hts (fun _ h => List.mem_cons_of_mem _ (List.mem_append_right _ h)) hown hK hP 0 rfl rfl 6 (by decide) (hts (.fieldLink RX10 131 "NotEndedModel" "length" "I") (List.mem_cons_of_mem _ (List.mem_append_left _ (List.mem_of_getElem? (i := 1) rfl)))) (fun _ h9 => h9) rfl dX10_put_35 ?_
          refine lv_iconst (v := 1) hx hb dX10_put_38 (by decide) ?_
          refine lv_iadd hx hb dX10_put_39 ?_
          refine lv_topi (fun y_47 ey_47 => ?_)
          obtain rfl : y_47 = nI (k + 1 + 1 + 1) := ey_47.trans (nI_add (k + 1 + 1) (1))
          refine va_put (D := (dC, dI)) (ci := 10) (v := .int (nI (k + 1 + 1 + 1))) (ty := tyX10 6) (C := RX10) (T := TX10) (N := 52) hx hb hts (fun _ h => List.mem_cons_of_mem _ (List.mem_append_right _ h)) tyX10 tyX10_ok nmX10 hown hK hP hD hS 0 rfl rfl 6 (by decide) (hts (.fieldLink RX10 131 "NotEndedModel" "length" "I") (List.mem_cons_of_mem _ (List.mem_append_left _ (List.mem_of_getElem? (i := 1) rfl)))) (fun _ h9 => h9) rfl (tyX10_ok 6 (by decide)) rfl rfl (Nat.le_of_ble_eq_true rfl) dX10_put_40 (fun H locs hP hD hS => ?_)
          have hP : va_P (dC, dI) vwCl [(h0, .inr (10, [v0, .ref q1, v2, v3, v4, v5, .int (nI (k + 1 + 1 + 1)), v7, v8, v9, v10, v11, v12, v13, v14, v15, v16, v17, v18, v19, v20, v21, v22, v23, v24, v25, v26, v27, v28, v29, v30, v31, v32, v33, v34, v35, v36, v37, v38, v39, v40, v41, v42, v43, v44, v45, v46, v47, v48, v49, v50, v51])), (q1, .inl (cC, 120, .inl f_46))] H := hP
          have hD : va_D A [(h0, .inr (10, [v0, .ref q1, v2, v3, v4, v5, .int (nI (k + 1 + 1 + 1)), v7, v8, v9, v10, v11, v12, v13, v14, v15, v16, v17, v18, v19, v20, v21, v22, v23, v24, v25, v26, v27, v28, v29, v30, v31, v32, v33, v34, v35, v36, v37, v38, v39, v40, v41, v42, v43, v44, v45, v46, v47, v48, v49, v50, v51])), (q1, .inl (cC, 120, .inl f_46))] := hD
          refine lv_iinc (v := (-8)) (lv' := [(2, .int (-8)), (0, .ref h0), (1, .int p0)]) hx hb dX10_put_43 hl (k := 0) rfl (by decide) (by decide) rfl (fun ls hl => ?_)
          refine lv_goto (tgt := 3) hx hb dX10_put_46 (by decide) ?_
          refine lv_iload_n hx hb dX10_put_3 rfl (lv_at hl 0 rfl) ?_
          refine lv_if_lt (tgt := 49) hx hb dX10_put_4 (by decide) (fun c_48 => ?_) (fun c_48 => absurd (by decide) c_48)
          have hk9 : kCnt p0 = 3 := by simp [kCnt, kC1, hy_4, hy_13, hy_22, hy_42, c_5, c_14, c_23, c_43]
          have hP9 : va_P (dC, dI) vwCl [(h0, .inr (10, [v0, .ref q1, v2, v3, v4, v5, .int (nI (k + kCnt p0)), v7, v8, v9, v10, v11, v12, v13, v14, v15, v16, v17, v18, v19, v20, v21, v22, v23, v24, v25, v26, v27, v28, v29, v30, v31, v32, v33, v34, v35, v36, v37, v38, v39, v40, v41, v42, v43, v44, v45, v46, v47, v48, v49, v50, v51])), (q1, .inl (cC, 120, .inl f_46))] H := by rw [hk9]; exact hP.sub [0, 1] rfl
          have hD9 : va_D A [(h0, .inr (10, [v0, .ref q1, v2, v3, v4, v5, .int (nI (k + kCnt p0)), v7, v8, v9, v10, v11, v12, v13, v14, v15, v16, v17, v18, v19, v20, v21, v22, v23, v24, v25, v26, v27, v28, v29, v30, v31, v32, v33, v34, v35, v36, v37, v38, v39, v40, v41, v42, v43, v44, v45, v46, v47, v48, v49, v50, v51])), (q1, .inl (cC, 120, .inl f_46))] := by rw [hk9]; exact hD.sub [0, 1] (by decide) rfl
          have hK9 := hK.sub (tys' := [(cC, .byte)]) [0] rfl
          exact W.vret hx hb hr (fun t ht hW => ⟨⟨f_46, rfl, trivial,  by rw [ht]; exact hP9, va_K.moved hW.alike hK9, hD9⟩, hS.F ht⟩) hS.2.2 dX10_put_49
        · refine lv_goto (tgt := 43) hx hb dX10_put_17 (by decide) ?_
          refine lv_iinc (v := (-8)) (lv' := [(2, .int (-8)), (0, .ref h0), (1, .int p0)]) hx hb dX10_put_43 hl (k := 0) rfl (by decide) (by decide) rfl (fun ls hl => ?_)
          refine lv_goto (tgt := 3) hx hb dX10_put_46 (by decide) ?_
          refine lv_iload_n hx hb dX10_put_3 rfl (lv_at hl 0 rfl) ?_
          refine lv_if_lt (tgt := 49) hx hb dX10_put_4 (by decide) (fun c_49 => ?_) (fun c_49 => absurd (by decide) c_49)
          have hk9 : kCnt p0 = 2 := by simp [kCnt, kC1, hy_4, hy_13, hy_22, hy_42, c_5, c_14, c_23, c_43]
          have hP9 : va_P (dC, dI) vwCl [(h0, .inr (10, [v0, .ref q1, v2, v3, v4, v5, .int (nI (k + kCnt p0)), v7, v8, v9, v10, v11, v12, v13, v14, v15, v16, v17, v18, v19, v20, v21, v22, v23, v24, v25, v26, v27, v28, v29, v30, v31, v32, v33, v34, v35, v36, v37, v38, v39, v40, v41, v42, v43, v44, v45, v46, v47, v48, v49, v50, v51])), (q1, .inl (cC, 120, .inl f_17))] H := by rw [hk9]; exact hP.sub [0, 1] rfl
          have hD9 : va_D A [(h0, .inr (10, [v0, .ref q1, v2, v3, v4, v5, .int (nI (k + kCnt p0)), v7, v8, v9, v10, v11, v12, v13, v14, v15, v16, v17, v18, v19, v20, v21, v22, v23, v24, v25, v26, v27, v28, v29, v30, v31, v32, v33, v34, v35, v36, v37, v38, v39, v40, v41, v42, v43, v44, v45, v46, v47, v48, v49, v50, v51])), (q1, .inl (cC, 120, .inl f_17))] := by rw [hk9]; exact hD.sub [0, 1] (by decide) rfl
          have hK9 := hK.sub (tys' := [(cC, .byte)]) [0] rfl
          exact W.vret hx hb hr (fun t ht hW => ⟨⟨f_17, rfl, trivial,  by rw [ht]; exact hP9, va_K.moved hW.alike hK9, hD9⟩, hS.F ht⟩) hS.2.2 dX10_put_49
    · refine lv_goto (tgt := 43) hx hb dX10_put_17 (by decide) ?_
      refine lv_iinc (v := 8) (lv' := [(2, .int 8), (0, .ref h0), (1, .int p0)]) hx hb dX10_put_43 hl (k := 0) rfl (by decide) (by decide) rfl (fun ls hl => ?_)
      refine lv_goto (tgt := 3) hx hb dX10_put_46 (by decide) ?_
      refine lv_iload_n hx hb dX10_put_3 rfl (lv_at hl 0 rfl) ?_
      refine lv_if_lt (tgt := 49) hx hb dX10_put_4 (by decide) (fun c_50 => absurd c_50 (by decide)) (fun c_50 => ?_)
      refine lv_iload_n hx hb dX10_put_7 rfl (lv_at hl 2 rfl) ?_
      refine lv_iload_n hx hb dX10_put_8 rfl (lv_at hl 0 rfl) ?_
      refine lv_ishr hx hb dX10_put_9 ?_
      refine lv_topi (fun x_51 ex_51 => ?_)
      refine lv_sipush (v := 255) hx hb dX10_put_10 (by decide) ?_
      refine lv_iand hx hb dX10_put_13 ?_
      refine lv_topi (fun x_52 ex_52 => ?_)
      have hy_53 : kS p0 8 = x_52 := by rw [ex_52, ex_51]; rfl
      refine lv_if_ne (tgt := 20) hx hb dX10_put_14 (by decide) (fun c_54 => ?_) (fun c_54 => ?_)
      · refine lv_aload_n hx hb dX10_put_20 rfl (lv_at hl 1 rfl) ?_
        refine va_get (D := (dC, dI)) (ci := 10) (v := .ref q1) (C := RX10) (T := TX10) (N := 52) hx hb hts (fun _ h => List.mem_cons_of_mem _ (List.mem_append_right _ h)) hown hK hP 0 rfl rfl 1 (by decide) (hts (.fieldLink RX10 9 "NotEndedModel" "tape" "[B") (List.mem_cons_of_mem _ (List.mem_append_left _ (List.mem_of_getElem? (i := 0) rfl)))) (fun _ h9 => h9) rfl dX10_put_21 ?_
        refine lv_aload_n hx hb dX10_put_24 rfl (lv_at hl 1 rfl) ?_
        refine va_get (D := (dC, dI)) (ci := 10) (v := .int (nI (k + 1))) (C := RX10) (T := TX10) (N := 52) hx hb hts (fun _ h => List.mem_cons_of_mem _ (List.mem_append_right _ h)) hown hK hP 0 rfl rfl 6 (by decide) (hts (.fieldLink RX10 131 "NotEndedModel" "length" "I") (List.mem_cons_of_mem _ (List.mem_append_left _ (List.mem_of_getElem? (i := 1) rfl)))) (fun _ h9 => h9) rfl dX10_put_25 ?_
        refine lv_iload_n hx hb dX10_put_28 rfl (lv_at hl 2 rfl) ?_
        refine lv_iload_n hx hb dX10_put_29 rfl (lv_at hl 0 rfl) ?_
        refine lv_ishr hx hb dX10_put_30 ?_
        refine lv_topi (fun x_55 ex_55 => ?_)
        obtain ⟨x_56, ex_56⟩ : ∃ z : Int32, z = (Int32.toInt8 x_55).toInt32 := ⟨_, rfl⟩
        refine lv_i2b (v := x_56) hx hb dX10_put_31 ex_56.symm ?_
        refine va_bast hx hb hK hP hD hS 1 0 rfl rfl (vp_in_nI (n := k + 1) (N := 120) (by omega) (by decide)) dX10_put_32 (fun H locs hP hD hS => ?_)
        obtain ⟨f_57, ef_57⟩ : ∃ gg9 : Nat → Int32, gg9 = upd f_8 (Int32.toNatClampNeg (nI (k + 1))) (vp_nar .byte x_56) := ⟨_, rfl⟩
        have hP : va_P (dC, dI) vwCl [(h0, .inr (10, [v0, .ref q1, v2, v3, v4, v5, .int (nI (k + 1)), v7, v8, v9, v10, v11, v12, v13, v14, v15, v16, v17, v18, v19, v20, v21, v22, v23, v24, v25, v26, v27, v28, v29, v30, v31, v32, v33, v34, v35, v36, v37, v38, v39, v40, v41, v42, v43, v44, v45, v46, v47, v48, v49, v50, v51])), (q1, .inl (cC, 120, .inl f_57))] H := by rw [ef_57]; exact hP
        have hD : va_D A [(h0, .inr (10, [v0, .ref q1, v2, v3, v4, v5, .int (nI (k + 1)), v7, v8, v9, v10, v11, v12, v13, v14, v15, v16, v17, v18, v19, v20, v21, v22, v23, v24, v25, v26, v27, v28, v29, v30, v31, v32, v33, v34, v35, v36, v37, v38, v39, v40, v41, v42, v43, v44, v45, v46, v47, v48, v49, v50, v51])), (q1, .inl (cC, 120, .inl f_57))] := by rw [ef_57]; exact hD
        refine lv_aload_n hx hb dX10_put_33 rfl (lv_at hl 1 rfl) ?_
        refine lv_dup hx hb dX10_put_34 rfl ?_
        refine va_get (D := (dC, dI)) (ci := 10) (v := .int (nI (k + 1))) (C := RX10) (T := TX10) (N := 52) hx hb hts (fun _ h => List.mem_cons_of_mem _ (List.mem_append_right _ h)) hown hK hP 0 rfl rfl 6 (by decide) (hts (.fieldLink RX10 131 "NotEndedModel" "length" "I") (List.mem_cons_of_mem _ (List.mem_append_left _ (List.mem_of_getElem? (i := 1) rfl)))) (fun _ h9 => h9) rfl dX10_put_35 ?_
        refine lv_iconst (v := 1) hx hb dX10_put_38 (by decide) ?_
        refine lv_iadd hx hb dX10_put_39 ?_
        refine lv_topi (fun y_58 ey_58 => ?_)
        obtain rfl : y_58 = nI (k + 1 + 1) := ey_58.trans (nI_add (k + 1) (1))
        refine va_put (D := (dC, dI)) (ci := 10) (v := .int (nI (k + 1 + 1))) (ty := tyX10 6) (C := RX10) (T := TX10) (N := 52) hx hb hts (fun _ h => List.mem_cons_of_mem _ (List.mem_append_right _ h)) tyX10 tyX10_ok nmX10 hown hK hP hD hS 0 rfl rfl 6 (by decide) (hts (.fieldLink RX10 131 "NotEndedModel" "length" "I") (List.mem_cons_of_mem _ (List.mem_append_left _ (List.mem_of_getElem? (i := 1) rfl)))) (fun _ h9 => h9) rfl (tyX10_ok 6 (by decide)) rfl rfl (Nat.le_of_ble_eq_true rfl) dX10_put_40 (fun H locs hP hD hS => ?_)
        have hP : va_P (dC, dI) vwCl [(h0, .inr (10, [v0, .ref q1, v2, v3, v4, v5, .int (nI (k + 1 + 1)), v7, v8, v9, v10, v11, v12, v13, v14, v15, v16, v17, v18, v19, v20, v21, v22, v23, v24, v25, v26, v27, v28, v29, v30, v31, v32, v33, v34, v35, v36, v37, v38, v39, v40, v41, v42, v43, v44, v45, v46, v47, v48, v49, v50, v51])), (q1, .inl (cC, 120, .inl f_57))] H := hP
        have hD : va_D A [(h0, .inr (10, [v0, .ref q1, v2, v3, v4, v5, .int (nI (k + 1 + 1)), v7, v8, v9, v10, v11, v12, v13, v14, v15, v16, v17, v18, v19, v20, v21, v22, v23, v24, v25, v26, v27, v28, v29, v30, v31, v32, v33, v34, v35, v36, v37, v38, v39, v40, v41, v42, v43, v44, v45, v46, v47, v48, v49, v50, v51])), (q1, .inl (cC, 120, .inl f_57))] := hD
        refine lv_iinc (v := 0) (lv' := [(2, .int 0), (0, .ref h0), (1, .int p0)]) hx hb dX10_put_43 hl (k := 0) rfl (by decide) (by decide) rfl (fun ls hl => ?_)
        refine lv_goto (tgt := 3) hx hb dX10_put_46 (by decide) ?_
        refine lv_iload_n hx hb dX10_put_3 rfl (lv_at hl 0 rfl) ?_
        refine lv_if_lt (tgt := 49) hx hb dX10_put_4 (by decide) (fun c_59 => absurd c_59 (by decide)) (fun c_59 => ?_)
        refine lv_iload_n hx hb dX10_put_7 rfl (lv_at hl 2 rfl) ?_
        refine lv_iload_n hx hb dX10_put_8 rfl (lv_at hl 0 rfl) ?_
        refine lv_ishr hx hb dX10_put_9 ?_
        refine lv_topi (fun x_60 ex_60 => ?_)
        refine lv_sipush (v := 255) hx hb dX10_put_10 (by decide) ?_
        refine lv_iand hx hb dX10_put_13 ?_
        refine lv_topi (fun x_61 ex_61 => ?_)
        have hy_62 : kS p0 0 = x_61 := by rw [ex_61, ex_60]; rfl
        refine lv_if_ne (tgt := 20) hx hb dX10_put_14 (by decide) (fun c_63 => ?_) (fun c_63 => ?_)
        · refine lv_aload_n hx hb dX10_put_20 rfl (lv_at hl 1 rfl) ?_
          refine va_get (D := (dC, dI)) (ci := 10) (v := .ref q1) (C := RX10) (T := TX10) (N := 52) hx hb hts (fun _ h => List.mem_cons_of_mem _ (List.mem_append_right _ h)) hown hK hP 0 rfl rfl 1 (by decide) (hts (.fieldLink RX10 9 "NotEndedModel" "tape" "[B") (List.mem_cons_of_mem _ (List.mem_append_left _ (List.mem_of_getElem? (i := 0) rfl)))) (fun _ h9 => h9) rfl dX10_put_21 ?_
          refine lv_aload_n hx hb dX10_put_24 rfl (lv_at hl 1 rfl) ?_
          refine va_get (D := (dC, dI)) (ci := 10) (v := .int (nI (k + 1 + 1))) (C := RX10) (T := TX10) (N := 52) hx hb hts (fun _ h => List.mem_cons_of_mem _ (List.mem_append_right _ h)) hown hK hP 0 rfl rfl 6 (by decide) (hts (.fieldLink RX10 131 "NotEndedModel" "length" "I") (List.mem_cons_of_mem _ (List.mem_append_left _ (List.mem_of_getElem? (i := 1) rfl)))) (fun _ h9 => h9) rfl dX10_put_25 ?_
          refine lv_iload_n hx hb dX10_put_28 rfl (lv_at hl 2 rfl) ?_
          refine lv_iload_n hx hb dX10_put_29 rfl (lv_at hl 0 rfl) ?_
          refine lv_ishr hx hb dX10_put_30 ?_
          refine lv_topi (fun x_64 ex_64 => ?_)
          obtain ⟨x_65, ex_65⟩ : ∃ z : Int32, z = (Int32.toInt8 x_64).toInt32 := ⟨_, rfl⟩
          refine lv_i2b (v := x_65) hx hb dX10_put_31 ex_65.symm ?_
          refine va_bast hx hb hK hP hD hS 1 0 rfl rfl (vp_in_nI (n := k + 1 + 1) (N := 120) (by omega) (by decide)) dX10_put_32 (fun H locs hP hD hS => ?_)
          obtain ⟨f_66, ef_66⟩ : ∃ gg9 : Nat → Int32, gg9 = upd f_57 (Int32.toNatClampNeg (nI (k + 1 + 1))) (vp_nar .byte x_65) := ⟨_, rfl⟩
          have hP : va_P (dC, dI) vwCl [(h0, .inr (10, [v0, .ref q1, v2, v3, v4, v5, .int (nI (k + 1 + 1)), v7, v8, v9, v10, v11, v12, v13, v14, v15, v16, v17, v18, v19, v20, v21, v22, v23, v24, v25, v26, v27, v28, v29, v30, v31, v32, v33, v34, v35, v36, v37, v38, v39, v40, v41, v42, v43, v44, v45, v46, v47, v48, v49, v50, v51])), (q1, .inl (cC, 120, .inl f_66))] H := by rw [ef_66]; exact hP
          have hD : va_D A [(h0, .inr (10, [v0, .ref q1, v2, v3, v4, v5, .int (nI (k + 1 + 1)), v7, v8, v9, v10, v11, v12, v13, v14, v15, v16, v17, v18, v19, v20, v21, v22, v23, v24, v25, v26, v27, v28, v29, v30, v31, v32, v33, v34, v35, v36, v37, v38, v39, v40, v41, v42, v43, v44, v45, v46, v47, v48, v49, v50, v51])), (q1, .inl (cC, 120, .inl f_66))] := by rw [ef_66]; exact hD
          refine lv_aload_n hx hb dX10_put_33 rfl (lv_at hl 1 rfl) ?_
          refine lv_dup hx hb dX10_put_34 rfl ?_
          refine va_get (D := (dC, dI)) (ci := 10) (v := .int (nI (k + 1 + 1))) (C := RX10) (T := TX10) (N := 52) hx hb hts (fun _ h => List.mem_cons_of_mem _ (List.mem_append_right _ h)) hown hK hP 0 rfl rfl 6 (by decide) (hts (.fieldLink RX10 131 "NotEndedModel" "length" "I") (List.mem_cons_of_mem _ (List.mem_append_left _ (List.mem_of_getElem? (i := 1) rfl)))) (fun _ h9 => h9) rfl dX10_put_35 ?_
          refine lv_iconst (v := 1) hx hb dX10_put_38 (by decide) ?_
          refine lv_iadd hx hb dX10_put_39 ?_
          refine lv_topi (fun y_67 ey_67 => ?_)
          obtain rfl : y_67 = nI (k + 1 + 1 + 1) := ey_67.trans (nI_add (k + 1 + 1) (1))
          refine va_put (D := (dC, dI)) (ci := 10) (v := .int (nI (k + 1 + 1 + 1))) (ty := tyX10 6) (C := RX10) (T := TX10) (N := 52) hx hb hts (fun _ h => List.mem_cons_of_mem _ (List.mem_append_right _ h)) tyX10 tyX10_ok nmX10 hown hK hP hD hS 0 rfl rfl 6 (by decide) (hts (.fieldLink RX10 131 "NotEndedModel" "length" "I") (List.mem_cons_of_mem _ (List.mem_append_left _ (List.mem_of_getElem? (i := 1) rfl)))) (fun _ h9 => h9) rfl (tyX10_ok 6 (by decide)) rfl rfl (Nat.le_of_ble_eq_true rfl) dX10_put_40 (fun H locs hP hD hS => ?_)
          have hP : va_P (dC, dI) vwCl [(h0, .inr (10, [v0, .ref q1, v2, v3, v4, v5, .int (nI (k + 1 + 1 + 1)), v7, v8, v9, v10, v11, v12, v13, v14, v15, v16, v17, v18, v19, v20, v21, v22, v23, v24, v25, v26, v27, v28, v29, v30, v31, v32, v33, v34, v35, v36, v37, v38, v39, v40, v41, v42, v43, v44, v45, v46, v47, v48, v49, v50, v51])), (q1, .inl (cC, 120, .inl f_66))] H := hP
          have hD : va_D A [(h0, .inr (10, [v0, .ref q1, v2, v3, v4, v5, .int (nI (k + 1 + 1 + 1)), v7, v8, v9, v10, v11, v12, v13, v14, v15, v16, v17, v18, v19, v20, v21, v22, v23, v24, v25, v26, v27, v28, v29, v30, v31, v32, v33, v34, v35, v36, v37, v38, v39, v40, v41, v42, v43, v44, v45, v46, v47, v48, v49, v50, v51])), (q1, .inl (cC, 120, .inl f_66))] := hD
          refine lv_iinc (v := (-8)) (lv' := [(2, .int (-8)), (0, .ref h0), (1, .int p0)]) hx hb dX10_put_43 hl (k := 0) rfl (by decide) (by decide) rfl (fun ls hl => ?_)
          refine lv_goto (tgt := 3) hx hb dX10_put_46 (by decide) ?_
          refine lv_iload_n hx hb dX10_put_3 rfl (lv_at hl 0 rfl) ?_
          refine lv_if_lt (tgt := 49) hx hb dX10_put_4 (by decide) (fun c_68 => ?_) (fun c_68 => absurd (by decide) c_68)
          have hk9 : kCnt p0 = 3 := by simp [kCnt, kC1, hy_4, hy_13, hy_53, hy_62, c_5, c_14, c_54, c_63]
          have hP9 : va_P (dC, dI) vwCl [(h0, .inr (10, [v0, .ref q1, v2, v3, v4, v5, .int (nI (k + kCnt p0)), v7, v8, v9, v10, v11, v12, v13, v14, v15, v16, v17, v18, v19, v20, v21, v22, v23, v24, v25, v26, v27, v28, v29, v30, v31, v32, v33, v34, v35, v36, v37, v38, v39, v40, v41, v42, v43, v44, v45, v46, v47, v48, v49, v50, v51])), (q1, .inl (cC, 120, .inl f_66))] H := by rw [hk9]; exact hP.sub [0, 1] rfl
          have hD9 : va_D A [(h0, .inr (10, [v0, .ref q1, v2, v3, v4, v5, .int (nI (k + kCnt p0)), v7, v8, v9, v10, v11, v12, v13, v14, v15, v16, v17, v18, v19, v20, v21, v22, v23, v24, v25, v26, v27, v28, v29, v30, v31, v32, v33, v34, v35, v36, v37, v38, v39, v40, v41, v42, v43, v44, v45, v46, v47, v48, v49, v50, v51])), (q1, .inl (cC, 120, .inl f_66))] := by rw [hk9]; exact hD.sub [0, 1] (by decide) rfl
          have hK9 := hK.sub (tys' := [(cC, .byte)]) [0] rfl
          exact W.vret hx hb hr (fun t ht hW => ⟨⟨f_66, rfl, trivial,  by rw [ht]; exact hP9, va_K.moved hW.alike hK9, hD9⟩, hS.F ht⟩) hS.2.2 dX10_put_49
        · refine lv_goto (tgt := 43) hx hb dX10_put_17 (by decide) ?_
          refine lv_iinc (v := (-8)) (lv' := [(2, .int (-8)), (0, .ref h0), (1, .int p0)]) hx hb dX10_put_43 hl (k := 0) rfl (by decide) (by decide) rfl (fun ls hl => ?_)
          refine lv_goto (tgt := 3) hx hb dX10_put_46 (by decide) ?_
          refine lv_iload_n hx hb dX10_put_3 rfl (lv_at hl 0 rfl) ?_
          refine lv_if_lt (tgt := 49) hx hb dX10_put_4 (by decide) (fun c_69 => ?_) (fun c_69 => absurd (by decide) c_69)
          have hk9 : kCnt p0 = 2 := by simp [kCnt, kC1, hy_4, hy_13, hy_53, hy_62, c_5, c_14, c_54, c_63]
          have hP9 : va_P (dC, dI) vwCl [(h0, .inr (10, [v0, .ref q1, v2, v3, v4, v5, .int (nI (k + kCnt p0)), v7, v8, v9, v10, v11, v12, v13, v14, v15, v16, v17, v18, v19, v20, v21, v22, v23, v24, v25, v26, v27, v28, v29, v30, v31, v32, v33, v34, v35, v36, v37, v38, v39, v40, v41, v42, v43, v44, v45, v46, v47, v48, v49, v50, v51])), (q1, .inl (cC, 120, .inl f_57))] H := by rw [hk9]; exact hP.sub [0, 1] rfl
          have hD9 : va_D A [(h0, .inr (10, [v0, .ref q1, v2, v3, v4, v5, .int (nI (k + kCnt p0)), v7, v8, v9, v10, v11, v12, v13, v14, v15, v16, v17, v18, v19, v20, v21, v22, v23, v24, v25, v26, v27, v28, v29, v30, v31, v32, v33, v34, v35, v36, v37, v38, v39, v40, v41, v42, v43, v44, v45, v46, v47, v48, v49, v50, v51])), (q1, .inl (cC, 120, .inl f_57))] := by rw [hk9]; exact hD.sub [0, 1] (by decide) rfl
          have hK9 := hK.sub (tys' := [(cC, .byte)]) [0] rfl
          exact W.vret hx hb hr (fun t ht hW => ⟨⟨f_57, rfl, trivial,  by rw [ht]; exact hP9, va_K.moved hW.alike hK9, hD9⟩, hS.F ht⟩) hS.2.2 dX10_put_49
      · refine lv_goto (tgt := 43) hx hb dX10_put_17 (by decide) ?_
        refine lv_iinc (v := 0) (lv' := [(2, .int 0), (0, .ref h0), (1, .int p0)]) hx hb dX10_put_43 hl (k := 0) rfl (by decide) (by decide) rfl (fun ls hl => ?_)
        refine lv_goto (tgt := 3) hx hb dX10_put_46 (by decide) ?_
        refine lv_iload_n hx hb dX10_put_3 rfl (lv_at hl 0 rfl) ?_
        refine lv_if_lt (tgt := 49) hx hb dX10_put_4 (by decide) (fun c_70 => absurd c_70 (by decide)) (fun c_70 => ?_)
        refine lv_iload_n hx hb dX10_put_7 rfl (lv_at hl 2 rfl) ?_
        refine lv_iload_n hx hb dX10_put_8 rfl (lv_at hl 0 rfl) ?_
        refine lv_ishr hx hb dX10_put_9 ?_
        refine lv_topi (fun x_71 ex_71 => ?_)
        refine lv_sipush (v := 255) hx hb dX10_put_10 (by decide) ?_
        refine lv_iand hx hb dX10_put_13 ?_
        refine lv_topi (fun x_72 ex_72 => ?_)
        have hy_73 : kS p0 0 = x_72 := by rw [ex_72, ex_71]; rfl
        refine lv_if_ne (tgt := 20) hx hb dX10_put_14 (by decide) (fun c_74 => ?_) (fun c_74 => ?_)
        · refine lv_aload_n hx hb dX10_put_20 rfl (lv_at hl 1 rfl) ?_
          refine va_get (D := (dC, dI)) (ci := 10) (v := .ref q1) (C := RX10) (T := TX10) (N := 52) hx hb hts (fun _ h => List.mem_cons_of_mem _ (List.mem_append_right _ h)) hown hK hP 0 rfl rfl 1 (by decide) (hts (.fieldLink RX10 9 "NotEndedModel" "tape" "[B") (List.mem_cons_of_mem _ (List.mem_append_left _ (List.mem_of_getElem? (i := 0) rfl)))) (fun _ h9 => h9) rfl dX10_put_21 ?_
          refine lv_aload_n hx hb dX10_put_24 rfl (lv_at hl 1 rfl) ?_
          refine va_get (D := (dC, dI)) (ci := 10) (v := .int (nI (k + 1))) (C := RX10) (T := TX10) (N := 52) hx hb hts (fun _ h => List.mem_cons_of_mem _ (List.mem_append_right _ h)) hown hK hP 0 rfl rfl 6 (by decide) (hts (.fieldLink RX10 131 "NotEndedModel" "length" "I") (List.mem_cons_of_mem _ (List.mem_append_left _ (List.mem_of_getElem? (i := 1) rfl)))) (fun _ h9 => h9) rfl dX10_put_25 ?_
          refine lv_iload_n hx hb dX10_put_28 rfl (lv_at hl 2 rfl) ?_
          refine lv_iload_n hx hb dX10_put_29 rfl (lv_at hl 0 rfl) ?_
          refine lv_ishr hx hb dX10_put_30 ?_
          refine lv_topi (fun x_75 ex_75 => ?_)
          obtain ⟨x_76, ex_76⟩ : ∃ z : Int32, z = (Int32.toInt8 x_75).toInt32 := ⟨_, rfl⟩
          refine lv_i2b (v := x_76) hx hb dX10_put_31 ex_76.symm ?_
          refine va_bast hx hb hK hP hD hS 1 0 rfl rfl (vp_in_nI (n := k + 1) (N := 120) (by omega) (by decide)) dX10_put_32 (fun H locs hP hD hS => ?_)
          obtain ⟨f_77, ef_77⟩ : ∃ gg9 : Nat → Int32, gg9 = upd f_8 (Int32.toNatClampNeg (nI (k + 1))) (vp_nar .byte x_76) := ⟨_, rfl⟩
          have hP : va_P (dC, dI) vwCl [(h0, .inr (10, [v0, .ref q1, v2, v3, v4, v5, .int (nI (k + 1)), v7, v8, v9, v10, v11, v12, v13, v14, v15, v16, v17, v18, v19, v20, v21, v22, v23, v24, v25, v26, v27, v28, v29, v30, v31, v32, v33, v34, v35, v36, v37, v38, v39, v40, v41, v42, v43, v44, v45, v46, v47, v48, v49, v50, v51])), (q1, .inl (cC, 120, .inl f_77))] H := by rw [ef_77]; exact hP
          have hD : va_D A [(h0, .inr (10, [v0, .ref q1, v2, v3, v4, v5, .int (nI (k + 1)), v7, v8, v9, v10, v11, v12, v13, v14, v15, v16, v17, v18, v19, v20, v21, v22, v23, v24, v25, v26, v27, v28, v29, v30, v31, v32, v33, v34, v35, v36, v37, v38, v39, v40, v41, v42, v43, v44, v45, v46, v47, v48, v49, v50, v51])), (q1, .inl (cC, 120, .inl f_77))] := by rw [ef_77]; exact hD
          refine lv_aload_n hx hb dX10_put_33 rfl (lv_at hl 1 rfl) ?_
          refine lv_dup hx hb dX10_put_34 rfl ?_
          refine va_get (D := (dC, dI)) (ci := 10) (v := .int (nI (k + 1))) (C := RX10) (T := TX10) (N := 52) hx hb hts (fun _ h => List.mem_cons_of_mem _ (List.mem_append_right _ h)) hown hK hP 0 rfl rfl 6 (by decide) (hts (.fieldLink RX10 131 "NotEndedModel" "length" "I") (List.mem_cons_of_mem _ (List.mem_append_left _ (List.mem_of_getElem? (i := 1) rfl)))) (fun _ h9 => h9) rfl dX10_put_35 ?_
          refine lv_iconst (v := 1) hx hb dX10_put_38 (by decide) ?_
          refine lv_iadd hx hb dX10_put_39 ?_
          refine lv_topi (fun y_78 ey_78 => ?_)
          obtain rfl : y_78 = nI (k + 1 + 1) := ey_78.trans (nI_add (k + 1) (1))
          refine va_put (D := (dC, dI)) (ci := 10) (v := .int (nI (k + 1 + 1))) (ty := tyX10 6) (C := RX10) (T := TX10) (N := 52) hx hb hts (fun _ h => List.mem_cons_of_mem _ (List.mem_append_right _ h)) tyX10 tyX10_ok nmX10 hown hK hP hD hS 0 rfl rfl 6 (by decide) (hts (.fieldLink RX10 131 "NotEndedModel" "length" "I") (List.mem_cons_of_mem _ (List.mem_append_left _ (List.mem_of_getElem? (i := 1) rfl)))) (fun _ h9 => h9) rfl (tyX10_ok 6 (by decide)) rfl rfl (Nat.le_of_ble_eq_true rfl) dX10_put_40 (fun H locs hP hD hS => ?_)
          have hP : va_P (dC, dI) vwCl [(h0, .inr (10, [v0, .ref q1, v2, v3, v4, v5, .int (nI (k + 1 + 1)), v7, v8, v9, v10, v11, v12, v13, v14, v15, v16, v17, v18, v19, v20, v21, v22, v23, v24, v25, v26, v27, v28, v29, v30, v31, v32, v33, v34, v35, v36, v37, v38, v39, v40, v41, v42, v43, v44, v45, v46, v47, v48, v49, v50, v51])), (q1, .inl (cC, 120, .inl f_77))] H := hP
          have hD : va_D A [(h0, .inr (10, [v0, .ref q1, v2, v3, v4, v5, .int (nI (k + 1 + 1)), v7, v8, v9, v10, v11, v12, v13, v14, v15, v16, v17, v18, v19, v20, v21, v22, v23, v24, v25, v26, v27, v28, v29, v30, v31, v32, v33, v34, v35, v36, v37, v38, v39, v40, v41, v42, v43, v44, v45, v46, v47, v48, v49, v50, v51])), (q1, .inl (cC, 120, .inl f_77))] := hD
          refine lv_iinc (v := (-8)) (lv' := [(2, .int (-8)), (0, .ref h0), (1, .int p0)]) hx hb dX10_put_43 hl (k := 0) rfl (by decide) (by decide) rfl (fun ls hl => ?_)
          refine lv_goto (tgt := 3) hx hb dX10_put_46 (by decide) ?_
          refine lv_iload_n hx hb dX10_put_3 rfl (lv_at hl 0 rfl) ?_
          refine lv_if_lt (tgt := 49) hx hb dX10_put_4 (by decide) (fun c_79 => ?_) (fun c_79 => absurd (by decide) c_79)
          have hk9 : kCnt p0 = 2 := by simp [kCnt, kC1, hy_4, hy_13, hy_53, hy_73, c_5, c_14, c_54, c_74]
          have hP9 : va_P (dC, dI) vwCl [(h0, .inr (10, [v0, .ref q1, v2, v3, v4, v5, .int (nI (k + kCnt p0)), v7, v8, v9, v10, v11, v12, v13, v14, v15, v16, v17, v18, v19, v20, v21, v22, v23, v24, v25, v26, v27, v28, v29, v30, v31, v32, v33, v34, v35, v36, v37, v38, v39, v40, v41, v42, v43, v44, v45, v46, v47, v48, v49, v50, v51])), (q1, .inl (cC, 120, .inl f_77))] H := by rw [hk9]; exact hP.sub [0, 1] rfl
          have hD9 : va_D A [(h0, .inr (10, [v0, .ref q1, v2, v3, v4, v5, .int (nI (k + kCnt p0)), v7, v8, v9, v10, v11, v12, v13, v14, v15, v16, v17, v18, v19, v20, v21, v22, v23, v24, v25, v26, v27, v28, v29, v30, v31, v32, v33, v34, v35, v36, v37, v38, v39, v40, v41, v42, v43, v44, v45, v46, v47, v48, v49, v50, v51])), (q1, .inl (cC, 120, .inl f_77))] := by rw [hk9]; exact hD.sub [0, 1] (by decide) rfl
          have hK9 := hK.sub (tys' := [(cC, .byte)]) [0] rfl
          exact W.vret hx hb hr (fun t ht hW => ⟨⟨f_77, rfl, trivial,  by rw [ht]; exact hP9, va_K.moved hW.alike hK9, hD9⟩, hS.F ht⟩) hS.2.2 dX10_put_49
        · refine lv_goto (tgt := 43) hx hb dX10_put_17 (by decide) ?_
          refine lv_iinc (v := (-8)) (lv' := [(2, .int (-8)), (0, .ref h0), (1, .int p0)]) hx hb dX10_put_43 hl (k := 0) rfl (by decide) (by decide) rfl (fun ls hl => ?_)
          refine lv_goto (tgt := 3) hx hb dX10_put_46 (by decide) ?_
          refine lv_iload_n hx hb dX10_put_3 rfl (lv_at hl 0 rfl) ?_
          refine lv_if_lt (tgt := 49) hx hb dX10_put_4 (by decide) (fun c_80 => ?_) (fun c_80 => absurd (by decide) c_80)
          have hk9 : kCnt p0 = 1 := by simp [kCnt, kC1, hy_4, hy_13, hy_53, hy_73, c_5, c_14, c_54, c_74]
          have hP9 : va_P (dC, dI) vwCl [(h0, .inr (10, [v0, .ref q1, v2, v3, v4, v5, .int (nI (k + kCnt p0)), v7, v8, v9, v10, v11, v12, v13, v14, v15, v16, v17, v18, v19, v20, v21, v22, v23, v24, v25, v26, v27, v28, v29, v30, v31, v32, v33, v34, v35, v36, v37, v38, v39, v40, v41, v42, v43, v44, v45, v46, v47, v48, v49, v50, v51])), (q1, .inl (cC, 120, .inl f_8))] H := by rw [hk9]; exact hP.sub [0, 1] rfl
          have hD9 : va_D A [(h0, .inr (10, [v0, .ref q1, v2, v3, v4, v5, .int (nI (k + kCnt p0)), v7, v8, v9, v10, v11, v12, v13, v14, v15, v16, v17, v18, v19, v20, v21, v22, v23, v24, v25, v26, v27, v28, v29, v30, v31, v32, v33, v34, v35, v36, v37, v38, v39, v40, v41, v42, v43, v44, v45, v46, v47, v48, v49, v50, v51])), (q1, .inl (cC, 120, .inl f_8))] := by rw [hk9]; exact hD.sub [0, 1] (by decide) rfl
          have hK9 := hK.sub (tys' := [(cC, .byte)]) [0] rfl
          exact W.vret hx hb hr (fun t ht hW => ⟨⟨f_8, rfl, trivial,  by rw [ht]; exact hP9, va_K.moved hW.alike hK9, hD9⟩, hS.F ht⟩) hS.2.2 dX10_put_49
  · refine lv_goto (tgt := 43) hx hb dX10_put_17 (by decide) ?_
    refine lv_iinc (v := 16) (lv' := [(2, .int 16), (0, .ref h0), (1, .int p0)]) hx hb dX10_put_43 hl (k := 0) rfl (by decide) (by decide) rfl (fun ls hl => ?_)
    refine lv_goto (tgt := 3) hx hb dX10_put_46 (by decide) ?_
    refine lv_iload_n hx hb dX10_put_3 rfl (lv_at hl 0 rfl) ?_
    refine lv_if_lt (tgt := 49) hx hb dX10_put_4 (by decide) (fun c_81 => absurd c_81 (by decide)) (fun c_81 => ?_)
    refine lv_iload_n hx hb dX10_put_7 rfl (lv_at hl 2 rfl) ?_
    refine lv_iload_n hx hb dX10_put_8 rfl (lv_at hl 0 rfl) ?_
    refine lv_ishr hx hb dX10_put_9 ?_
    refine lv_topi (fun x_82 ex_82 => ?_)
    refine lv_sipush (v := 255) hx hb dX10_put_10 (by decide) ?_
    refine lv_iand hx hb dX10_put_13 ?_
    refine lv_topi (fun x_83 ex_83 => ?_)
    have hy_84 : kS p0 16 = x_83 := by rw [ex_83, ex_82]; rfl
    refine lv_if_ne (tgt := 20) hx hb dX10_put_14 (by decide) (fun c_85 => ?_) (fun c_85 => ?_)
    · refine lv_aload_n hx hb dX10_put_20 rfl (lv_at hl 1 rfl) ?_
      refine va_get (D := (dC, dI)) (ci := 10) (v := .ref q1) (C := RX10) (T := TX10) (N := 52) hx hb hts (fun _ h => List.mem_cons_of_mem _ (List.mem_append_right _ h)) hown hK hP 0 rfl rfl 1 (by decide) (hts (.fieldLink RX10 9 "NotEndedModel" "tape" "[B") (List.mem_cons_of_mem _ (List.mem_append_left _ (List.mem_of_getElem? (i := 0) rfl)))) (fun _ h9 => h9) rfl dX10_put_21 ?_
      refine lv_aload_n hx hb dX10_put_24 rfl (lv_at hl 1 rfl) ?_
      refine va_get (D := (dC, dI)) (ci := 10) (v := .int (nI (k))) (C := RX10) (T := TX10) (N := 52) hx hb hts (fun _ h => List.mem_cons_of_mem _ (List.mem_append_right _ h)) hown hK hP 0 rfl rfl 6 (by decide) (hts (.fieldLink RX10 131 "NotEndedModel" "length" "I") (List.mem_cons_of_mem _ (List.mem_append_left _ (List.mem_of_getElem? (i := 1) rfl)))) (fun _ h9 => h9) rfl dX10_put_25 ?_
      refine lv_iload_n hx hb dX10_put_28 rfl (lv_at hl 2 rfl) ?_
      refine lv_iload_n hx hb dX10_put_29 rfl (lv_at hl 0 rfl) ?_
      refine lv_ishr hx hb dX10_put_30 ?_
      refine lv_topi (fun x_86 ex_86 => ?_)
      obtain ⟨x_87, ex_87⟩ : ∃ z : Int32, z = (Int32.toInt8 x_86).toInt32 := ⟨_, rfl⟩
      refine lv_i2b (v := x_87) hx hb dX10_put_31 ex_87.symm ?_
      refine va_bast hx hb hK hP hD hS 1 0 rfl rfl (vp_in_nI (n := k) (N := 120) (by omega) (by decide)) dX10_put_32 (fun H locs hP hD hS => ?_)
      obtain ⟨f_88, ef_88⟩ : ∃ gg9 : Nat → Int32, gg9 = upd g (Int32.toNatClampNeg (nI (k))) (vp_nar .byte x_87) := ⟨_, rfl⟩
      have hP : va_P (dC, dI) vwCl [(h0, .inr (10, [v0, .ref q1, v2, v3, v4, v5, .int (nI (k)), v7, v8, v9, v10, v11, v12, v13, v14, v15, v16, v17, v18, v19, v20, v21, v22, v23, v24, v25, v26, v27, v28, v29, v30, v31, v32, v33, v34, v35, v36, v37, v38, v39, v40, v41, v42, v43, v44, v45, v46, v47, v48, v49, v50, v51])), (q1, .inl (cC, 120, .inl f_88))] H := by rw [ef_88]; exact hP
      have hD : va_D A [(h0, .inr (10, [v0, .ref q1, v2, v3, v4, v5, .int (nI (k)), v7, v8, v9, v10, v11, v12, v13, v14, v15, v16, v17, v18, v19, v20, v21, v22, v23, v24, v25, v26, v27, v28, v29, v30, v31, v32, v33, v34, v35, v36, v37, v38, v39, v40, v41, v42, v43, v44, v45, v46, v47, v48, v49, v50, v51])), (q1, .inl (cC, 120, .inl f_88))] := by rw [ef_88]; exact hD
      refine lv_aload_n hx hb dX10_put_33 rfl (lv_at hl 1 rfl) ?_
      refine lv_dup hx hb dX10_put_34 rfl ?_
      refine va_get (D := (dC, dI)) (ci := 10) (v := .int (nI (k))) (C := RX10) (T := TX10) (N := 52) hx hb hts (fun _ h => List.mem_cons_of_mem _ (List.mem_append_right _ h)) hown hK hP 0 rfl rfl 6 (by decide) (hts (.fieldLink RX10 131 "NotEndedModel" "length" "I") (List.mem_cons_of_mem _ (List.mem_append_left _ (List.mem_of_getElem? (i := 1) rfl)))) (fun _ h9 => h9) rfl dX10_put_35 ?_
      refine lv_iconst (v := 1) hx hb dX10_put_38 (by decide) ?_
      refine lv_iadd hx hb dX10_put_39 ?_
      refine lv_topi (fun y_89 ey_89 => ?_)
      obtain rfl : y_89 = nI (k + 1) := ey_89.trans (nI_add (k) (1))
      refine va_put (D := (dC, dI)) (ci := 10) (v := .int (nI (k + 1))) (ty := tyX10 6) (C := RX10) (T := TX10) (N := 52) hx hb hts (fun _ h => List.mem_cons_of_mem _ (List.mem_append_right _ h)) tyX10 tyX10_ok nmX10 hown hK hP hD hS 0 rfl rfl 6 (by decide) (hts (.fieldLink RX10 131 "NotEndedModel" "length" "I") (List.mem_cons_of_mem _ (List.mem_append_left _ (List.mem_of_getElem? (i := 1) rfl)))) (fun _ h9 => h9) rfl (tyX10_ok 6 (by decide)) rfl rfl (Nat.le_of_ble_eq_true rfl) dX10_put_40 (fun H locs hP hD hS => ?_)
      have hP : va_P (dC, dI) vwCl [(h0, .inr (10, [v0, .ref q1, v2, v3, v4, v5, .int (nI (k + 1)), v7, v8, v9, v10, v11, v12, v13, v14, v15, v16, v17, v18, v19, v20, v21, v22, v23, v24, v25, v26, v27, v28, v29, v30, v31, v32, v33, v34, v35, v36, v37, v38, v39, v40, v41, v42, v43, v44, v45, v46, v47, v48, v49, v50, v51])), (q1, .inl (cC, 120, .inl f_88))] H := hP
      have hD : va_D A [(h0, .inr (10, [v0, .ref q1, v2, v3, v4, v5, .int (nI (k + 1)), v7, v8, v9, v10, v11, v12, v13, v14, v15, v16, v17, v18, v19, v20, v21, v22, v23, v24, v25, v26, v27, v28, v29, v30, v31, v32, v33, v34, v35, v36, v37, v38, v39, v40, v41, v42, v43, v44, v45, v46, v47, v48, v49, v50, v51])), (q1, .inl (cC, 120, .inl f_88))] := hD
      refine lv_iinc (v := 8) (lv' := [(2, .int 8), (0, .ref h0), (1, .int p0)]) hx hb dX10_put_43 hl (k := 0) rfl (by decide) (by decide) rfl (fun ls hl => ?_)
      refine lv_goto (tgt := 3) hx hb dX10_put_46 (by decide) ?_
      refine lv_iload_n hx hb dX10_put_3 rfl (lv_at hl 0 rfl) ?_
      refine lv_if_lt (tgt := 49) hx hb dX10_put_4 (by decide) (fun c_90 => absurd c_90 (by decide)) (fun c_90 => ?_)
      refine lv_iload_n hx hb dX10_put_7 rfl (lv_at hl 2 rfl) ?_
      refine lv_iload_n hx hb dX10_put_8 rfl (lv_at hl 0 rfl) ?_
      refine lv_ishr hx hb dX10_put_9 ?_
      refine lv_topi (fun x_91 ex_91 => ?_)
      refine lv_sipush (v := 255) hx hb dX10_put_10 (by decide) ?_
      refine lv_iand hx hb dX10_put_13 ?_
      refine lv_topi (fun x_92 ex_92 => ?_)
      have hy_93 : kS p0 8 = x_92 := by rw [ex_92, ex_91]; rfl
      refine lv_if_ne (tgt := 20) hx hb dX10_put_14 (by decide) (fun c_94 => ?_) (fun c_94 => ?_)
      · refine lv_aload_n hx hb dX10_put_20 rfl (lv_at hl 1 rfl) ?_
        refine va_get (D := (dC, dI)) (ci := 10) (v := .ref q1) (C := RX10) (T := TX10) (N := 52) hx hb hts (fun _ h => List.mem_cons_of_mem _ (List.mem_append_right _ h)) hown hK hP 0 rfl rfl 1 (by decide) (hts (.fieldLink RX10 9 "NotEndedModel" "tape" "[B") (List.mem_cons_of_mem _ (List.mem_append_left _ (List.mem_of_getElem? (i := 0) rfl)))) (fun _ h9 => h9) rfl dX10_put_21 ?_
        refine lv_aload_n hx hb dX10_put_24 rfl (lv_at hl 1 rfl) ?_
        refine va_get (D := (dC, dI)) (ci := 10) (v := .int (nI (k + 1))) (C := RX10) (T := TX10) (N := 52) hx hb hts (fun _ h => List.mem_cons_of_mem _ (List.mem_append_right _ h)) hown hK hP 0 rfl rfl 6 (by decide) (hts (.fieldLink RX10 131 "NotEndedModel" "length" "I") (List.mem_cons_of_mem _ (List.mem_append_left _ (List.mem_of_getElem? (i := 1) rfl)))) (fun _ h9 => h9) rfl dX10_put_25 ?_
        refine lv_iload_n hx hb dX10_put_28 rfl (lv_at hl 2 rfl) ?_
        refine lv_iload_n hx hb dX10_put_29 rfl (lv_at hl 0 rfl) ?_
        refine lv_ishr hx hb dX10_put_30 ?_
        refine lv_topi (fun x_95 ex_95 => ?_)
        obtain ⟨x_96, ex_96⟩ : ∃ z : Int32, z = (Int32.toInt8 x_95).toInt32 := ⟨_, rfl⟩
        refine lv_i2b (v := x_96) hx hb dX10_put_31 ex_96.symm ?_
        refine va_bast hx hb hK hP hD hS 1 0 rfl rfl (vp_in_nI (n := k + 1) (N := 120) (by omega) (by decide)) dX10_put_32 (fun H locs hP hD hS => ?_)
        obtain ⟨f_97, ef_97⟩ : ∃ gg9 : Nat → Int32, gg9 = upd f_88 (Int32.toNatClampNeg (nI (k + 1))) (vp_nar .byte x_96) := ⟨_, rfl⟩
        have hP : va_P (dC, dI) vwCl [(h0, .inr (10, [v0, .ref q1, v2, v3, v4, v5, .int (nI (k + 1)), v7, v8, v9, v10, v11, v12, v13, v14, v15, v16, v17, v18, v19, v20, v21, v22, v23, v24, v25, v26, v27, v28, v29, v30, v31, v32, v33, v34, v35, v36, v37, v38, v39, v40, v41, v42, v43, v44, v45, v46, v47, v48, v49, v50, v51])), (q1, .inl (cC, 120, .inl f_97))] H := by rw [ef_97]; exact hP
        have hD : va_D A [(h0, .inr (10, [v0, .ref q1, v2, v3, v4, v5, .int (nI (k + 1)), v7, v8, v9, v10, v11, v12, v13, v14, v15, v16, v17, v18, v19, v20, v21, v22, v23, v24, v25, v26, v27, v28, v29, v30, v31, v32, v33, v34, v35, v36, v37, v38, v39, v40, v41, v42, v43, v44, v45, v46, v47, v48, v49, v50, v51])), (q1, .inl (cC, 120, .inl f_97))] := by rw [ef_97]; exact hD
        refine lv_aload_n hx hb dX10_put_33 rfl (lv_at hl 1 rfl) ?_
        refine lv_dup hx hb dX10_put_34 rfl ?_
        refine va_get (D := (dC, dI)) (ci := 10) (v := .int (nI (k + 1))) (C := RX10) (T := TX10) (N := 52) hx hb hts (fun _ h => List.mem_cons_of_mem _ (List.mem_append_right _ h)) hown hK hP 0 rfl rfl 6 (by decide) (hts (.fieldLink RX10 131 "NotEndedModel" "length" "I") (List.mem_cons_of_mem _ (List.mem_append_left _ (List.mem_of_getElem? (i := 1) rfl)))) (fun _ h9 => h9) rfl dX10_put_35 ?_
        refine lv_iconst (v := 1) hx hb dX10_put_38 (by decide) ?_
        refine lv_iadd hx hb dX10_put_39 ?_
        refine lv_topi (fun y_98 ey_98 => ?_)
        obtain rfl : y_98 = nI (k + 1 + 1) := ey_98.trans (nI_add (k + 1) (1))
        refine va_put (D := (dC, dI)) (ci := 10) (v := .int (nI (k + 1 + 1))) (ty := tyX10 6) (C := RX10) (T := TX10) (N := 52) hx hb hts (fun _ h => List.mem_cons_of_mem _ (List.mem_append_right _ h)) tyX10 tyX10_ok nmX10 hown hK hP hD hS 0 rfl rfl 6 (by decide) (hts (.fieldLink RX10 131 "NotEndedModel" "length" "I") (List.mem_cons_of_mem _ (List.mem_append_left _ (List.mem_of_getElem? (i := 1) rfl)))) (fun _ h9 => h9) rfl (tyX10_ok 6 (by decide)) rfl rfl (Nat.le_of_ble_eq_true rfl) dX10_put_40 (fun H locs hP hD hS => ?_)
        have hP : va_P (dC, dI) vwCl [(h0, .inr (10, [v0, .ref q1, v2, v3, v4, v5, .int (nI (k + 1 + 1)), v7, v8, v9, v10, v11, v12, v13, v14, v15, v16, v17, v18, v19, v20, v21, v22, v23, v24, v25, v26, v27, v28, v29, v30, v31, v32, v33, v34, v35, v36, v37, v38, v39, v40, v41, v42, v43, v44, v45, v46, v47, v48, v49, v50, v51])), (q1, .inl (cC, 120, .inl f_97))] H := hP
        have hD : va_D A [(h0, .inr (10, [v0, .ref q1, v2, v3, v4, v5, .int (nI (k + 1 + 1)), v7, v8, v9, v10, v11, v12, v13, v14, v15, v16, v17, v18, v19, v20, v21, v22, v23, v24, v25, v26, v27, v28, v29, v30, v31, v32, v33, v34, v35, v36, v37, v38, v39, v40, v41, v42, v43, v44, v45, v46, v47, v48, v49, v50, v51])), (q1, .inl (cC, 120, .inl f_97))] := hD
        refine lv_iinc (v := 0) (lv' := [(2, .int 0), (0, .ref h0), (1, .int p0)]) hx hb dX10_put_43 hl (k := 0) rfl (by decide) (by decide) rfl (fun ls hl => ?_)
        refine lv_goto (tgt := 3) hx hb dX10_put_46 (by decide) ?_
        refine lv_iload_n hx hb dX10_put_3 rfl (lv_at hl 0 rfl) ?_
        refine lv_if_lt (tgt := 49) hx hb dX10_put_4 (by decide) (fun c_99 => absurd c_99 (by decide)) (fun c_99 => ?_)
        refine lv_iload_n hx hb dX10_put_7 rfl (lv_at hl 2 rfl) ?_
        refine lv_iload_n hx hb dX10_put_8 rfl (lv_at hl 0 rfl) ?_
        refine lv_ishr hx hb dX10_put_9 ?_
        refine lv_topi (fun x_100 ex_100 => ?_)
        refine lv_sipush (v := 255) hx hb dX10_put_10 (by decide) ?_
        refine lv_iand hx hb dX10_put_13 ?_
        refine lv_topi (fun x_101 ex_101 => ?_)
        have hy_102 : kS p0 0 = x_101 := by rw [ex_101, ex_100]; rfl
        refine lv_if_ne (tgt := 20) hx hb dX10_put_14 (by decide) (fun c_103 => ?_) (fun c_103 => ?_)
        · refine lv_aload_n hx hb dX10_put_20 rfl (lv_at hl 1 rfl) ?_
          refine va_get (D := (dC, dI)) (ci := 10) (v := .ref q1) (C := RX10) (T := TX10) (N := 52) hx hb hts (fun _ h => List.mem_cons_of_mem _ (List.mem_append_right _ h)) hown hK hP 0 rfl rfl 1 (by decide) (hts (.fieldLink RX10 9 "NotEndedModel" "tape" "[B") (List.mem_cons_of_mem _ (List.mem_append_left _ (List.mem_of_getElem? (i := 0) rfl)))) (fun _ h9 => h9) rfl dX10_put_21 ?_
          refine lv_aload_n hx hb dX10_put_24 rfl (lv_at hl 1 rfl) ?_
          refine va_get (D := (dC, dI)) (ci := 10) (v := .int (nI (k + 1 + 1))) (C := RX10) (T := TX10) (N := 52) hx hb hts (fun _ h => List.mem_cons_of_mem _ (List.mem_append_right _ h)) hown hK hP 0 rfl rfl 6 (by decide) (hts (.fieldLink RX10 131 "NotEndedModel" "length" "I") (List.mem_cons_of_mem _ (List.mem_append_left _ (List.mem_of_getElem? (i := 1) rfl)))) (fun _ h9 => h9) rfl dX10_put_25 ?_
          refine lv_iload_n hx hb dX10_put_28 rfl (lv_at hl 2 rfl) ?_
          refine lv_iload_n hx hb dX10_put_29 rfl (lv_at hl 0 rfl) ?_
          refine lv_ishr hx hb dX10_put_30 ?_
          refine lv_topi (fun x_104 ex_104 => ?_)
          obtain ⟨x_105, ex_105⟩ : ∃ z : Int32, z = (Int32.toInt8 x_104).toInt32 := ⟨_, rfl⟩
          refine lv_i2b (v := x_105) hx hb dX10_put_31 ex_105.symm ?_
          refine va_bast hx hb hK hP hD hS 1 0 rfl rfl (vp_in_nI (n := k + 1 + 1) (N := 120) (by omega) (by decide)) dX10_put_32 (fun H locs hP hD hS => ?_)
          obtain ⟨f_106, ef_106⟩ : ∃ gg9 : Nat → Int32, gg9 = upd f_97 (Int32.toNatClampNeg (nI (k + 1 + 1))) (vp_nar .byte x_105) := ⟨_, rfl⟩
          have hP : va_P (dC, dI) vwCl [(h0, .inr (10, [v0, .ref q1, v2, v3, v4, v5, .int (nI (k + 1 + 1)), v7, v8, v9, v10, v11, v12, v13, v14, v15, v16, v17, v18, v19, v20, v21, v22, v23, v24, v25, v26, v27, v28, v29, v30, v31, v32, v33, v34, v35, v36, v37, v38, v39, v40, v41, v42, v43, v44, v45, v46, v47, v48, v49, v50, v51])), (q1, .inl (cC, 120, .inl f_106))] H := by rw [ef_106]; exact hP
          have hD : va_D A [(h0, .inr (10, [v0, .ref q1, v2, v3, v4, v5, .int (nI (k + 1 + 1)), v7, v8, v9, v10, v11, v12, v13, v14, v15, v16, v17, v18, v19, v20, v21, v22, v23, v24, v25, v26, v27, v28, v29, v30, v31, v32, v33, v34, v35, v36, v37, v38, v39, v40, v41, v42, v43, v44, v45, v46, v47, v48, v49, v50, v51])), (q1, .inl (cC, 120, .inl f_106))] := by rw [ef_106]; exact hD
          refine lv_aload_n hx hb dX10_put_33 rfl (lv_at hl 1 rfl) ?_
          refine lv_dup hx hb dX10_put_34 rfl ?_
          refine va_get (D := (dC, dI)) (ci := 10) (v := .int (nI (k + 1 + 1))) (C := RX10) (T := TX10) (N := 52) hx hb hts (fun _ h => List.mem_cons_of_mem _ (List.mem_append_right _ h)) hown hK hP 0 rfl rfl 6 (by decide) (hts (.fieldLink RX10 131 "NotEndedModel" "length" "I") (List.mem_cons_of_mem _ (List.mem_append_left _ (List.mem_of_getElem? (i := 1) rfl)))) (fun _ h9 => h9) rfl dX10_put_35 ?_
          refine lv_iconst (v := 1) hx hb dX10_put_38 (by decide) ?_
          refine lv_iadd hx hb dX10_put_39 ?_
          refine lv_topi (fun y_107 ey_107 => ?_)
          obtain rfl : y_107 = nI (k + 1 + 1 + 1) := ey_107.trans (nI_add (k + 1 + 1) (1))
          refine va_put (D := (dC, dI)) (ci := 10) (v := .int (nI (k + 1 + 1 + 1))) (ty := tyX10 6) (C := RX10) (T := TX10) (N := 52) hx hb hts (fun _ h => List.mem_cons_of_mem _ (List.mem_append_right _ h)) tyX10 tyX10_ok nmX10 hown hK hP hD hS 0 rfl rfl 6 (by decide) (hts (.fieldLink RX10 131 "NotEndedModel" "length" "I") (List.mem_cons_of_mem _ (List.mem_append_left _ (List.mem_of_getElem? (i := 1) rfl)))) (fun _ h9 => h9) rfl (tyX10_ok 6 (by decide)) rfl rfl (Nat.le_of_ble_eq_true rfl) dX10_put_40 (fun H locs hP hD hS => ?_)
          have hP : va_P (dC, dI) vwCl [(h0, .inr (10, [v0, .ref q1, v2, v3, v4, v5, .int (nI (k + 1 + 1 + 1)), v7, v8, v9, v10, v11, v12, v13, v14, v15, v16, v17, v18, v19, v20, v21, v22, v23, v24, v25, v26, v27, v28, v29, v30, v31, v32, v33, v34, v35, v36, v37, v38, v39, v40, v41, v42, v43, v44, v45, v46, v47, v48, v49, v50, v51])), (q1, .inl (cC, 120, .inl f_106))] H := hP
          have hD : va_D A [(h0, .inr (10, [v0, .ref q1, v2, v3, v4, v5, .int (nI (k + 1 + 1 + 1)), v7, v8, v9, v10, v11, v12, v13, v14, v15, v16, v17, v18, v19, v20, v21, v22, v23, v24, v25, v26, v27, v28, v29, v30, v31, v32, v33, v34, v35, v36, v37, v38, v39, v40, v41, v42, v43, v44, v45, v46, v47, v48, v49, v50, v51])), (q1, .inl (cC, 120, .inl f_106))] := hD
          refine lv_iinc (v := (-8)) (lv' := [(2, .int (-8)), (0, .ref h0), (1, .int p0)]) hx hb dX10_put_43 hl (k := 0) rfl (by decide) (by decide) rfl (fun ls hl => ?_)
          refine lv_goto (tgt := 3) hx hb dX10_put_46 (by decide) ?_
          refine lv_iload_n hx hb dX10_put_3 rfl (lv_at hl 0 rfl) ?_
          refine lv_if_lt (tgt := 49) hx hb dX10_put_4 (by decide) (fun c_108 => ?_) (fun c_108 => absurd (by decide) c_108)
          have hk9 : kCnt p0 = 3 := by simp [kCnt, kC1, hy_4, hy_84, hy_93, hy_102, c_5, c_85, c_94, c_103]
          have hP9 : va_P (dC, dI) vwCl [(h0, .inr (10, [v0, .ref q1, v2, v3, v4, v5, .int (nI (k + kCnt p0)), v7, v8, v9, v10, v11, v12, v13, v14, v15, v16, v17, v18, v19, v20, v21, v22, v23, v24, v25, v26, v27, v28, v29, v30, v31, v32, v33, v34, v35, v36, v37, v38, v39, v40, v41, v42, v43, v44, v45, v46, v47, v48, v49, v50, v51])), (q1, .inl (cC, 120, .inl f_106))] H := by rw [hk9]; exact hP.sub [0, 1] rfl
          have hD9 : va_D A [(h0, .inr (10, [v0, .ref q1, v2, v3, v4, v5, .int (nI (k + kCnt p0)), v7, v8, v9, v10, v11, v12, v13, v14, v15, v16, v17, v18, v19, v20, v21, v22, v23, v24, v25, v26, v27, v28, v29, v30, v31, v32, v33, v34, v35, v36, v37, v38, v39, v40, v41, v42, v43, v44, v45, v46, v47, v48, v49, v50, v51])), (q1, .inl (cC, 120, .inl f_106))] := by rw [hk9]; exact hD.sub [0, 1] (by decide) rfl
          have hK9 := hK.sub (tys' := [(cC, .byte)]) [0] rfl
          exact W.vret hx hb hr (fun t ht hW => ⟨⟨f_106, rfl, trivial,  by rw [ht]; exact hP9, va_K.moved hW.alike hK9, hD9⟩, hS.F ht⟩) hS.2.2 dX10_put_49
        · refine lv_goto (tgt := 43) hx hb dX10_put_17 (by decide) ?_
          refine lv_iinc (v := (-8)) (lv' := [(2, .int (-8)), (0, .ref h0), (1, .int p0)]) hx hb dX10_put_43 hl (k := 0) rfl (by decide) (by decide) rfl (fun ls hl => ?_)
          refine lv_goto (tgt := 3) hx hb dX10_put_46 (by decide) ?_
          refine lv_iload_n hx hb dX10_put_3 rfl (lv_at hl 0 rfl) ?_
          refine lv_if_lt (tgt := 49) hx hb dX10_put_4 (by decide) (fun c_109 => ?_) (fun c_109 => absurd (by decide) c_109)
          have hk9 : kCnt p0 = 2 := by simp [kCnt, kC1, hy_4, hy_84, hy_93, hy_102, c_5, c_85, c_94, c_103]
          have hP9 : va_P (dC, dI) vwCl [(h0, .inr (10, [v0, .ref q1, v2, v3, v4, v5, .int (nI (k + kCnt p0)), v7, v8, v9, v10, v11, v12, v13, v14, v15, v16, v17, v18, v19, v20, v21, v22, v23, v24, v25, v26, v27, v28, v29, v30, v31, v32, v33, v34, v35, v36, v37, v38, v39, v40, v41, v42, v43, v44, v45, v46, v47, v48, v49, v50, v51])), (q1, .inl (cC, 120, .inl f_97))] H := by rw [hk9]; exact hP.sub [0, 1] rfl
          have hD9 : va_D A [(h0, .inr (10, [v0, .ref q1, v2, v3, v4, v5, .int (nI (k + kCnt p0)), v7, v8, v9, v10, v11, v12, v13, v14, v15, v16, v17, v18, v19, v20, v21, v22, v23, v24, v25, v26, v27, v28, v29, v30, v31, v32, v33, v34, v35, v36, v37, v38, v39, v40, v41, v42, v43, v44, v45, v46, v47, v48, v49, v50, v51])), (q1, .inl (cC, 120, .inl f_97))] := by rw [hk9]; exact hD.sub [0, 1] (by decide) rfl
          have hK9 := hK.sub (tys' := [(cC, .byte)]) [0] rfl
          exact W.vret hx hb hr (fun t ht hW => ⟨⟨f_97, rfl, trivial,  by rw [ht]; exact hP9, va_K.moved hW.alike hK9, hD9⟩, hS.F ht⟩) hS.2.2 dX10_put_49
      · refine lv_goto (tgt := 43) hx hb dX10_put_17 (by decide) ?_
        refine lv_iinc (v := 0) (lv' := [(2, .int 0), (0, .ref h0), (1, .int p0)]) hx hb dX10_put_43 hl (k := 0) rfl (by decide) (by decide) rfl (fun ls hl => ?_)
        refine lv_goto (tgt := 3) hx hb dX10_put_46 (by decide) ?_
        refine lv_iload_n hx hb dX10_put_3 rfl (lv_at hl 0 rfl) ?_
        refine lv_if_lt (tgt := 49) hx hb dX10_put_4 (by decide) (fun c_110 => absurd c_110 (by decide)) (fun c_110 => ?_)
        refine lv_iload_n hx hb dX10_put_7 rfl (lv_at hl 2 rfl) ?_
        refine lv_iload_n hx hb dX10_put_8 rfl (lv_at hl 0 rfl) ?_
        refine lv_ishr hx hb dX10_put_9 ?_
        refine lv_topi (fun x_111 ex_111 => ?_)
        refine lv_sipush (v := 255) hx hb dX10_put_10 (by decide) ?_
        refine lv_iand hx hb dX10_put_13 ?_
        refine lv_topi (fun x_112 ex_112 => ?_)
        have hy_113 : kS p0 0 = x_112 := by rw [ex_112, ex_111]; rfl
        refine lv_if_ne (tgt := 20) hx hb dX10_put_14 (by decide) (fun c_114 => ?_) (fun c_114 => ?_)
        · refine lv_aload_n hx hb dX10_put_20 rfl (lv_at hl 1 rfl) ?_
          refine va_get (D := (dC, dI)) (ci := 10) (v := .ref q1) (C := RX10) (T := TX10) (N := 52) hx hb hts (fun _ h => List.mem_cons_of_mem _ (List.mem_append_right _ h)) hown hK hP 0 rfl rfl 1 (by decide) (hts (.fieldLink RX10 9 "NotEndedModel" "tape" "[B") (List.mem_cons_of_mem _ (List.mem_append_left _ (List.mem_of_getElem? (i := 0) rfl)))) (fun _ h9 => h9) rfl dX10_put_21 ?_
          refine lv_aload_n hx hb dX10_put_24 rfl (lv_at hl 1 rfl) ?_
          refine va_get (D := (dC, dI)) (ci := 10) (v := .int (nI (k + 1))) (C := RX10) (T := TX10) (N := 52) hx hb hts (fun _ h => List.mem_cons_of_mem _ (List.mem_append_right _ h)) hown hK hP 0 rfl rfl 6 (by decide) (hts (.fieldLink RX10 131 "NotEndedModel" "length" "I") (List.mem_cons_of_mem _ (List.mem_append_left _ (List.mem_of_getElem? (i := 1) rfl)))) (fun _ h9 => h9) rfl dX10_put_25 ?_
          refine lv_iload_n hx hb dX10_put_28 rfl (lv_at hl 2 rfl) ?_
          refine lv_iload_n hx hb dX10_put_29 rfl (lv_at hl 0 rfl) ?_
          refine lv_ishr hx hb dX10_put_30 ?_
          refine lv_topi (fun x_115 ex_115 => ?_)
          obtain ⟨x_116, ex_116⟩ : ∃ z : Int32, z = (Int32.toInt8 x_115).toInt32 := ⟨_, rfl⟩
          refine lv_i2b (v := x_116) hx hb dX10_put_31 ex_116.symm ?_
          refine va_bast hx hb hK hP hD hS 1 0 rfl rfl (vp_in_nI (n := k + 1) (N := 120) (by omega) (by decide)) dX10_put_32 (fun H locs hP hD hS => ?_)
          obtain ⟨f_117, ef_117⟩ : ∃ gg9 : Nat → Int32, gg9 = upd f_88 (Int32.toNatClampNeg (nI (k + 1))) (vp_nar .byte x_116) := ⟨_, rfl⟩
          have hP : va_P (dC, dI) vwCl [(h0, .inr (10, [v0, .ref q1, v2, v3, v4, v5, .int (nI (k + 1)), v7, v8, v9, v10, v11, v12, v13, v14, v15, v16, v17, v18, v19, v20, v21, v22, v23, v24, v25, v26, v27, v28, v29, v30, v31, v32, v33, v34, v35, v36, v37, v38, v39, v40, v41, v42, v43, v44, v45, v46, v47, v48, v49, v50, v51])), (q1, .inl (cC, 120, .inl f_117))] H := by rw [ef_117]; exact hP
          have hD : va_D A [(h0, .inr (10, [v0, .ref q1, v2, v3, v4, v5, .int (nI (k + 1)), v7, v8, v9, v10, v11, v12, v13, v14, v15, v16, v17, v18, v19, v20, v21, v22, v23, v24, v25, v26, v27, v28, v29, v30, v31, v32, v33, v34, v35, v36, v37, v38, v39, v40, v41, v42, v43, v44, v45, v46, v47, v48, v49, v50, v51])), (q1, .inl (cC, 120, .inl f_117))] := by rw [ef_117]; exact hD
          refine lv_aload_n hx hb dX10_put_33 rfl (lv_at hl 1 rfl) ?_
          refine lv_dup hx hb dX10_put_34 rfl ?_
          refine va_get (D := (dC, dI)) (ci := 10) (v := .int (nI (k + 1))) (C := RX10) (T := TX10) (N := 52) hx hb hts (fun _ h => List.mem_cons_of_mem _ (List.mem_append_right _ h)) hown hK hP 0 rfl rfl 6 (by decide) (hts (.fieldLink RX10 131 "NotEndedModel" "length" "I") (List.mem_cons_of_mem _ (List.mem_append_left _ (List.mem_of_getElem? (i := 1) rfl)))) (fun _ h9 => h9) rfl dX10_put_35 ?_
          refine lv_iconst (v := 1) hx hb dX10_put_38 (by decide) ?_
          refine lv_iadd hx hb dX10_put_39 ?_
          refine lv_topi (fun y_118 ey_118 => ?_)
          obtain rfl : y_118 = nI (k + 1 + 1) := ey_118.trans (nI_add (k + 1) (1))
          refine va_put (D := (dC, dI)) (ci := 10) (v := .int (nI (k + 1 + 1))) (ty := tyX10 6) (C := RX10) (T := TX10) (N := 52) hx hb hts (fun _ h => List.mem_cons_of_mem _ (List.mem_append_right _ h)) tyX10 tyX10_ok nmX10 hown hK hP hD hS 0 rfl rfl 6 (by decide) (hts (.fieldLink RX10 131 "NotEndedModel" "length" "I") (List.mem_cons_of_mem _ (List.mem_append_left _ (List.mem_of_getElem? (i := 1) rfl)))) (fun _ h9 => h9) rfl (tyX10_ok 6 (by decide)) rfl rfl (Nat.le_of_ble_eq_true rfl) dX10_put_40 (fun H locs hP hD hS => ?_)
          have hP : va_P (dC, dI) vwCl [(h0, .inr (10, [v0, .ref q1, v2, v3, v4, v5, .int (nI (k + 1 + 1)), v7, v8, v9, v10, v11, v12, v13, v14, v15, v16, v17, v18, v19, v20, v21, v22, v23, v24, v25, v26, v27, v28, v29, v30, v31, v32, v33, v34, v35, v36, v37, v38, v39, v40, v41, v42, v43, v44, v45, v46, v47, v48, v49, v50, v51])), (q1, .inl (cC, 120, .inl f_117))] H := hP
          have hD : va_D A [(h0, .inr (10, [v0, .ref q1, v2, v3, v4, v5, .int (nI (k + 1 + 1)), v7, v8, v9, v10, v11, v12, v13, v14, v15, v16, v17, v18, v19, v20, v21, v22, v23, v24, v25, v26, v27, v28, v29, v30, v31, v32, v33, v34, v35, v36, v37, v38, v39, v40, v41, v42, v43, v44, v45, v46, v47, v48, v49, v50, v51])), (q1, .inl (cC, 120, .inl f_117))] := hD
          refine lv_iinc (v := (-8)) (lv' := [(2, .int (-8)), (0, .ref h0), (1, .int p0)]) hx hb dX10_put_43 hl (k := 0) rfl (by decide) (by decide) rfl (fun ls hl => ?_)
          refine lv_goto (tgt := 3) hx hb dX10_put_46 (by decide) ?_
          refine lv_iload_n hx hb dX10_put_3 rfl (lv_at hl 0 rfl) ?_
          refine lv_if_lt (tgt := 49) hx hb dX10_put_4 (by decide) (fun c_119 => ?_) (fun c_119 => absurd (by decide) c_119)
          have hk9 : kCnt p0 = 2 := by simp [kCnt, kC1, hy_4, hy_84, hy_93, hy_113, c_5, c_85, c_94, c_114]
          have hP9 : va_P (dC, dI) vwCl [(h0, .inr (10, [v0, .ref q1, v2, v3, v4, v5, .int (nI (k + kCnt p0)), v7, v8, v9, v10, v11, v12, v13, v14, v15, v16, v17, v18, v19, v20, v21, v22, v23, v24, v25, v26, v27, v28, v29, v30, v31, v32, v33, v34, v35, v36, v37, v38, v39, v40, v41, v42, v43, v44, v45, v46, v47, v48, v49, v50, v51])), (q1, .inl (cC, 120, .inl f_117))] H := by rw [hk9]; exact hP.sub [0, 1] rfl
          have hD9 : va_D A [(h0, .inr (10, [v0, .ref q1, v2, v3, v4, v5, .int (nI (k + kCnt p0)), v7, v8, v9, v10, v11, v12, v13, v14, v15, v16, v17, v18, v19, v20, v21, v22, v23, v24, v25, v26, v27, v28, v29, v30, v31, v32, v33, v34, v35, v36, v37, v38, v39, v40, v41, v42, v43, v44, v45, v46, v47, v48, v49, v50, v51])), (q1, .inl (cC, 120, .inl f_117))] := by rw [hk9]; exact hD.sub [0, 1] (by decide) rfl
          have hK9 := hK.sub (tys' := [(cC, .byte)]) [0] rfl
          exact W.vret hx hb hr (fun t ht hW => ⟨⟨f_117, rfl, trivial,  by rw [ht]; exact hP9, va_K.moved hW.alike hK9, hD9⟩, hS.F ht⟩) hS.2.2 dX10_put_49
        · refine lv_goto (tgt := 43) hx hb dX10_put_17 (by decide) ?_
          refine lv_iinc (v := (-8)) (lv' := [(2, .int (-8)), (0, .ref h0), (1, .int p0)]) hx hb dX10_put_43 hl (k := 0) rfl (by decide) (by decide) rfl (fun ls hl => ?_)
          refine lv_goto (tgt := 3) hx hb dX10_put_46 (by decide) ?_
          refine lv_iload_n hx hb dX10_put_3 rfl (lv_at hl 0 rfl) ?_
          refine lv_if_lt (tgt := 49) hx hb dX10_put_4 (by decide) (fun c_120 => ?_) (fun c_120 => absurd (by decide) c_120)
          have hk9 : kCnt p0 = 1 := by simp [kCnt, kC1, hy_4, hy_84, hy_93, hy_113, c_5, c_85, c_94, c_114]
          have hP9 : va_P (dC, dI) vwCl [(h0, .inr (10, [v0, .ref q1, v2, v3, v4, v5, .int (nI (k + kCnt p0)), v7, v8, v9, v10, v11, v12, v13, v14, v15, v16, v17, v18, v19, v20, v21, v22, v23, v24, v25, v26, v27, v28, v29, v30, v31, v32, v33, v34, v35, v36, v37, v38, v39, v40, v41, v42, v43, v44, v45, v46, v47, v48, v49, v50, v51])), (q1, .inl (cC, 120, .inl f_88))] H := by rw [hk9]; exact hP.sub [0, 1] rfl
          have hD9 : va_D A [(h0, .inr (10, [v0, .ref q1, v2, v3, v4, v5, .int (nI (k + kCnt p0)), v7, v8, v9, v10, v11, v12, v13, v14, v15, v16, v17, v18, v19, v20, v21, v22, v23, v24, v25, v26, v27, v28, v29, v30, v31, v32, v33, v34, v35, v36, v37, v38, v39, v40, v41, v42, v43, v44, v45, v46, v47, v48, v49, v50, v51])), (q1, .inl (cC, 120, .inl f_88))] := by rw [hk9]; exact hD.sub [0, 1] (by decide) rfl
          have hK9 := hK.sub (tys' := [(cC, .byte)]) [0] rfl
          exact W.vret hx hb hr (fun t ht hW => ⟨⟨f_88, rfl, trivial,  by rw [ht]; exact hP9, va_K.moved hW.alike hK9, hD9⟩, hS.F ht⟩) hS.2.2 dX10_put_49
    · refine lv_goto (tgt := 43) hx hb dX10_put_17 (by decide) ?_
      refine lv_iinc (v := 8) (lv' := [(2, .int 8), (0, .ref h0), (1, .int p0)]) hx hb dX10_put_43 hl (k := 0) rfl (by decide) (by decide) rfl (fun ls hl => ?_)
      refine lv_goto (tgt := 3) hx hb dX10_put_46 (by decide) ?_
      refine lv_iload_n hx hb dX10_put_3 rfl (lv_at hl 0 rfl) ?_
      refine lv_if_lt (tgt := 49) hx hb dX10_put_4 (by decide) (fun c_121 => absurd c_121 (by decide)) (fun c_121 => ?_)
      refine lv_iload_n hx hb dX10_put_7 rfl (lv_at hl 2 rfl) ?_
      refine lv_iload_n hx hb dX10_put_8 rfl (lv_at hl 0 rfl) ?_
      refine lv_ishr hx hb dX10_put_9 ?_
      refine lv_topi (fun x_122 ex_122 => ?_)
      refine lv_sipush (v := 255) hx hb dX10_put_10 (by decide) ?_
      refine lv_iand hx hb dX10_put_13 ?_
      refine lv_topi (fun x_123 ex_123 => ?_)
      have hy_124 : kS p0 8 = x_123 := by rw [ex_123, ex_122]; rfl
      refine lv_if_ne (tgt := 20) hx hb dX10_put_14 (by decide) (fun c_125 => ?_) (fun c_125 => ?_)
      · refine lv_aload_n hx hb dX10_put_20 rfl (lv_at hl 1 rfl) ?_
        refine va_get (D := (dC, dI)) (ci := 10) (v := .ref q1) (C := RX10) (T := TX10) (N := 52) hx hb hts (fun _ h => List.mem_cons_of_mem _ (List.mem_append_right _ h)) hown hK hP 0 rfl rfl 1 (by decide) (hts (.fieldLink RX10 9 "NotEndedModel" "tape" "[B") (List.mem_cons_of_mem _ (List.mem_append_left _ (List.mem_of_getElem? (i := 0) rfl)))) (fun _ h9 => h9) rfl dX10_put_21 ?_
        refine lv_aload_n hx hb dX10_put_24 rfl (lv_at hl 1 rfl) ?_
        refine va_get (D := (dC, dI)) (ci := 10) (v := .int (nI (k))) (C := RX10) (T := TX10) (N := 52) hx hb hts (fun _ h => List.mem_cons_of_mem _ (List.mem_append_right _ h)) hown hK hP 0 rfl rfl 6 (by decide) (hts (.fieldLink RX10 131 "NotEndedModel" "length" "I") (List.mem_cons_of_mem _ (List.mem_append_left _ (List.mem_of_getElem? (i := 1) rfl)))) (fun _ h9 => h9) rfl dX10_put_25 ?_
        refine lv_iload_n hx hb dX10_put_28 rfl (lv_at hl 2 rfl) ?_
        refine lv_iload_n hx hb dX10_put_29 rfl (lv_at hl 0 rfl) ?_
        refine lv_ishr hx hb dX10_put_30 ?_
        refine lv_topi (fun x_126 ex_126 => ?_)
        obtain ⟨x_127, ex_127⟩ : ∃ z : Int32, z = (Int32.toInt8 x_126).toInt32 := ⟨_, rfl⟩
        refine lv_i2b (v := x_127) hx hb dX10_put_31 ex_127.symm ?_
        refine va_bast hx hb hK hP hD hS 1 0 rfl rfl (vp_in_nI (n := k) (N := 120) (by omega) (by decide)) dX10_put_32 (fun H locs hP hD hS => ?_)
        obtain ⟨f_128, ef_128⟩ : ∃ gg9 : Nat → Int32, gg9 = upd g (Int32.toNatClampNeg (nI (k))) (vp_nar .byte x_127) := ⟨_, rfl⟩
        have hP : va_P (dC, dI) vwCl [(h0, .inr (10, [v0, .ref q1, v2, v3, v4, v5, .int (nI (k)), v7, v8, v9, v10, v11, v12, v13, v14, v15, v16, v17, v18, v19, v20, v21, v22, v23, v24, v25, v26, v27, v28, v29, v30, v31, v32, v33, v34, v35, v36, v37, v38, v39, v40, v41, v42, v43, v44, v45, v46, v47, v48, v49, v50, v51])), (q1, .inl (cC, 120, .inl f_128))] H := by rw [ef_128]; exact hP
        have hD : va_D A [(h0, .inr (10, [v0, .ref q1, v2, v3, v4, v5, .int (nI (k)), v7, v8, v9, v10, v11, v12, v13, v14, v15, v16, v17, v18, v19, v20, v21, v22, v23, v24, v25, v26, v27, v28, v29, v30, v31, v32, v33, v34, v35, v36, v37, v38, v39, v40, v41, v42, v43, v44, v45, v46, v47, v48, v49, v50, v51])), (q1, .inl (cC, 120, .inl f_128))] := by rw [ef_128]; exact hD
        refine lv_aload_n hx hb dX10_put_33 rfl (lv_at hl 1 rfl) ?_
        refine lv_dup hx hb dX10_put_34 rfl ?_
        refine va_get (D := (dC, dI)) (ci := 10) (v := .int (nI (k))) (C := RX10) (T := TX10) (N := 52) hx hb hts (fun _ h => List.mem_cons_of_mem _ (List.mem_append_right _ h)) hown hK hP 0 rfl rfl 6 (by decide) (hts (.fieldLink RX10 131 "NotEndedModel" "length" "I") (List.mem_cons_of_mem _ (List.mem_append_left _ (List.mem_of_getElem? (i := 1) rfl)))) (fun _ h9 => h9) rfl dX10_put_35 ?_
        refine lv_iconst (v := 1) hx hb dX10_put_38 (by decide) ?_
        refine lv_iadd hx hb dX10_put_39 ?_
        refine lv_topi (fun y_129 ey_129 => ?_)
        obtain rfl : y_129 = nI (k + 1) := ey_129.trans (nI_add (k) (1))
        refine va_put (D := (dC, dI)) (ci := 10) (v := .int (nI (k + 1))) (ty := tyX10 6) (C := RX10) (T := TX10) (N := 52) hx hb hts (fun _ h => List.mem_cons_of_mem _ (List.mem_append_right _ h)) tyX10 tyX10_ok nmX10 hown hK hP hD hS 0 rfl rfl 6 (by decide) (hts (.fieldLink RX10 131 "NotEndedModel" "length" "I") (List.mem_cons_of_mem _ (List.mem_append_left _ (List.mem_of_getElem? (i := 1) rfl)))) (fun _ h9 => h9) rfl (tyX10_ok 6 (by decide)) rfl rfl (Nat.le_of_ble_eq_true rfl) dX10_put_40 (fun H locs hP hD hS => ?_)
        have hP : va_P (dC, dI) vwCl [(h0, .inr (10, [v0, .ref q1, v2, v3, v4, v5, .int (nI (k + 1)), v7, v8, v9, v10, v11, v12, v13, v14, v15, v16, v17, v18, v19, v20, v21, v22, v23, v24, v25, v26, v27, v28, v29, v30, v31, v32, v33, v34, v35, v36, v37, v38, v39, v40, v41, v42, v43, v44, v45, v46, v47, v48, v49, v50, v51])), (q1, .inl (cC, 120, .inl f_128))] H := hP
        have hD : va_D A [(h0, .inr (10, [v0, .ref q1, v2, v3, v4, v5, .int (nI (k + 1)), v7, v8, v9, v10, v11, v12, v13, v14, v15, v16, v17, v18, v19, v20, v21, v22, v23, v24, v25, v26, v27, v28, v29, v30, v31, v32, v33, v34, v35, v36, v37, v38, v39, v40, v41, v42, v43, v44, v45, v46, v47, v48, v49, v50, v51])), (q1, .inl (cC, 120, .inl f_128))] := hD
        refine lv_iinc (v := 0) (lv' := [(2, .int 0), (0, .ref h0), (1, .int p0)]) hx hb dX10_put_43 hl (k := 0) rfl (by decide) (by decide) rfl (fun ls hl => ?_)
        refine lv_goto (tgt := 3) hx hb dX10_put_46 (by decide) ?_
        refine lv_iload_n hx hb dX10_put_3 rfl (lv_at hl 0 rfl) ?_
        refine lv_if_lt (tgt := 49) hx hb dX10_put_4 (by decide) (fun c_130 => absurd c_130 (by decide)) (fun c_130 => ?_)
        refine lv_iload_n hx hb dX10_put_7 rfl (lv_at hl 2 rfl) ?_
        refine lv_iload_n hx hb dX10_put_8 rfl (lv_at hl 0 rfl) ?_
        refine lv_ishr hx hb dX10_put_9 ?_
        refine lv_topi (fun x_131 ex_131 => ?_)
        refine lv_sipush (v := 255) hx hb dX10_put_10 (by decide) ?_
        refine lv_iand hx hb dX10_put_13 ?_
        refine lv_topi (fun x_132 ex_132 => ?_)
        have hy_133 : kS p0 0 = x_132 := by rw [ex_132, ex_131]; rfl
        refine lv_if_ne (tgt := 20) hx hb dX10_put_14 (by decide) (fun c_134 => ?_) (fun c_134 => ?_)
        · refine lv_aload_n hx hb dX10_put_20 rfl (lv_at hl 1 rfl) ?_
          refine va_get (D := (dC, dI)) (ci := 10) (v := .ref q1) (C := RX10) (T := TX10) (N := 52) hx hb hts (fun _ h => List.mem_cons_of_mem _ (List.mem_append_right _ h)) hown hK hP 0 rfl rfl 1 (by decide) (hts (.fieldLink RX10 9 "NotEndedModel" "tape" "[B") (List.mem_cons_of_mem _ (List.mem_append_left _ (List.mem_of_getElem? (i := 0) rfl)))) (fun _ h9 => h9) rfl dX10_put_21 ?_
          refine lv_aload_n hx hb dX10_put_24 rfl (lv_at hl 1 rfl) ?_
          refine va_get (D := (dC, dI)) (ci := 10) (v := .int (nI (k + 1))) (C := RX10) (T := TX10) (N := 52) hx hb hts (fun _ h => List.mem_cons_of_mem _ (List.mem_append_right _ h)) hown hK hP 0 rfl rfl 6 (by decide) (hts (.fieldLink RX10 131 "NotEndedModel" "length" "I") (List.mem_cons_of_mem _ (List.mem_append_left _ (List.mem_of_getElem? (i := 1) rfl)))) (fun _ h9 => h9) rfl dX10_put_25 ?_
          refine lv_iload_n hx hb dX10_put_28 rfl (lv_at hl 2 rfl) ?_
          refine lv_iload_n hx hb dX10_put_29 rfl (lv_at hl 0 rfl) ?_
          refine lv_ishr hx hb dX10_put_30 ?_
          refine lv_topi (fun x_135 ex_135 => ?_)
          obtain ⟨x_136, ex_136⟩ : ∃ z : Int32, z = (Int32.toInt8 x_135).toInt32 := ⟨_, rfl⟩
          refine lv_i2b (v := x_136) hx hb dX10_put_31 ex_136.symm ?_
          refine va_bast hx hb hK hP hD hS 1 0 rfl rfl (vp_in_nI (n := k + 1) (N := 120) (by omega) (by decide)) dX10_put_32 (fun H locs hP hD hS => ?_)
          obtain ⟨f_137, ef_137⟩ : ∃ gg9 : Nat → Int32, gg9 = upd f_128 (Int32.toNatClampNeg (nI (k + 1))) (vp_nar .byte x_136) := ⟨_, rfl⟩
          have hP : va_P (dC, dI) vwCl [(h0, .inr (10, [v0, .ref q1, v2, v3, v4, v5, .int (nI (k + 1)), v7, v8, v9, v10, v11, v12, v13, v14, v15, v16, v17, v18, v19, v20, v21, v22, v23, v24, v25, v26, v27, v28, v29, v30, v31, v32, v33, v34, v35, v36, v37, v38, v39, v40, v41, v42, v43, v44, v45, v46, v47, v48, v49, v50, v51])), (q1, .inl (cC, 120, .inl f_137))] H := by rw [ef_137]; exact hP
          have hD : va_D A [(h0, .inr (10, [v0, .ref q1, v2, v3, v4, v5, .int (nI (k + 1)), v7, v8, v9, v10, v11, v12, v13, v14, v15, v16, v17, v18, v19, v20, v21, v22, v23, v24, v25, v26, v27, v28, v29, v30, v31, v32, v33, v34, v35, v36, v37, v38, v39, v40, v41, v42, v43, v44, v45, v46, v47, v48, v49, v50, v51])), (q1, .inl (cC, 120, .inl f_137))] := by rw [ef_137]; exact hD
          refine lv_aload_n hx hb dX10_put_33 rfl (lv_at hl 1 rfl) ?_
          refine lv_dup hx hb dX10_put_34 rfl ?_
          refine va_get (D := (dC, dI)) (ci := 10) (v := .int (nI (k + 1))) (C := RX10) (T := TX10) (N := 52) hx hb hts (fun _ h => List.mem_cons_of_mem _ (List.mem_append_right _ h)) hown hK hP 0 rfl rfl 6 (by decide) (hts (.fieldLink RX10 131 "NotEndedModel" "length" "I") (List.mem_cons_of_mem _ (List.mem_append_left _ (List.mem_of_getElem? (i := 1) rfl)))) (fun _ h9 => h9) rfl dX10_put_35 ?_
          refine lv_iconst (v := 1) hx hb dX10_put_38 (by decide) ?_
          refine lv_iadd hx hb dX10_put_39 ?_
          refine lv_topi (fun y_138 ey_138 => ?_)
          obtain rfl : y_138 = nI (k + 1 + 1) := ey_138.trans (nI_add (k + 1) (1))
          refine va_put (D := (dC, dI)) (ci := 10) (v := .int (nI (k + 1 + 1))) (ty := tyX10 6) (C := RX10) (T := TX10) (N := 52) hx hb hts (fun _ h => List.mem_cons_of_mem _ (List.mem_append_right _ h)) tyX10 tyX10_ok nmX10 hown hK hP hD hS 0 rfl rfl 6 (by decide) (hts (.fieldLink RX10 131 "NotEndedModel" "length" "I") (List.mem_cons_of_mem _ (List.mem_append_left _ (List.mem_of_getElem? (i := 1) rfl)))) (fun _ h9 => h9) rfl (tyX10_ok 6 (by decide)) rfl rfl (Nat.le_of_ble_eq_true rfl) dX10_put_40 (fun H locs hP hD hS => ?_)
          have hP : va_P (dC, dI) vwCl [(h0, .inr (10, [v0, .ref q1, v2, v3, v4, v5, .int (nI (k + 1 + 1)), v7, v8, v9, v10, v11, v12, v13, v14, v15, v16, v17, v18, v19, v20, v21, v22, v23, v24, v25, v26, v27, v28, v29, v30, v31, v32, v33, v34, v35, v36, v37, v38, v39, v40, v41, v42, v43, v44, v45, v46, v47, v48, v49, v50, v51])), (q1, .inl (cC, 120, .inl f_137))] H := hP
          have hD : va_D A [(h0, .inr (10, [v0, .ref q1, v2, v3, v4, v5, .int (nI (k + 1 + 1)), v7, v8, v9, v10, v11, v12, v13, v14, v15, v16, v17, v18, v19, v20, v21, v22, v23, v24, v25, v26, v27, v28, v29, v30, v31, v32, v33, v34, v35, v36, v37, v38, v39, v40, v41, v42, v43, v44, v45, v46, v47, v48, v49, v50, v51])), (q1, .inl (cC, 120, .inl f_137))] := hD
          refine lv_iinc (v := (-8)) (lv' := [(2, .int (-8)), (0, .ref h0), (1, .int p0)]) hx hb dX10_put_43 hl (k := 0) rfl (by decide) (by decide) rfl (fun ls hl => ?_)
          refine lv_goto (tgt := 3) hx hb dX10_put_46 (by decide) ?_
          refine lv_iload_n hx hb dX10_put_3 rfl (lv_at hl 0 rfl) ?_
          refine lv_if_lt (tgt := 49) hx hb dX10_put_4 (by decide) (fun c_139 => ?_) (fun c_139 => absurd (by decide) c_139)
          have hk9 : kCnt p0 = 2 := by simp [kCnt, kC1, hy_4, hy_84, hy_124, hy_133, c_5, c_85, c_125, c_134]
          have hP9 : va_P (dC, dI) vwCl [(h0, .inr (10, [v0, .ref q1, v2, v3, v4, v5, .int (nI (k + kCnt p0)), v7, v8, v9, v10, v11, v12, v13, v14, v15, v16, v17, v18, v19, v20, v21, v22, v23, v24, v25, v26, v27, v28, v29, v30, v31, v32, v33, v34, v35, v36, v37, v38, v39, v40, v41, v42, v43, v44, v45, v46, v47, v48, v49, v50, v51])), (q1, .inl (cC, 120, .inl f_137))] H := by rw [hk9]; exact hP.sub [0, 1] rfl
          have hD9 : va_D A [(h0, .inr (10, [v0, .ref q1, v2, v3, v4, v5, .int (nI (k + kCnt p0)), v7, v8, v9, v10, v11, v12, v13, v14, v15, v16, v17, v18, v19, v20, v21, v22, v23, v24, v25, v26, v27, v28, v29, v30, v31, v32, v33, v34, v35, v36, v37, v38, v39, v40, v41, v42, v43, v44, v45, v46, v47, v48, v49, v50, v51])), (q1, .inl (cC, 120, .inl f_137))] := by rw [hk9]; exact hD.sub [0, 1] (by decide) rfl
          have hK9 := hK.sub (tys' := [(cC, .byte)]) [0] rfl
          exact W.vret hx hb hr (fun t ht hW => ⟨⟨f_137, rfl, trivial,  by rw [ht]; exact hP9, va_K.moved hW.alike hK9, hD9⟩, hS.F ht⟩) hS.2.2 dX10_put_49
        · refine lv_goto (tgt := 43) hx hb dX10_put_17 (by decide) ?_
          refine lv_iinc (v := (-8)) (lv' := [(2, .int (-8)), (0, .ref h0), (1, .int p0)]) hx hb dX10_put_43 hl (k := 0) rfl (by decide) (by decide) rfl (fun ls hl => ?_)
          refine lv_goto (tgt := 3) hx hb dX10_put_46 (by decide) ?_
          refine lv_iload_n hx hb dX10_put_3 rfl (lv_at hl 0 rfl) ?_
          refine lv_if_lt (tgt := 49) hx hb dX10_put_4 (by decide) (fun c_140 => ?_) (fun c_140 => absurd (by decide) c_140)
          have hk9 : kCnt p0 = 1 := by simp [kCnt, kC1, hy_4, hy_84, hy_124, hy_133, c_5, c_85, c_125, c_134]
          have hP9 : va_P (dC, dI) vwCl [(h0, .inr (10, [v0, .ref q1, v2, v3, v4, v5, .int (nI (k + kCnt p0)), v7, v8, v9, v10, v11, v12, v13, v14, v15, v16, v17, v18, v19, v20, v21, v22, v23, v24, v25, v26, v27, v28, v29, v30, v31, v32, v33, v34, v35, v36, v37, v38, v39, v40, v41, v42, v43, v44, v45, v46, v47, v48, v49, v50, v51])), (q1, .inl (cC, 120, .inl f_128))] H := by rw [hk9]; exact hP.sub [0, 1] rfl
          have hD9 : va_D A [(h0, .inr (10, [v0, .ref q1, v2, v3, v4, v5, .int (nI (k + kCnt p0)), v7, v8, v9, v10, v11, v12, v13, v14, v15, v16, v17, v18, v19, v20, v21, v22, v23, v24, v25, v26, v27, v28, v29, v30, v31, v32, v33, v34, v35, v36, v37, v38, v39, v40, v41, v42, v43, v44, v45, v46, v47, v48, v49, v50, v51])), (q1, .inl (cC, 120, .inl f_128))] := by rw [hk9]; exact hD.sub [0, 1] (by decide) rfl
          have hK9 := hK.sub (tys' := [(cC, .byte)]) [0] rfl
          exact W.vret hx hb hr (fun t ht hW => ⟨⟨f_128, rfl, trivial,  by rw [ht]; exact hP9, va_K.moved hW.alike hK9, hD9⟩, hS.F ht⟩) hS.2.2 dX10_put_49
      · refine lv_goto (tgt := 43) hx hb dX10_put_17 (by decide) ?_
        refine lv_iinc (v := 0) (lv' := [(2, .int 0), (0, .ref h0), (1, .int p0)]) hx hb dX10_put_43 hl (k := 0) rfl (by decide) (by decide) rfl (fun ls hl => ?_)
        refine lv_goto (tgt := 3) hx hb dX10_put_46 (by decide) ?_
        refine lv_iload_n hx hb dX10_put_3 rfl (lv_at hl 0 rfl) ?_
        refine lv_if_lt (tgt := 49) hx hb dX10_put_4 (by decide) (fun c_141 => absurd c_141 (by decide)) (fun c_141 => ?_)
        refine lv_iload_n hx hb dX10_put_7 rfl (lv_at hl 2 rfl) ?_
        refine lv_iload_n hx hb dX10_put_8 rfl (lv_at hl 0 rfl) ?_
        refine lv_ishr hx hb dX10_put_9 ?_
        refine lv_topi (fun x_142 ex_142 => ?_)
        refine lv_sipush (v := 255) hx hb dX10_put_10 (by decide) ?_
        refine lv_iand hx hb dX10_put_13 ?_
        refine lv_topi (fun x_143 ex_143 => ?_)
        have hy_144 : kS p0 0 = x_143 := by rw [ex_143, ex_142]; rfl
        refine lv_if_ne (tgt := 20) hx hb dX10_put_14 (by decide) (fun c_145 => ?_) (fun c_145 => ?_)
        · refine lv_aload_n hx hb dX10_put_20 rfl (lv_at hl 1 rfl) ?_
          refine va_get (D := (dC, dI)) (ci := 10) (v := .ref q1) (C := RX10) (T := TX10) (N := 52) hx hb hts (fun _ h => List.mem_cons_of_mem _ (List.mem_append_right _ h)) hown hK hP 0 rfl rfl 1 (by decide) (hts (.fieldLink RX10 9 "NotEndedModel" "tape" "[B") (List.mem_cons_of_mem _ (List.mem_append_left _ (List.mem_of_getElem? (i := 0) rfl)))) (fun _ h9 => h9) rfl dX10_put_21 ?_
          refine lv_aload_n hx hb dX10_put_24 rfl (lv_at hl 1 rfl) ?_
          refine va_get (D := (dC, dI)) (ci := 10) (v := .int (nI (k))) (C := RX10) (T := TX10) (N := 52) hx hb hts (fun _ h => List.mem_cons_of_mem _ (List.mem_append_right _ h)) hown hK hP 0 rfl rfl 6 (by decide) (hts (.fieldLink RX10 131 "NotEndedModel" "length" "I") (List.mem_cons_of_mem _ (List.mem_append_left _ (List.mem_of_getElem? (i := 1) rfl)))) (fun _ h9 => h9) rfl dX10_put_25 ?_
          refine lv_iload_n hx hb dX10_put_28 rfl (lv_at hl 2 rfl) ?_
          refine lv_iload_n hx hb dX10_put_29 rfl (lv_at hl 0 rfl) ?_
          refine lv_ishr hx hb dX10_put_30 ?_
          refine lv_topi (fun x_146 ex_146 => ?_)
          obtain ⟨x_147, ex_147⟩ : ∃ z : Int32, z = (Int32.toInt8 x_146).toInt32 := ⟨_, rfl⟩
          refine lv_i2b (v := x_147) hx hb dX10_put_31 ex_147.symm ?_
          refine va_bast hx hb hK hP hD hS 1 0 rfl rfl (vp_in_nI (n := k) (N := 120) (by omega) (by decide)) dX10_put_32 (fun H locs hP hD hS => ?_)
          obtain ⟨f_148, ef_148⟩ : ∃ gg9 : Nat → Int32, gg9 = upd g (Int32.toNatClampNeg (nI (k))) (vp_nar .byte x_147) := ⟨_, rfl⟩
          have hP : va_P (dC, dI) vwCl [(h0, .inr (10, [v0, .ref q1, v2, v3, v4, v5, .int (nI (k)), v7, v8, v9, v10, v11, v12, v13, v14, v15, v16, v17, v18, v19, v20, v21, v22, v23, v24, v25, v26, v27, v28, v29, v30, v31, v32, v33, v34, v35, v36, v37, v38, v39, v40, v41, v42, v43, v44, v45, v46, v47, v48, v49, v50, v51])), (q1, .inl (cC, 120, .inl f_148))] H := by rw [ef_148]; exact hP
          have hD : va_D A [(h0, .inr (10, [v0, .ref q1, v2, v3, v4, v5, .int (nI (k)), v7, v8, v9, v10, v11, v12, v13, v14, v15, v16, v17, v18, v19, v20, v21, v22, v23, v24, v25, v26, v27, v28, v29, v30, v31, v32, v33, v34, v35, v36, v37, v38, v39, v40, v41, v42, v43, v44, v45, v46, v47, v48, v49, v50, v51])), (q1, .inl (cC, 120, .inl f_148))] := by rw [ef_148]; exact hD
          refine lv_aload_n hx hb dX10_put_33 rfl (lv_at hl 1 rfl) ?_
          refine lv_dup hx hb dX10_put_34 rfl ?_
          refine va_get (D := (dC, dI)) (ci := 10) (v := .int (nI (k))) (C := RX10) (T := TX10) (N := 52) hx hb hts (fun _ h => List.mem_cons_of_mem _ (List.mem_append_right _ h)) hown hK hP 0 rfl rfl 6 (by decide) (hts (.fieldLink RX10 131 "NotEndedModel" "length" "I") (List.mem_cons_of_mem _ (List.mem_append_left _ (List.mem_of_getElem? (i := 1) rfl)))) (fun _ h9 => h9) rfl dX10_put_35 ?_
          refine lv_iconst (v := 1) hx hb dX10_put_38 (by decide) ?_
          refine lv_iadd hx hb dX10_put_39 ?_
          refine lv_topi (fun y_149 ey_149 => ?_)
          obtain rfl : y_149 = nI (k + 1) := ey_149.trans (nI_add (k) (1))
          refine va_put (D := (dC, dI)) (ci := 10) (v := .int (nI (k + 1))) (ty := tyX10 6) (C := RX10) (T := TX10) (N := 52) hx hb hts (fun _ h => List.mem_cons_of_mem _ (List.mem_append_right _ h)) tyX10 tyX10_ok nmX10 hown hK hP hD hS 0 rfl rfl 6 (by decide) (hts (.fieldLink RX10 131 "NotEndedModel" "length" "I") (List.mem_cons_of_mem _ (List.mem_append_left _ (List.mem_of_getElem? (i := 1) rfl)))) (fun _ h9 => h9) rfl (tyX10_ok 6 (by decide)) rfl rfl (Nat.le_of_ble_eq_true rfl) dX10_put_40 (fun H locs hP hD hS => ?_)
          have hP : va_P (dC, dI) vwCl [(h0, .inr (10, [v0, .ref q1, v2, v3, v4, v5, .int (nI (k + 1)), v7, v8, v9, v10, v11, v12, v13, v14, v15, v16, v17, v18, v19, v20, v21, v22, v23, v24, v25, v26, v27, v28, v29, v30, v31, v32, v33, v34, v35, v36, v37, v38, v39, v40, v41, v42, v43, v44, v45, v46, v47, v48, v49, v50, v51])), (q1, .inl (cC, 120, .inl f_148))] H := hP
          have hD : va_D A [(h0, .inr (10, [v0, .ref q1, v2, v3, v4, v5, .int (nI (k + 1)), v7, v8, v9, v10, v11, v12, v13, v14, v15, v16, v17, v18, v19, v20, v21, v22, v23, v24, v25, v26, v27, v28, v29, v30, v31, v32, v33, v34, v35, v36, v37, v38, v39, v40, v41, v42, v43, v44, v45, v46, v47, v48, v49, v50, v51])), (q1, .inl (cC, 120, .inl f_148))] := hD
          refine lv_iinc (v := (-8)) (lv' := [(2, .int (-8)), (0, .ref h0), (1, .int p0)]) hx hb dX10_put_43 hl (k := 0) rfl (by decide) (by decide) rfl (fun ls hl => ?_)
          refine lv_goto (tgt := 3) hx hb dX10_put_46 (by decide) ?_
          refine lv_iload_n hx hb dX10_put_3 rfl (lv_at hl 0 rfl) ?_
          refine lv_if_lt (tgt := 49) hx hb dX10_put_4 (by decide) (fun c_150 => ?_) (fun c_150 => absurd (by decide) c_150)
          have hk9 : kCnt p0 = 1 := by simp [kCnt, kC1, hy_4, hy_84, hy_124, hy_144, c_5, c_85, c_125, c_145]
          have hP9 : va_P (dC, dI) vwCl [(h0, .inr (10, [v0, .ref q1, v2, v3, v4, v5, .int (nI (k + kCnt p0)), v7, v8, v9, v10, v11, v12, v13, v14, v15, v16, v17, v18, v19, v20, v21, v22, v23, v24, v25, v26, v27, v28, v29, v30, v31, v32, v33, v34, v35, v36, v37, v38, v39, v40, v41, v42, v43, v44, v45, v46, v47, v48, v49, v50, v51])), (q1, .inl (cC, 120, .inl f_148))] H := by rw [hk9]; exact hP.sub [0, 1] rfl
          have hD9 : va_D A [(h0, .inr (10, [v0, .ref q1, v2, v3, v4, v5, .int (nI (k + kCnt p0)), v7, v8, v9, v10, v11, v12, v13, v14, v15, v16, v17, v18, v19, v20, v21, v22, v23, v24, v25, v26, v27, v28, v29, v30, v31, v32, v33, v34, v35, v36, v37, v38, v39, v40, v41, v42, v43, v44, v45, v46, v47, v48, v49, v50, v51])), (q1, .inl (cC, 120, .inl f_148))] := by rw [hk9]; exact hD.sub [0, 1] (by decide) rfl
          have hK9 := hK.sub (tys' := [(cC, .byte)]) [0] rfl
          exact W.vret hx hb hr (fun t ht hW => ⟨⟨f_148, rfl, trivial,  by rw [ht]; exact hP9, va_K.moved hW.alike hK9, hD9⟩, hS.F ht⟩) hS.2.2 dX10_put_49
        · refine lv_goto (tgt := 43) hx hb dX10_put_17 (by decide) ?_
          refine lv_iinc (v := (-8)) (lv' := [(2, .int (-8)), (0, .ref h0), (1, .int p0)]) hx hb dX10_put_43 hl (k := 0) rfl (by decide) (by decide) rfl (fun ls hl => ?_)
          refine lv_goto (tgt := 3) hx hb dX10_put_46 (by decide) ?_
          refine lv_iload_n hx hb dX10_put_3 rfl (lv_at hl 0 rfl) ?_
          refine lv_if_lt (tgt := 49) hx hb dX10_put_4 (by decide) (fun c_151 => ?_) (fun c_151 => absurd (by decide) c_151)
          have hk9 : kCnt p0 = 0 := by simp [kCnt, kC1, hy_4, hy_84, hy_124, hy_144, c_5, c_85, c_125, c_145]
          have hP9 : va_P (dC, dI) vwCl [(h0, .inr (10, [v0, .ref q1, v2, v3, v4, v5, .int (nI (k + kCnt p0)), v7, v8, v9, v10, v11, v12, v13, v14, v15, v16, v17, v18, v19, v20, v21, v22, v23, v24, v25, v26, v27, v28, v29, v30, v31, v32, v33, v34, v35, v36, v37, v38, v39, v40, v41, v42, v43, v44, v45, v46, v47, v48, v49, v50, v51])), (q1, .inl (cC, 120, .inl g))] s.heap := by rw [hk9]; exact hP.sub [0, 1] rfl
          have hD9 : va_D A [(h0, .inr (10, [v0, .ref q1, v2, v3, v4, v5, .int (nI (k + kCnt p0)), v7, v8, v9, v10, v11, v12, v13, v14, v15, v16, v17, v18, v19, v20, v21, v22, v23, v24, v25, v26, v27, v28, v29, v30, v31, v32, v33, v34, v35, v36, v37, v38, v39, v40, v41, v42, v43, v44, v45, v46, v47, v48, v49, v50, v51])), (q1, .inl (cC, 120, .inl g))] := by rw [hk9]; exact hD.sub [0, 1] (by decide) rfl
          have hK9 := hK.sub (tys' := [(cC, .byte)]) [0] rfl
          exact W.vret hx hb hr (fun t ht hW => ⟨⟨g, rfl, trivial,  by rw [ht]; exact hP9, va_K.moved hW.alike hK9, hD9⟩, hS.F ht⟩) hS.2.2 dX10_put_49

theorem dX10_feed_0 : decode cX10_feed 0 = .ok (.aload_n 0, 1) := by decide +kernel
theorem dX10_feed_1 : decode cX10_feed 1 = .ok (.iconst 0, 1) := by decide +kernel
theorem dX10_feed_2 : decode cX10_feed 2 = .ok (.putfield 117, 3) := by decide +kernel
theorem dX10_feed_5 : decode cX10_feed 5 = .ok (.aload_n 0, 1) := by decide +kernel
theorem dX10_feed_6 : decode cX10_feed 6 = .ok (.getfield 131, 3) := by decide +kernel
theorem dX10_feed_9 : decode cX10_feed 9 = .ok (.iload_n 1, 1) := by decide +kernel
theorem dX10_feed_10 : decode cX10_feed 10 = .ok (.invokestatic 133, 3) := by decide +kernel
theorem dX10_feed_13 : decode cX10_feed 13 = .ok (.iadd, 1) := by decide +kernel
theorem dX10_feed_14 : decode cX10_feed 14 = .ok (.iload_n 2, 1) := by decide +kernel
theorem dX10_feed_15 : decode cX10_feed 15 = .ok (.invokestatic 133, 3) := by decide +kernel
theorem dX10_feed_18 : decode cX10_feed 18 = .ok (.iadd, 1) := by decide +kernel
theorem dX10_feed_19 : decode cX10_feed 19 = .ok (.iload_n 3, 1) := by decide +kernel
theorem dX10_feed_20 : decode cX10_feed 20 = .ok (.invokestatic 133, 3) := by decide +kernel
theorem dX10_feed_23 : decode cX10_feed 23 = .ok (.iadd, 1) := by decide +kernel
theorem dX10_feed_24 : decode cX10_feed 24 = .ok (.iload 4, 2) := by decide +kernel
theorem dX10_feed_26 : decode cX10_feed 26 = .ok (.invokestatic 133, 3) := by decide +kernel
theorem dX10_feed_29 : decode cX10_feed 29 = .ok (.iadd, 1) := by decide +kernel
theorem dX10_feed_30 : decode cX10_feed 30 = .ok (.iload 5, 2) := by decide +kernel
theorem dX10_feed_32 : decode cX10_feed 32 = .ok (.invokestatic 133, 3) := by decide +kernel
theorem dX10_feed_35 : decode cX10_feed 35 = .ok (.iadd, 1) := by decide +kernel
theorem dX10_feed_36 : decode cX10_feed 36 = .ok (.bipush 120, 2) := by decide +kernel
theorem dX10_feed_38 : decode cX10_feed 38 = .ok (.if_icmp .le 5, 3) := by decide +kernel
theorem dX10_feed_43 : decode cX10_feed 43 = .ok (.aload_n 0, 1) := by decide +kernel
theorem dX10_feed_44 : decode cX10_feed 44 = .ok (.iload_n 1, 1) := by decide +kernel
theorem dX10_feed_45 : decode cX10_feed 45 = .ok (.invokevirtual 137, 3) := by decide +kernel
theorem dX10_feed_48 : decode cX10_feed 48 = .ok (.aload_n 0, 1) := by decide +kernel
theorem dX10_feed_49 : decode cX10_feed 49 = .ok (.iload_n 2, 1) := by decide +kernel
theorem dX10_feed_50 : decode cX10_feed 50 = .ok (.invokevirtual 137, 3) := by decide +kernel
theorem dX10_feed_53 : decode cX10_feed 53 = .ok (.aload_n 0, 1) := by decide +kernel
theorem dX10_feed_54 : decode cX10_feed 54 = .ok (.iload_n 3, 1) := by decide +kernel
theorem dX10_feed_55 : decode cX10_feed 55 = .ok (.invokevirtual 137, 3) := by decide +kernel
theorem dX10_feed_58 : decode cX10_feed 58 = .ok (.aload_n 0, 1) := by decide +kernel
theorem dX10_feed_59 : decode cX10_feed 59 = .ok (.iload 4, 2) := by decide +kernel
theorem dX10_feed_61 : decode cX10_feed 61 = .ok (.invokevirtual 137, 3) := by decide +kernel
theorem dX10_feed_64 : decode cX10_feed 64 = .ok (.aload_n 0, 1) := by decide +kernel
theorem dX10_feed_65 : decode cX10_feed 65 = .ok (.iload 5, 2) := by decide +kernel
theorem dX10_feed_67 : decode cX10_feed 67 = .ok (.invokevirtual 137, 3) := by decide +kernel
theorem dX10_feed_70 : decode cX10_feed 70 = .ok (.aload_n 0, 1) := by decide +kernel
theorem dX10_feed_71 : decode cX10_feed 71 = .ok (.getfield 131, 3) := by decide +kernel
theorem dX10_feed_74 : decode cX10_feed 74 = .ok (.ireturn, 1) := by decide +kernel
def w_c_feed10 : List Cond := .code yX10_feed cX10_feed 6 (some .int) :: ([.fieldLink RX10 117 "NotEndedModel" "thrown" "I", .fieldLink RX10 131 "NotEndedModel" "length" "I", .initialized RX10, .static yX10_bytesIn, .methodLink RX10 133 yX10_bytesIn, .selects RX10 yX10_put yX10_put, .instanceMethod yX10_put, .methodLink RX10 137 yX10_put] ++ (wsX100 ++ (w_c_bytes10 ++ (w_c_put10))))
theorem gw_c_feed10 : (w_c_feed10).all goodWord = true := by decide +kernel
set_option maxHeartbeats 4000000 in
set_option maxRecDepth 100000 in
theorem c_feed10 (l : Launch) (dC : Nat → ClassId) (dI : Nat → Nat → Nat) (h0 : Nat) (q1 : Nat) (cC : ClassId) (g : Nat → Int32) (v0 : Value) (v2 : Value) (v3 : Value) (v4 : Value) (v5 : Value) (v7 : Value) (v8 : Value) (v9 : Value) (v10 : Value) (v11 : Value) (v12 : Value) (v13 : Value) (v14 : Value) (v15 : Value) (v16 : Value) (v17 : Value) (v18 : Value) (v19 : Value) (v20 : Value) (v21 : Value) (v22 : Value) (v23 : Value) (v24 : Value) (v25 : Value) (v26 : Value) (v27 : Value) (v28 : Value) (v29 : Value) (v30 : Value) (v31 : Value) (v32 : Value) (v33 : Value) (v34 : Value) (v35 : Value) (v36 : Value) (v37 : Value) (v38 : Value) (v39 : Value) (v40 : Value) (v41 : Value) (v42 : Value) (v43 : Value) (v44 : Value) (v45 : Value) (v46 : Value) (v47 : Value) (v48 : Value) (v49 : Value) (v50 : Value) (v51 : Value) (p0 : Int32) (p1 : Int32) (p2 : Int32) (p3 : Int32) (p4 : Int32) (sz : Nat) : Met l yX10_feed w_c_feed10 ({ frames := 2, cells := 0, slots := 0, locals := 120 }) (kW dC dI [.ref h0, .int p0, .int p1, .int p2, .int p3, .int p4] [(h0, .inr (10, [v0, .ref q1, v2, v3, v4, v5, .int 0, v7, v8, v9, v10, v11, v12, v13, v14, v15, v16, v17, v18, v19, v20, v21, v22, v23, v24, v25, v26, v27, v28, v29, v30, v31, v32, v33, v34, v35, v36, v37, v38, v39, v40, v41, v42, v43, v44, v45, v46, v47, v48, v49, v50, v51])), (q1, .inl (cC, 120, .inl g))] [(cC, .byte)] kT sz) (va_Qi (fun (r : Int32) (_ : Unit) => r = kFeed p0 p1 p2 p3 p4) (fun _ _ => True) (va_A [(h0, .inr (10, [v0, .ref q1, v2, v3, v4, v5, .int 0, v7, v8, v9, v10, v11, v12, v13, v14, v15, v16, v17, v18, v19, v20, v21, v22, v23, v24, v25, v26, v27, v28, v29, v30, v31, v32, v33, v34, v35, v36, v37, v38, v39, v40, v41, v42, v43, v44, v45, v46, v47, v48, v49, v50, v51])), (q1, .inl (cC, 120, .inl g))] sz)) 0 0 (va_A [(h0, .inr (10, [v0, .ref q1, v2, v3, v4, v5, .int 0, v7, v8, v9, v10, v11, v12, v13, v14, v15, v16, v17, v18, v19, v20, v21, v22, v23, v24, v25, v26, v27, v28, v29, v30, v31, v32, v33, v34, v35, v36, v37, v38, v39, v40, v41, v42, v43, v44, v45, v46, v47, v48, v49, v50, v51])), (q1, .inl (cC, 120, .inl g))] sz) := by
  refine Met.ofW (cc := cX10_feed) (maxL := 6) (ret := (some .int)) (by decide) rfl ?_
  intro p e s m args below meth c s₁ B hml hv
  obtain ⟨rfl, hsz, hP, hK, hD0, hX⟩ := hv
  have hx := B.exec
  have hb := B.bytes
  have hr := B.returns
  have hts := atoms_spec (ws := w_c_feed10) B.pre
  have hown : s.vm.findClass RX10 = some m.cls := findClass_of_methodNamed B.named
  have hlocks := B.notSynchronized
  subst hsz
  have hD := hD0.self (sz := s.heap.size)
  generalize hAe : va_A [(h0, .inr (10, [v0, .ref q1, v2, v3, v4, v5, .int 0, v7, v8, v9, v10, v11, v12, v13, v14, v15, v16, v17, v18, v19, v20, v21, v22, v23, v24, v25, v26, v27, v28, v29, v30, v31, v32, v33, v34, v35, v36, v37, v38, v39, v40, v41, v42, v43, v44, v45, v46, v47, v48, v49, v50, v51])), (q1, .inl (cC, 120, .inl g))] s.heap.size = A at hD ⊢
  have hA : ∀ q : Nat, s.heap.size ≤ q → A q := fun q h => by rw [← hAe]; exact Or.inr h
  have hS : va_S A s.heap s.heap [] := va_S.rf
  have hP : va_P (dC, dI) vwCl [(h0, .inr (10, [v0, .ref q1, v2, v3, v4, v5, .int 0, v7, v8, v9, v10, v11, v12, v13, v14, v15, v16, v17, v18, v19, v20, v21, v22, v23, v24, v25, v26, v27, v28, v29, v30, v31, v32, v33, v34, v35, v36, v37, v38, v39, v40, v41, v42, v43, v44, v45, v46, v47, v48, v49, v50, v51])), (q1, .inl (cC, 120, .inl g))] s.heap := hP
  have hl := lv_entry ([.ref h0, .int p0, .int p1, .int p2, .int p3, .int p4]) (n := 6) (Nat.le_of_ble_eq_true rfl)
  rw [lg_entry_eq]
  generalize (lg_sl ([.ref h0, .int p0, .int p1, .int p2, .int p3, .int p4]) ++ List.replicate (6 - (lg_sl ([.ref h0, .int p0, .int p1, .int p2, .int p3, .int p4])).length) Slot.unset).toArray = ls at hl ⊢
  have hl : lv_has ls 6 [(0, .ref h0), (1, .int p0), (2, .int p1), (3, .int p2), (4, .int p3), (5, .int p4)] := hl
  refine lv_aload_n hx hb dX10_feed_0 rfl (lv_at hl 0 rfl) ?_
  refine lv_iconst (v := 0) hx hb dX10_feed_1 (by decide) ?_
  refine va_put (D := (dC, dI)) (ci := 10) (v := .int 0) (ty := tyX10 0) (C := RX10) (T := TX10) (N := 52) hx hb hts (fun _ h => List.mem_cons_of_mem _ (List.mem_append_right _ (List.mem_append_left _ h))) tyX10 tyX10_ok nmX10 hown hK hP hD hS 0 rfl rfl 0 (by decide) (hts (.fieldLink RX10 117 "NotEndedModel" "thrown" "I") (List.mem_cons_of_mem _ (List.mem_append_left _ (List.mem_of_getElem? (i := 0) rfl)))) (fun _ h9 => h9) rfl (tyX10_ok 0 (by decide)) rfl rfl (Nat.le_of_ble_eq_true rfl) dX10_feed_2 (fun H locs hP hD hS => ?_)
  have hP : va_P (dC, dI) vwCl [(h0, .inr (10, [.int 0, .ref q1, v2, v3, v4, v5, .int 0, v7, v8, v9, v10, v11, v12, v13, v14, v15, v16, v17, v18, v19, v20, v21, v22, v23, v24, v25, v26, v27, v28, v29, v30, v31, v32, v33, v34, v35, v36, v37, v38, v39, v40, v41, v42, v43, v44, v45, v46, v47, v48, v49, v50, v51])), (q1, .inl (cC, 120, .inl g))] H := hP
  have hD : va_D A [(h0, .inr (10, [.int 0, .ref q1, v2, v3, v4, v5, .int 0, v7, v8, v9, v10, v11, v12, v13, v14, v15, v16, v17, v18, v19, v20, v21, v22, v23, v24, v25, v26, v27, v28, v29, v30, v31, v32, v33, v34, v35, v36, v37, v38, v39, v40, v41, v42, v43, v44, v45, v46, v47, v48, v49, v50, v51])), (q1, .inl (cC, 120, .inl g))] := hD
  refine lv_aload_n hx hb dX10_feed_5 rfl (lv_at hl 0 rfl) ?_
  refine va_get (D := (dC, dI)) (ci := 10) (v := .int 0) (C := RX10) (T := TX10) (N := 52) hx hb hts (fun _ h => List.mem_cons_of_mem _ (List.mem_append_right _ (List.mem_append_left _ h))) hown hK hP 0 rfl rfl 6 (by decide) (hts (.fieldLink RX10 131 "NotEndedModel" "length" "I") (List.mem_cons_of_mem _ (List.mem_append_left _ (List.mem_of_getElem? (i := 1) rfl)))) (fun _ h9 => h9) rfl dX10_feed_6 ?_
  refine lv_iload_n hx hb dX10_feed_9 rfl (lv_at hl 1 rfl) ?_
  have hPc := hP.sub (ws' := []) [] rfl
  have hKc := hK.sub (tys' := []) [] rfl
  refine vp_callSi (va_runS (As := [.int p0]) (rest := [.int 0]) ⟨hx, hb, hml, hown, hts⟩ (c_bytes10 l dC dI p0) (va_cwS 1 hts (kG (List.forall_mem_cons.mpr ⟨(List.mem_cons_of_mem _ (List.mem_append_left _ (List.mem_of_getElem? (i := 4) rfl))), (List.forall_mem_cons.mpr ⟨(List.mem_cons_of_mem _ (List.mem_append_left _ (List.mem_of_getElem? (i := 3) rfl))), (List.forall_mem_cons.mpr ⟨(List.mem_cons_of_mem _ (List.mem_append_left _ (List.mem_of_getElem? (i := 2) rfl))), (fun _ h => absurd h List.not_mem_nil)⟩)⟩)⟩) (by decide +kernel) (fun _ h => List.mem_cons_of_mem _ (List.mem_append_right _ (List.mem_append_right _ (List.mem_append_left _ h)))) gw_c_bytes10) rfl rfl rfl (by decide +kernel) ⟨(Nat.le_of_ble_eq_true rfl), (Nat.le_of_ble_eq_true rfl)⟩) (kR_S kT_blind kT_give hPc hKc) rfl rfl hl.1 rfl (lv_room (Nat.le_of_ble_eq_true rfl)) dX10_feed_10 ⟨(Nat.le_of_ble_eq_true rfl), (Nat.le_of_ble_eq_true rfl)⟩).run (fun r_1 hw => ?_)
  obtain rfl : r_1 = nI (kCnt p0) := hw
  refine lv_iadd hx hb dX10_feed_13 ?_
  refine lv_topi (fun y_2 ey_2 => ?_)
  obtain rfl : y_2 = nI (0 + kCnt p0) := ey_2.trans (nI_add (0) (kCnt p0))
  refine lv_iload_n hx hb dX10_feed_14 rfl (lv_at hl 2 rfl) ?_
  have hPc := hP.sub (ws' := []) [] rfl
  have hKc := hK.sub (tys' := []) [] rfl
  refine vp_callSi (va_runS (As := [.int p1]) (rest := [.int (nI (0 + kCnt p0))]) ⟨hx, hb, hml, hown, hts⟩ (c_bytes10 l dC dI p1) (va_cwS 1 hts (kG (List.forall_mem_cons.mpr ⟨(List.mem_cons_of_mem _ (List.mem_append_left _ (List.mem_of_getElem? (i := 4) rfl))), (List.forall_mem_cons.mpr ⟨(List.mem_cons_of_mem _ (List.mem_append_left _ (List.mem_of_getElem? (i := 3) rfl))), (List.forall_mem_cons.mpr ⟨(List.mem_cons_of_mem _ (List.mem_append_left _ (List.mem_of_getElem? (i := 2) rfl))), (fun _ h => absurd h List.not_mem_nil)⟩)⟩)⟩) (by decide +kernel) (fun _ h => List.mem_cons_of_mem _ (List.mem_append_right _ (List.mem_append_right _ (List.mem_append_left _ h)))) gw_c_bytes10) rfl rfl rfl (by decide +kernel) ⟨(Nat.le_of_ble_eq_true rfl), (Nat.le_of_ble_eq_true rfl)⟩) (kR_S kT_blind kT_give hPc hKc) rfl rfl hl.1 rfl (lv_room (Nat.le_of_ble_eq_true rfl)) dX10_feed_15 ⟨(Nat.le_of_ble_eq_true rfl), (Nat.le_of_ble_eq_true rfl)⟩).run (fun r_3 hw => ?_)
  obtain rfl : r_3 = nI (kCnt p1) := hw
  refine lv_iadd hx hb dX10_feed_18 ?_
  refine lv_topi (fun y_4 ey_4 => ?_)
  obtain rfl : y_4 = nI (0 + kCnt p0 + kCnt p1) := ey_4.trans (nI_add (0 + kCnt p0) (kCnt p1))
  refine lv_iload_n hx hb dX10_feed_19 rfl (lv_at hl 3 rfl) ?_
  have hPc := hP.sub (ws' := []) [] rfl
  have hKc := hK.sub (tys' := []) [] rfl
  refine vp_callSi (va_runS (As := [.int p2]) (rest := [.int (nI (0 + kCnt p0 + kCnt p1))]) ⟨hx, hb, hml, hown, hts⟩ (c_bytes10 l dC dI p2) (va_cwS 1 hts (kG (List.forall_mem_cons.mpr ⟨(List.mem_cons_of_mem _ (List.mem_append_left _ (List.mem_of_getElem? (i := 4) rfl))), (List.forall_mem_cons.mpr ⟨(List.mem_cons_of_mem _ (List.mem_append_left _ (List.mem_of_getElem? (i := 3) rfl))), (List.forall_mem_cons.mpr ⟨(List.mem_cons_of_mem _ (List.mem_append_left _ (List.mem_of_getElem? (i := 2) rfl))), (fun _ h => absurd h List.not_mem_nil)⟩)⟩)⟩) (by decide +kernel) (fun _ h => List.mem_cons_of_mem _ (List.mem_append_right _ (List.mem_append_right _ (List.mem_append_left _ h)))) gw_c_bytes10) rfl rfl rfl (by decide +kernel) ⟨(Nat.le_of_ble_eq_true rfl), (Nat.le_of_ble_eq_true rfl)⟩) (kR_S kT_blind kT_give hPc hKc) rfl rfl hl.1 rfl (lv_room (Nat.le_of_ble_eq_true rfl)) dX10_feed_20 ⟨(Nat.le_of_ble_eq_true rfl), (Nat.le_of_ble_eq_true rfl)⟩).run (fun r_5 hw => ?_)
  obtain rfl : r_5 = nI (kCnt p2) := hw
  refine lv_iadd hx hb dX10_feed_23 ?_
  refine lv_topi (fun y_6 ey_6 => ?_)
  obtain rfl : y_6 = nI (0 + kCnt p0 + kCnt p1 + kCnt p2) := ey_6.trans (nI_add (0 + kCnt p0 + kCnt p1) (kCnt p2))
  refine lv_iload hx hb dX10_feed_24 (lv_at hl 4 rfl) ?_
  have hPc := hP.sub (ws' := []) [] rfl
  have hKc := hK.sub (tys' := []) [] rfl
  refine vp_callSi (va_runS (As := [.int p3]) (rest := [.int (nI (0 + kCnt p0 + kCnt p1 + kCnt p2))]) ⟨hx, hb, hml, hown, hts⟩ (c_bytes10 l dC dI p3) (va_cwS 1 hts (kG (List.forall_mem_cons.mpr ⟨(List.mem_cons_of_mem _ (List.mem_append_left _ (List.mem_of_getElem? (i := 4) rfl))), (List.forall_mem_cons.mpr ⟨(List.mem_cons_of_mem _ (List.mem_append_left _ (List.mem_of_getElem? (i := 3) rfl))), (List.forall_mem_cons.mpr ⟨(List.mem_cons_of_mem _ (List.mem_append_left _ (List.mem_of_getElem? (i := 2) rfl))), (fun _ h => absurd h List.not_mem_nil)⟩)⟩)⟩) (by decide +kernel) (fun _ h => List.mem_cons_of_mem _ (List.mem_append_right _ (List.mem_append_right _ (List.mem_append_left _ h)))) gw_c_bytes10) rfl rfl rfl (by decide +kernel) ⟨(Nat.le_of_ble_eq_true rfl), (Nat.le_of_ble_eq_true rfl)⟩) (kR_S kT_blind kT_give hPc hKc) rfl rfl hl.1 rfl (lv_room (Nat.le_of_ble_eq_true rfl)) dX10_feed_26 ⟨(Nat.le_of_ble_eq_true rfl), (Nat.le_of_ble_eq_true rfl)⟩).run (fun r_7 hw => ?_)
  obtain rfl : r_7 = nI (kCnt p3) := hw
  refine lv_iadd hx hb dX10_feed_29 ?_
  refine lv_topi (fun y_8 ey_8 => ?_)
  obtain rfl : y_8 = nI (0 + kCnt p0 + kCnt p1 + kCnt p2 + kCnt p3) := ey_8.trans (nI_add (0 + kCnt p0 + kCnt p1 + kCnt p2) (kCnt p3))
  refine lv_iload hx hb dX10_feed_30 (lv_at hl 5 rfl) ?_
  have hPc := hP.sub (ws' := []) [] rfl
  have hKc := hK.sub (tys' := []) [] rfl
  refine vp_callSi (va_runS (As := [.int p4]) (rest := [.int (nI (0 + kCnt p0 + kCnt p1 + kCnt p2 + kCnt p3))]) ⟨hx, hb, hml, hown, hts⟩ (c_bytes10 l dC dI p4) (va_cwS 1 hts (kG (List.forall_mem_cons.mpr ⟨(List.mem_cons_of_mem _ (List.mem_append_left _ (List.mem_of_getElem? (i := 4) rfl))), (List.forall_mem_cons.mpr ⟨(List.mem_cons_of_mem _ (List.mem_append_left _ (List.mem_of_getElem? (i := 3) rfl))), (List.forall_mem_cons.mpr ⟨(List.mem_cons_of_mem _ (List.mem_append_left _ (List.mem_of_getElem? (i := 2) rfl))), (fun _ h => absurd h List.not_mem_nil)⟩)⟩)⟩) (by decide +kernel) (fun _ h => List.mem_cons_of_mem _ (List.mem_append_right _ (List.mem_append_right _ (List.mem_append_left _ h)))) gw_c_bytes10) rfl rfl rfl (by decide +kernel) ⟨(Nat.le_of_ble_eq_true rfl), (Nat.le_of_ble_eq_true rfl)⟩) (kR_S kT_blind kT_give hPc hKc) rfl rfl hl.1 rfl (lv_room (Nat.le_of_ble_eq_true rfl)) dX10_feed_32 ⟨(Nat.le_of_ble_eq_true rfl), (Nat.le_of_ble_eq_true rfl)⟩).run (fun r_9 hw => ?_)
  obtain rfl : r_9 = nI (kCnt p4) := hw
  refine lv_iadd hx hb dX10_feed_35 ?_
  refine lv_topi (fun y_10 ey_10 => ?_)
  obtain rfl : y_10 = nI (0 + kCnt p0 + kCnt p1 + kCnt p2 + kCnt p3 + kCnt p4) := ey_10.trans (nI_add (0 + kCnt p0 + kCnt p1 + kCnt p2 + kCnt p3) (kCnt p4))
  refine lv_bipush (v := 120) hx hb dX10_feed_36 (by decide) ?_
  refine lv_icmp_le (tgt := 43) hx hb dX10_feed_38 (by decide) (fun c_11 => ?_) (fun c_11 => absurd (nI_le (a := 0 + kCnt p0 + kCnt p1 + kCnt p2 + kCnt p3 + kCnt p4) (b := 120) (by have h1 := kCnt_le p0; have h2 := kCnt_le p1; have h3 := kCnt_le p2; have h4 := kCnt_le p3; have h5 := kCnt_le p4; omega) (by decide)) c_11)
  refine lv_aload_n hx hb dX10_feed_43 rfl (lv_at hl 0 rfl) ?_
  refine lv_iload_n hx hb dX10_feed_44 rfl (lv_at hl 1 rfl) ?_
  have hPc := hP.sub (ws' := [(h0, .inr (10, [.int 0, .ref q1, v2, v3, v4, v5, .int 0, v7, v8, v9, v10, v11, v12, v13, v14, v15, v16, v17, v18, v19, v20, v21, v22, v23, v24, v25, v26, v27, v28, v29, v30, v31, v32, v33, v34, v35, v36, v37, v38, v39, v40, v41, v42, v43, v44, v45, v46, v47, v48, v49, v50, v51])), (q1, .inl (cC, 120, .inl g))]) [0, 1] rfl
  have hKc := hK.sub (tys' := [(cC, .byte)]) [0] rfl
  have hDc := hD.sub (ws' := [(h0, .inr (10, [.int 0, .ref q1, v2, v3, v4, v5, .int 0, v7, v8, v9, v10, v11, v12, v13, v14, v15, v16, v17, v18, v19, v20, v21, v22, v23, v24, v25, v26, v27, v28, v29, v30, v31, v32, v33, v34, v35, v36, v37, v38, v39, v40, v41, v42, v43, v44, v45, v46, v47, v48, v49, v50, v51])), (q1, .inl (cC, 120, .inl g))]) [0, 1] (by decide) rfl
  have hFc := va_free (wc := [(h0, .inr (10, [.int 0, .ref q1, v2, v3, v4, v5, .int 0, v7, v8, v9, v10, v11, v12, v13, v14, v15, v16, v17, v18, v19, v20, v21, v22, v23, v24, v25, v26, v27, v28, v29, v30, v31, v32, v33, v34, v35, v36, v37, v38, v39, v40, v41, v42, v43, v44, v45, v46, v47, v48, v49, v50, v51])), (q1, .inl (cC, 120, .inl g))]) hD hS hA [0, 1] rfl
  refine va_callv (va_runV (As := [.int p0]) (rest := []) ⟨hx, hb, hml, hown, hts⟩ (c_put10 l dC dI h0 q1 cC g (.int 0 : Value) (v2 : Value) (v3 : Value) (v4 : Value) (v5 : Value) (v7 : Value) (v8 : Value) (v9 : Value) (v10 : Value) (v11 : Value) (v12 : Value) (v13 : Value) (v14 : Value) (v15 : Value) (v16 : Value) (v17 : Value) (v18 : Value) (v19 : Value) (v20 : Value) (v21 : Value) (v22 : Value) (v23 : Value) (v24 : Value) (v25 : Value) (v26 : Value) (v27 : Value) (v28 : Value) (v29 : Value) (v30 : Value) (v31 : Value) (v32 : Value) (v33 : Value) (v34 : Value) (v35 : Value) (v36 : Value) (v37 : Value) (v38 : Value) (v39 : Value) (v40 : Value) (v41 : Value) (v42 : Value) (v43 : Value) (v44 : Value) (v45 : Value) (v46 : Value) (v47 : Value) (v48 : Value) (v49 : Value) (v50 : Value) (v51 : Value) 0 (0) rfl (by have h1 := kCnt_le p0; have h2 := kCnt_le p1; have h3 := kCnt_le p2; have h4 := kCnt_le p3; have h5 := kCnt_le p4; omega) p0 H.size) (cwV 1 hts (kG (List.forall_mem_cons.mpr ⟨(List.mem_cons_of_mem _ (List.mem_append_left _ (List.mem_of_getElem? (i := 7) rfl))), (List.forall_mem_cons.mpr ⟨(List.mem_cons_of_mem _ (List.mem_append_left _ (List.mem_of_getElem? (i := 6) rfl))), (List.forall_mem_cons.mpr ⟨(List.mem_cons_of_mem _ (List.mem_append_left _ (List.mem_of_getElem? (i := 5) rfl))), (List.forall_mem_cons.mpr ⟨(List.mem_cons_of_mem _ (List.mem_append_left _ (List.mem_of_getElem? (i := 2) rfl))), (fun _ h => absurd h List.not_mem_nil)⟩)⟩)⟩)⟩) (by decide +kernel) (fun _ h => List.mem_cons_of_mem _ (List.mem_append_right _ (List.mem_append_right _ (List.mem_append_right _ h)))) gw_c_put10) rfl rfl rfl (by decide +kernel) ⟨(Nat.le_of_ble_eq_true rfl), (Nat.le_of_ble_eq_true rfl)⟩) (kW_V kT_blind kT_give (va_recv hKc hPc (ci := 10) (q0 := 0) rfl rfl) hPc hKc hDc) rfl rfl hl.1 rfl (lv_room (Nat.le_of_ble_eq_true rfl)) dX10_feed_45 ⟨(Nat.le_of_ble_eq_true rfl), (Nat.le_of_ble_eq_true rfl)⟩) hS (fun q _ h => hFc q h) hFc (fun u t H1 locs ht hvm hw hB hz1 hk1 hS => ?_)
  obtain ⟨g1_12, rfl⟩ : ∃ z, z = u := ⟨_, rfl⟩
  obtain ⟨hP1, hK1, hD1⟩ := hB
  rw [ht] at hP1
  try dsimp only at hw
  obtain ⟨hP, hD⟩ := va_join (wr := []) (w1 := [(h0, .inr (10, [.int 0, .ref q1, (v2 : Value), (v3 : Value), (v4 : Value), (v5 : Value), .int (nI ((0) + kCnt p0)), (v7 : Value), (v8 : Value), (v9 : Value), (v10 : Value), (v11 : Value), (v12 : Value), (v13 : Value), (v14 : Value), (v15 : Value), (v16 : Value), (v17 : Value), (v18 : Value), (v19 : Value), (v20 : Value), (v21 : Value), (v22 : Value), (v23 : Value), (v24 : Value), (v25 : Value), (v26 : Value), (v27 : Value), (v28 : Value), (v29 : Value), (v30 : Value), (v31 : Value), (v32 : Value), (v33 : Value), (v34 : Value), (v35 : Value), (v36 : Value), (v37 : Value), (v38 : Value), (v39 : Value), (v40 : Value), (v41 : Value), (v42 : Value), (v43 : Value), (v44 : Value), (v45 : Value), (v46 : Value), (v47 : Value), (v48 : Value), (v49 : Value), (v50 : Value), (v51 : Value)])), (q1, .inl (cC, 120, .inl g1_12))]) hP hD [0, 1] [] rfl rfl (by decide) (by decide) hk1 hFc hP1 hD1
  generalize H1 = H at hP hS ⊢
  have hP : va_P (dC, dI) vwCl [(h0, .inr (10, [.int 0, .ref q1, (v2 : Value), (v3 : Value), (v4 : Value), (v5 : Value), .int (nI ((0) + kCnt p0)), (v7 : Value), (v8 : Value), (v9 : Value), (v10 : Value), (v11 : Value), (v12 : Value), (v13 : Value), (v14 : Value), (v15 : Value), (v16 : Value), (v17 : Value), (v18 : Value), (v19 : Value), (v20 : Value), (v21 : Value), (v22 : Value), (v23 : Value), (v24 : Value), (v25 : Value), (v26 : Value), (v27 : Value), (v28 : Value), (v29 : Value), (v30 : Value), (v31 : Value), (v32 : Value), (v33 : Value), (v34 : Value), (v35 : Value), (v36 : Value), (v37 : Value), (v38 : Value), (v39 : Value), (v40 : Value), (v41 : Value), (v42 : Value), (v43 : Value), (v44 : Value), (v45 : Value), (v46 : Value), (v47 : Value), (v48 : Value), (v49 : Value), (v50 : Value), (v51 : Value)])), (q1, .inl (cC, 120, .inl g1_12))] H := hP
  have hD : va_D A [(h0, .inr (10, [.int 0, .ref q1, (v2 : Value), (v3 : Value), (v4 : Value), (v5 : Value), .int (nI ((0) + kCnt p0)), (v7 : Value), (v8 : Value), (v9 : Value), (v10 : Value), (v11 : Value), (v12 : Value), (v13 : Value), (v14 : Value), (v15 : Value), (v16 : Value), (v17 : Value), (v18 : Value), (v19 : Value), (v20 : Value), (v21 : Value), (v22 : Value), (v23 : Value), (v24 : Value), (v25 : Value), (v26 : Value), (v27 : Value), (v28 : Value), (v29 : Value), (v30 : Value), (v31 : Value), (v32 : Value), (v33 : Value), (v34 : Value), (v35 : Value), (v36 : Value), (v37 : Value), (v38 : Value), (v39 : Value), (v40 : Value), (v41 : Value), (v42 : Value), (v43 : Value), (v44 : Value), (v45 : Value), (v46 : Value), (v47 : Value), (v48 : Value), (v49 : Value), (v50 : Value), (v51 : Value)])), (q1, .inl (cC, 120, .inl g1_12))] := hD
  refine lv_aload_n hx hb dX10_feed_48 rfl (lv_at hl 0 rfl) ?_
  refine lv_iload_n hx hb dX10_feed_49 rfl (lv_at hl 2 rfl) ?_
  have hPc := hP.sub (ws' := [(h0, .inr (10, [.int 0, .ref q1, (v2 : Value), (v3 : Value), (v4 : Value), (v5 : Value), .int (nI ((0) + kCnt p0)), (v7 : Value), (v8 : Value), (v9 : Value), (v10 : Value), (v11 : Value), (v12 : Value), (v13 : Value), (v14 : Value), (v15 : Value), (v16 : Value), (v17 : Value), (v18 : Value), (v19 : Value), (v20 : Value), (v21 : Value), (v22 : Value), (v23 : Value), (v24 : Value), (v25 : Value), (v26 : Value), (v27 : Value), (v28 : Value), (v29 : Value), (v30 : Value), (v31 : Value), (v32 : Value), (v33 : Value), (v34 : Value), (v35 : Value), (v36 : Value), (v37 : Value), (v38 : Value), (v39 : Value), (v40 : Value), (v41 : Value), (v42 : Value), (v43 : Value), (v44 : Value), (v45 : Value), (v46 : Value), (v47 : Value), (v48 : Value), (v49 : Value), (v50 : Value), (v51 : Value)])), (q1, .inl (cC, 120, .inl g1_12))]) [0, 1] rfl
  have hKc := hK.sub (tys' := [(cC, .byte)]) [0] rfl
  have hDc := hD.sub (ws' := [(h0, .inr (10, [.int 0, .ref q1, (v2 : Value), (v3 : Value), (v4 : Value), (v5 : Value), .int (nI ((0) + kCnt p0)), (v7 : Value), (v8 : Value), (v9 : Value), (v10 : Value), (v11 : Value), (v12 : Value), (v13 : Value), (v14 : Value), (v15 : Value), (v16 : Value), (v17 : Value), (v18 : Value), (v19 : Value), (v20 : Value), (v21 : Value), (v22 : Value), (v23 : Value), (v24 : Value), (v25 : Value), (v26 : Value), (v27 : Value), (v28 : Value), (v29 : Value), (v30 : Value), (v31 : Value), (v32 : Value), (v33 : Value), (v34 : Value), (v35 : Value), (v36 : Value), (v37 : Value), (v38 : Value), (v39 : Value), (v40 : Value), (v41 : Value), (v42 : Value), (v43 : Value), (v44 : Value), (v45 : Value), (v46 : Value), (v47 : Value), (v48 : Value), (v49 : Value), (v50 : Value), (v51 : Value)])), (q1, .inl (cC, 120, .inl g1_12))]) [0, 1] (by decide) rfl
  have hFc := va_free (wc := [(h0, .inr (10, [.int 0, .ref q1, (v2 : Value), (v3 : Value), (v4 : Value), (v5 : Value), .int (nI ((0) + kCnt p0)), (v7 : Value), (v8 : Value), (v9 : Value), (v10 : Value), (v11 : Value), (v12 : Value), (v13 : Value), (v14 : Value), (v15 : Value), (v16 : Value), (v17 : Value), (v18 : Value), (v19 : Value), (v20 : Value), (v21 : Value), (v22 : Value), (v23 : Value), (v24 : Value), (v25 : Value), (v26 : Value), (v27 : Value), (v28 : Value), (v29 : Value), (v30 : Value), (v31 : Value), (v32 : Value), (v33 : Value), (v34 : Value), (v35 : Value), (v36 : Value), (v37 : Value), (v38 : Value), (v39 : Value), (v40 : Value), (v41 : Value), (v42 : Value), (v43 : Value), (v44 : Value), (v45 : Value), (v46 : Value), (v47 : Value), (v48 : Value), (v49 : Value), (v50 : Value), (v51 : Value)])), (q1, .inl (cC, 120, .inl g1_12))]) hD hS hA [0, 1] rfl
  refine va_callv (va_runV (As := [.int p1]) (rest := []) ⟨hx, hb, hml, hown, hts⟩ (c_put10 l dC dI h0 q1 cC g1_12 (.int 0 : Value) ((v2 : Value) : Value) ((v3 : Value) : Value) ((v4 : Value) : Value) ((v5 : Value) : Value) ((v7 : Value) : Value) ((v8 : Value) : Value) ((v9 : Value) : Value) ((v10 : Value) : Value) ((v11 : Value) : Value) ((v12 : Value) : Value) ((v13 : Value) : Value) ((v14 : Value) : Value) ((v15 : Value) : Value) ((v16 : Value) : Value) ((v17 : Value) : Value) ((v18 : Value) : Value) ((v19 : Value) : Value) ((v20 : Value) : Value) ((v21 : Value) : Value) ((v22 : Value) : Value) ((v23 : Value) : Value) ((v24 : Value) : Value) ((v25 : Value) : Value) ((v26 : Value) : Value) ((v27 : Value) : Value) ((v28 : Value) : Value) ((v29 : Value) : Value) ((v30 : Value) : Value) ((v31 : Value) : Value) ((v32 : Value) : Value) ((v33 : Value) : Value) ((v34 : Value) : Value) ((v35 : Value) : Value) ((v36 : Value) : Value) ((v37 : Value) : Value) ((v38 : Value) : Value) ((v39 : Value) : Value) ((v40 : Value) : Value) ((v41 : Value) : Value) ((v42 : Value) : Value) ((v43 : Value) : Value) ((v44 : Value) : Value) ((v45 : Value) : Value) ((v46 : Value) : Value) ((v47 : Value) : Value) ((v48 : Value) : Value) ((v49 : Value) : Value) ((v50 : Value) : Value) ((v51 : Value) : Value) (nI ((0) + kCnt p0)) ((0) + kCnt p0) rfl (by have h1 := kCnt_le p0; have h2 := kCnt_le p1; have h3 := kCnt_le p2; have h4 := kCnt_le p3; have h5 := kCnt_le p4; omega) p1 H.size) (cwV 1 hts (kG (List.forall_mem_cons.mpr ⟨(List.mem_cons_of_mem _ (List.mem_append_left _ (List.mem_of_getElem? (i := 7) rfl))), (List.forall_mem_cons.mpr ⟨(List.mem_cons_of_mem _ (List.mem_append_left _ (List.mem_of_getElem? (i := 6) rfl))), (List.forall_mem_cons.mpr ⟨(List.mem_cons_of_mem _ (List.mem_append_left _ (List.mem_of_getElem? (i := 5) rfl))), (List.forall_mem_cons.mpr ⟨(List.mem_cons_of_mem _ (List.mem_append_left _ (List.mem_of_getElem? (i := 2) rfl))), (fun _ h => absurd h List.not_mem_nil)⟩)⟩)⟩)⟩) (by decide +kernel) (fun _ h => List.mem_cons_of_mem _ (List.mem_append_right _ (List.mem_append_right _ (List.mem_append_right _ h)))) gw_c_put10) rfl rfl rfl (by decide +kernel) ⟨(Nat.le_of_ble_eq_true rfl), (Nat.le_of_ble_eq_true rfl)⟩) (kW_V kT_blind kT_give (va_recv hKc hPc (ci := 10) (q0 := 0) rfl rfl) hPc hKc hDc) rfl rfl hl.1 rfl (lv_room (Nat.le_of_ble_eq_true rfl)) dX10_feed_50 ⟨(Nat.le_of_ble_eq_true rfl), (Nat.le_of_ble_eq_true rfl)⟩) hS (fun q _ h => hFc q h) hFc (fun u t H1 locs ht hvm hw hB hz1 hk1 hS => ?_)
  obtain ⟨g1_14, rfl⟩ : ∃ z, z = u := ⟨_, rfl⟩
  obtain ⟨hP1, hK1, hD1⟩ := hB
  rw [ht] at hP1
  try dsimp only at hw
  obtain ⟨hP, hD⟩ := va_join (wr := []) (w1 := [(h0, .inr (10, [.int 0, .ref q1, ((v2 : Value) : Value), ((v3 : Value) : Value), ((v4 : Value) : Value), ((v5 : Value) : Value), .int (nI (((0) + kCnt p0) + kCnt p1)), ((v7 : Value) : Value), ((v8 : Value) : Value), ((v9 : Value) : Value), ((v10 : Value) : Value), ((v11 : Value) : Value), ((v12 : Value) : Value), ((v13 : Value) : Value), ((v14 : Value) : Value), ((v15 : Value) : Value), ((v16 : Value) : Value), ((v17 : Value) : Value), ((v18 : Value) : Value), ((v19 : Value) : Value), ((v20 : Value) : Value), ((v21 : Value) : Value), ((v22 : Value) : Value), ((v23 : Value) : Value), ((v24 : Value) : Value), ((v25 : Value) : Value), ((v26 : Value) : Value), ((v27 : Value) : Value), ((v28 : Value) : Value), ((v29 : Value) : Value), ((v30 : Value) : Value), ((v31 : Value) : Value), ((v32 : Value) : Value), ((v33 : Value) : Value), ((v34 : Value) : Value), ((v35 : Value) : Value), ((v36 : Value) : Value), ((v37 : Value) : Value), ((v38 : Value) : Value), ((v39 : Value) : Value), ((v40 : Value) : Value), ((v41 : Value) : Value), ((v42 : Value) : Value), ((v43 : Value) : Value), ((v44 : Value) : Value), ((v45 : Value) : Value), ((v46 : Value) : Value), ((v47 : Value) : Value), ((v48 : Value) : Value), ((v49 : Value) : Value), ((v50 : Value) : Value), ((v51 : Value) : Value)])), (q1, .inl (cC, 120, .inl g1_14))]) hP hD [0, 1] [] rfl rfl (by decide) (by decide) hk1 hFc hP1 hD1
  generalize H1 = H at hP hS ⊢
  have hP : va_P (dC, dI) vwCl [(h0, .inr (10, [.int 0, .ref q1, ((v2 : Value) : Value), ((v3 : Value) : Value), ((v4 : Value) : Value), ((v5 : Value) : Value), .int (nI (((0) + kCnt p0) + kCnt p1)), ((v7 : Value) : Value), ((v8 : Value) : Value), ((v9 : Value) : Value), ((v10 : Value) : Value), ((v11 : Value) : Value), ((v12 : Value) : Value), ((v13 : Value) : Value), ((v14 : Value) : Value), ((v15 : Value) : Value), ((v16 : Value) : Value), ((v17 : Value) : Value), ((v18 : Value) : Value), ((v19 : Value) : Value), ((v20 : Value) : Value), ((v21 : Value) : Value), ((v22 : Value) : Value), ((v23 : Value) : Value), ((v24 : Value) : Value), ((v25 : Value) : Value), ((v26 : Value) : Value), ((v27 : Value) : Value), ((v28 : Value) : Value), ((v29 : Value) : Value), ((v30 : Value) : Value), ((v31 : Value) : Value), ((v32 : Value) : Value), ((v33 : Value) : Value), ((v34 : Value) : Value), ((v35 : Value) : Value), ((v36 : Value) : Value), ((v37 : Value) : Value), ((v38 : Value) : Value), ((v39 : Value) : Value), ((v40 : Value) : Value), ((v41 : Value) : Value), ((v42 : Value) : Value), ((v43 : Value) : Value), ((v44 : Value) : Value), ((v45 : Value) : Value), ((v46 : Value) : Value), ((v47 : Value) : Value), ((v48 : Value) : Value), ((v49 : Value) : Value), ((v50 : Value) : Value), ((v51 : Value) : Value)])), (q1, .inl (cC, 120, .inl g1_14))] H := hP
  have hD : va_D A [(h0, .inr (10, [.int 0, .ref q1, ((v2 : Value) : Value), ((v3 : Value) : Value), ((v4 : Value) : Value), ((v5 : Value) : Value), .int (nI (((0) + kCnt p0) + kCnt p1)), ((v7 : Value) : Value), ((v8 : Value) : Value), ((v9 : Value) : Value), ((v10 : Value) : Value), ((v11 : Value) : Value), ((v12 : Value) : Value), ((v13 : Value) : Value), ((v14 : Value) : Value), ((v15 : Value) : Value), ((v16 : Value) : Value), ((v17 : Value) : Value), ((v18 : Value) : Value), ((v19 : Value) : Value), ((v20 : Value) : Value), ((v21 : Value) : Value), ((v22 : Value) : Value), ((v23 : Value) : Value), ((v24 : Value) : Value), ((v25 : Value) : Value), ((v26 : Value) : Value), ((v27 : Value) : Value), ((v28 : Value) : Value), ((v29 : Value) : Value), ((v30 : Value) : Value), ((v31 : Value) : Value), ((v32 : Value) : Value), ((v33 : Value) : Value), ((v34 : Value) : Value), ((v35 : Value) : Value), ((v36 : Value) : Value), ((v37 : Value) : Value), ((v38 : Value) : Value), ((v39 : Value) : Value), ((v40 : Value) : Value), ((v41 : Value) : Value), ((v42 : Value) : Value), ((v43 : Value) : Value), ((v44 : Value) : Value), ((v45 : Value) : Value), ((v46 : Value) : Value), ((v47 : Value) : Value), ((v48 : Value) : Value), ((v49 : Value) : Value), ((v50 : Value) : Value), ((v51 : Value) : Value)])), (q1, .inl (cC, 120, .inl g1_14))] := hD
  refine lv_aload_n hx hb dX10_feed_53 rfl (lv_at hl 0 rfl) ?_
  refine lv_iload_n hx hb dX10_feed_54 rfl (lv_at hl 3 rfl) ?_
  have hPc := hP.sub (ws' := [(h0, .inr (10, [.int 0, .ref q1, ((v2 : Value) : Value), ((v3 : Value) : Value), ((v4 : Value) : Value), ((v5 : Value) : Value), .int (nI (((0) + kCnt p0) + kCnt p1)), ((v7 : Value) : Value), ((v8 : Value) : Value), ((v9 : Value) : Value), ((v10 : Value) : Value), ((v11 : Value) : Value), ((v12 : Value) : Value), ((v13 : Value) : Value), ((v14 : Value) : Value), ((v15 : Value) : Value), ((v16 : Value) : Value), ((v17 : Value) : Value), ((v18 : Value) : Value), ((v19 : Value) : Value), ((v20 : Value) : Value), ((v21 : Value) : Value), ((v22 : Value) : Value), ((v23 : Value) : Value), ((v24 : Value) : Value), ((v25 : Value) : Value), ((v26 : Value) : Value), ((v27 : Value) : Value), ((v28 : Value) : Value), ((v29 : Value) : Value), ((v30 : Value) : Value), ((v31 : Value) : Value), ((v32 : Value) : Value), ((v33 : Value) : Value), ((v34 : Value) : Value), ((v35 : Value) : Value), ((v36 : Value) : Value), ((v37 : Value) : Value), ((v38 : Value) : Value), ((v39 : Value) : Value), ((v40 : Value) : Value), ((v41 : Value) : Value), ((v42 : Value) : Value), ((v43 : Value) : Value), ((v44 : Value) : Value), ((v45 : Value) : Value), ((v46 : Value) : Value), ((v47 : Value) : Value), ((v48 : Value) : Value), ((v49 : Value) : Value), ((v50 : Value) : Value), ((v51 : Value) : Value)])), (q1, .inl (cC, 120, .inl g1_14))]) [0, 1] rfl
  have hKc := hK.sub (tys' := [(cC, .byte)]) [0] rfl
  have hDc := hD.sub (ws' := [(h0, .inr (10, [.int 0, .ref q1, ((v2 : Value) : Value), ((v3 : Value) : Value), ((v4 : Value) : Value), ((v5 : Value) : Value), .int (nI (((0) + kCnt p0) + kCnt p1)), ((v7 : Value) : Value), ((v8 : Value) : Value), ((v9 : Value) : Value), ((v10 : Value) : Value), ((v11 : Value) : Value), ((v12 : Value) : Value), ((v13 : Value) : Value), ((v14 : Value) : Value), ((v15 : Value) : Value), ((v16 : Value) : Value), ((v17 : Value) : Value), ((v18 : Value) : Value), ((v19 : Value) : Value), ((v20 : Value) : Value), ((v21 : Value) : Value), ((v22 : Value) : Value), ((v23 : Value) : Value), ((v24 : Value) : Value), ((v25 : Value) : Value), ((v26 : Value) : Value), ((v27 : Value) : Value), ((v28 : Value) : Value), ((v29 : Value) : Value), ((v30 : Value) : Value), ((v31 : Value) : Value), ((v32 : Value) : Value), ((v33 : Value) : Value), ((v34 : Value) : Value), ((v35 : Value) : Value), ((v36 : Value) : Value), ((v37 : Value) : Value), ((v38 : Value) : Value), ((v39 : Value) : Value), ((v40 : Value) : Value), ((v41 : Value) : Value), ((v42 : Value) : Value), ((v43 : Value) : Value), ((v44 : Value) : Value), ((v45 : Value) : Value), ((v46 : Value) : Value), ((v47 : Value) : Value), ((v48 : Value) : Value), ((v49 : Value) : Value), ((v50 : Value) : Value), ((v51 : Value) : Value)])), (q1, .inl (cC, 120, .inl g1_14))]) [0, 1] (by decide) rfl
  have hFc := va_free (wc := [(h0, .inr (10, [.int 0, .ref q1, ((v2 : Value) : Value), ((v3 : Value) : Value), ((v4 : Value) : Value), ((v5 : Value) : Value), .int (nI (((0) + kCnt p0) + kCnt p1)), ((v7 : Value) : Value), ((v8 : Value) : Value), ((v9 : Value) : Value), ((v10 : Value) : Value), ((v11 : Value) : Value), ((v12 : Value) : Value), ((v13 : Value) : Value), ((v14 : Value) : Value), ((v15 : Value) : Value), ((v16 : Value) : Value), ((v17 : Value) : Value), ((v18 : Value) : Value), ((v19 : Value) : Value), ((v20 : Value) : Value), ((v21 : Value) : Value), ((v22 : Value) : Value), ((v23 : Value) : Value), ((v24 : Value) : Value), ((v25 : Value) : Value), ((v26 : Value) : Value), ((v27 : Value) : Value), ((v28 : Value) : Value), ((v29 : Value) : Value), ((v30 : Value) : Value), ((v31 : Value) : Value), ((v32 : Value) : Value), ((v33 : Value) : Value), ((v34 : Value) : Value), ((v35 : Value) : Value), ((v36 : Value) : Value), ((v37 : Value) : Value), ((v38 : Value) : Value), ((v39 : Value) : Value), ((v40 : Value) : Value), ((v41 : Value) : Value), ((v42 : Value) : Value), ((v43 : Value) : Value), ((v44 : Value) : Value), ((v45 : Value) : Value), ((v46 : Value) : Value), ((v47 : Value) : Value), ((v48 : Value) : Value), ((v49 : Value) : Value), ((v50 : Value) : Value), ((v51 : Value) : Value)])), (q1, .inl (cC, 120, .inl g1_14))]) hD hS hA [0, 1] rfl
  refine va_callv (va_runV (As := [.int p2]) (rest := []) ⟨hx, hb, hml, hown, hts⟩ (c_put10 l dC dI h0 q1 cC g1_14 (.int 0 : Value) (((v2 : Value) : Value) : Value) (((v3 : Value) : Value) : Value) (((v4 : Value) : Value) : Value) (((v5 : Value) : Value) : Value) (((v7 : Value) : Value) : Value) (((v8 : Value) : Value) : Value) (((v9 : Value) : Value) : Value) (((v10 : Value) : Value) : Value) (((v11 : Value) : Value) : Value) (((v12 : Value) : Value) : Value) (((v13 : Value) : Value) : Value) (((v14 : Value) : Value) : Value) (((v15 : Value) : Value) : Value) (((v16 : Value) : Value) : Value) (((v17 : Value) : Value) : Value) (((v18 : Value) : Value) : Value) (((v19 : Value) : Value) : Value) (((v20 : Value) : Value) : Value) (((v21 : Value) : Value) : Value) (((v22 : Value) : Value) : Value) (((v23 : Value) : Value) : Value) (((v24 : Value) : Value) : Value) (((v25 : Value) : Value) : Value) (((v26 : Value) : Value) : Value) (((v27 : Value) : Value) : Value) (((v28 : Value) : Value) : Value) (((v29 : Value) : Value) : Value) (((v30 : Value) : Value) : Value) (((v31 : Value) : Value) : Value) (((v32 : Value) : Value) : Value) (((v33 : Value) : Value) : Value) (((v34 : Value) : Value) : Value) (((v35 : Value) : Value) : Value) (((v36 : Value) : Value) : Value) (((v37 : Value) : Value) : Value) (((v38 : Value) : Value) : Value) (((v39 : Value) : Value) : Value) (((v40 : Value) : Value) : Value) (((v41 : Value) : Value) : Value) (((v42 : Value) : Value) : Value) (((v43 : Value) : Value) : Value) (((v44 : Value) : Value) : Value) (((v45 : Value) : Value) : Value) (((v46 : Value) : Value) : Value) (((v47 : Value) : Value) : Value) (((v48 : Value) : Value) : Value) (((v49 : Value) : Value) : Value) (((v50 : Value) : Value) : Value) (((v51 : Value) : Value) : Value) (nI (((0) + kCnt p0) + kCnt p1)) (((0) + kCnt p0) + kCnt p1) rfl (by have h1 := kCnt_le p0; have h2 := kCnt_le p1; have h3 := kCnt_le p2; have h4 := kCnt_le p3; have h5 := kCnt_le p4; omega) p2 H.size) (cwV 1 hts (kG (List.forall_mem_cons.mpr ⟨(List.mem_cons_of_mem _ (List.mem_append_left _ (List.mem_of_getElem? (i := 7) rfl))), (List.forall_mem_cons.mpr ⟨(List.mem_cons_of_mem _ (List.mem_append_left _ (List.mem_of_getElem? (i := 6) rfl))), (List.forall_mem_cons.mpr ⟨(List.mem_cons_of_mem _ (List.mem_append_left _ (List.mem_of_getElem? (i := 5) rfl))), (List.forall_mem_cons.mpr ⟨(List.mem_cons_of_mem _ (List.mem_append_left _ (List.mem_of_getElem? (i := 2) rfl))), (fun _ h => absurd h List.not_mem_nil)⟩)⟩)⟩)⟩) (by decide +kernel) (fun _ h => List.mem_cons_of_mem _ (List.mem_append_right _ (List.mem_append_right _ (List.mem_append_right _ h)))) gw_c_put10) rfl rfl rfl (by decide +kernel) ⟨(Nat.le_of_ble_eq_true rfl), (Nat.le_of_ble_eq_true rfl)⟩) (kW_V kT_blind kT_give (va_recv hKc hPc (ci := 10) (q0 := 0) rfl rfl) hPc hKc hDc) rfl rfl hl.1 rfl (lv_room (Nat.le_of_ble_eq_true rfl)) dX10_feed_55 ⟨(Nat.le_of_ble_eq_true rfl), (Nat.le_of_ble_eq_true rfl)⟩) hS (fun q _ h => hFc q h) hFc (fun u t H1 locs ht hvm hw hB hz1 hk1 hS => ?_)
  obtain ⟨g1_16, rfl⟩ : ∃ z, z = u := ⟨_, rfl⟩
  obtain ⟨hP1, hK1, hD1⟩ := hB
  rw [ht] at hP1
  try dsimp only at hw
  obtain ⟨hP, hD⟩ := va_join (wr := []) (w1 := [(h0, .inr (10, [.int 0, .ref q1, (((v2 : Value) : Value) : Value), (((v3 : Value) : Value) : Value), (((v4 : Value) : Value) : Value), (((v5 : Value) : Value) : Value), .int (nI ((((0) + kCnt p0) + kCnt p1) + kCnt p2)), (((v7 : Value) : Value) : Value), (((v8 : Value) : Value) : Value), (((v9 : Value) : Value) : Value), (((v10 : Value) : Value) : Value), (((v11 : Value) : Value) : Value), (((v12 : Value) : Value) : Value), (((v13 : Value) : Value) : Value), (((v14 : Value) : Value) : Value), (((v15 : Value) : Value) : Value), (((v16 : Value) : Value) : Value), (((v17 : Value) : Value) : Value), (((v18 : Value) : Value) : Value), (((v19 : Value) : Value) : Value), (((v20 : Value) : Value) : Value), (((v21 : Value) : Value) : Value), (((v22 : Value) : Value) : Value), (((v23 : Value) : Value) : Value), (((v24 : Value) : Value) : Value), (((v25 : Value) : Value) : Value), (((v26 : Value) : Value) : Value), (((v27 : Value) : Value) : Value), (((v28 : Value) : Value) : Value), (((v29 : Value) : Value) : Value), (((v30 : Value) : Value) : Value), (((v31 : Value) : Value) : Value), (((v32 : Value) : Value) : Value), (((v33 : Value) : Value) : Value), (((v34 : Value) : Value) : Value), (((v35 : Value) : Value) : Value), (((v36 : Value) : Value) : Value), (((v37 : Value) : Value) : Value), (((v38 : Value) : Value) : Value), (((v39 : Value) : Value) : Value), (((v40 : Value) : Value) : Value), (((v41 : Value) : Value) : Value), (((v42 : Value) : Value) : Value), (((v43 : Value) : Value) : Value), (((v44 : Value) : Value) : Value), (((v45 : Value) : Value) : Value), (((v46 : Value) : Value) : Value), (((v47 : Value) : Value) : Value), (((v48 : Value) : Value) : Value), (((v49 : Value) : Value) : Value), (((v50 : Value) : Value) : Value), (((v51 : Value) : Value) : Value)])), (q1, .inl (cC, 120, .inl g1_16))]) hP hD [0, 1] [] rfl rfl (by decide) (by decide) hk1 hFc hP1 hD1
  generalize H1 = H at hP hS ⊢
  have hP : va_P (dC, dI) vwCl [(h0, .inr (10, [.int 0, .ref q1, (((v2 : Value) : Value) : Value), (((v3 : Value) : Value) : Value), (((v4 : Value) : Value) : Value), (((v5 : Value) : Value) : Value), .int (nI ((((0) + kCnt p0) + kCnt p1) + kCnt p2)), (((v7 : Value) : Value) : Value), (((v8 : Value) : Value) : Value), (((v9 : Value) : Value) : Value), (((v10 : Value) : Value) : Value), (((v11 : Value) : Value) : Value), (((v12 : Value) : Value) : Value), (((v13 : Value) : Value) : Value), (((v14 : Value) : Value) : Value), (((v15 : Value) : Value) : Value), (((v16 : Value) : Value) : Value), (((v17 : Value) : Value) : Value), (((v18 : Value) : Value) : Value), (((v19 : Value) : Value) : Value), (((v20 : Value) : Value) : Value), (((v21 : Value) : Value) : Value), (((v22 : Value) : Value) : Value), (((v23 : Value) : Value) : Value), (((v24 : Value) : Value) : Value), (((v25 : Value) : Value) : Value), (((v26 : Value) : Value) : Value), (((v27 : Value) : Value) : Value), (((v28 : Value) : Value) : Value), (((v29 : Value) : Value) : Value), (((v30 : Value) : Value) : Value), (((v31 : Value) : Value) : Value), (((v32 : Value) : Value) : Value), (((v33 : Value) : Value) : Value), (((v34 : Value) : Value) : Value), (((v35 : Value) : Value) : Value), (((v36 : Value) : Value) : Value), (((v37 : Value) : Value) : Value), (((v38 : Value) : Value) : Value), (((v39 : Value) : Value) : Value), (((v40 : Value) : Value) : Value), (((v41 : Value) : Value) : Value), (((v42 : Value) : Value) : Value), (((v43 : Value) : Value) : Value), (((v44 : Value) : Value) : Value), (((v45 : Value) : Value) : Value), (((v46 : Value) : Value) : Value), (((v47 : Value) : Value) : Value), (((v48 : Value) : Value) : Value), (((v49 : Value) : Value) : Value), (((v50 : Value) : Value) : Value), (((v51 : Value) : Value) : Value)])), (q1, .inl (cC, 120, .inl g1_16))] H := hP
  have hD : va_D A [(h0, .inr (10, [.int 0, .ref q1, (((v2 : Value) : Value) : Value), (((v3 : Value) : Value) : Value), (((v4 : Value) : Value) : Value), (((v5 : Value) : Value) : Value), .int (nI ((((0) + kCnt p0) + kCnt p1) + kCnt p2)), (((v7 : Value) : Value) : Value), (((v8 : Value) : Value) : Value), (((v9 : Value) : Value) : Value), (((v10 : Value) : Value) : Value), (((v11 : Value) : Value) : Value), (((v12 : Value) : Value) : Value), (((v13 : Value) : Value) : Value), (((v14 : Value) : Value) : Value), (((v15 : Value) : Value) : Value), (((v16 : Value) : Value) : Value), (((v17 : Value) : Value) : Value), (((v18 : Value) : Value) : Value), (((v19 : Value) : Value) : Value), (((v20 : Value) : Value) : Value), (((v21 : Value) : Value) : Value), (((v22 : Value) : Value) : Value), (((v23 : Value) : Value) : Value), (((v24 : Value) : Value) : Value), (((v25 : Value) : Value) : Value), (((v26 : Value) : Value) : Value), (((v27 : Value) : Value) : Value), (((v28 : Value) : Value) : Value), (((v29 : Value) : Value) : Value), (((v30 : Value) : Value) : Value), (((v31 : Value) : Value) : Value), (((v32 : Value) : Value) : Value), (((v33 : Value) : Value) : Value), (((v34 : Value) : Value) : Value), (((v35 : Value) : Value) : Value), (((v36 : Value) : Value) : Value), (((v37 : Value) : Value) : Value), (((v38 : Value) : Value) : Value), (((v39 : Value) : Value) : Value), (((v40 : Value) : Value) : Value), (((v41 : Value) : Value) : Value), (((v42 : Value) : Value) : Value), (((v43 : Value) : Value) : Value), (((v44 : Value) : Value) : Value), (((v45 : Value) : Value) : Value), (((v46 : Value) : Value) : Value), (((v47 : Value) : Value) : Value), (((v48 : Value) : Value) : Value), (((v49 : Value) : Value) : Value), (((v50 : Value) : Value) : Value), (((v51 : Value) : Value) : Value)])), (q1, .inl (cC, 120, .inl g1_16))] := hD
  refine lv_aload_n hx hb dX10_feed_58 rfl (lv_at hl 0 rfl) ?_
  refine lv_iload hx hb dX10_feed_59 (lv_at hl 4 rfl) ?_
  have hPc := hP.sub (ws' := [(h0, .inr (10, [.int 0, .ref q1, (((v2 : Value) : Value) : Value), (((v3 : Value) : Value) : Value), (((v4 : Value) : Value) : Value), (((v5 : Value) : Value) : Value), .int (nI ((((0) + kCnt p0) + kCnt p1) + kCnt p2)), (((v7 : Value) : Value) : Value), (((v8 : Value) : Value) : Value), (((v9 : Value) : Value) : Value), (((v10 : Value) : Value) : Value), (((v11 : Value) : Value) : Value), (((v12 : Value) : Value) : Value), (((v13 : Value) : Value) : Value), (((v14 : Value) : Value) : Value), (((v15 : Value) : Value) : Value), (((v16 : Value) : Value) : Value), (((v17 : Value) : Value) : Value), (((v18 : Value) : Value) : Value), (((v19 : Value) : Value) : Value), (((v20 : Value) : Value) : Value), (((v21 : Value) : Value) : Value), (((v22 : Value) : Value) : Value), (((v23 : Value) : Value) : Value), (((v24 : Value) : Value) : Value), (((v25 : Value) : Value) : Value), (((v26 : Value) : Value) : Value), (((v27 : Value) : Value) : Value), (((v28 : Value) : Value) : Value), (((v29 : Value) : Value) : Value), (((v30 : Value) : Value) : Value), (((v31 : Value) : Value) : Value), (((v32 : Value) : Value) : Value), (((v33 : Value) : Value) : Value), (((v34 : Value) : Value) : Value), (((v35 : Value) : Value) : Value), (((v36 : Value) : Value) : Value), (((v37 : Value) : Value) : Value), (((v38 : Value) : Value) : Value), (((v39 : Value) : Value) : Value), (((v40 : Value) : Value) : Value), (((v41 : Value) : Value) : Value), (((v42 : Value) : Value) : Value), (((v43 : Value) : Value) : Value), (((v44 : Value) : Value) : Value), (((v45 : Value) : Value) : Value), (((v46 : Value) : Value) : Value), (((v47 : Value) : Value) : Value), (((v48 : Value) : Value) : Value), (((v49 : Value) : Value) : Value), (((v50 : Value) : Value) : Value), (((v51 : Value) : Value) : Value)])), (q1, .inl (cC, 120, .inl g1_16))]) [0, 1] rfl
  have hKc := hK.sub (tys' := [(cC, .byte)]) [0] rfl
  have hDc := hD.sub (ws' := [(h0, .inr (10, [.int 0, .ref q1, (((v2 : Value) : Value) : Value), (((v3 : Value) : Value) : Value), (((v4 : Value) : Value) : Value), (((v5 : Value) : Value) : Value), .int (nI ((((0) + kCnt p0) + kCnt p1) + kCnt p2)), (((v7 : Value) : Value) : Value), (((v8 : Value) : Value) : Value), (((v9 : Value) : Value) : Value), (((v10 : Value) : Value) : Value), (((v11 : Value) : Value) : Value), (((v12 : Value) : Value) : Value), (((v13 : Value) : Value) : Value), (((v14 : Value) : Value) : Value), (((v15 : Value) : Value) : Value), (((v16 : Value) : Value) : Value), (((v17 : Value) : Value) : Value), (((v18 : Value) : Value) : Value), (((v19 : Value) : Value) : Value), (((v20 : Value) : Value) : Value), (((v21 : Value) : Value) : Value), (((v22 : Value) : Value) : Value), (((v23 : Value) : Value) : Value), (((v24 : Value) : Value) : Value), (((v25 : Value) : Value) : Value), (((v26 : Value) : Value) : Value), (((v27 : Value) : Value) : Value), (((v28 : Value) : Value) : Value), (((v29 : Value) : Value) : Value), (((v30 : Value) : Value) : Value), (((v31 : Value) : Value) : Value), (((v32 : Value) : Value) : Value), (((v33 : Value) : Value) : Value), (((v34 : Value) : Value) : Value), (((v35 : Value) : Value) : Value), (((v36 : Value) : Value) : Value), (((v37 : Value) : Value) : Value), (((v38 : Value) : Value) : Value), (((v39 : Value) : Value) : Value), (((v40 : Value) : Value) : Value), (((v41 : Value) : Value) : Value), (((v42 : Value) : Value) : Value), (((v43 : Value) : Value) : Value), (((v44 : Value) : Value) : Value), (((v45 : Value) : Value) : Value), (((v46 : Value) : Value) : Value), (((v47 : Value) : Value) : Value), (((v48 : Value) : Value) : Value), (((v49 : Value) : Value) : Value), (((v50 : Value) : Value) : Value), (((v51 : Value) : Value) : Value)])), (q1, .inl (cC, 120, .inl g1_16))]) [0, 1] (by decide) rfl
  have hFc := va_free (wc := [(h0, .inr (10, [.int 0, .ref q1, (((v2 : Value) : Value) : Value), (((v3 : Value) : Value) : Value), (((v4 : Value) : Value) : Value), (((v5 : Value) : Value) : Value), .int (nI ((((0) + kCnt p0) + kCnt p1) + kCnt p2)), (((v7 : Value) : Value) : Value), (((v8 : Value) : Value) : Value), (((v9 : Value) : Value) : Value), (((v10 : Value) : Value) : Value), (((v11 : Value) : Value) : Value), (((v12 : Value) : Value) : Value), (((v13 : Value) : Value) : Value), (((v14 : Value) : Value) : Value), (((v15 : Value) : Value) : Value), (((v16 : Value) : Value) : Value), (((v17 : Value) : Value) : Value), (((v18 : Value) : Value) : Value), (((v19 : Value) : Value) : Value), (((v20 : Value) : Value) : Value), (((v21 : Value) : Value) : Value), (((v22 : Value) : Value) : Value), (((v23 : Value) : Value) : Value), (((v24 : Value) : Value) : Value), (((v25 : Value) : Value) : Value), (((v26 : Value) : Value) : Value), (((v27 : Value) : Value) : Value), (((v28 : Value) : Value) : Value), (((v29 : Value) : Value) : Value), (((v30 : Value) : Value) : Value), (((v31 : Value) : Value) : Value), (((v32 : Value) : Value) : Value), (((v33 : Value) : Value) : Value), (((v34 : Value) : Value) : Value), (((v35 : Value) : Value) : Value), (((v36 : Value) : Value) : Value), (((v37 : Value) : Value) : Value), (((v38 : Value) : Value) : Value), (((v39 : Value) : Value) : Value), (((v40 : Value) : Value) : Value), (((v41 : Value) : Value) : Value), (((v42 : Value) : Value) : Value), (((v43 : Value) : Value) : Value), (((v44 : Value) : Value) : Value), (((v45 : Value) : Value) : Value), (((v46 : Value) : Value) : Value), (((v47 : Value) : Value) : Value), (((v48 : Value) : Value) : Value), (((v49 : Value) : Value) : Value), (((v50 : Value) : Value) : Value), (((v51 : Value) : Value) : Value)])), (q1, .inl (cC, 120, .inl g1_16))]) hD hS hA [0, 1] rfl
  refine va_callv (va_runV (As := [.int p3]) (rest := []) ⟨hx, hb, hml, hown, hts⟩ (c_put10 l dC dI h0 q1 cC g1_16 (.int 0 : Value) ((((v2 : Value) : Value) : Value) : Value) ((((v3 : Value) : Value) : Value) : Value) ((((v4 : Value) : Value) : Value) : Value) ((((v5 : Value) : Value) : Value) : Value) ((((v7 : Value) : Value) : Value) : Value) ((((v8 : Value) : Value) : Value) : Value) ((((v9 : Value) : Value) : Value) : Value) ((((v10 : Value) : Value) : Value) : Value) ((((v11 : Value) : Value) : Value) : Value) ((((v12 : Value) : Value) : Value) : Value) ((((v13 : Value) : Value) : Value) : Value) ((((v14 : Value) : Value) : Value) : Value) ((((v15 : Value) : Value) : Value) : Value) ((((v16 : Value) : Value) : Value) : Value) ((((v17 : Value) : Value) : Value) : Value) ((((v18 : Value) : Value) : Value) : Value) ((((v19 : Value) : Value) : Value) : Value) ((((v20 : Value) : Value) : Value) : Value) ((((v21 : Value) : Value) : Value) : Value) ((((v22 : Value) : Value) : Value) : Value) ((((v23 : Value) : Value) : Value) : Value) ((((v24 : Value) : Value) : Value) : Value) ((((v25 : Value) : Value) : Value) : Value) ((((v26 : Value) : Value) : Value) : Value) ((((v27 : Value) : Value) : Value) : Value) ((((v28 : Value) : Value) : Value) : Value) ((((v29 : Value) : Value) : Value) : Value) ((((v30 : Value) : Value) : Value) : Value) ((((v31 : Value) : Value) : Value) : Value) ((((v32 : Value) : Value) : Value) : Value) ((((v33 : Value) : Value) : Value) : Value) ((((v34 : Value) : Value) : Value) : Value) ((((v35 : Value) : Value) : Value) : Value) ((((v36 : Value) : Value) : Value) : Value) ((((v37 : Value) : Value) : Value) : Value) ((((v38 : Value) : Value) : Value) : Value) ((((v39 : Value) : Value) : Value) : Value) ((((v40 : Value) : Value) : Value) : Value) ((((v41 : Value) : Value) : Value) : Value) ((((v42 : Value) : Value) : Value) : Value) ((((v43 : Value) : Value) : Value) : Value) ((((v44 : Value) : Value) : Value) : Value) ((((v45 : Value) : Value) : Value) : Value) ((((v46 : Value) : Value) : Value) : Value) ((((v47 : Value) : Value) : Value) : Value) ((((v48 : Value) : Value) : Value) : Value) ((((v49 : Value) : Value) : Value) : Value) ((((v50 : Value) : Value) : Value) : Value) ((((v51 : Value) : Value) : Value) : Value) (nI ((((0) + kCnt p0) + kCnt p1) + kCnt p2)) ((((0) + kCnt p0) + kCnt p1) + kCnt p2) rfl (by have h1 := kCnt_le p0; have h2 := kCnt_le p1; have h3 := kCnt_le p2; have h4 := kCnt_le p3; have h5 := kCnt_le p4; omega) p3 H.size) (cwV 1 hts (kG (List.forall_mem_cons.mpr ⟨(List.mem_cons_of_mem _ (List.mem_append_left _ (List.mem_of_getElem? (i := 7) rfl))), (List.forall_mem_cons.mpr ⟨(List.mem_cons_of_mem _ (List.mem_append_left _ (List.mem_of_getElem? (i := 6) rfl))), (List.forall_mem_cons.mpr ⟨(List.mem_cons_of_mem _ (List.mem_append_left _ (List.mem_of_getElem? (i := 5) rfl))), (List.forall_mem_cons.mpr ⟨(List.mem_cons_of_mem _ (List.mem_append_left _ (List.mem_of_getElem? (i := 2) rfl))), (fun _ h => absurd h List.not_mem_nil)⟩)⟩)⟩)⟩) (by decide +kernel) (fun _ h => List.mem_cons_of_mem _ (List.mem_append_right _ (List.mem_append_right _ (List.mem_append_right _ h)))) gw_c_put10) rfl rfl rfl (by decide +kernel) ⟨(Nat.le_of_ble_eq_true rfl), (Nat.le_of_ble_eq_true rfl)⟩) (kW_V kT_blind kT_give (va_recv hKc hPc (ci := 10) (q0 := 0) rfl rfl) hPc hKc hDc) rfl rfl hl.1 rfl (lv_room (Nat.le_of_ble_eq_true rfl)) dX10_feed_61 ⟨(Nat.le_of_ble_eq_true rfl), (Nat.le_of_ble_eq_true rfl)⟩) hS (fun q _ h => hFc q h) hFc (fun u t H1 locs ht hvm hw hB hz1 hk1 hS => ?_)
  obtain ⟨g1_18, rfl⟩ : ∃ z, z = u := ⟨_, rfl⟩
  obtain ⟨hP1, hK1, hD1⟩ := hB
  rw [ht] at hP1
  try dsimp only at hw
  obtain ⟨hP, hD⟩ := va_join (wr := []) (w1 := [(h0, .inr (10, [.int 0, .ref q1, ((((v2 : Value) : Value) : Value) : Value), ((((v3 : Value) : Value) : Value) : Value), ((((v4 : Value) : Value) : Value) : Value), ((((v5 : Value) : Value) : Value) : Value), .int (nI (((((0) + kCnt p0) + kCnt p1) + kCnt p2) + kCnt p3)), ((((v7 : Value) : Value) : Value) : Value), ((((v8 : Value) : Value) : Value) : Value), ((((v9 : Value) : Value) : Value) : Value), ((((v10 : Value) : Value) : Value) : Value), ((((v11 : Value) : Value) : Value) : Value), ((((v12 : Value) : Value) : Value) : Value), ((((v13 : Value) : Value) : Value) : Value), ((((v14 : Value) : Value) : Value) : Value), ((((v15 : Value) : Value) : Value) : Value), ((((v16 : Value) : Value) : Value) : Value), ((((v17 : Value) : Value) : Value) : Value), ((((v18 : Value) : Value) : Value) : Value), ((((v19 : Value) : Value) : Value) : Value), ((((v20 : Value) : Value) : Value) : Value), ((((v21 : Value) : Value) : Value) : Value), ((((v22 : Value) : Value) : Value) : Value), ((((v23 : Value) : Value) : Value) : Value), ((((v24 : Value) : Value) : Value) : Value), ((((v25 : Value) : Value) : Value) : Value), ((((v26 : Value) : Value) : Value) : Value), ((((v27 : Value) : Value) : Value) : Value), ((((v28 : Value) : Value) : Value) : Value), ((((v29 : Value) : Value) : Value) : Value), ((((v30 : Value) : Value) : Value) : Value), ((((v31 : Value) : Value) : Value) : Value), ((((v32 : Value) : Value) : Value) : Value), ((((v33 : Value) : Value) : Value) : Value), ((((v34 : Value) : Value) : Value) : Value), ((((v35 : Value) : Value) : Value) : Value), ((((v36 : Value) : Value) : Value) : Value), ((((v37 : Value) : Value) : Value) : Value), ((((v38 : Value) : Value) : Value) : Value), ((((v39 : Value) : Value) : Value) : Value), ((((v40 : Value) : Value) : Value) : Value), ((((v41 : Value) : Value) : Value) : Value), ((((v42 : Value) : Value) : Value) : Value), ((((v43 : Value) : Value) : Value) : Value), ((((v44 : Value) : Value) : Value) : Value), ((((v45 : Value) : Value) : Value) : Value), ((((v46 : Value) : Value) : Value) : Value), ((((v47 : Value) : Value) : Value) : Value), ((((v48 : Value) : Value) : Value) : Value), ((((v49 : Value) : Value) : Value) : Value), ((((v50 : Value) : Value) : Value) : Value), ((((v51 : Value) : Value) : Value) : Value)])), (q1, .inl (cC, 120, .inl g1_18))]) hP hD [0, 1] [] rfl rfl (by decide) (by decide) hk1 hFc hP1 hD1
  generalize H1 = H at hP hS ⊢
  have hP : va_P (dC, dI) vwCl [(h0, .inr (10, [.int 0, .ref q1, ((((v2 : Value) : Value) : Value) : Value), ((((v3 : Value) : Value) : Value) : Value), ((((v4 : Value) : Value) : Value) : Value), ((((v5 : Value) : Value) : Value) : Value), .int (nI (((((0) + kCnt p0) + kCnt p1) + kCnt p2) + kCnt p3)), ((((v7 : Value) : Value) : Value) : Value), ((((v8 : Value) : Value) : Value) : Value), ((((v9 : Value) : Value) : Value) : Value), ((((v10 : Value) : Value) : Value) : Value), ((((v11 : Value) : Value) : Value) : Value), ((((v12 : Value) : Value) : Value) : Value), ((((v13 : Value) : Value) : Value) : Value), ((((v14 : Value) : Value) : Value) : Value), ((((v15 : Value) : Value) : Value) : Value), ((((v16 : Value) : Value) : Value) : Value), ((((v17 : Value) : Value) : Value) : Value), ((((v18 : Value) : Value) : Value) : Value), ((((v19 : Value) : Value) : Value) : Value), ((((v20 : Value) : Value) : Value) : Value), ((((v21 : Value) : Value) : Value) : Value), ((((v22 : Value) : Value) : Value) : Value), ((((v23 : Value) : Value) : Value) : Value), ((((v24 : Value) : Value) : Value) : Value), ((((v25 : Value) : Value) : Value) : Value), ((((v26 : Value) : Value) : Value) : Value), ((((v27 : Value) : Value) : Value) : Value), ((((v28 : Value) : Value) : Value) : Value), ((((v29 : Value) : Value) : Value) : Value), ((((v30 : Value) : Value) : Value) : Value), ((((v31 : Value) : Value) : Value) : Value), ((((v32 : Value) : Value) : Value) : Value), ((((v33 : Value) : Value) : Value) : Value), ((((v34 : Value) : Value) : Value) : Value), ((((v35 : Value) : Value) : Value) : Value), ((((v36 : Value) : Value) : Value) : Value), ((((v37 : Value) : Value) : Value) : Value), ((((v38 : Value) : Value) : Value) : Value), ((((v39 : Value) : Value) : Value) : Value), ((((v40 : Value) : Value) : Value) : Value), ((((v41 : Value) : Value) : Value) : Value), ((((v42 : Value) : Value) : Value) : Value), ((((v43 : Value) : Value) : Value) : Value), ((((v44 : Value) : Value) : Value) : Value), ((((v45 : Value) : Value) : Value) : Value), ((((v46 : Value) : Value) : Value) : Value), ((((v47 : Value) : Value) : Value) : Value), ((((v48 : Value) : Value) : Value) : Value), ((((v49 : Value) : Value) : Value) : Value), ((((v50 : Value) : Value) : Value) : Value), ((((v51 : Value) : Value) : Value) : Value)])), (q1, .inl (cC, 120, .inl g1_18))] H := hP
  have hD : va_D A [(h0, .inr (10, [.int 0, .ref q1, ((((v2 : Value) : Value) : Value) : Value), ((((v3 : Value) : Value) : Value) : Value), ((((v4 : Value) : Value) : Value) : Value), ((((v5 : Value) : Value) : Value) : Value), .int (nI (((((0) + kCnt p0) + kCnt p1) + kCnt p2) + kCnt p3)), ((((v7 : Value) : Value) : Value) : Value), ((((v8 : Value) : Value) : Value) : Value), ((((v9 : Value) : Value) : Value) : Value), ((((v10 : Value) : Value) : Value) : Value), ((((v11 : Value) : Value) : Value) : Value), ((((v12 : Value) : Value) : Value) : Value), ((((v13 : Value) : Value) : Value) : Value), ((((v14 : Value) : Value) : Value) : Value), ((((v15 : Value) : Value) : Value) : Value), ((((v16 : Value) : Value) : Value) : Value), ((((v17 : Value) : Value) : Value) : Value), ((((v18 : Value) : Value) : Value) : Value), ((((v19 : Value) : Value) : Value) : Value), ((((v20 : Value) : Value) : Value) : Value), ((((v21 : Value) : Value) : Value) : Value), ((((v22 : Value) : Value) : Value) : Value), ((((v23 : Value) : Value) : Value) : Value), ((((v24 : Value) : Value) : Value) : Value), ((((v25 : Value) : Value) : Value) : Value), ((((v26 : Value) : Value) : Value) : Value), ((((v27 : Value) : Value) : Value) : Value), ((((v28 : Value) : Value) : Value) : Value), ((((v29 : Value) : Value) : Value) : Value), ((((v30 : Value) : Value) : Value) : Value), ((((v31 : Value) : Value) : Value) : Value), ((((v32 : Value) : Value) : Value) : Value), ((((v33 : Value) : Value) : Value) : Value), ((((v34 : Value) : Value) : Value) : Value), ((((v35 : Value) : Value) : Value) : Value), ((((v36 : Value) : Value) : Value) : Value), ((((v37 : Value) : Value) : Value) : Value), ((((v38 : Value) : Value) : Value) : Value), ((((v39 : Value) : Value) : Value) : Value), ((((v40 : Value) : Value) : Value) : Value), ((((v41 : Value) : Value) : Value) : Value), ((((v42 : Value) : Value) : Value) : Value), ((((v43 : Value) : Value) : Value) : Value), ((((v44 : Value) : Value) : Value) : Value), ((((v45 : Value) : Value) : Value) : Value), ((((v46 : Value) : Value) : Value) : Value), ((((v47 : Value) : Value) : Value) : Value), ((((v48 : Value) : Value) : Value) : Value), ((((v49 : Value) : Value) : Value) : Value), ((((v50 : Value) : Value) : Value) : Value), ((((v51 : Value) : Value) : Value) : Value)])), (q1, .inl (cC, 120, .inl g1_18))] := hD
  refine lv_aload_n hx hb dX10_feed_64 rfl (lv_at hl 0 rfl) ?_
  refine lv_iload hx hb dX10_feed_65 (lv_at hl 5 rfl) ?_
  have hPc := hP.sub (ws' := [(h0, .inr (10, [.int 0, .ref q1, ((((v2 : Value) : Value) : Value) : Value), ((((v3 : Value) : Value) : Value) : Value), ((((v4 : Value) : Value) : Value) : Value), ((((v5 : Value) : Value) : Value) : Value), .int (nI (((((0) + kCnt p0) + kCnt p1) + kCnt p2) + kCnt p3)), ((((v7 : Value) : Value) : Value) : Value), ((((v8 : Value) : Value) : Value) : Value), ((((v9 : Value) : Value) : Value) : Value), ((((v10 : Value) : Value) : Value) : Value), ((((v11 : Value) : Value) : Value) : Value), ((((v12 : Value) : Value) : Value) : Value), ((((v13 : Value) : Value) : Value) : Value), ((((v14 : Value) : Value) : Value) : Value), ((((v15 : Value) : Value) : Value) : Value), ((((v16 : Value) : Value) : Value) : Value), ((((v17 : Value) : Value) : Value) : Value), ((((v18 : Value) : Value) : Value) : Value), ((((v19 : Value) : Value) : Value) : Value), ((((v20 : Value) : Value) : Value) : Value), ((((v21 : Value) : Value) : Value) : Value), ((((v22 : Value) : Value) : Value) : Value), ((((v23 : Value) : Value) : Value) : Value), ((((v24 : Value) : Value) : Value) : Value), ((((v25 : Value) : Value) : Value) : Value), ((((v26 : Value) : Value) : Value) : Value), ((((v27 : Value) : Value) : Value) : Value), ((((v28 : Value) : Value) : Value) : Value), ((((v29 : Value) : Value) : Value) : Value), ((((v30 : Value) : Value) : Value) : Value), ((((v31 : Value) : Value) : Value) : Value), ((((v32 : Value) : Value) : Value) : Value), ((((v33 : Value) : Value) : Value) : Value), ((((v34 : Value) : Value) : Value) : Value), ((((v35 : Value) : Value) : Value) : Value), ((((v36 : Value) : Value) : Value) : Value), ((((v37 : Value) : Value) : Value) : Value), ((((v38 : Value) : Value) : Value) : Value), ((((v39 : Value) : Value) : Value) : Value), ((((v40 : Value) : Value) : Value) : Value), ((((v41 : Value) : Value) : Value) : Value), ((((v42 : Value) : Value) : Value) : Value), ((((v43 : Value) : Value) : Value) : Value), ((((v44 : Value) : Value) : Value) : Value), ((((v45 : Value) : Value) : Value) : Value), ((((v46 : Value) : Value) : Value) : Value), ((((v47 : Value) : Value) : Value) : Value), ((((v48 : Value) : Value) : Value) : Value), ((((v49 : Value) : Value) : Value) : Value), ((((v50 : Value) : Value) : Value) : Value), ((((v51 : Value) : Value) : Value) : Value)])), (q1, .inl (cC, 120, .inl g1_18))]) [0, 1] rfl
  have hKc := hK.sub (tys' := [(cC, .byte)]) [0] rfl
  have hDc := hD.sub (ws' := [(h0, .inr (10, [.int 0, .ref q1, ((((v2 : Value) : Value) : Value) : Value), ((((v3 : Value) : Value) : Value) : Value), ((((v4 : Value) : Value) : Value) : Value), ((((v5 : Value) : Value) : Value) : Value), .int (nI (((((0) + kCnt p0) + kCnt p1) + kCnt p2) + kCnt p3)), ((((v7 : Value) : Value) : Value) : Value), ((((v8 : Value) : Value) : Value) : Value), ((((v9 : Value) : Value) : Value) : Value), ((((v10 : Value) : Value) : Value) : Value), ((((v11 : Value) : Value) : Value) : Value), ((((v12 : Value) : Value) : Value) : Value), ((((v13 : Value) : Value) : Value) : Value), ((((v14 : Value) : Value) : Value) : Value), ((((v15 : Value) : Value) : Value) : Value), ((((v16 : Value) : Value) : Value) : Value), ((((v17 : Value) : Value) : Value) : Value), ((((v18 : Value) : Value) : Value) : Value), ((((v19 : Value) : Value) : Value) : Value), ((((v20 : Value) : Value) : Value) : Value), ((((v21 : Value) : Value) : Value) : Value), ((((v22 : Value) : Value) : Value) : Value), ((((v23 : Value) : Value) : Value) : Value), ((((v24 : Value) : Value) : Value) : Value), ((((v25 : Value) : Value) : Value) : Value), ((((v26 : Value) : Value) : Value) : Value), ((((v27 : Value) : Value) : Value) : Value), ((((v28 : Value) : Value) : Value) : Value), ((((v29 : Value) : Value) : Value) : Value), ((((v30 : Value) : Value) : Value) : Value), ((((v31 : Value) : Value) : Value) : Value), ((((v32 : Value) : Value) : Value) : Value), ((((v33 : Value) : Value) : Value) : Value), ((((v34 : Value) : Value) : Value) : Value), ((((v35 : Value) : Value) : Value) : Value), ((((v36 : Value) : Value) : Value) : Value), ((((v37 : Value) : Value) : Value) : Value), ((((v38 : Value) : Value) : Value) : Value), ((((v39 : Value) : Value) : Value) : Value), ((((v40 : Value) : Value) : Value) : Value), ((((v41 : Value) : Value) : Value) : Value), ((((v42 : Value) : Value) : Value) : Value), ((((v43 : Value) : Value) : Value) : Value), ((((v44 : Value) : Value) : Value) : Value), ((((v45 : Value) : Value) : Value) : Value), ((((v46 : Value) : Value) : Value) : Value), ((((v47 : Value) : Value) : Value) : Value), ((((v48 : Value) : Value) : Value) : Value), ((((v49 : Value) : Value) : Value) : Value), ((((v50 : Value) : Value) : Value) : Value), ((((v51 : Value) : Value) : Value) : Value)])), (q1, .inl (cC, 120, .inl g1_18))]) [0, 1] (by decide) rfl
  have hFc := va_free (wc := [(h0, .inr (10, [.int 0, .ref q1, ((((v2 : Value) : Value) : Value) : Value), ((((v3 : Value) : Value) : Value) : Value), ((((v4 : Value) : Value) : Value) : Value), ((((v5 : Value) : Value) : Value) : Value), .int (nI (((((0) + kCnt p0) + kCnt p1) + kCnt p2) + kCnt p3)), ((((v7 : Value) : Value) : Value) : Value), ((((v8 : Value) : Value) : Value) : Value), ((((v9 : Value) : Value) : Value) : Value), ((((v10 : Value) : Value) : Value) : Value), ((((v11 : Value) : Value) : Value) : Value), ((((v12 : Value) : Value) : Value) : Value), ((((v13 : Value) : Value) : Value) : Value), ((((v14 : Value) : Value) : Value) : Value), ((((v15 : Value) : Value) : Value) : Value), ((((v16 : Value) : Value) : Value) : Value), ((((v17 : Value) : Value) : Value) : Value), ((((v18 : Value) : Value) : Value) : Value), ((((v19 : Value) : Value) : Value) : Value), ((((v20 : Value) : Value) : Value) : Value), ((((v21 : Value) : Value) : Value) : Value), ((((v22 : Value) : Value) : Value) : Value), ((((v23 : Value) : Value) : Value) : Value), ((((v24 : Value) : Value) : Value) : Value), ((((v25 : Value) : Value) : Value) : Value), ((((v26 : Value) : Value) : Value) : Value), ((((v27 : Value) : Value) : Value) : Value), ((((v28 : Value) : Value) : Value) : Value), ((((v29 : Value) : Value) : Value) : Value), ((((v30 : Value) : Value) : Value) : Value), ((((v31 : Value) : Value) : Value) : Value), ((((v32 : Value) : Value) : Value) : Value), ((((v33 : Value) : Value) : Value) : Value), ((((v34 : Value) : Value) : Value) : Value), ((((v35 : Value) : Value) : Value) : Value), ((((v36 : Value) : Value) : Value) : Value), ((((v37 : Value) : Value) : Value) : Value), ((((v38 : Value) : Value) : Value) : Value), ((((v39 : Value) : Value) : Value) : Value), ((((v40 : Value) : Value) : Value) : Value), ((((v41 : Value) : Value) : Value) : Value), ((((v42 : Value) : Value) : Value) : Value), ((((v43 : Value) : Value) : Value) : Value), ((((v44 : Value) : Value) : Value) : Value), ((((v45 : Value) : Value) : Value) : Value), ((((v46 : Value) : Value) : Value) : Value), ((((v47 : Value) : Value) : Value) : Value), ((((v48 : Value) : Value) : Value) : Value), ((((v49 : Value) : Value) : Value) : Value), ((((v50 : Value) : Value) : Value) : Value), ((((v51 : Value) : Value) : Value) : Value)])), (q1, .inl (cC, 120, .inl g1_18))]) hD hS hA [0, 1] rfl
  refine va_callv (va_runV (As := [.int p4]) (rest := []) ⟨hx, hb, hml, hown, hts⟩ (c_put10 l dC dI h0 q1 cC g1_18 (.int 0 : Value) (((((v2 : Value) : Value) : Value) : Value) : Value) (((((v3 : Value) : Value) : Value) : Value) : Value) (((((v4 : Value) : Value) : Value) : Value) : Value) (((((v5 : Value) : Value) : Value) : Value) : Value) (((((v7 : Value) : Value) : Value) : Value) : Value) (((((v8 : Value) : Value) : Value) : Value) : Value) (((((v9 : Value) : Value) : Value) : Value) : Value) (((((v10 : Value) : Value) : Value) : Value) : Value) (((((v11 : Value) : Value) : Value) : Value) : Value) (((((v12 : Value) : Value) : Value) : Value) : Value) (((((v13 : Value) : Value) : Value) : Value) : Value) (((((v14 : Value) : Value) : Value) : Value) : Value) (((((v15 : Value) : Value) : Value) : Value) : Value) (((((v16 : Value) : Value) : Value) : Value) : Value) (((((v17 : Value) : Value) : Value) : Value) : Value) (((((v18 : Value) : Value) : Value) : Value) : Value) (((((v19 : Value) : Value) : Value) : Value) : Value) (((((v20 : Value) : Value) : Value) : Value) : Value) (((((v21 : Value) : Value) : Value) : Value) : Value) (((((v22 : Value) : Value) : Value) : Value) : Value) (((((v23 : Value) : Value) : Value) : Value) : Value) (((((v24 : Value) : Value) : Value) : Value) : Value) (((((v25 : Value) : Value) : Value) : Value) : Value) (((((v26 : Value) : Value) : Value) : Value) : Value) (((((v27 : Value) : Value) : Value) : Value) : Value) (((((v28 : Value) : Value) : Value) : Value) : Value) (((((v29 : Value) : Value) : Value) : Value) : Value) (((((v30 : Value) : Value) : Value) : Value) : Value) (((((v31 : Value) : Value) : Value) : Value) : Value) (((((v32 : Value) : Value) : Value) : Value) : Value) (((((v33 : Value) : Value) : Value) : Value) : Value) (((((v34 : Value) : Value) : Value) : Value) : Value) (((((v35 : Value) : Value) : Value) : Value) : Value) (((((v36 : Value) : Value) : Value) : Value) : Value) (((((v37 : Value) : Value) : Value) : Value) : Value) (((((v38 : Value) : Value) : Value) : Value) : Value) (((((v39 : Value) : Value) : Value) : Value) : Value) (((((v40 : Value) : Value) : Value) : Value) : Value) (((((v41 : Value) : Value) : Value) : Value) : Value) (((((v42 : Value) : Value) : Value) : Value) : Value) (((((v43 : Value) : Value) : Value) : Value) : Value) (((((v44 : Value) : Value) : Value) : Value) : Value) (((((v45 : Value) : Value) : Value) : Value) : Value) (((((v46 : Value) : Value) : Value) : Value) : Value) (((((v47 : Value) : Value) : Value) : Value) : Value) (((((v48 : Value) : Value) : Value) : Value) : Value) (((((v49 : Value) : Value) : Value) : Value) : Value) (((((v50 : Value) : Value) : Value) : Value) : Value) (((((v51 : Value) : Value) : Value) : Value) : Value) (nI (((((0) + kCnt p0) + kCnt p1) + kCnt p2) + kCnt p3)) (((((0) + kCnt p0) + kCnt p1) + kCnt p2) + kCnt p3) rfl (by have h1 := kCnt_le p0; have h2 := kCnt_le p1; have h3 := kCnt_le p2; have h4 := kCnt_le p3; have h5 := kCnt_le p4; omega) p4 H.size) (cwV 1 hts (kG (List.forall_mem_cons.mpr ⟨(List.mem_cons_of_mem _ (List.mem_append_left _ (List.mem_of_getElem? (i := 7) rfl))), (List.forall_mem_cons.mpr ⟨(List.mem_cons_of_mem _ (List.mem_append_left _ (List.mem_of_getElem? (i := 6) rfl))), (List.forall_mem_cons.mpr ⟨(List.mem_cons_of_mem _ (List.mem_append_left _ (List.mem_of_getElem? (i := 5) rfl))), (List.forall_mem_cons.mpr ⟨(List.mem_cons_of_mem _ (List.mem_append_left _ (List.mem_of_getElem? (i := 2) rfl))), (fun _ h => absurd h List.not_mem_nil)⟩)⟩)⟩)⟩) (by decide +kernel) (fun _ h => List.mem_cons_of_mem _ (List.mem_append_right _ (List.mem_append_right _ (List.mem_append_right _ h)))) gw_c_put10) rfl rfl rfl (by decide +kernel) ⟨(Nat.le_of_ble_eq_true rfl), (Nat.le_of_ble_eq_true rfl)⟩) (kW_V kT_blind kT_give (va_recv hKc hPc (ci := 10) (q0 := 0) rfl rfl) hPc hKc hDc) rfl rfl hl.1 rfl (lv_room (Nat.le_of_ble_eq_true rfl)) dX10_feed_67 ⟨(Nat.le_of_ble_eq_true rfl), (Nat.le_of_ble_eq_true rfl)⟩) hS (fun q _ h => hFc q h) hFc (fun u t H1 locs ht hvm hw hB hz1 hk1 hS => ?_)
  obtain ⟨g1_20, rfl⟩ : ∃ z, z = u := ⟨_, rfl⟩
  obtain ⟨hP1, hK1, hD1⟩ := hB
  rw [ht] at hP1
  try dsimp only at hw
  obtain ⟨hP, hD⟩ := va_join (wr := []) (w1 := [(h0, .inr (10, [.int 0, .ref q1, (((((v2 : Value) : Value) : Value) : Value) : Value), (((((v3 : Value) : Value) : Value) : Value) : Value), (((((v4 : Value) : Value) : Value) : Value) : Value), (((((v5 : Value) : Value) : Value) : Value) : Value), .int (nI ((((((0) + kCnt p0) + kCnt p1) + kCnt p2) + kCnt p3) + kCnt p4)), (((((v7 : Value) : Value) : Value) : Value) : Value), (((((v8 : Value) : Value) : Value) : Value) : Value), (((((v9 : Value) : Value) : Value) : Value) : Value), (((((v10 : Value) : Value) : Value) : Value) : Value), (((((v11 : Value) : Value) : Value) : Value) : Value), (((((v12 : Value) : Value) : Value) : Value) : Value), (((((v13 : Value) : Value) : Value) : Value) : Value), (((((v14 : Value) : Value) : Value) : Value) : Value), (((((v15 : Value) : Value) : Value) : Value) : Value), (((((v16 : Value) : Value) : Value) : Value) : Value), (((((v17 : Value) : Value) : Value) : Value) : Value), (((((v18 : Value) : Value) : Value) : Value) : Value), (((((v19 : Value) : Value) : Value) : Value) : Value), (((((v20 : Value) : Value) : Value) : Value) : Value), (((((v21 : Value) : Value) : Value) : Value) : Value), (((((v22 : Value) : Value) : Value) : Value) : Value), (((((v23 : Value) : Value) : Value) : Value) : Value), (((((v24 : Value) : Value) : Value) : Value) : Value), (((((v25 : Value) : Value) : Value) : Value) : Value), (((((v26 : Value) : Value) : Value) : Value) : Value), (((((v27 : Value) : Value) : Value) : Value) : Value), (((((v28 : Value) : Value) : Value) : Value) : Value), (((((v29 : Value) : Value) : Value) : Value) : Value), (((((v30 : Value) : Value) : Value) : Value) : Value), (((((v31 : Value) : Value) : Value) : Value) : Value), (((((v32 : Value) : Value) : Value) : Value) : Value), (((((v33 : Value) : Value) : Value) : Value) : Value), (((((v34 : Value) : Value) : Value) : Value) : Value), (((((v35 : Value) : Value) : Value) : Value) : Value), (((((v36 : Value) : Value) : Value) : Value) : Value), (((((v37 : Value) : Value) : Value) : Value) : Value), (((((v38 : Value) : Value) : Value) : Value) : Value), (((((v39 : Value) : Value) : Value) : Value) : Value), (((((v40 : Value) : Value) : Value) : Value) : Value), (((((v41 : Value) : Value) : Value) : Value) : Value), (((((v42 : Value) : Value) : Value) : Value) : Value), (((((v43 : Value) : Value) : Value) : Value) : Value), (((((v44 : Value) : Value) : Value) : Value) : Value), (((((v45 : Value) : Value) : Value) : Value) : Value), (((((v46 : Value) : Value) : Value) : Value) : Value), (((((v47 : Value) : Value) : Value) : Value) : Value), (((((v48 : Value) : Value) : Value) : Value) : Value), (((((v49 : Value) : Value) : Value) : Value) : Value), (((((v50 : Value) : Value) : Value) : Value) : Value), (((((v51 : Value) : Value) : Value) : Value) : Value)])), (q1, .inl (cC, 120, .inl g1_20))]) hP hD [0, 1] [] rfl rfl (by decide) (by decide) hk1 hFc hP1 hD1
  generalize H1 = H at hP hS ⊢
  have hP : va_P (dC, dI) vwCl [(h0, .inr (10, [.int 0, .ref q1, (((((v2 : Value) : Value) : Value) : Value) : Value), (((((v3 : Value) : Value) : Value) : Value) : Value), (((((v4 : Value) : Value) : Value) : Value) : Value), (((((v5 : Value) : Value) : Value) : Value) : Value), .int (nI ((((((0) + kCnt p0) + kCnt p1) + kCnt p2) + kCnt p3) + kCnt p4)), (((((v7 : Value) : Value) : Value) : Value) : Value), (((((v8 : Value) : Value) : Value) : Value) : Value), (((((v9 : Value) : Value) : Value) : Value) : Value), (((((v10 : Value) : Value) : Value) : Value) : Value), (((((v11 : Value) : Value) : Value) : Value) : Value), (((((v12 : Value) : Value) : Value) : Value) : Value), (((((v13 : Value) : Value) : Value) : Value) : Value), (((((v14 : Value) : Value) : Value) : Value) : Value), (((((v15 : Value) : Value) : Value) : Value) : Value), (((((v16 : Value) : Value) : Value) : Value) : Value), (((((v17 : Value) : Value) : Value) : Value) : Value), (((((v18 : Value) : Value) : Value) : Value) : Value), (((((v19 : Value) : Value) : Value) : Value) : Value), (((((v20 : Value) : Value) : Value) : Value) : Value), (((((v21 : Value) : Value) : Value) : Value) : Value), (((((v22 : Value) : Value) : Value) : Value) : Value), (((((v23 : Value) : Value) : Value) : Value) : Value), (((((v24 : Value) : Value) : Value) : Value) : Value), (((((v25 : Value) : Value) : Value) : Value) : Value), (((((v26 : Value) : Value) : Value) : Value) : Value), (((((v27 : Value) : Value) : Value) : Value) : Value), (((((v28 : Value) : Value) : Value) : Value) : Value), (((((v29 : Value) : Value) : Value) : Value) : Value), (((((v30 : Value) : Value) : Value) : Value) : Value), (((((v31 : Value) : Value) : Value) : Value) : Value), (((((v32 : Value) : Value) : Value) : Value) : Value), (((((v33 : Value) : Value) : Value) : Value) : Value), (((((v34 : Value) : Value) : Value) : Value) : Value), (((((v35 : Value) : Value) : Value) : Value) : Value), (((((v36 : Value) : Value) : Value) : Value) : Value), (((((v37 : Value) : Value) : Value) : Value) : Value), (((((v38 : Value) : Value) : Value) : Value) : Value), (((((v39 : Value) : Value) : Value) : Value) : Value), (((((v40 : Value) : Value) : Value) : Value) : Value), (((((v41 : Value) : Value) : Value) : Value) : Value), (((((v42 : Value) : Value) : Value) : Value) : Value), (((((v43 : Value) : Value) : Value) : Value) : Value), (((((v44 : Value) : Value) : Value) : Value) : Value), (((((v45 : Value) : Value) : Value) : Value) : Value), (((((v46 : Value) : Value) : Value) : Value) : Value), (((((v47 : Value) : Value) : Value) : Value) : Value), (((((v48 : Value) : Value) : Value) : Value) : Value), (((((v49 : Value) : Value) : Value) : Value) : Value), (((((v50 : Value) : Value) : Value) : Value) : Value), (((((v51 : Value) : Value) : Value) : Value) : Value)])), (q1, .inl (cC, 120, .inl g1_20))] H := hP
  have hD : va_D A [(h0, .inr (10, [.int 0, .ref q1, (((((v2 : Value) : Value) : Value) : Value) : Value), (((((v3 : Value) : Value) : Value) : Value) : Value), (((((v4 : Value) : Value) : Value) : Value) : Value), (((((v5 : Value) : Value) : Value) : Value) : Value), .int (nI ((((((0) + kCnt p0) + kCnt p1) + kCnt p2) + kCnt p3) + kCnt p4)), (((((v7 : Value) : Value) : Value) : Value) : Value), (((((v8 : Value) : Value) : Value) : Value) : Value), (((((v9 : Value) : Value) : Value) : Value) : Value), (((((v10 : Value) : Value) : Value) : Value) : Value), (((((v11 : Value) : Value) : Value) : Value) : Value), (((((v12 : Value) : Value) : Value) : Value) : Value), (((((v13 : Value) : Value) : Value) : Value) : Value), (((((v14 : Value) : Value) : Value) : Value) : Value), (((((v15 : Value) : Value) : Value) : Value) : Value), (((((v16 : Value) : Value) : Value) : Value) : Value), (((((v17 : Value) : Value) : Value) : Value) : Value), (((((v18 : Value) : Value) : Value) : Value) : Value), (((((v19 : Value) : Value) : Value) : Value) : Value), (((((v20 : Value) : Value) : Value) : Value) : Value), (((((v21 : Value) : Value) : Value) : Value) : Value), (((((v22 : Value) : Value) : Value) : Value) : Value), (((((v23 : Value) : Value) : Value) : Value) : Value), (((((v24 : Value) : Value) : Value) : Value) : Value), (((((v25 : Value) : Value) : Value) : Value) : Value), (((((v26 : Value) : Value) : Value) : Value) : Value), (((((v27 : Value) : Value) : Value) : Value) : Value), (((((v28 : Value) : Value) : Value) : Value) : Value), (((((v29 : Value) : Value) : Value) : Value) : Value), (((((v30 : Value) : Value) : Value) : Value) : Value), (((((v31 : Value) : Value) : Value) : Value) : Value), (((((v32 : Value) : Value) : Value) : Value) : Value), (((((v33 : Value) : Value) : Value) : Value) : Value), (((((v34 : Value) : Value) : Value) : Value) : Value), (((((v35 : Value) : Value) : Value) : Value) : Value), (((((v36 : Value) : Value) : Value) : Value) : Value), (((((v37 : Value) : Value) : Value) : Value) : Value), (((((v38 : Value) : Value) : Value) : Value) : Value), (((((v39 : Value) : Value) : Value) : Value) : Value), (((((v40 : Value) : Value) : Value) : Value) : Value), (((((v41 : Value) : Value) : Value) : Value) : Value), (((((v42 : Value) : Value) : Value) : Value) : Value), (((((v43 : Value) : Value) : Value) : Value) : Value), (((((v44 : Value) : Value) : Value) : Value) : Value), (((((v45 : Value) : Value) : Value) : Value) : Value), (((((v46 : Value) : Value) : Value) : Value) : Value), (((((v47 : Value) : Value) : Value) : Value) : Value), (((((v48 : Value) : Value) : Value) : Value) : Value), (((((v49 : Value) : Value) : Value) : Value) : Value), (((((v50 : Value) : Value) : Value) : Value) : Value), (((((v51 : Value) : Value) : Value) : Value) : Value)])), (q1, .inl (cC, 120, .inl g1_20))] := hD
  refine lv_aload_n hx hb dX10_feed_70 rfl (lv_at hl 0 rfl) ?_
  refine va_get (D := (dC, dI)) (ci := 10) (v := .int (nI ((((((0) + kCnt p0) + kCnt p1) + kCnt p2) + kCnt p3) + kCnt p4))) (C := RX10) (T := TX10) (N := 52) hx hb hts (fun _ h => List.mem_cons_of_mem _ (List.mem_append_right _ (List.mem_append_left _ h))) hown hK hP 0 rfl rfl 6 (by decide) (hts (.fieldLink RX10 131 "NotEndedModel" "length" "I") (List.mem_cons_of_mem _ (List.mem_append_left _ (List.mem_of_getElem? (i := 1) rfl)))) (fun _ h9 => h9) rfl dX10_feed_71 ?_
  exact W.iret (v := nI ((((((0) + kCnt p0) + kCnt p1) + kCnt p2) + kCnt p3) + kCnt p4)) hx hb hr (fun t ht hW => ⟨⟨nI ((((((0) + kCnt p0) + kCnt p1) + kCnt p2) + kCnt p3) + kCnt p4), (), rfl, (by simp [kFeed]), trivial⟩, hS.F ht⟩) hS.2.2 dX10_feed_74
