theorem dX8_cutTo_0 : decode cX8_cutTo 0 = .ok (.aload_n 0, 1) := by decide +kernel
theorem dX8_cutTo_1 : decode cX8_cutTo 1 = .ok (.iload_n 1, 1) := by decide +kernel
theorem dX8_cutTo_2 : decode cX8_cutTo 2 = .ok (.iconst 0, 1) := by decide +kernel
theorem dX8_cutTo_3 : decode cX8_cutTo 3 = .ok (.aload_n 0, 1) := by decide +kernel
theorem dX8_cutTo_4 : decode cX8_cutTo 4 = .ok (.getfield 15, 3) := by decide +kernel
theorem dX8_cutTo_7 : decode cX8_cutTo 7 = .ok (.invokestatic 19, 3) := by decide +kernel
theorem dX8_cutTo_10 : decode cX8_cutTo 10 = .ok (.putfield 15, 3) := by decide +kernel
theorem dX8_cutTo_13 : decode cX8_cutTo 13 = .ok (.return_, 1) := by decide +kernel
def w_c_cutTo8 : List Cond := .code yX8_cutTo cX8_cutTo 2 none :: ([.fieldLink RX8 15 "NotEnded$Tape" "length" "I", .initialized RX9, .static yX9_within] ++ (wsX80 ++ (w_c_within9)))
theorem gw_c_cutTo8 : (w_c_cutTo8).all goodWord = true := by decide +kernel
set_option maxHeartbeats 4000000 in
set_option maxRecDepth 100000 in
theorem c_cutTo8 (l : Launch) (dC : Nat → ClassId) (dI : Nat → Nat → Nat) (h0 : Nat) (v0 : Value) (n : Int32) (p0 : Int32) (sz : Nat) : Met l yX8_cutTo w_c_cutTo8 ({ frames := 2, cells := 0, slots := 0, locals := 120 }) (kW dC dI [.ref h0, .int p0] [(h0, .inr (8, [v0, .int n]))] [] kN19 sz) (va_Qv (fun (_ : Unit) => True) (fun _ _ => True) (va_A [(h0, .inr (8, [v0, .int n]))] sz)) 0 0 (va_A [(h0, .inr (8, [v0, .int n]))] sz) := by
  refine Met.ofW (cc := cX8_cutTo) (maxL := 2) (ret := none) (by decide) rfl ?_
  intro p e s m args below meth c s₁ B hml hv
  obtain ⟨rfl, hsz, hP, hK, hD0, hX⟩ := hv
  have hx := B.exec
  have hb := B.bytes
  have hr := B.returns
  have hts := atoms_spec (ws := w_c_cutTo8) B.pre
  have hown : s.vm.findClass RX8 = some m.cls := findClass_of_methodNamed B.named
  have hlocks := B.notSynchronized
  subst hsz
  have hD := hD0.self (sz := s.heap.size)
  generalize hAe : va_A [(h0, .inr (8, [v0, .int n]))] s.heap.size = A at hD ⊢
  have hA : ∀ q : Nat, s.heap.size ≤ q → A q := fun q h => by rw [← hAe]; exact Or.inr h
  have hS : va_S A s.heap s.heap [] := va_S.rf
  have hP : va_P (dC, dI) vwCl [(h0, .inr (8, [v0, .int n]))] s.heap := hP
  have hl := lv_entry ([.ref h0, .int p0]) (n := 2) (Nat.le_of_ble_eq_true rfl)
  rw [lg_entry_eq]
  generalize (lg_sl ([.ref h0, .int p0]) ++ List.replicate (2 - (lg_sl ([.ref h0, .int p0])).length) Slot.unset).toArray = ls at hl ⊢
  have hl : lv_has ls 2 [(0, .ref h0), (1, .int p0)] := hl
  refine lv_aload_n hx hb dX8_cutTo_0 rfl (lv_at hl 0 rfl) ?_
  refine lv_iload_n hx hb dX8_cutTo_1 rfl (lv_at hl 1 rfl) ?_
  refine lv_iconst (v := 0) hx hb dX8_cutTo_2 (by decide) ?_
  refine lv_aload_n hx hb dX8_cutTo_3 rfl (lv_at hl 0 rfl) ?_
  refine va_get (D := (dC, dI)) (ci := 8) (v := .int n) (C := RX8) (T := TX8) (N := 2) hx hb hts (fun _ h => List.mem_cons_of_mem _ (List.mem_append_right _ (List.mem_append_left _ h))) hown hK hP 0 rfl rfl 1 (by decide) (hts (.fieldLink RX8 15 "NotEnded$Tape" "length" "I") (List.mem_cons_of_mem _ (List.mem_append_left _ (List.mem_of_getElem? (i := 0) rfl)))) (fun _ h9 => h9) rfl dX8_cutTo_4 ?_
  have hPc := hP.sub (ws' := []) [] rfl
  have hKc := hK.sub (tys' := []) [] rfl
  refine vp_callSi (va_runSN (As := [.int p0, .int 0, .int n]) (rest := [.ref h0]) ⟨hx, hb, hml, hown, hts⟩ (c_within9 l dC dI p0 0 n) (⟨va_cnB 3 hts (goodIn_sub (fun _ h => List.mem_cons_of_mem _ (List.mem_append_right _ (List.mem_append_right _ h))) gw_c_within9) rfl rfl rfl hX (hts (.initialized RX9) (List.mem_cons_of_mem _ (List.mem_append_left _ (List.mem_of_getElem? (i := 1) rfl)))) (by decide +kernel) ⟨(Nat.le_of_ble_eq_true rfl), (Nat.le_of_ble_eq_true rfl)⟩, (hts (.static yX9_within) (List.mem_cons_of_mem _ (List.mem_append_left _ (List.mem_of_getElem? (i := 2) rfl)))), trivial⟩) (kR_S kT_blind kT_give hPc hKc) rfl rfl hl.1 rfl (lv_room (Nat.le_of_ble_eq_true rfl)) dX8_cutTo_7 ⟨(Nat.le_of_ble_eq_true rfl), (Nat.le_of_ble_eq_true rfl)⟩).run (fun r_1 hw => ?_)
  refine va_put (D := (dC, dI)) (ci := 8) (v := .int r_1) (ty := tyX8 1) (C := RX8) (T := TX8) (N := 2) hx hb hts (fun _ h => List.mem_cons_of_mem _ (List.mem_append_right _ (List.mem_append_left _ h))) tyX8 tyX8_ok nmX8 hown hK hP hD hS 0 rfl rfl 1 (by decide) (hts (.fieldLink RX8 15 "NotEnded$Tape" "length" "I") (List.mem_cons_of_mem _ (List.mem_append_left _ (List.mem_of_getElem? (i := 0) rfl)))) (fun _ h9 => h9) rfl (tyX8_ok 1 (by decide)) rfl rfl (Nat.le_of_ble_eq_true rfl) dX8_cutTo_10 (fun H locs hP hD hS => ?_)
  have hP : va_P (dC, dI) vwCl [(h0, .inr (8, [v0, .int r_1]))] H := hP
  have hD : va_D A [(h0, .inr (8, [v0, .int r_1]))] := hD
  exact W.vret hx hb hr (fun t ht hW => ⟨⟨(), rfl, trivial, trivial⟩, hS.F ht⟩) hS.2.2 dX8_cutTo_13

theorem dX9_end_0 : decode cX9_end 0 = .ok (.iload_n 1, 1) := by decide +kernel
theorem dX9_end_1 : decode cX9_end 1 = .ok (.ifCond .lt 14, 3) := by decide +kernel
theorem dX9_end_15 : decode cX9_end 15 = .ok (.iconst 0, 1) := by decide +kernel
theorem dX9_end_16 : decode cX9_end 16 = .ok (.ireturn, 1) := by decide +kernel
theorem dX9_end_4 : decode cX9_end 4 = .ok (.iload_n 1, 1) := by decide +kernel
theorem dX9_end_5 : decode cX9_end 5 = .ok (.aload_n 0, 1) := by decide +kernel
theorem dX9_end_6 : decode cX9_end 6 = .ok (.getfield 12, 3) := by decide +kernel
theorem dX9_end_9 : decode cX9_end 9 = .ok (.invokevirtual 88, 3) := by decide +kernel
theorem dX9_end_12 : decode cX9_end 12 = .ok (.if_icmp .le 5, 3) := by decide +kernel
theorem dX9_end_17 : decode cX9_end 17 = .ok (.aload_n 0, 1) := by decide +kernel
theorem dX9_end_18 : decode cX9_end 18 = .ok (.getfield 12, 3) := by decide +kernel
theorem dX9_end_21 : decode cX9_end 21 = .ok (.iload_n 1, 1) := by decide +kernel
theorem dX9_end_22 : decode cX9_end 22 = .ok (.invokevirtual 95, 3) := by decide +kernel
theorem dX9_end_25 : decode cX9_end 25 = .ok (.iconst 1, 1) := by decide +kernel
theorem dX9_end_26 : decode cX9_end 26 = .ok (.ireturn, 1) := by decide +kernel
def w_c_end9 : List Cond := .code yX9_end cX9_end 2 (some .boolean) :: ([.fieldLink RX9 12 "NotEnded" "tape" "LNotEnded$Tape;", .initialized RX8, .selects RX8 yX8_length yX8_length, .instanceMethod yX8_length, .methodLink RX9 88 yX8_length, .selects RX8 yX8_cutTo yX8_cutTo, .instanceMethod yX8_cutTo, .methodLink RX9 95 yX8_cutTo] ++ (wsX90 ++ (w_c_length8 ++ (w_c_cutTo8))))
theorem gw_c_end9 : (w_c_end9).all goodWord = true := by decide +kernel
set_option maxHeartbeats 4000000 in
set_option maxRecDepth 100000 in
theorem c_end9 (l : Launch) (dC : Nat → ClassId) (dI : Nat → Nat → Nat) (h0 : Nat) (hT : Nat) (v1 : Value) (v2 : Value) (v3 : Value) (v4 : Value) (v5 : Value) (v6 : Value) (v7 : Value) (v8 : Value) (v9 : Value) (t0 : Value) (p0 : Int32) (sz : Nat) : Met l yX9_end w_c_end9 ({ frames := 3, cells := 0, slots := 0, locals := 180 }) (kW dC dI [.ref h0, .int p0] [(h0, .inr (9, [.ref hT, v1, v2, v3, v4, v5, v6, v7, v8, v9])), (hT, .inr (8, [t0, .int 0]))] [] kN19 sz) (va_Qi (fun (r : Int32) (_ : Unit) => r = kEnd p0) (fun _ _ => True) (va_A [(h0, .inr (9, [.ref hT, v1, v2, v3, v4, v5, v6, v7, v8, v9])), (hT, .inr (8, [t0, .int 0]))] sz)) 0 0 (va_A [(h0, .inr (9, [.ref hT, v1, v2, v3, v4, v5, v6, v7, v8, v9])), (hT, .inr (8, [t0, .int 0]))] sz) := by
  refine Met.ofW (cc := cX9_end) (maxL := 2) (ret := (some .boolean)) (by decide) rfl ?_
  intro p e s m args below meth c s₁ B hml hv
  obtain ⟨rfl, hsz, hP, hK, hD0, hX⟩ := hv
  have hx := B.exec
  have hb := B.bytes
  have hr := B.returns
  have hts := atoms_spec (ws := w_c_end9) B.pre
  have hown : s.vm.findClass RX9 = some m.cls := findClass_of_methodNamed B.named
  have hlocks := B.notSynchronized
  subst hsz
  have hD := hD0.self (sz := s.heap.size)
  generalize hAe : va_A [(h0, .inr (9, [.ref hT, v1, v2, v3, v4, v5, v6, v7, v8, v9])), (hT, .inr (8, [t0, .int 0]))] s.heap.size = A at hD ⊢
  have hA : ∀ q : Nat, s.heap.size ≤ q → A q := fun q h => by rw [← hAe]; exact Or.inr h
  have hS : va_S A s.heap s.heap [] := va_S.rf
  have hP : va_P (dC, dI) vwCl [(h0, .inr (9, [.ref hT, v1, v2, v3, v4, v5, v6, v7, v8, v9])), (hT, .inr (8, [t0, .int 0]))] s.heap := hP
  have hl := lv_entry ([.ref h0, .int p0]) (n := 2) (Nat.le_of_ble_eq_true rfl)
  rw [lg_entry_eq]
  generalize (lg_sl ([.ref h0, .int p0]) ++ List.replicate (2 - (lg_sl ([.ref h0, .int p0])).length) Slot.unset).toArray = ls at hl ⊢
  have hl : lv_has ls 2 [(0, .ref h0), (1, .int p0)] := hl
  refine lv_iload_n hx hb dX9_end_0 rfl (lv_at hl 1 rfl) ?_
  refine lv_if_lt (tgt := 15) hx hb dX9_end_1 (by decide) (fun c_1 => ?_) (fun c_1 => ?_)
  · refine lv_iconst (v := 0) hx hb dX9_end_15 (by decide) ?_
    exact W.zret (v := 0) hx hb hr rfl (fun t ht hW => ⟨⟨0, (), rfl, (by simp [kEnd, c_1]), trivial⟩, hS.F ht⟩) hS.2.2 dX9_end_16
  · refine lv_iload_n hx hb dX9_end_4 rfl (lv_at hl 1 rfl) ?_
    refine lv_aload_n hx hb dX9_end_5 rfl (lv_at hl 0 rfl) ?_
    refine va_get (D := (dC, dI)) (ci := 9) (v := .ref hT) (C := RX9) (T := TX9) (N := 10) hx hb hts (fun _ h => List.mem_cons_of_mem _ (List.mem_append_right _ (List.mem_append_left _ h))) hown hK hP 0 rfl rfl 0 (by decide) (hts (.fieldLink RX9 12 "NotEnded" "tape" "LNotEnded$Tape;") (List.mem_cons_of_mem _ (List.mem_append_left _ (List.mem_of_getElem? (i := 0) rfl)))) (fun _ h9 => h9) rfl dX9_end_6 ?_
    have hPc := hP.sub (ws' := [(hT, .inr (8, [t0, .int 0]))]) [1] rfl
    have hKc := hK.sub (tys' := []) [] rfl
    refine vp_callSi (va_runV (As := []) (rest := [.int p0]) ⟨hx, hb, hml, hown, hts⟩ (c_length8 l dC dI hT (t0 : Value) 0) (cwV 0 hts (kG (List.forall_mem_cons.mpr ⟨(List.mem_cons_of_mem _ (List.mem_append_left _ (List.mem_of_getElem? (i := 4) rfl))), (List.forall_mem_cons.mpr ⟨(List.mem_cons_of_mem _ (List.mem_append_left _ (List.mem_of_getElem? (i := 3) rfl))), (List.forall_mem_cons.mpr ⟨(List.mem_cons_of_mem _ (List.mem_append_left _ (List.mem_of_getElem? (i := 2) rfl))), (List.forall_mem_cons.mpr ⟨(List.mem_cons_of_mem _ (List.mem_append_left _ (List.mem_of_getElem? (i := 1) rfl))), (fun _ h => absurd h List.not_mem_nil)⟩)⟩)⟩)⟩) (by decide +kernel) (fun _ h => List.mem_cons_of_mem _ (List.mem_append_right _ (List.mem_append_right _ (List.mem_append_left _ h)))) gw_c_length8) rfl rfl rfl (by decide +kernel) ⟨(Nat.le_of_ble_eq_true rfl), (Nat.le_of_ble_eq_true rfl)⟩) (kR_V kT_blind kT_give (va_recv hKc hPc (ci := 8) (q0 := 0) rfl rfl) hPc hKc) rfl rfl hl.1 rfl (lv_room (Nat.le_of_ble_eq_true rfl)) dX9_end_9 ⟨(Nat.le_of_ble_eq_true rfl), (Nat.le_of_ble_eq_true rfl)⟩).run (fun r_2 hw => ?_)
    obtain rfl : r_2 = 0 := hw
    refine lv_icmp_le (tgt := 17) hx hb dX9_end_12 (by decide) (fun c_3 => ?_) (fun c_3 => ?_)
    · refine lv_aload_n hx hb dX9_end_17 rfl (lv_at hl 0 rfl) ?_
      refine va_get (D := (dC, dI)) (ci := 9) (v := .ref hT) (C := RX9) (T := TX9) (N := 10) hx hb hts (fun _ h => List.mem_cons_of_mem _ (List.mem_append_right _ (List.mem_append_left _ h))) hown hK hP 0 rfl rfl 0 (by decide) (hts (.fieldLink RX9 12 "NotEnded" "tape" "LNotEnded$Tape;") (List.mem_cons_of_mem _ (List.mem_append_left _ (List.mem_of_getElem? (i := 0) rfl)))) (fun _ h9 => h9) rfl dX9_end_18 ?_
      refine lv_iload_n hx hb dX9_end_21 rfl (lv_at hl 1 rfl) ?_
      have hPc := hP.sub (ws' := [(hT, .inr (8, [t0, .int 0]))]) [1] rfl
      have hKc := hK.sub (tys' := []) [] rfl
      have hDc := hD.sub (ws' := [(hT, .inr (8, [t0, .int 0]))]) [1] (by decide) rfl
      have hFc := va_free (wc := [(hT, .inr (8, [t0, .int 0]))]) hD hS hA [1] rfl
      refine va_callv (va_runV (As := [.int p0]) (rest := []) ⟨hx, hb, hml, hown, hts⟩ (c_cutTo8 l dC dI hT (t0 : Value) 0 p0 s.heap.size) (cwV 1 hts (kG (List.forall_mem_cons.mpr ⟨(List.mem_cons_of_mem _ (List.mem_append_left _ (List.mem_of_getElem? (i := 7) rfl))), (List.forall_mem_cons.mpr ⟨(List.mem_cons_of_mem _ (List.mem_append_left _ (List.mem_of_getElem? (i := 6) rfl))), (List.forall_mem_cons.mpr ⟨(List.mem_cons_of_mem _ (List.mem_append_left _ (List.mem_of_getElem? (i := 5) rfl))), (List.forall_mem_cons.mpr ⟨(List.mem_cons_of_mem _ (List.mem_append_left _ (List.mem_of_getElem? (i := 1) rfl))), (fun _ h => absurd h List.not_mem_nil)⟩)⟩)⟩)⟩) (by decide +kernel) (fun _ h => List.mem_cons_of_mem _ (List.mem_append_right _ (List.mem_append_right _ (List.mem_append_right _ h)))) gw_c_cutTo8) rfl rfl rfl (by decide +kernel) ⟨(Nat.le_of_ble_eq_true rfl), (Nat.le_of_ble_eq_true rfl)⟩) (kW_V kN19_blind (kN19_give hX) (va_recv hKc hPc (ci := 8) (q0 := 0) rfl rfl) hPc hKc hDc) rfl rfl hl.1 rfl (lv_room (Nat.le_of_ble_eq_true rfl)) dX9_end_22 ⟨(Nat.le_of_ble_eq_true rfl), (Nat.le_of_ble_eq_true rfl)⟩) hS (fun q _ h => hFc q h) hFc (fun u t H1 locs ht hvm hw hB hz1 hk1 hS => ?_)
      have hP1 : va_P (dC, dI) vwCl [] H1 := fun k q h => by simp at h
      have hD1 : va_D (va_A [(hT, .inr (8, [t0, .int 0]))] s.heap.size) [] := ⟨fun i j p q h => by simp at h, fun k q h => by simp at h⟩
      try dsimp only at hw
      obtain ⟨hP, hD⟩ := va_join (wr := [(h0, .inr (9, [.ref hT, v1, v2, v3, v4, v5, v6, v7, v8, v9]))]) (w1 := []) hP hD [1] [0] rfl rfl (by decide) (by decide) hk1 hFc hP1 hD1
      generalize H1 = H at hP hS ⊢
      have hP : va_P (dC, dI) vwCl [(h0, .inr (9, [.ref hT, v1, v2, v3, v4, v5, v6, v7, v8, v9]))] H := hP
      have hD : va_D A [(h0, .inr (9, [.ref hT, v1, v2, v3, v4, v5, v6, v7, v8, v9]))] := hD
      refine lv_iconst (v := 1) hx hb dX9_end_25 (by decide) ?_
      exact W.zret (v := 1) hx hb hr rfl (fun t ht hW => ⟨⟨1, (), rfl, (by simp [kEnd, c_1, c_3]), trivial⟩, hS.F ht⟩) hS.2.2 dX9_end_26
    · refine lv_iconst (v := 0) hx hb dX9_end_15 (by decide) ?_
      exact W.zret (v := 0) hx hb hr rfl (fun t ht hW => ⟨⟨0, (), rfl, (by simp [kEnd, c_1, c_3]), trivial⟩, hS.F ht⟩) hS.2.2 dX9_end_16

theorem dX8_append_0 : decode cX8_append 0 = .ok (.bipush 24, 2) := by decide +kernel
theorem dX8_append_2 : decode cX8_append 2 = .ok (.istore_n 2, 1) := by decide +kernel
theorem dX8_append_3 : decode cX8_append 3 = .ok (.iload_n 2, 1) := by decide +kernel
theorem dX8_append_4 : decode cX8_append 4 = .ok (.ifCond .lt 54, 3) := by decide +kernel
theorem dX8_append_7 : decode cX8_append 7 = .ok (.iload_n 1, 1) := by decide +kernel
theorem dX8_append_8 : decode cX8_append 8 = .ok (.iload_n 2, 1) := by decide +kernel
theorem dX8_append_9 : decode cX8_append 9 = .ok (.iushr, 1) := by decide +kernel
theorem dX8_append_10 : decode cX8_append 10 = .ok (.sipush 255, 3) := by decide +kernel
theorem dX8_append_13 : decode cX8_append 13 = .ok (.iand, 1) := by decide +kernel
theorem dX8_append_14 : decode cX8_append 14 = .ok (.istore_n 3, 1) := by decide +kernel
theorem dX8_append_15 : decode cX8_append 15 = .ok (.iload_n 3, 1) := by decide +kernel
theorem dX8_append_16 : decode cX8_append 16 = .ok (.ifCond .eq 36, 3) := by decide +kernel
theorem dX8_append_52 : decode cX8_append 52 = .ok (.iinc 2 (-8), 3) := by decide +kernel
theorem dX8_append_55 : decode cX8_append 55 = .ok (.goto (-52), 3) := by decide +kernel
theorem dX8_append_58 : decode cX8_append 58 = .ok (.return_, 1) := by decide +kernel
theorem dX8_append_19 : decode cX8_append 19 = .ok (.aload_n 0, 1) := by decide +kernel
theorem dX8_append_20 : decode cX8_append 20 = .ok (.getfield 15, 3) := by decide +kernel
theorem dX8_append_23 : decode cX8_append 23 = .ok (.aload_n 0, 1) := by decide +kernel
theorem dX8_append_24 : decode cX8_append 24 = .ok (.getfield 9, 3) := by decide +kernel
theorem dX8_append_27 : decode cX8_append 27 = .ok (.arraylength, 1) := by decide +kernel
theorem dX8_append_28 : decode cX8_append 28 = .ok (.if_icmp .ge 24, 3) := by decide +kernel
theorem dX8_append_31 : decode cX8_append 31 = .ok (.aload_n 0, 1) := by decide +kernel
theorem dX8_append_32 : decode cX8_append 32 = .ok (.getfield 9, 3) := by decide +kernel
theorem dX8_append_35 : decode cX8_append 35 = .ok (.aload_n 0, 1) := by decide +kernel
theorem dX8_append_36 : decode cX8_append 36 = .ok (.getfield 15, 3) := by decide +kernel
theorem dX8_append_39 : decode cX8_append 39 = .ok (.iload_n 3, 1) := by decide +kernel
theorem dX8_append_40 : decode cX8_append 40 = .ok (.i2c, 1) := by decide +kernel
theorem dX8_append_41 : decode cX8_append 41 = .ok (.castore, 1) := by decide +kernel
theorem dX8_append_42 : decode cX8_append 42 = .ok (.aload_n 0, 1) := by decide +kernel
theorem dX8_append_43 : decode cX8_append 43 = .ok (.dup, 1) := by decide +kernel
theorem dX8_append_44 : decode cX8_append 44 = .ok (.getfield 15, 3) := by decide +kernel
theorem dX8_append_47 : decode cX8_append 47 = .ok (.iconst 1, 1) := by decide +kernel
theorem dX8_append_48 : decode cX8_append 48 = .ok (.iadd, 1) := by decide +kernel
theorem dX8_append_49 : decode cX8_append 49 = .ok (.putfield 15, 3) := by decide +kernel
def w_c_append8 : List Cond := .code yX8_append cX8_append 4 none :: ([.fieldLink RX8 15 "NotEnded$Tape" "length" "I", .fieldLink RX8 9 "NotEnded$Tape" "signs" "[C"] ++ (wsX80))
theorem gw_c_append8 : (w_c_append8).all goodWord = true := by decide +kernel
set_option maxHeartbeats 4000000 in
set_option maxRecDepth 100000 in
theorem c_append8 (l : Launch) (dC : Nat → ClassId) (dI : Nat → Nat → Nat) (h0 : Nat) (q0 : Nat) (cC : ClassId) (g : Nat → Int32) (n : Int32) (k : Nat) (en : n = nI k) (hk : k ≤ 100) (p0 : Int32) (sz : Nat) : Met l yX8_append w_c_append8 ({ frames := 1, cells := 0, slots := 0, locals := 60 }) (kW dC dI [.ref h0, .int p0] [(h0, .inr (8, [.ref q0, .int n])), (q0, .inl (cC, 120, .inl g))] [(cC, .char)] kT sz) (va_Qv (fun (g1 : Nat → Int32) => True) (fun (g1 : Nat → Int32) => fun t : State => kB dC dI [(h0, .inr (8, [.ref q0, .int (nI (k + kCnt p0))])), (q0, .inl (cC, 120, .inl g1))] [(cC, .char)] (va_A [(h0, .inr (8, [.ref q0, .int n])), (q0, .inl (cC, 120, .inl g))] sz) t) (va_A [(h0, .inr (8, [.ref q0, .int n])), (q0, .inl (cC, 120, .inl g))] sz)) 0 0 (va_A [(h0, .inr (8, [.ref q0, .int n])), (q0, .inl (cC, 120, .inl g))] sz) := by
  refine Met.ofW (cc := cX8_append) (maxL := 4) (ret := none) (by decide) rfl ?_
  intro p e s m args below meth c s₁ B hml hv
  obtain ⟨rfl, hsz, hP, hK, hD0, hX⟩ := hv
  have hx := B.exec
  have hb := B.bytes
  have hr := B.returns
  have hts := atoms_spec (ws := w_c_append8) B.pre
  have hown : s.vm.findClass RX8 = some m.cls := findClass_of_methodNamed B.named
  have hlocks := B.notSynchronized
  subst hsz
  have hD := hD0.self (sz := s.heap.size)
  generalize hAe : va_A [(h0, .inr (8, [.ref q0, .int n])), (q0, .inl (cC, 120, .inl g))] s.heap.size = A at hD ⊢
  have hA : ∀ q : Nat, s.heap.size ≤ q → A q := fun q h => by rw [← hAe]; exact Or.inr h
  have hS : va_S A s.heap s.heap [] := va_S.rf
  have hP : va_P (dC, dI) vwCl [(h0, .inr (8, [.ref q0, .int n])), (q0, .inl (cC, 120, .inl g))] s.heap := hP
  have hl := lv_entry ([.ref h0, .int p0]) (n := 4) (Nat.le_of_ble_eq_true rfl)
  rw [lg_entry_eq]
  generalize (lg_sl ([.ref h0, .int p0]) ++ List.replicate (4 - (lg_sl ([.ref h0, .int p0])).length) Slot.unset).toArray = ls at hl ⊢
  have hl : lv_has ls 4 [(0, .ref h0), (1, .int p0)] := hl
  subst en
  refine lv_bipush (v := 24) hx hb dX8_append_0 (by decide) ?_
  refine lv_istore_n (lv' := [(2, .int 24), (0, .ref h0), (1, .int p0)]) hx hb dX8_append_2 rfl hl (by decide) rfl (fun ls hl => ?_)
  refine lv_iload_n hx hb dX8_append_3 rfl (lv_at hl 0 rfl) ?_
  refine lv_if_lt (tgt := 58) hx hb dX8_append_4 (by decide) (fun c_1 => absurd c_1 (by decide)) (fun c_1 => ?_)
  refine lv_iload_n hx hb dX8_append_7 rfl (lv_at hl 2 rfl) ?_
  refine lv_iload_n hx hb dX8_append_8 rfl (lv_at hl 0 rfl) ?_
  obtain ⟨x_2, ex_2⟩ : ∃ z : Int32, z = (Int32.toUInt32 p0 >>> (Int32.toUInt32 24 &&& Int32.toUInt32 31)).toInt32 := ⟨_, rfl⟩
  refine lv_iushr (v := x_2) hx hb dX8_append_9 ex_2.symm ?_
  refine lv_sipush (v := 255) hx hb dX8_append_10 (by decide) ?_
  refine lv_iand hx hb dX8_append_13 ?_
  refine lv_topi (fun x_3 ex_3 => ?_)
  refine lv_istore_n (lv' := [(3, .int x_3), (2, .int 24), (0, .ref h0), (1, .int p0)]) hx hb dX8_append_14 rfl hl (by decide) rfl (fun ls hl => ?_)
  refine lv_iload_n hx hb dX8_append_15 rfl (lv_at hl 0 rfl) ?_
  have hy_4 : kS p0 24 = x_3 := by rw [ex_3, ex_2]; exact (kSu24 p0).symm
  refine lv_if_eq (tgt := 52) hx hb dX8_append_16 (by decide) (fun c_5 => ?_) (fun c_5 => ?_)
  · refine lv_iinc (v := 16) (lv' := [(2, .int 16), (3, .int x_3), (0, .ref h0), (1, .int p0)]) hx hb dX8_append_52 hl (k := 1) rfl (by decide) (by decide) rfl (fun ls hl => ?_)
    refine lv_goto (tgt := 3) hx hb dX8_append_55 (by decide) ?_
    refine lv_iload_n hx hb dX8_append_3 rfl (lv_at hl 0 rfl) ?_
    refine lv_if_lt (tgt := 58) hx hb dX8_append_4 (by decide) (fun c_6 => absurd c_6 (by decide)) (fun c_6 => ?_)
    refine lv_iload_n hx hb dX8_append_7 rfl (lv_at hl 3 rfl) ?_
    refine lv_iload_n hx hb dX8_append_8 rfl (lv_at hl 0 rfl) ?_
    obtain ⟨x_7, ex_7⟩ : ∃ z : Int32, z = (Int32.toUInt32 p0 >>> (Int32.toUInt32 16 &&& Int32.toUInt32 31)).toInt32 := ⟨_, rfl⟩
    refine lv_iushr (v := x_7) hx hb dX8_append_9 ex_7.symm ?_
    refine lv_sipush (v := 255) hx hb dX8_append_10 (by decide) ?_
    refine lv_iand hx hb dX8_append_13 ?_
    refine lv_topi (fun x_8 ex_8 => ?_)
    refine lv_istore_n (lv' := [(3, .int x_8), (2, .int 16), (0, .ref h0), (1, .int p0)]) hx hb dX8_append_14 rfl hl (by decide) rfl (fun ls hl => ?_)
    refine lv_iload_n hx hb dX8_append_15 rfl (lv_at hl 0 rfl) ?_
    have hy_9 : kS p0 16 = x_8 := by rw [ex_8, ex_7]; exact (kSu16 p0).symm
    refine lv_if_eq (tgt := 52) hx hb dX8_append_16 (by decide) (fun c_10 => ?_) (fun c_10 => ?_)
    · refine lv_iinc (v := 8) (lv' := [(2, .int 8), (3, .int x_8), (0, .ref h0), (1, .int p0)]) hx hb dX8_append_52 hl (k := 1) rfl (by decide) (by decide) rfl (fun ls hl => ?_)
      refine lv_goto (tgt := 3) hx hb dX8_append_55 (by decide) ?_
      refine lv_iload_n hx hb dX8_append_3 rfl (lv_at hl 0 rfl) ?_
      refine lv_if_lt (tgt := 58) hx hb dX8_append_4 (by decide) (fun c_11 => absurd c_11 (by decide)) (fun c_11 => ?_)
      refine lv_iload_n hx hb dX8_append_7 rfl (lv_at hl 3 rfl) ?_
      refine lv_iload_n hx hb dX8_append_8 rfl (lv_at hl 0 rfl) ?_
      obtain ⟨x_12, ex_12⟩ : ∃ z : Int32, z = (Int32.toUInt32 p0 >>> (Int32.toUInt32 8 &&& Int32.toUInt32 31)).toInt32 := ⟨_, rfl⟩
      refine lv_iushr (v := x_12) hx hb dX8_append_9 ex_12.symm ?_
      refine lv_sipush (v := 255) hx hb dX8_append_10 (by decide) ?_
      refine lv_iand hx hb dX8_append_13 ?_
      refine lv_topi (fun x_13 ex_13 => ?_)
      refine lv_istore_n (lv' := [(3, .int x_13), (2, .int 8), (0, .ref h0), (1, .int p0)]) hx hb dX8_append_14 rfl hl (by decide) rfl (fun ls hl => ?_)
      refine lv_iload_n hx hb dX8_append_15 rfl (lv_at hl 0 rfl) ?_
      have hy_14 : kS p0 8 = x_13 := by rw [ex_13, ex_12]; exact (kSu8 p0).symm
      refine lv_if_eq (tgt := 52) hx hb dX8_append_16 (by decide) (fun c_15 => ?_) (fun c_15 => ?_)
      · refine lv_iinc (v := 0) (lv' := [(2, .int 0), (3, .int x_13), (0, .ref h0), (1, .int p0)]) hx hb dX8_append_52 hl (k := 1) rfl (by decide) (by decide) rfl (fun ls hl => ?_)
        refine lv_goto (tgt := 3) hx hb dX8_append_55 (by decide) ?_
        refine lv_iload_n hx hb dX8_append_3 rfl (lv_at hl 0 rfl) ?_
        refine lv_if_lt (tgt := 58) hx hb dX8_append_4 (by decide) (fun c_16 => absurd c_16 (by decide)) (fun c_16 => ?_)
        refine lv_iload_n hx hb dX8_append_7 rfl (lv_at hl 3 rfl) ?_
        refine lv_iload_n hx hb dX8_append_8 rfl (lv_at hl 0 rfl) ?_
        obtain ⟨x_17, ex_17⟩ : ∃ z : Int32, z = (Int32.toUInt32 p0 >>> (Int32.toUInt32 0 &&& Int32.toUInt32 31)).toInt32 := ⟨_, rfl⟩
        refine lv_iushr (v := x_17) hx hb dX8_append_9 ex_17.symm ?_
        refine lv_sipush (v := 255) hx hb dX8_append_10 (by decide) ?_
        refine lv_iand hx hb dX8_append_13 ?_
        refine lv_topi (fun x_18 ex_18 => ?_)
        refine lv_istore_n (lv' := [(3, .int x_18), (2, .int 0), (0, .ref h0), (1, .int p0)]) hx hb dX8_append_14 rfl hl (by decide) rfl (fun ls hl => ?_)
        refine lv_iload_n hx hb dX8_append_15 rfl (lv_at hl 0 rfl) ?_
        have hy_19 : kS p0 0 = x_18 := by rw [ex_18, ex_17]; exact (kSu0 p0).symm
        refine lv_if_eq (tgt := 52) hx hb dX8_append_16 (by decide) (fun c_20 => ?_) (fun c_20 => ?_)
        · refine lv_iinc (v := (-8)) (lv' := [(2, .int (-8)), (3, .int x_18), (0, .ref h0), (1, .int p0)]) hx hb dX8_append_52 hl (k := 1) rfl (by decide) (by decide) rfl (fun ls hl => ?_)
          refine lv_goto (tgt := 3) hx hb dX8_append_55 (by decide) ?_
          refine lv_iload_n hx hb dX8_append_3 rfl (lv_at hl 0 rfl) ?_
          refine lv_if_lt (tgt := 58) hx hb dX8_append_4 (by decide) (fun c_21 => ?_) (fun c_21 => absurd (by decide) c_21)
          have hk9 : kCnt p0 = 0 := by simp [kCnt, kC1, hy_4, hy_9, hy_14, hy_19, c_5, c_10, c_15, c_20]
          have hP9 : va_P (dC, dI) vwCl [(h0, .inr (8, [.ref q0, .int (nI (k + kCnt p0))])), (q0, .inl (cC, 120, .inl g))] s.heap := by rw [hk9]; exact hP.sub [0, 1] rfl
          have hD9 : va_D A [(h0, .inr (8, [.ref q0, .int (nI (k + kCnt p0))])), (q0, .inl (cC, 120, .inl g))] := by rw [hk9]; exact hD.sub [0, 1] (by decide) rfl
          have hK9 := hK.sub (tys' := [(cC, .char)]) [0] rfl
          exact W.vret hx hb hr (fun t ht hW => ⟨⟨g, rfl, trivial,  by rw [ht]; exact hP9, va_K.moved hW.alike hK9, hD9⟩, hS.F ht⟩) hS.2.2 dX8_append_58
        · refine lv_aload_n hx hb dX8_append_19 rfl (lv_at hl 2 rfl) ?_
          refine va_get (D := (dC, dI)) (ci := 8) (v := .int (nI (k))) (C := RX8) (T := TX8) (N := 2) hx hb hts (fun _ h => List.mem_cons_of_mem _ (List.mem_append_right _ h)) hown hK hP 0 rfl rfl 1 (by decide) (hts (.fieldLink RX8 15 "NotEnded$Tape" "length" "I") (List.mem_cons_of_mem _ (List.mem_append_left _ (List.mem_of_getElem? (i := 0) rfl)))) (fun _ h9 => h9) rfl dX8_append_20 ?_
          refine lv_aload_n hx hb dX8_append_23 rfl (lv_at hl 2 rfl) ?_
          refine va_get (D := (dC, dI)) (ci := 8) (v := .ref q0) (C := RX8) (T := TX8) (N := 2) hx hb hts (fun _ h => List.mem_cons_of_mem _ (List.mem_append_right _ h)) hown hK hP 0 rfl rfl 0 (by decide) (hts (.fieldLink RX8 9 "NotEnded$Tape" "signs" "[C") (List.mem_cons_of_mem _ (List.mem_append_left _ (List.mem_of_getElem? (i := 1) rfl)))) (fun _ h9 => h9) rfl dX8_append_24 ?_
          refine va_alen hx hb hK hP 1 0 rfl rfl (v := 120) rfl dX8_append_27 ?_
          refine lv_icmp_ge (tgt := 52) hx hb dX8_append_28 (by decide) (fun c_22 => absurd c_22 (nI_ge (a := k) (b := 120) (by omega) (by decide))) (fun c_22 => ?_)
          refine lv_aload_n hx hb dX8_append_31 rfl (lv_at hl 2 rfl) ?_
          refine va_get (D := (dC, dI)) (ci := 8) (v := .ref q0) (C := RX8) (T := TX8) (N := 2) hx hb hts (fun _ h => List.mem_cons_of_mem _ (List.mem_append_right _ h)) hown hK hP 0 rfl rfl 0 (by decide) (hts (.fieldLink RX8 9 "NotEnded$Tape" "signs" "[C") (List.mem_cons_of_mem _ (List.mem_append_left _ (List.mem_of_getElem? (i := 1) rfl)))) (fun _ h9 => h9) rfl dX8_append_32 ?_
          refine lv_aload_n hx hb dX8_append_35 rfl (lv_at hl 2 rfl) ?_
          refine va_get (D := (dC, dI)) (ci := 8) (v := .int (nI (k))) (C := RX8) (T := TX8) (N := 2) hx hb hts (fun _ h => List.mem_cons_of_mem _ (List.mem_append_right _ h)) hown hK hP 0 rfl rfl 1 (by decide) (hts (.fieldLink RX8 15 "NotEnded$Tape" "length" "I") (List.mem_cons_of_mem _ (List.mem_append_left _ (List.mem_of_getElem? (i := 0) rfl)))) (fun _ h9 => h9) rfl dX8_append_36 ?_
          refine lv_iload_n hx hb dX8_append_39 rfl (lv_at hl 0 rfl) ?_
          obtain ⟨x_23, ex_23⟩ : ∃ z : Int32, z = (Int32.toUInt32 x_18 % 65536).toInt32 := ⟨_, rfl⟩
          refine lv_i2c (v := x_23) hx hb dX8_append_40 ex_23.symm ?_
          refine va_cast hx hb hK hP hD hS 1 0 rfl rfl (vp_in_nI (n := k) (N := 120) (by omega) (by decide)) dX8_append_41 (fun H locs hP hD hS => ?_)
          obtain ⟨f_24, ef_24⟩ : ∃ gg9 : Nat → Int32, gg9 = upd g (Int32.toNatClampNeg (nI (k))) (vp_nar .char x_23) := ⟨_, rfl⟩
          have hP : va_P (dC, dI) vwCl [(h0, .inr (8, [.ref q0, .int (nI (k))])), (q0, .inl (cC, 120, .inl f_24))] H := by rw [ef_24]; exact hP
          have hD : va_D A [(h0, .inr (8, [.ref q0, .int (nI (k))])), (q0, .inl (cC, 120, .inl f_24))] := by rw [ef_24]; exact hD
          refine lv_aload_n hx hb dX8_append_42 rfl (lv_at hl 2 rfl) ?_
          refine lv_dup hx hb dX8_append_43 rfl ?_
          refine va_get (D := (dC, dI)) (ci := 8) (v := .int (nI (k))) (C := RX8) (T := TX8) (N := 2) hx hb hts (fun _ h => List.mem_cons_of_mem _ (List.mem_append_right _ h)) hown hK hP 0 rfl rfl 1 (by decide) (hts (.fieldLink RX8 15 "NotEnded$Tape" "length" "I") (List.mem_cons_of_mem _ (List.mem_append_left _ (List.mem_of_getElem? (i := 0) rfl)))) (fun _ h9 => h9) rfl dX8_append_44 ?_
          refine lv_iconst (v := 1) hx hb dX8_append_47 (by decide) ?_
          refine lv_iadd hx hb dX8_append_48 ?_
          refine lv_topi (fun y_25 ey_25 => ?_)
          obtain rfl : y_25 = nI (k + 1) := ey_25.trans (nI_add (k) (1))
          refine va_put (D := (dC, dI)) (ci := 8) (v := .int (nI (k + 1))) (ty := tyX8 1) (C := RX8) (T := TX8) (N := 2) hx hb hts (fun _ h => List.mem_cons_of_mem _ (List.mem_append_right _ h)) tyX8 tyX8_ok nmX8 hown hK hP hD hS 0 rfl rfl 1 (by decide) (hts (.fieldLink RX8 15 "NotEnded$Tape" "length" "I") (List.mem_cons_of_mem _ (List.mem_append_left _ (List.mem_of_getElem? (i := 0) rfl)))) (fun _ h9 => h9) rfl (tyX8_ok 1 (by decide)) rfl rfl (Nat.le_of_ble_eq_true rfl) dX8_append_49 (fun H locs hP hD hS => ?_)
          have hP : va_P (dC, dI) vwCl [(h0, .inr (8, [.ref q0, .int (nI (k + 1))])), (q0, .inl (cC, 120, .inl f_24))] H := hP
          have hD : va_D A [(h0, .inr (8, [.ref q0, .int (nI (k + 1))])), (q0, .inl (cC, 120, .inl f_24))] := hD
          refine lv_iinc (v := (-8)) (lv' := [(2, .int (-8)), (3, .int x_18), (0, .ref h0), (1, .int p0)]) hx hb dX8_append_52 hl (k := 1) rfl (by decide) (by decide) rfl (fun ls hl => ?_)
          refine lv_goto (tgt := 3) hx hb dX8_append_55 (by decide) ?_
          refine lv_iload_n hx hb dX8_append_3 rfl (lv_at hl 0 rfl) ?_
          refine lv_if_lt (tgt := 58) hx hb dX8_append_4 (by decide) (fun c_26 => ?_) (fun c_26 => absurd (by decide) c_26)
          have hk9 : kCnt p0 = 1 := by simp [kCnt, kC1, hy_4, hy_9, hy_14, hy_19, c_5, c_10, c_15, c_20]
          have hP9 : va_P (dC, dI) vwCl [(h0, .inr (8, [.ref q0, .int (nI (k + kCnt p0))])), (q0, .inl (cC, 120, .inl f_24))] H := by rw [hk9]; exact hP.sub [0, 1] rfl
          have hD9 : va_D A [(h0, .inr (8, [.ref q0, .int (nI (k + kCnt p0))])), (q0, .inl (cC, 120, .inl f_24))] := by rw [hk9]; exact hD.sub [0, 1] (by decide) rfl
          have hK9 := hK.sub (tys' := [(cC, .char)]) [0] rfl
          exact W.vret hx hb hr (fun t ht hW => ⟨⟨f_24, rfl, trivial,  by rw [ht]; exact hP9, va_K.moved hW.alike hK9, hD9⟩, hS.F ht⟩) hS.2.2 dX8_append_58
      · refine lv_aload_n hx hb dX8_append_19 rfl (lv_at hl 2 rfl) ?_
        refine va_get (D := (dC, dI)) (ci := 8) (v := .int (nI (k))) (C := RX8) (T := TX8) (N := 2) hx hb hts (fun _ h => List.mem_cons_of_mem _ (List.mem_append_right _ h)) hown hK hP 0 rfl rfl 1 (by decide) (hts (.fieldLink RX8 15 "NotEnded$Tape" "length" "I") (List.mem_cons_of_mem _ (List.mem_append_left _ (List.mem_of_getElem? (i := 0) rfl)))) (fun _ h9 => h9) rfl dX8_append_20 ?_
        refine lv_aload_n hx hb dX8_append_23 rfl (lv_at hl 2 rfl) ?_
        refine va_get (D := (dC, dI)) (ci := 8) (v := .ref q0) (C := RX8) (T := TX8) (N := 2) hx hb hts (fun _ h => List.mem_cons_of_mem _ (List.mem_append_right _ h)) hown hK hP 0 rfl rfl 0 (by decide) (hts (.fieldLink RX8 9 "NotEnded$Tape" "signs" "[C") (List.mem_cons_of_mem _ (List.mem_append_left _ (List.mem_of_getElem? (i := 1) rfl)))) (fun _ h9 => h9) rfl dX8_append_24 ?_
        refine va_alen hx hb hK hP 1 0 rfl rfl (v := 120) rfl dX8_append_27 ?_
        refine lv_icmp_ge (tgt := 52) hx hb dX8_append_28 (by decide) (fun c_27 => absurd c_27 (nI_ge (a := k) (b := 120) (by omega) (by decide))) (fun c_27 => ?_)
        refine lv_aload_n hx hb dX8_append_31 rfl (lv_at hl 2 rfl) ?_
        refine va_get (D := (dC, dI)) (ci := 8) (v := .ref q0) (C := RX8) (T := TX8) (N := 2) hx hb hts (fun _ h => List.mem_cons_of_mem _ (List.mem_append_right _ h)) hown hK hP 0 rfl rfl 0 (by decide) (hts (.fieldLink RX8 9 "NotEnded$Tape" "signs" "[C") (List.mem_cons_of_mem _ (List.mem_append_left _ (List.mem_of_getElem? (i := 1) rfl)))) (fun _ h9 => h9) rfl dX8_append_32 ?_
        refine lv_aload_n hx hb dX8_append_35 rfl (lv_at hl 2 rfl) ?_
        refine va_get (D := (dC, dI)) (ci := 8) (v := .int (nI (k))) (C := RX8) (T := TX8) (N := 2) hx hb hts (fun _ h => List.mem_cons_of_mem _ (List.mem_append_right _ h)) hown hK hP 0 rfl rfl 1 (by decide) (hts (.fieldLink RX8 15 "NotEnded$Tape" "length" "I") (List.mem_cons_of_mem _ (List.mem_append_left _ (List.mem_of_getElem? (i := 0) rfl)))) (fun _ h9 => h9) rfl dX8_append_36 ?_
        refine lv_iload_n hx hb dX8_append_39 rfl (lv_at hl 0 rfl) ?_
        obtain ⟨x_28, ex_28⟩ : ∃ z : Int32, z = (Int32.toUInt32 x_13 % 65536).toInt32 := ⟨_, rfl⟩
        refine lv_i2c (v := x_28) hx hb dX8_append_40 ex_28.symm ?_
        refine va_cast hx hb hK hP hD hS 1 0 rfl rfl (vp_in_nI (n := k) (N := 120) (by omega) (by decide)) dX8_append_41 (fun H locs hP hD hS => ?_)
        obtain ⟨f_29, ef_29⟩ : ∃ gg9 : Nat → Int32, gg9 = upd g (Int32.toNatClampNeg (nI (k))) (vp_nar .char x_28) := ⟨_, rfl⟩
        have hP : va_P (dC, dI) vwCl [(h0, .inr (8, [.ref q0, .int (nI (k))])), (q0, .inl (cC, 120, .inl f_29))] H := by rw [ef_29]; exact hP
        have hD : va_D A [(h0, .inr (8, [.ref q0, .int (nI (k))])), (q0, .inl (cC, 120, .inl f_29))] := by rw [ef_29]; exact hD
        refine lv_aload_n hx hb dX8_append_42 rfl (lv_at hl 2 rfl) ?_
        refine lv_dup hx hb dX8_append_43 rfl ?_
        refine va_get (D := (dC, dI)) (ci := 8) (v := .int (nI (k))) (C := RX8) (T := TX8) (N := 2) hx hb hts (fun _ h => List.mem_cons_of_mem _ (List.mem_append_right _ h)) hown hK hP 0 rfl rfl 1 (by decide) (hts (.fieldLink RX8 15 "NotEnded$Tape" "length" "I") (List.mem_cons_of_mem _ (List.mem_append_left _ (List.mem_of_getElem? (i := 0) rfl)))) (fun _ h9 => h9) rfl dX8_append_44 ?_
        refine lv_iconst (v := 1) hx hb dX8_append_47 (by decide) ?_
        refine lv_iadd hx hb dX8_append_48 ?_
        refine lv_topi (fun y_30 ey_30 => ?_)
        obtain rfl : y_30 = nI (k + 1) := ey_30.trans (nI_add (k) (1))
        refine va_put (D := (dC, dI)) (ci := 8) (v := .int (nI (k + 1))) (ty := tyX8 1) (C := RX8) (T := TX8) (N := 2) hx hb hts (fun _ h => List.mem_cons_of_mem _ (List.mem_append_right _ h)) tyX8 tyX8_ok nmX8 hown hK hP hD hS 0 rfl rfl 1 (by decide) (hts (.fieldLink RX8 15 "NotEnded$Tape" "length" "I") (List.mem_cons_of_mem _ (List.mem_append_left _ (List.mem_of_getElem? (i := 0) rfl)))) (fun _ h9 => h9) rfl (tyX8_ok 1 (by decide)) rfl rfl (Nat.le_of_ble_eq_true rfl) dX8_append_49 (fun H locs hP hD hS => ?_)
        have hP : va_P (dC, dI) vwCl [(h0, .inr (8, [.ref q0, .int (nI (k + 1))])), (q0, .inl (cC, 120, .inl f_29))] H := hP
        have hD : va_D A [(h0, .inr (8, [.ref q0, .int (nI (k + 1))])), (q0, .inl (cC, 120, .inl f_29))] := hD
        refine lv_iinc (v := 0) (lv' := [(2, .int 0), (3, .int x_13), (0, .ref h0), (1, .int p0)]) hx hb dX8_append_52 hl (k := 1) rfl (by decide) (by decide) rfl (fun ls hl => ?_)
        refine lv_goto (tgt := 3) hx hb dX8_append_55 (by decide) ?_
        refine lv_iload_n hx hb dX8_append_3 rfl (lv_at hl 0 rfl) ?_
        refine lv_if_lt (tgt := 58) hx hb dX8_append_4 (by decide) (fun c_31 => absurd c_31 (by decide)) (fun c_31 => ?_)
        refine lv_iload_n hx hb dX8_append_7 rfl (lv_at hl 3 rfl) ?_
        refine lv_iload_n hx hb dX8_append_8 rfl (lv_at hl 0 rfl) ?_
        obtain ⟨x_32, ex_32⟩ : ∃ z : Int32, z = (Int32.toUInt32 p0 >>> (Int32.toUInt32 0 &&& Int32.toUInt32 31)).toInt32 := ⟨_, rfl⟩
        refine lv_iushr (v := x_32) hx hb dX8_append_9 ex_32.symm ?_
        refine lv_sipush (v := 255) hx hb dX8_append_10 (by decide) ?_
        refine lv_iand hx hb dX8_append_13 ?_
        refine lv_topi (fun x_33 ex_33 => ?_)
        refine lv_istore_n (lv' := [(3, .int x_33), (2, .int 0), (0, .ref h0), (1, .int p0)]) hx hb dX8_append_14 rfl hl (by decide) rfl (fun ls hl => ?_)
        refine lv_iload_n hx hb dX8_append_15 rfl (lv_at hl 0 rfl) ?_
        have hy_34 : kS p0 0 = x_33 := by rw [ex_33, ex_32]; exact (kSu0 p0).symm
        refine lv_if_eq (tgt := 52) hx hb dX8_append_16 (by decide) (fun c_35 => ?_) (fun c_35 => ?_)
        · refine lv_iinc (v := (-8)) (lv' := [(2, .int (-8)), (3, .int x_33), (0, .ref h0), (1, .int p0)]) hx hb dX8_append_52 hl (k := 1) rfl (by decide) (by decide) rfl (fun ls hl => ?_)
          refine lv_goto (tgt := 3) hx hb dX8_append_55 (by decide) ?_
          refine lv_iload_n hx hb dX8_append_3 rfl (lv_at hl 0 rfl) ?_
          refine lv_if_lt (tgt := 58) hx hb dX8_append_4 (by decide) (fun c_36 => ?_) (fun c_36 => absurd (by decide) c_36)
          have hk9 : kCnt p0 = 1 := by simp [kCnt, kC1, hy_4, hy_9, hy_14, hy_34, c_5, c_10, c_15, c_35]
          have hP9 : va_P (dC, dI) vwCl [(h0, .inr (8, [.ref q0, .int (nI (k + kCnt p0))])), (q0, .inl (cC, 120, .inl f_29))] H := by rw [hk9]; exact hP.sub [0, 1] rfl
          have hD9 : va_D A [(h0, .inr (8, [.ref q0, .int (nI (k + kCnt p0))])), (q0, .inl (cC, 120, .inl f_29))] := by rw [hk9]; exact hD.sub [0, 1] (by decide) rfl
          have hK9 := hK.sub (tys' := [(cC, .char)]) [0] rfl
          exact W.vret hx hb hr (fun t ht hW => ⟨⟨f_29, rfl, trivial,  by rw [ht]; exact hP9, va_K.moved hW.alike hK9, hD9⟩, hS.F ht⟩) hS.2.2 dX8_append_58
        · refine lv_aload_n hx hb dX8_append_19 rfl (lv_at hl 2 rfl) ?_
          refine va_get (D := (dC, dI)) (ci := 8) (v := .int (nI (k + 1))) (C := RX8) (T := TX8) (N := 2) hx hb hts (fun _ h => List.mem_cons_of_mem _ (List.mem_append_right _ h)) hown hK hP 0 rfl rfl 1 (by decide) (hts (.fieldLink RX8 15 "NotEnded$Tape" "length" "I") (List.mem_cons_of_mem _ (List.mem_append_left _ (List.mem_of_getElem? (i := 0) rfl)))) (fun _ h9 => h9) rfl dX8_append_20 ?_
          refine lv_aload_n hx hb dX8_append_23 rfl (lv_at hl 2 rfl) ?_
          refine va_get (D := (dC, dI)) (ci := 8) (v := .ref q0) (C := RX8) (T := TX8) (N := 2) hx hb hts (fun _ h => List.mem_cons_of_mem _ (List.mem_append_right _ h)) hown hK hP 0 rfl rfl 0 (by decide) (hts (.fieldLink RX8 9 "NotEnded$Tape" "signs" "[C") (List.mem_cons_of_mem _ (List.mem_append_left _ (List.mem_of_getElem? (i := 1) rfl)))) (fun _ h9 => h9) rfl dX8_append_24 ?_
          refine va_alen hx hb hK hP 1 0 rfl rfl (v := 120) rfl dX8_append_27 ?_
          refine lv_icmp_ge (tgt := 52) hx hb dX8_append_28 (by decide) (fun c_37 => absurd c_37 (nI_ge (a := k + 1) (b := 120) (by omega) (by decide))) (fun c_37 => ?_)
          refine lv_aload_n hx hb dX8_append_31 rfl (lv_at hl 2 rfl) ?_
          refine va_get (D := (dC, dI)) (ci := 8) (v := .ref q0) (C := RX8) (T := TX8) (N := 2) hx hb hts (fun _ h => List.mem_cons_of_mem _ (List.mem_append_right _ h)) hown hK hP 0 rfl rfl 0 (by decide) (hts (.fieldLink RX8 9 "NotEnded$Tape" "signs" "[C") (List.mem_cons_of_mem _ (List.mem_append_left _ (List.mem_of_getElem? (i := 1) rfl)))) (fun _ h9 => h9) rfl dX8_append_32 ?_
          refine lv_aload_n hx hb dX8_append_35 rfl (lv_at hl 2 rfl) ?_
          refine va_get (D := (dC, dI)) (ci := 8) (v := .int (nI (k + 1))) (C := RX8) (T := TX8) (N := 2) hx hb hts (fun _ h => List.mem_cons_of_mem _ (List.mem_append_right _ h)) hown hK hP 0 rfl rfl 1 (by decide) (hts (.fieldLink RX8 15 "NotEnded$Tape" "length" "I") (List.mem_cons_of_mem _ (List.mem_append_left _ (List.mem_of_getElem? (i := 0) rfl)))) (fun _ h9 => h9) rfl dX8_append_36 ?_
          refine lv_iload_n hx hb dX8_append_39 rfl (lv_at hl 0 rfl) ?_
          obtain ⟨x_38, ex_38⟩ : ∃ z : Int32, z = (Int32.toUInt32 x_33 % 65536).toInt32 := ⟨_, rfl⟩
          refine lv_i2c (v := x_38) hx hb dX8_append_40 ex_38.symm ?_
          refine va_cast hx hb hK hP hD hS 1 0 rfl rfl (vp_in_nI (n := k + 1) (N := 120) (by omega) (by decide)) dX8_append_41 (fun H locs hP hD hS => ?_)
          obtain ⟨f_39, ef_39⟩ : ∃ gg9 : Nat → Int32, gg9 = upd f_29 (Int32.toNatClampNeg (nI (k + 1))) (vp_nar .char x_38) := ⟨_, rfl⟩
          have hP : va_P (dC, dI) vwCl [(h0, .inr (8, [.ref q0, .int (nI (k + 1))])), (q0, .inl (cC, 120, .inl f_39))] H := by rw [ef_39]; exact hP
          have hD : va_D A [(h0, .inr (8, [.ref q0, .int (nI (k + 1))])), (q0, .inl (cC, 120, .inl f_39))] := by rw [ef_39]; exact hD
          refine lv_aload_n hx hb dX8_append_42 rfl (lv_at hl 2 rfl) ?_
          refine lv_dup hx hb dX8_append_43 rfl ?_
          refine va_get (D := (dC, dI)) (ci := 8) (v := .int (nI (k + 1))) (C := RX8) (T := TX8) (N := 2) hx hb hts (fun _ h => List.mem_cons_of_mem _ (List.mem_append_right _ h)) hown hK hP 0 rfl rfl 1 (by decide) (hts (.fieldLink RX8 15 "NotEnded$Tape" "length" "I") (List.mem_cons_of_mem _ (List.mem_append_left _ (List.mem_of_getElem? (i := 0) rfl)))) (fun _ h9 => h9) rfl dX8_append_44 ?_
          refine lv_iconst (v := 1) hx hb dX8_append_47 (by decide) ?_
          refine lv_iadd hx hb dX8_append_48 ?_
          refine lv_topi (fun y_40 ey_40 => ?_)
          obtain rfl : y_40 = nI (k + 1 + 1) := ey_40.trans (nI_add (k + 1) (1))
          refine va_put (D := (dC, dI)) (ci := 8) (v := .int (nI (k + 1 + 1))) (ty := tyX8 1) (C := RX8) (T := TX8) (N := 2) hx hb hts (fun _ h => List.mem_cons_of_mem _ (List.mem_append_right _ h)) tyX8 tyX8_ok nmX8 hown hK hP hD hS 0 rfl rfl 1 (by decide) (hts (.fieldLink RX8 15 "NotEnded$Tape" "length" "I") (List.mem_cons_of_mem _ (List.mem_append_left _ (List.mem_of_getElem? (i := 0) rfl)))) (fun _ h9 => h9) rfl (tyX8_ok 1 (by decide)) rfl rfl (Nat.le_of_ble_eq_true rfl) dX8_append_49 (fun H locs hP hD hS => ?_)
          have hP : va_P (dC, dI) vwCl [(h0, .inr (8, [.ref q0, .int (nI (k + 1 + 1))])), (q0, .inl (cC, 120, .inl f_39))] H := hP
          have hD : va_D A [(h0, .inr (8, [.ref q0, .int (nI (k + 1 + 1))])), (q0, .inl (cC, 120, .inl f_39))] := hD
          refine lv_iinc (v := (-8)) (lv' := [(2, .int (-8)), (3, .int x_33), (0, .ref h0), (1, .int p0)]) hx hb dX8_append_52 hl (k := 1) rfl (by decide) (by decide) rfl (fun ls hl => ?_)
          refine lv_goto (tgt := 3) hx hb dX8_append_55 (by decide) ?_
          refine lv_iload_n hx hb dX8_append_3 rfl (lv_at hl 0 rfl) ?_
          refine lv_if_lt (tgt := 58) hx hb dX8_append_4 (by decide) (fun c_41 => ?_) (fun c_41 => absurd (by decide) c_41)
          have hk9 : kCnt p0 = 2 := by simp [kCnt, kC1, hy_4, hy_9, hy_14, hy_34, c_5, c_10, c_15, c_35]
          have hP9 : va_P (dC, dI) vwCl [(h0, .inr (8, [.ref q0, .int (nI (k + kCnt p0))])), (q0, .inl (cC, 120, .inl f_39))] H := by rw [hk9]; exact hP.sub [0, 1] rfl
          have hD9 : va_D A [(h0, .inr (8, [.ref q0, .int (nI (k + kCnt p0))])), (q0, .inl (cC, 120, .inl f_39))] := by rw [hk9]; exact hD.sub [0, 1] (by decide) rfl
          have hK9 := hK.sub (tys' := [(cC, .char)]) [0] rfl
          exact W.vret hx hb hr (fun t ht hW => ⟨⟨f_39, rfl, trivial,  by rw [ht]; exact hP9, va_K.moved hW.alike hK9, hD9⟩, hS.F ht⟩) hS.2.2 dX8_append_58
    · refine lv_aload_n hx hb dX8_append_19 rfl (lv_at hl 2 rfl) ?_
      refine va_get (D := (dC, dI)) (ci := 8) (v := .int (nI (k))) (C := RX8) (T := TX8) (N := 2) hx hb hts (fun _ h => List.mem_cons_of_mem _ (List.mem_append_right _ h)) hown hK hP 0 rfl rfl 1 (by decide) (hts (.fieldLink RX8 15 "NotEnded$Tape" "length" "I") (List.mem_cons_of_mem _ (List.mem_append_left _ (List.mem_of_getElem? (i := 0) rfl)))) (fun _ h9 => h9) rfl dX8_append_20 ?_
      refine lv_aload_n hx hb dX8_append_23 rfl (lv_at hl 2 rfl) ?_
      refine va_get (D := (dC, dI)) (ci := 8) (v := .ref q0) (C := RX8) (T := TX8) (N := 2) hx hb hts (fun _ h => List.mem_cons_of_mem _ (List.mem_append_right _ h)) hown hK hP 0 rfl rfl 0 (by decide) (hts (.fieldLink RX8 9 "NotEnded$Tape" "signs" "[C") (List.mem_cons_of_mem _ (List.mem_append_left _ (List.mem_of_getElem? (i := 1) rfl)))) (fun _ h9 => h9) rfl dX8_append_24 ?_
      refine va_alen hx hb hK hP 1 0 rfl rfl (v := 120) rfl dX8_append_27 ?_
      refine lv_icmp_ge (tgt := 52) hx hb dX8_append_28 (by decide) (fun c_42 => absurd c_42 (nI_ge (a := k) (b := 120) (by omega) (by decide))) (fun c_42 => ?_)
      refine lv_aload_n hx hb dX8_append_31 rfl (lv_at hl 2 rfl) ?_
      refine va_get (D := (dC, dI)) (ci := 8) (v := .ref q0) (C := RX8) (T := TX8) (N := 2) hx hb hts (fun _ h => List.mem_cons_of_mem _ (List.mem_append_right _ h)) hown hK hP 0 rfl rfl 0 (by decide) (hts (.fieldLink RX8 9 "NotEnded$Tape" "signs" "[C") (List.mem_cons_of_mem _ (List.mem_append_left _ (List.mem_of_getElem? (i := 1) rfl)))) (fun _ h9 => h9) rfl dX8_append_32 ?_
      refine lv_aload_n hx hb dX8_append_35 rfl (lv_at hl 2 rfl) ?_
      refine va_get (D := (dC, dI)) (ci := 8) (v := .int (nI (k))) (C := RX8) (T := TX8) (N := 2) hx hb hts (fun _ h => List.mem_cons_of_mem _ (List.mem_append_right _ h)) hown hK hP 0 rfl rfl 1 (by decide) (hts (.fieldLink RX8 15 "NotEnded$Tape" "length" "I") (List.mem_cons_of_mem _ (List.mem_append_left _ (List.mem_of_getElem? (i := 0) rfl)))) (fun _ h9 => h9) rfl dX8_append_36 ?_
      refine lv_iload_n hx hb dX8_append_39 rfl (lv_at hl 0 rfl) ?_
      obtain ⟨x_43, ex_43⟩ : ∃ z : Int32, z = (Int32.toUInt32 x_8 % 65536).toInt32 := ⟨_, rfl⟩
      refine lv_i2c (v := x_43) hx hb dX8_append_40 ex_43.symm ?_
      refine va_cast hx hb hK hP hD hS 1 0 rfl rfl (vp_in_nI (n := k) (N := 120) (by omega) (by decide)) dX8_append_41 (fun H locs hP hD hS => ?_)
      obtain ⟨f_44, ef_44⟩ : ∃ gg9 : Nat → Int32, gg9 = upd g (Int32.toNatClampNeg (nI (k))) (vp_nar .char x_43) := ⟨_, rfl⟩
      have hP : va_P (dC, dI) vwCl [(h0, .inr (8, [.ref q0, .int (nI (k))])), (q0, .inl (cC, 120, .inl f_44))] H := by rw [ef_44]; exact hP
      have hD : va_D A [(h0, .inr (8, [.ref q0, .int (nI (k))])), (q0, .inl (cC, 120, .inl f_44))] := by rw [ef_44]; exact hD
      refine lv_aload_n hx hb dX8_append_42 rfl (lv_at hl 2 rfl) ?_
      refine lv_dup hx hb dX8_append_43 rfl ?_
      refine va_get (D := (dC, dI)) (ci := 8) (v := .int (nI (k))) (C := RX8) (T := TX8) (N := 2) hx hb hts (fun _ h => List.mem_cons_of_mem _ (List.mem_append_right _ h)) hown hK hP 0 rfl rfl 1 (by decide) (hts (.fieldLink RX8 15 "NotEnded$Tape" "length" "I") (List.mem_cons_of_mem _ (List.mem_append_left _ (List.mem_of_getElem? (i := 0) rfl)))) (fun _ h9 => h9) rfl dX8_append_44 ?_
      refine lv_iconst (v := 1) hx hb dX8_append_47 (by decide) ?_
      refine lv_iadd hx hb dX8_append_48 ?_
      refine lv_topi (fun y_45 ey_45 => ?_)
      obtain rfl : y_45 = nI (k + 1) := ey_45.trans (nI_add (k) (1))
      refine va_put (D := (dC, dI)) (ci := 8) (v := .int (nI (k + 1))) (ty := tyX8 1) (C := RX8) (T := TX8) (N := 2) hx hb hts (fun _ h => List.mem_cons_of_mem _ (List.mem_append_right _ h)) tyX8 tyX8_ok nmX8 hown hK hP hD hS 0 rfl rfl 1 (by decide) (hts (.fieldLink RX8 15 "NotEnded$Tape" "length" "I") (List.mem_cons_of_mem _ (List.mem_append_left _ (List.mem_of_getElem? (i := 0) rfl)))) (fun _ h9 => h9) rfl (tyX8_ok 1 (by decide)) rfl rfl (Nat.le_of_ble_eq_true rfl) dX8_append_49 (fun H locs hP hD hS => ?_)
      have hP : va_P (dC, dI) vwCl [(h0, .inr (8, [.ref q0, .int (nI (k + 1))])), (q0, .inl (cC, 120, .inl f_44))] H := hP
      have hD : va_D A [(h0, .inr (8, [.ref q0, .int (nI (k + 1))])), (q0, .inl (cC, 120, .inl f_44))] := hD
      refine lv_iinc (v := 8) (lv' := [(2, .int 8), (3, .int x_8), (0, .ref h0), (1, .int p0)]) hx hb dX8_append_52 hl (k := 1) rfl (by decide) (by decide) rfl (fun ls hl => ?_)
      refine lv_goto (tgt := 3) hx hb dX8_append_55 (by decide) ?_
      refine lv_iload_n hx hb dX8_append_3 rfl (lv_at hl 0 rfl) ?_
      refine lv_if_lt (tgt := 58) hx hb dX8_append_4 (by decide) (fun c_46 => absurd c_46 (by decide)) (fun c_46 => ?_)
      refine lv_iload_n hx hb dX8_append_7 rfl (lv_at hl 3 rfl) ?_
      refine lv_iload_n hx hb dX8_append_8 rfl (lv_at hl 0 rfl) ?_
      obtain ⟨x_47, ex_47⟩ : ∃ z : Int32, z = (Int32.toUInt32 p0 >>> (Int32.toUInt32 8 &&& Int32.toUInt32 31)).toInt32 := ⟨_, rfl⟩
      refine lv_iushr (v := x_47) hx hb dX8_append_9 ex_47.symm ?_
      refine lv_sipush (v := 255) hx hb dX8_append_10 (by decide) ?_
      refine lv_iand hx hb dX8_append_13 ?_
      refine lv_topi (fun x_48 ex_48 => ?_)
      refine lv_istore_n (lv' := [(3, .int x_48), (2, .int 8), (0, .ref h0), (1, .int p0)]) hx hb dX8_append_14 rfl hl (by decide) rfl (fun ls hl => ?_)
      refine lv_iload_n hx hb dX8_append_15 rfl (lv_at hl 0 rfl) ?_
      have hy_49 : kS p0 8 = x_48 := by rw [ex_48, ex_47]; exact (kSu8 p0).symm
      refine lv_if_eq (tgt := 52) hx hb dX8_append_16 (by decide) (fun c_50 => ?_) (fun c_50 => ?_)
      · refine lv_iinc (v := 0) (lv' := [(2, .int 0), (3, .int x_48), (0, .ref h0), (1, .int p0)]) hx hb dX8_append_52 hl (k := 1) rfl (by decide) (by decide) rfl (fun ls hl => ?_)
        refine lv_goto (tgt := 3) hx hb dX8_append_55 (by decide) ?_
        refine lv_iload_n hx hb dX8_append_3 rfl (lv_at hl 0 rfl) ?_
        refine lv_if_lt (tgt := 58) hx hb dX8_append_4 (by decide) (fun c_51 => absurd c_51 (by decide)) (fun c_51 => ?_)
        refine lv_iload_n hx hb dX8_append_7 rfl (lv_at hl 3 rfl) ?_
        refine lv_iload_n hx hb dX8_append_8 rfl (lv_at hl 0 rfl) ?_
        obtain ⟨x_52, ex_52⟩ : ∃ z : Int32, z = (Int32.toUInt32 p0 >>> (Int32.toUInt32 0 &&& Int32.toUInt32 31)).toInt32 := ⟨_, rfl⟩
        refine lv_iushr (v := x_52) hx hb dX8_append_9 ex_52.symm ?_
        refine lv_sipush (v := 255) hx hb dX8_append_10 (by decide) ?_
        refine lv_iand hx hb dX8_append_13 ?_
        refine lv_topi (fun x_53 ex_53 => ?_)
        refine lv_istore_n (lv' := [(3, .int x_53), (2, .int 0), (0, .ref h0), (1, .int p0)]) hx hb dX8_append_14 rfl hl (by decide) rfl (fun ls hl => ?_)
        refine lv_iload_n hx hb dX8_append_15 rfl (lv_at hl 0 rfl) ?_
        have hy_54 : kS p0 0 = x_53 := by rw [ex_53, ex_52]; exact (kSu0 p0).symm
        refine lv_if_eq (tgt := 52) hx hb dX8_append_16 (by decide) (fun c_55 => ?_) (fun c_55 => ?_)
        · refine lv_iinc (v := (-8)) (lv' := [(2, .int (-8)), (3, .int x_53), (0, .ref h0), (1, .int p0)]) hx hb dX8_append_52 hl (k := 1) rfl (by decide) (by decide) rfl (fun ls hl => ?_)
          refine lv_goto (tgt := 3) hx hb dX8_append_55 (by decide) ?_
          refine lv_iload_n hx hb dX8_append_3 rfl (lv_at hl 0 rfl) ?_
          refine lv_if_lt (tgt := 58) hx hb dX8_append_4 (by decide) (fun c_56 => ?_) (fun c_56 => absurd (by decide) c_56)
          have hk9 : kCnt p0 = 1 := by simp [kCnt, kC1, hy_4, hy_9, hy_49, hy_54, c_5, c_10, c_50, c_55]
          have hP9 : va_P (dC, dI) vwCl [(h0, .inr (8, [.ref q0, .int (nI (k + kCnt p0))])), (q0, .inl (cC, 120, .inl f_44))] H := by rw [hk9]; exact hP.sub [0, 1] rfl
          have hD9 : va_D A [(h0, .inr (8, [.ref q0, .int (nI (k + kCnt p0))])), (q0, .inl (cC, 120, .inl f_44))] := by rw [hk9]; exact hD.sub [0, 1] (by decide) rfl
          have hK9 := hK.sub (tys' := [(cC, .char)]) [0] rfl
          exact W.vret hx hb hr (fun t ht hW => ⟨⟨f_44, rfl, trivial,  by rw [ht]; exact hP9, va_K.moved hW.alike hK9, hD9⟩, hS.F ht⟩) hS.2.2 dX8_append_58
        · refine lv_aload_n hx hb dX8_append_19 rfl (lv_at hl 2 rfl) ?_
          refine va_get (D := (dC, dI)) (ci := 8) (v := .int (nI (k + 1))) (C := RX8) (T := TX8) (N := 2) hx hb hts (fun _ h => List.mem_cons_of_mem _ (List.mem_append_right _ h)) hown hK hP 0 rfl rfl 1 (by decide) (hts (.fieldLink RX8 15 "NotEnded$Tape" "length" "I") (List.mem_cons_of_mem _ (List.mem_append_left _ (List.mem_of_getElem? (i := 0) rfl)))) (fun _ h9 => h9) rfl dX8_append_20 ?_
          refine lv_aload_n hx hb dX8_append_23 rfl (lv_at hl 2 rfl) ?_
          refine va_get (D := (dC, dI)) (ci := 8) (v := .ref q0) (C := RX8) (T := TX8) (N := 2) hx hb hts (fun _ h => List.mem_cons_of_mem _ (List.mem_append_right _ h)) hown hK hP 0 rfl rfl 0 (by decide) (hts (.fieldLink RX8 9 "NotEnded$Tape" "signs" "[C") (List.mem_cons_of_mem _ (List.mem_append_left _ (List.mem_of_getElem? (i := 1) rfl)))) (fun _ h9 => h9) rfl dX8_append_24 ?_
          refine va_alen hx hb hK hP 1 0 rfl rfl (v := 120) rfl dX8_append_27 ?_
          refine lv_icmp_ge (tgt := 52) hx hb dX8_append_28 (by decide) (fun c_57 => absurd c_57 (nI_ge (a := k + 1) (b := 120) (by omega) (by decide))) (fun c_57 => ?_)
          refine lv_aload_n hx hb dX8_append_31 rfl (lv_at hl 2 rfl) ?_
          refine va_get (D := (dC, dI)) (ci := 8) (v := .ref q0) (C := RX8) (T := TX8) (N := 2) hx hb hts (fun _ h => List.mem_cons_of_mem _ (List.mem_append_right _ h)) hown hK hP 0 rfl rfl 0 (by decide) (hts (.fieldLink RX8 9 "NotEnded$Tape" "signs" "[C") (List.mem_cons_of_mem _ (List.mem_append_left _ (List.mem_of_getElem? (i := 1) rfl)))) (fun _ h9 => h9) rfl dX8_append_32 ?_
          refine lv_aload_n hx hb dX8_append_35 rfl (lv_at hl 2 rfl) ?_
          refine va_get (D := (dC, dI)) (ci := 8) (v := .int (nI (k + 1))) (C := RX8) (T := TX8) (N := 2) hx hb hts (fun _ h => List.mem_cons_of_mem _ (List.mem_append_right _ h)) hown hK hP 0 rfl rfl 1 (by decide) (hts (.fieldLink RX8 15 "NotEnded$Tape" "length" "I") (List.mem_cons_of_mem _ (List.mem_append_left _ (List.mem_of_getElem? (i := 0) rfl)))) (fun _ h9 => h9) rfl dX8_append_36 ?_
          refine lv_iload_n hx hb dX8_append_39 rfl (lv_at hl 0 rfl) ?_
          obtain ⟨x_58, ex_58⟩ : ∃ z : Int32, z = (Int32.toUInt32 x_53 % 65536).toInt32 := ⟨_, rfl⟩
          refine lv_i2c (v := x_58) hx hb dX8_append_40 ex_58.symm ?_
          refine va_cast hx hb hK hP hD hS 1 0 rfl rfl (vp_in_nI (n := k + 1) (N := 120) (by omega) (by decide)) dX8_append_41 (fun H locs hP hD hS => ?_)
          obtain ⟨f_59, ef_59⟩ : ∃ gg9 : Nat → Int32, gg9 = upd f_44 (Int32.toNatClampNeg (nI (k + 1))) (vp_nar .char x_58) := ⟨_, rfl⟩
          have hP : va_P (dC, dI) vwCl [(h0, .inr (8, [.ref q0, .int (nI (k + 1))])), (q0, .inl (cC, 120, .inl f_59))] H := by rw [ef_59]; exact hP
          have hD : va_D A [(h0, .inr (8, [.ref q0, .int (nI (k + 1))])), (q0, .inl (cC, 120, .inl f_59))] := by rw [ef_59]; exact hD
          refine lv_aload_n hx hb dX8_append_42 rfl (lv_at hl 2 rfl) ?_
          refine lv_dup hx hb dX8_append_43 rfl ?_
          refine va_get (D := (dC, dI)) (ci := 8) (v := .int (nI (k + 1))) (C := RX8) (T := TX8) (N := 2) hx hb hts (fun _ h => List.mem_cons_of_mem _ (List.mem_append_right _ h)) hown hK hP 0 rfl rfl 1 (by decide) (hts (.fieldLink RX8 15 "NotEnded$Tape" "length" "I") (List.mem_cons_of_mem _ (List.mem_append_left _ (List.mem_of_getElem? (i := 0) rfl)))) (fun _ h9 => h9) rfl dX8_append_44 ?_
          refine lv_iconst (v := 1) hx hb dX8_append_47 (by decide) ?_
          refine lv_iadd hx hb dX8_append_48 ?_
          refine lv_topi (fun y_60 ey_60 => ?_)
          obtain rfl : y_60 = nI (k + 1 + 1) := ey_60.trans (nI_add (k + 1) (1))
          refine va_put (D := (dC, dI)) (ci := 8) (v := .int (nI (k + 1 + 1))) (ty := tyX8 1) (C := RX8) (T := TX8) (N := 2) hx hb hts (fun _ h => List.mem_cons_of_mem _ (List.mem_append_right _ h)) tyX8 tyX8_ok nmX8 hown hK hP hD hS 0 rfl rfl 1 (by decide) (hts (.fieldLink RX8 15 "NotEnded$Tape" "length" "I") (List.mem_cons_of_mem _ (List.mem_append_left _ (List.mem_of_getElem? (i := 0) rfl)))) (fun _ h9 => h9) rfl (tyX8_ok 1 (by decide)) rfl rfl (Nat.le_of_ble_eq_true rfl) dX8_append_49 (fun H locs hP hD hS => ?_)
          have hP : va_P (dC, dI) vwCl [(h0, .inr (8, [.ref q0, .int (nI (k + 1 + 1))])), (q0, .inl (cC, 120, .inl f_59))] H := hP
          have hD : va_D A [(h0, .inr (8, [.ref q0, .int (nI (k + 1 + 1))])), (q0, .inl (cC, 120, .inl f_59))] := hD
          refine lv_iinc (v := (-8)) (lv' := [(2, .int (-8)), (3, .int x_53), (0, .ref h0), (1, .int p0)]) hx hb dX8_append_52 hl (k := 1) rfl (by decide) (by decide) rfl (fun ls hl => ?_)
          refine lv_goto (tgt := 3) hx hb dX8_append_55 (by decide) ?_
          refine lv_iload_n hx hb dX8_append_3 rfl (lv_at hl 0 rfl) ?_
          refine lv_if_lt (tgt := 58) hx hb dX8_append_4 (by decide) (fun c_61 => ?_) (fun c_61 => absurd (by decide) c_61)
          have hk9 : kCnt p0 = 2 := by simp [kCnt, kC1, hy_4, hy_9, hy_49, hy_54, c_5, c_10, c_50, c_55]
          have hP9 : va_P (dC, dI) vwCl [(h0, .inr (8, [.ref q0, .int (nI (k + kCnt p0))])), (q0, .inl (cC, 120, .inl f_59))] H := by rw [hk9]; exact hP.sub [0, 1] rfl
          have hD9 : va_D A [(h0, .inr (8, [.ref q0, .int (nI (k + kCnt p0))])), (q0, .inl (cC, 120, .inl f_59))] := by rw [hk9]; exact hD.sub [0, 1] (by decide) rfl
          have hK9 := hK.sub (tys' := [(cC, .char)]) [0] rfl
          exact W.vret hx hb hr (fun t ht hW => ⟨⟨f_59, rfl, trivial,  by rw [ht]; exact hP9, va_K.moved hW.alike hK9, hD9⟩, hS.F ht⟩) hS.2.2 dX8_append_58
      · refine lv_aload_n hx hb dX8_append_19 rfl (lv_at hl 2 rfl) ?_
        refine va_get (D := (dC, dI)) (ci := 8) (v := .int (nI (k + 1))) (C := RX8) (T := TX8) (N := 2) hx hb hts (fun _ h => List.mem_cons_of_mem _ (List.mem_append_right _ h)) hown hK hP 0 rfl rfl 1 (by decide) (hts (.fieldLink RX8 15 "NotEnded$Tape" "length" "I") (List.mem_cons_of_mem _ (List.mem_append_left _ (List.mem_of_getElem? (i := 0) rfl)))) (fun _ h9 => h9) rfl dX8_append_20 ?_
        refine lv_aload_n hx hb dX8_append_23 rfl (lv_at hl 2 rfl) ?_
        refine va_get (D := (dC, dI)) (ci := 8) (v := .ref q0) (C := RX8) (T := TX8) (N := 2) hx hb hts (fun _ h => List.mem_cons_of_mem _ (List.mem_append_right _ h)) hown hK hP 0 rfl rfl 0 (by decide) (hts (.fieldLink RX8 9 "NotEnded$Tape" "signs" "[C") (List.mem_cons_of_mem _ (List.mem_append_left _ (List.mem_of_getElem? (i := 1) rfl)))) (fun _ h9 => h9) rfl dX8_append_24 ?_
        refine va_alen hx hb hK hP 1 0 rfl rfl (v := 120) rfl dX8_append_27 ?_
        refine lv_icmp_ge (tgt := 52) hx hb dX8_append_28 (by decide) (fun c_62 => absurd c_62 (nI_ge (a := k + 1) (b := 120) (by omega) (by decide))) (fun c_62 => ?_)
        refine lv_aload_n hx hb dX8_append_31 rfl (lv_at hl 2 rfl) ?_
        refine va_get (D := (dC, dI)) (ci := 8) (v := .ref q0) (C := RX8) (T := TX8) (N := 2) hx hb hts (fun _ h => List.mem_cons_of_mem _ (List.mem_append_right _ h)) hown hK hP 0 rfl rfl 0 (by decide) (hts (.fieldLink RX8 9 "NotEnded$Tape" "signs" "[C") (List.mem_cons_of_mem _ (List.mem_append_left _ (List.mem_of_getElem? (i := 1) rfl)))) (fun _ h9 => h9) rfl dX8_append_32 ?_
        refine lv_aload_n hx hb dX8_append_35 rfl (lv_at hl 2 rfl) ?_
        refine va_get (D := (dC, dI)) (ci := 8) (v := .int (nI (k + 1))) (C := RX8) (T := TX8) (N := 2) hx hb hts (fun _ h => List.mem_cons_of_mem _ (List.mem_append_right _ h)) hown hK hP 0 rfl rfl 1 (by decide) (hts (.fieldLink RX8 15 "NotEnded$Tape" "length" "I") (List.mem_cons_of_mem _ (List.mem_append_left _ (List.mem_of_getElem? (i := 0) rfl)))) (fun _ h9 => h9) rfl dX8_append_36 ?_
        refine lv_iload_n hx hb dX8_append_39 rfl (lv_at hl 0 rfl) ?_
        obtain ⟨x_63, ex_63⟩ : ∃ z : Int32, z = (Int32.toUInt32 x_48 % 65536).toInt32 := ⟨_, rfl⟩
        refine lv_i2c (v := x_63) hx hb dX8_append_40 ex_63.symm ?_
        refine va_cast hx hb hK hP hD hS 1 0 rfl rfl (vp_in_nI (n := k + 1) (N := 120) (by omega) (by decide)) dX8_append_41 (fun H locs hP hD hS => ?_)
        obtain ⟨f_64, ef_64⟩ : ∃ gg9 : Nat → Int32, gg9 = upd f_44 (Int32.toNatClampNeg (nI (k + 1))) (vp_nar .char x_63) := ⟨_, rfl⟩
        have hP : va_P (dC, dI) vwCl [(h0, .inr (8, [.ref q0, .int (nI (k + 1))])), (q0, .inl (cC, 120, .inl f_64))] H := by rw [ef_64]; exact hP
        have hD : va_D A [(h0, .inr (8, [.ref q0, .int (nI (k + 1))])), (q0, .inl (cC, 120, .inl f_64))] := by rw [ef_64]; exact hD
        refine lv_aload_n hx hb dX8_append_42 rfl (lv_at hl 2 rfl) ?_
        refine lv_dup hx hb dX8_append_43 rfl ?_
        refine va_get (D := (dC, dI)) (ci := 8) (v := .int (nI (k + 1))) (C := RX8) (T := TX8) (N := 2) hx hb hts (fun _ h => List.mem_cons_of_mem _ (List.mem_append_right _ h)) hown hK hP 0 rfl rfl 1 (by decide) (hts (.fieldLink RX8 15 "NotEnded$Tape" "length" "I") (List.mem_cons_of_mem _ (List.mem_append_left _ (List.mem_of_getElem? (i := 0) rfl)))) (fun _ h9 => h9) rfl dX8_append_44 ?_
        refine lv_iconst (v := 1) hx hb dX8_append_47 (by decide) ?_
        refine lv_iadd hx hb dX8_append_48 ?_
        refine lv_topi (fun y_65 ey_65 => ?_)
        obtain rfl : y_65 = nI (k + 1 + 1) := ey_65.trans (nI_add (k + 1) (1))
        refine va_put (D := (dC, dI)) (ci := 8) (v := .int (nI (k + 1 + 1))) (ty := tyX8 1) (C := RX8) (T := TX8) (N := 2) hx hb hts (fun _ h => List.mem_cons_of_mem _ (List.mem_append_right _ h)) tyX8 tyX8_ok nmX8 hown hK hP hD hS 0 rfl rfl 1 (by decide) (hts (.fieldLink RX8 15 "NotEnded$Tape" "length" "I") (List.mem_cons_of_mem _ (List.mem_append_left _ (List.mem_of_getElem? (i := 0) rfl)))) (fun _ h9 => h9) rfl (tyX8_ok 1 (by decide)) rfl rfl (Nat.le_of_ble_eq_true rfl) dX8_append_49 (fun H locs hP hD hS => ?_)
        have hP : va_P (dC, dI) vwCl [(h0, .inr (8, [.ref q0, .int (nI (k + 1 + 1))])), (q0, .inl (cC, 120, .inl f_64))] H := hP
        have hD : va_D A [(h0, .inr (8, [.ref q0, .int (nI (k + 1 + 1))])), (q0, .inl (cC, 120, .inl f_64))] := hD
        refine lv_iinc (v := 0) (lv' := [(2, .int 0), (3, .int x_48), (0, .ref h0), (1, .int p0)]) hx hb dX8_append_52 hl (k := 1) rfl (by decide) (by decide) rfl (fun ls hl => ?_)
        refine lv_goto (tgt := 3) hx hb dX8_append_55 (by decide) ?_
        refine lv_iload_n hx hb dX8_append_3 rfl (lv_at hl 0 rfl) ?_
        refine lv_if_lt (tgt := 58) hx hb dX8_append_4 (by decide) (fun c_66 => absurd c_66 (by decide)) (fun c_66 => ?_)
        refine lv_iload_n hx hb dX8_append_7 rfl (lv_at hl 3 rfl) ?_
        refine lv_iload_n hx hb dX8_append_8 rfl (lv_at hl 0 rfl) ?_
        obtain ⟨x_67, ex_67⟩ : ∃ z : Int32, z = (Int32.toUInt32 p0 >>> (Int32.toUInt32 0 &&& Int32.toUInt32 31)).toInt32 := ⟨_, rfl⟩
        refine lv_iushr (v := x_67) hx hb dX8_append_9 ex_67.symm ?_
        refine lv_sipush (v := 255) hx hb dX8_append_10 (by decide) ?_
        refine lv_iand hx hb dX8_append_13 ?_
        refine lv_topi (fun x_68 ex_68 => ?_)
        refine lv_istore_n (lv' := [(3, .int x_68), (2, .int 0), (0, .ref h0), (1, .int p0)]) hx hb dX8_append_14 rfl hl (by decide) rfl (fun ls hl => ?_)
        refine lv_iload_n hx hb dX8_append_15 rfl (lv_at hl 0 rfl) ?_
        have hy_69 : kS p0 0 = x_68 := by rw [ex_68, ex_67]; exact (kSu0 p0).symm
        refine lv_if_eq (tgt := 52) hx hb dX8_append_16 (by decide) (fun c_70 => ?_) (fun c_70 => ?_)
        · refine lv_iinc (v := (-8)) (lv' := [(2, .int (-8)), (3, .int x_68), (0, .ref h0), (1, .int p0)]) hx hb dX8_append_52 hl (k := 1) rfl (by decide) (by decide) rfl (fun ls hl => ?_)
          refine lv_goto (tgt := 3) hx hb dX8_append_55 (by decide) ?_
          refine lv_iload_n hx hb dX8_append_3 rfl (lv_at hl 0 rfl) ?_
          refine lv_if_lt (tgt := 58) hx hb dX8_append_4 (by decide) (fun c_71 => ?_) (fun c_71 => absurd (by decide) c_71)
          have hk9 : kCnt p0 = 2 := by simp [kCnt, kC1, hy_4, hy_9, hy_49, hy_69, c_5, c_10, c_50, c_70]
          have hP9 : va_P (dC, dI) vwCl [(h0, .inr (8, [.ref q0, .int (nI (k + kCnt p0))])), (q0, .inl (cC, 120, .inl f_64))] H := by rw [hk9]; exact hP.sub [0, 1] rfl
          have hD9 : va_D A [(h0, .inr (8, [.ref q0, .int (nI (k + kCnt p0))])), (q0, .inl (cC, 120, .inl f_64))] := by rw [hk9]; exact hD.sub [0, 1] (by decide) rfl
          have hK9 := hK.sub (tys' := [(cC, .char)]) [0] rfl
          exact W.vret hx hb hr (fun t ht hW => ⟨⟨f_64, rfl, trivial,  by rw [ht]; exact hP9, va_K.moved hW.alike hK9, hD9⟩, hS.F ht⟩) hS.2.2 dX8_append_58
        · refine lv_aload_n hx hb dX8_append_19 rfl (lv_at hl 2 rfl) ?_
          refine va_get (D := (dC, dI)) (ci := 8) (v := .int (nI (k + 1 + 1))) (C := RX8) (T := TX8) (N := 2) hx hb hts (fun _ h => List.mem_cons_of_mem _ (List.mem_append_right _ h)) hown hK hP 0 rfl rfl 1 (by decide) (hts (.fieldLink RX8 15 "NotEnded$Tape" "length" "I") (List.mem_cons_of_mem _ (List.mem_append_left _ (List.mem_of_getElem? (i := 0) rfl)))) (fun _ h9 => h9) rfl dX8_append_20 ?_
          refine lv_aload_n hx hb dX8_append_23 rfl (lv_at hl 2 rfl) ?_
          refine va_get (D := (dC, dI)) (ci := 8) (v := .ref q0) (C := RX8) (T := TX8) (N := 2) hx hb hts (fun _ h => List.mem_cons_of_mem _ (List.mem_append_right _ h)) hown hK hP 0 rfl rfl 0 (by decide) (hts (.fieldLink RX8 9 "NotEnded$Tape" "signs" "[C") (List.mem_cons_of_mem _ (List.mem_append_left _ (List.mem_of_getElem? (i := 1) rfl)))) (fun _ h9 => h9) rfl dX8_append_24 ?_
          refine va_alen hx hb hK hP 1 0 rfl rfl (v := 120) rfl dX8_append_27 ?_
          refine lv_icmp_ge (tgt := 52) hx hb dX8_append_28 (by decide) (fun c_72 => absurd c_72 (nI_ge (a := k + 1 + 1) (b := 120) (by omega) (by decide))) (fun c_72 => ?_)
          refine lv_aload_n hx hb dX8_append_31 rfl (lv_at hl 2 rfl) ?_
          refine va_get (D := (dC, dI)) (ci := 8) (v := .ref q0) (C := RX8) (T := TX8) (N := 2) hx hb hts (fun _ h => List.mem_cons_of_mem _ (List.mem_append_right _ h)) hown hK hP 0 rfl rfl 0 (by decide) (hts (.fieldLink RX8 9 "NotEnded$Tape" "signs" "[C") (List.mem_cons_of_mem _ (List.mem_append_left _ (List.mem_of_getElem? (i := 1) rfl)))) (fun _ h9 => h9) rfl dX8_append_32 ?_
          refine lv_aload_n hx hb dX8_append_35 rfl (lv_at hl 2 rfl) ?_
          refine va_get (D := (dC, dI)) (ci := 8) (v := .int (nI (k + 1 + 1))) (C := RX8) (T := TX8) (N := 2) hx hb hts (fun _ h => List.mem_cons_of_mem _ (List.mem_append_right _ h)) hown hK hP 0 rfl rfl 1 (by decide) (hts (.fieldLink RX8 15 "NotEnded$Tape" "length" "I") (List.mem_cons_of_mem _ (List.mem_append_left _ (List.mem_of_getElem? (i := 0) rfl)))) (fun _ h9 => h9) rfl dX8_append_36 ?_
          refine lv_iload_n hx hb dX8_append_39 rfl (lv_at hl 0 rfl) ?_
          obtain ⟨x_73, ex_73⟩ : ∃ z : Int32, z = (Int32.toUInt32 x_68 % 65536).toInt32 := ⟨_, rfl⟩
          refine lv_i2c (v := x_73) hx hb dX8_append_40 ex_73.symm ?_
          refine va_cast hx hb hK hP hD hS 1 0 rfl rfl (vp_in_nI (n := k + 1 + 1) (N := 120) (by omega) (by decide)) dX8_append_41 (fun H locs hP hD hS => ?_)
          obtain ⟨f_74, ef_74⟩ : ∃ gg9 : Nat → Int32, gg9 = upd f_64 (Int32.toNatClampNeg (nI (k + 1 + 1))) (vp_nar .char x_73) := ⟨_, rfl⟩
          have hP : va_P (dC, dI) vwCl [(h0, .inr (8, [.ref q0, .int (nI (k + 1 + 1))])), (q0, .inl (cC, 120, .inl f_74))] H := by rw [ef_74]; exact hP
          have hD : va_D A [(h0, .inr (8, [.ref q0, .int (nI (k + 1 + 1))])), (q0, .inl (cC, 120, .inl f_74))] := by rw [ef_74]; exact hD
          refine lv_aload_n hx hb dX8_append_42 rfl (lv_at hl 2 rfl) ?_
          refine lv_dup hx hb dX8_append_43 rfl ?_
          refine va_get (D := (dC, dI)) (ci := 8) (v := .int (nI (k + 1 + 1))) (C := RX8) (T := TX8) (N := 2) hx hb hts (fun _ h => List.mem_cons_of_mem _ (List.mem_append_right _ h)) hown hK hP 0 rfl rfl 1 (by decide) (hts (.fieldLink RX8 15 "NotEnded$Tape" "length" "I") (List.mem_cons_of_mem _ (List.mem_append_left _ (List.mem_of_getElem? (i := 0) rfl)))) (fun _ h9 => h9) rfl dX8_append_44 ?_
          refine lv_iconst (v := 1) hx hb dX8_append_47 (by decide) ?_
          refine lv_iadd hx hb dX8_append_48 ?_
          refine lv_topi (fun y_75 ey_75 => ?_)
          obtain rfl : y_75 = nI (k + 1 + 1 + 1) := ey_75.trans (nI_add (k + 1 + 1) (1))
          refine va_put (D := (dC, dI)) (ci := 8) (v := .int (nI (k + 1 + 1 + 1))) (ty := tyX8 1) (C := RX8) (T := TX8) (N := 2) hx hb hts (fun _ h => List.mem_cons_of_mem _ (List.mem_append_right _ h)) tyX8 tyX8_ok nmX8 hown hK hP hD hS 0 rfl rfl 1 (by decide) (hts (.fieldLink RX8 15 "NotEnded$Tape" "length" "I") (List.mem_cons_of_mem _ (List.mem_append_left _ (List.mem_of_getElem? (i := 0) rfl)))) (fun _ h9 => h9) rfl (tyX8_ok 1 (by decide)) rfl rfl (Nat.le_of_ble_eq_true rfl) dX8_append_49 (fun H locs hP hD hS => ?_)
          have hP : va_P (dC, dI) vwCl [(h0, .inr (8, [.ref q0, .int (nI (k + 1 + 1 + 1))])), (q0, .inl (cC, 120, .inl f_74))] H := hP
          have hD : va_D A [(h0, .inr (8, [.ref q0, .int (nI (k + 1 + 1 + 1))])), (q0, .inl (cC, 120, .inl f_74))] := hD
          refine lv_iinc (v := (-8)) (lv' := [(2, .int (-8)), (3, .int x_68), (0, .ref h0), (1, .int p0)]) hx hb dX8_append_52 hl (k := 1) rfl (by decide) (by decide) rfl (fun ls hl => ?_)
          refine lv_goto (tgt := 3) hx hb dX8_append_55 (by decide) ?_
          refine lv_iload_n hx hb dX8_append_3 rfl (lv_at hl 0 rfl) ?_
          refine lv_if_lt (tgt := 58) hx hb dX8_append_4 (by decide) (fun c_76 => ?_) (fun c_76 => absurd (by decide) c_76)
          have hk9 : kCnt p0 = 3 := by simp [kCnt, kC1, hy_4, hy_9, hy_49, hy_69, c_5, c_10, c_50, c_70]
          have hP9 : va_P (dC, dI) vwCl [(h0, .inr (8, [.ref q0, .int (nI (k + kCnt p0))])), (q0, .inl (cC, 120, .inl f_74))] H := by rw [hk9]; exact hP.sub [0, 1] rfl
          have hD9 : va_D A [(h0, .inr (8, [.ref q0, .int (nI (k + kCnt p0))])), (q0, .inl (cC, 120, .inl f_74))] := by rw [hk9]; exact hD.sub [0, 1] (by decide) rfl
          have hK9 := hK.sub (tys' := [(cC, .char)]) [0] rfl
          exact W.vret hx hb hr (fun t ht hW => ⟨⟨f_74, rfl, trivial,  by rw [ht]; exact hP9, va_K.moved hW.alike hK9, hD9⟩, hS.F ht⟩) hS.2.2 dX8_append_58
  · refine lv_aload_n hx hb dX8_append_19 rfl (lv_at hl 2 rfl) ?_
    refine va_get (D := (dC, dI)) (ci := 8) (v := .int (nI (k))) (C := RX8) (T := TX8) (N := 2) hx hb hts (fun _ h => List.mem_cons_of_mem _ (List.mem_append_right _ h)) hown hK hP 0 rfl rfl 1 (by decide) (hts (.fieldLink RX8 15 "NotEnded$Tape" "length" "I") (List.mem_cons_of_mem _ (List.mem_append_left _ (List.mem_of_getElem? (i := 0) rfl)))) (fun _ h9 => h9) rfl dX8_append_20 ?_
    refine lv_aload_n hx hb dX8_append_23 rfl (lv_at hl 2 rfl) ?_
    refine va_get (D := (dC, dI)) (ci := 8) (v := .ref q0) (C := RX8) (T := TX8) (N := 2) hx hb hts (fun _ h => List.mem_cons_of_mem _ (List.mem_append_right _ h)) hown hK hP 0 rfl rfl 0 (by decide) (hts (.fieldLink RX8 9 "NotEnded$Tape" "signs" "[C") (List.mem_cons_of_mem _ (List.mem_append_left _ (List.mem_of_getElem? (i := 1) rfl)))) (fun _ h9 => h9) rfl dX8_append_24 ?_
    refine va_alen hx hb hK hP 1 0 rfl rfl (v := 120) rfl dX8_append_27 ?_
    refine lv_icmp_ge (tgt := 52) hx hb dX8_append_28 (by decide) (fun c_77 => absurd c_77 (nI_ge (a := k) (b := 120) (by omega) (by decide))) (fun c_77 => ?_)
    refine lv_aload_n hx hb dX8_append_31 rfl (lv_at hl 2 rfl) ?_
    refine va_get (D := (dC, dI)) (ci := 8) (v := .ref q0) (C := RX8) (T := TX8) (N := 2) hx hb hts (fun _ h => List.mem_cons_of_mem _ (List.mem_append_right _ h)) hown hK hP 0 rfl rfl 0 (by decide) (hts (.fieldLink RX8 9 "NotEnded$Tape" "signs" "[C") (List.mem_cons_of_mem _ (List.mem_append_left _ (List.mem_of_getElem? (i := 1) rfl)))) (fun _ h9 => h9) rfl dX8_append_32 ?_
    refine lv_aload_n hx hb dX8_append_35 rfl (lv_at hl 2 rfl) ?_
    refine va_get (D := (dC, dI)) (ci := 8) (v := .int (nI (k))) (C := RX8) (T := TX8) (N := 2) hx hb hts (fun _ h => List.mem_cons_of_mem _ (List.mem_append_right _ h)) hown hK hP 0 rfl rfl 1 (by decide) (hts (.fieldLink RX8 15 "NotEnded$Tape" "length" "I") (List.mem_cons_of_mem _ (List.mem_append_left _ (List.mem_of_getElem? (i := 0) rfl)))) (fun _ h9 => h9) rfl dX8_append_36 ?_
    refine lv_iload_n hx hb dX8_append_39 rfl (lv_at hl 0 rfl) ?_
    obtain ⟨x_78, ex_78⟩ : ∃ z : Int32, z = (Int32.toUInt32 x_3 % 65536).toInt32 := ⟨_, rfl⟩
    refine lv_i2c (v := x_78) hx hb dX8_append_40 ex_78.symm ?_
    refine va_cast hx hb hK hP hD hS 1 0 rfl rfl (vp_in_nI (n := k) (N := 120) (by omega) (by decide)) dX8_append_41 (fun H locs hP hD hS => ?_)
    obtain ⟨f_79, ef_79⟩ : ∃ gg9 : Nat → Int32, gg9 = upd g (Int32.toNatClampNeg (nI (k))) (vp_nar .char x_78) := ⟨_, rfl⟩
    have hP : va_P (dC, dI) vwCl [(h0, .inr (8, [.ref q0, .int (nI (k))])), (q0, .inl (cC, 120, .inl f_79))] H := by rw [ef_79]; exact hP
    have hD : va_D A [(h0, .inr (8, [.ref q0, .int (nI (k))])), (q0, .inl (cC, 120, .inl f_79))] := by rw [ef_79]; exact hD
    refine lv_aload_n hx hb dX8_append_42 rfl (lv_at hl 2 rfl) ?_
    refine lv_dup hx hb dX8_append_43 rfl ?_
    refine va_get (D := (dC, dI)) (ci := 8) (v := .int (nI (k))) (C := RX8) (T := TX8) (N := 2) hx hb hts (fun _ h => List.mem_cons_of_mem _ (List.mem_append_right _ h)) hown hK hP 0 rfl rfl 1 (by decide) (hts (.fieldLink RX8 15 "NotEnded$Tape" "length" "I") (List.mem_cons_of_mem _ (List.mem_append_left _ (List.mem_of_getElem? (i := 0) rfl)))) (fun _ h9 => h9) rfl dX8_append_44 ?_
    refine lv_iconst (v := 1) hx hb dX8_append_47 (by decide) ?_
    refine lv_iadd hx hb dX8_append_48 ?_
    refine lv_topi (fun y_80 ey_80 => ?_)
    obtain rfl : y_80 = nI (k + 1) := ey_80.trans (nI_add (k) (1))
    refine va_put (D := (dC, dI)) (ci := 8) (v := .int (nI (k + 1))) (ty := tyX8 1) (C := RX8) (T := TX8) (N := 2) hx hb hts (fun _ h => List.mem_cons_of_mem _ (List.mem_append_right _ h)) tyX8 tyX8_ok nmX8 hown hK hP hD hS 0 rfl rfl 1 (by decide) (hts (.fieldLink RX8 15 "NotEnded$Tape" "length" "I") (List.mem_cons_of_mem _ (List.mem_append_left _ (List.mem_of_getElem? (i := 0) rfl)))) (fun _ h9 => h9) rfl (tyX8_ok 1 (by decide)) rfl rfl (Nat.le_of_ble_eq_true rfl) dX8_append_49 (fun H locs hP hD hS => ?_)
    have hP : va_P (dC, dI) vwCl [(h0, .inr (8, [.ref q0, .int (nI (k + 1))])), (q0, .inl (cC, 120, .inl f_79))] H := hP
    have hD : va_D A [(h0, .inr (8, [.ref q0, .int (nI (k + 1))])), (q0, .inl (cC, 120, .inl f_79))] := hD
    refine lv_iinc (v := 16) (lv' := [(2, .int 16), (3, .int x_3), (0, .ref h0), (1, .int p0)]) hx hb dX8_append_52 hl (k := 1) rfl (by decide) (by decide) rfl (fun ls hl => ?_)
    refine lv_goto (tgt := 3) hx hb dX8_append_55 (by decide) ?_
    refine lv_iload_n hx hb dX8_append_3 rfl (lv_at hl 0 rfl) ?_
    refine lv_if_lt (tgt := 58) hx hb dX8_append_4 (by decide) (fun c_81 => absurd c_81 (by decide)) (fun c_81 => ?_)
    refine lv_iload_n hx hb dX8_append_7 rfl (lv_at hl 3 rfl) ?_
    refine lv_iload_n hx hb dX8_append_8 rfl (lv_at hl 0 rfl) ?_
    obtain ⟨x_82, ex_82⟩ : ∃ z : Int32, z = (Int32.toUInt32 p0 >>> (Int32.toUInt32 16 &&& Int32.toUInt32 31)).toInt32 := ⟨_, rfl⟩
    refine lv_iushr (v := x_82) hx hb dX8_append_9 ex_82.symm ?_
    refine lv_sipush (v := 255) hx hb dX8_append_10 (by decide) ?_
    refine lv_iand hx hb dX8_append_13 ?_
    refine lv_topi (fun x_83 ex_83 => ?_)
    refine lv_istore_n (lv' := [(3, .int x_83), (2, .int 16), (0, .ref h0), (1, .int p0)]) hx hb dX8_append_14 rfl hl (by decide) rfl (fun ls hl => ?_)
    refine lv_iload_n hx hb dX8_append_15 rfl (lv_at hl 0 rfl) ?_
    have hy_84 : kS p0 16 = x_83 := by rw [ex_83, ex_82]; exact (kSu16 p0).symm
    refine lv_if_eq (tgt := 52) hx hb dX8_append_16 (by decide) (fun c_85 => ?_) (fun c_85 => ?_)
    · refine lv_iinc (v := 8) (lv' := [(2, .int 8), (3, .int x_83), (0, .ref h0), (1, .int p0)]) hx hb dX8_append_52 hl (k := 1) rfl (by decide) (by decide) rfl (fun ls hl => ?_)
      refine lv_goto (tgt := 3) hx hb dX8_append_55 (by decide) ?_
      refine lv_iload_n hx hb dX8_append_3 rfl (lv_at hl 0 rfl) ?_
      refine lv_if_lt (tgt := 58) hx hb dX8_append_4 (by decide) (fun c_86 => absurd c_86 (by decide)) (fun c_86 => ?_)
      refine lv_iload_n hx hb dX8_append_7 rfl (lv_at hl 3 rfl) ?_
      refine lv_iload_n hx hb dX8_append_8 rfl (lv_at hl 0 rfl) ?_
      obtain ⟨x_87, ex_87⟩ : ∃ z : Int32, z = (Int32.toUInt32 p0 >>> (Int32.toUInt32 8 &&& Int32.toUInt32 31)).toInt32 := ⟨_, rfl⟩
      refine lv_iushr (v := x_87) hx hb dX8_append_9 ex_87.symm ?_
      refine lv_sipush (v := 255) hx hb dX8_append_10 (by decide) ?_
      refine lv_iand hx hb dX8_append_13 ?_
      refine lv_topi (fun x_88 ex_88 => ?_)
      refine lv_istore_n (lv' := [(3, .int x_88), (2, .int 8), (0, .ref h0), (1, .int p0)]) hx hb dX8_append_14 rfl hl (by decide) rfl (fun ls hl => ?_)
      refine lv_iload_n hx hb dX8_append_15 rfl (lv_at hl 0 rfl) ?_
      have hy_89 : kS p0 8 = x_88 := by rw [ex_88, ex_87]; exact (kSu8 p0).symm
      refine lv_if_eq (tgt := 52) hx hb dX8_append_16 (by decide) (fun c_90 => ?_) (fun c_90 => ?_)
      · refine lv_iinc (v := 0) (lv' := [(2, .int 0), (3, .int x_88), (0, .ref h0), (1, .int p0)]) hx hb dX8_append_52 hl (k := 1) rfl (by decide) (by decide) rfl (fun ls hl => ?_)
        refine lv_goto (tgt := 3) hx hb dX8_append_55 (by decide) ?_
        refine lv_iload_n hx hb dX8_append_3 rfl (lv_at hl 0 rfl) ?_
        refine lv_if_lt (tgt := 58) hx hb dX8_append_4 (by decide) (fun c_91 => absurd c_91 (by decide)) (fun c_91 => ?_)
        refine lv_iload_n hx hb dX8_append_7 rfl (lv_at hl 3 rfl) ?_
        refine lv_iload_n hx hb dX8_append_8 rfl (lv_at hl 0 rfl) ?_
        obtain ⟨x_92, ex_92⟩ : ∃ z : Int32, z = (Int32.toUInt32 p0 >>> (Int32.toUInt32 0 &&& Int32.toUInt32 31)).toInt32 := ⟨_, rfl⟩
        refine lv_iushr (v := x_92) hx hb dX8_append_9 ex_92.symm ?_
        refine lv_sipush (v := 255) hx hb dX8_append_10 (by decide) ?_
        refine lv_iand hx hb dX8_append_13 ?_
        refine lv_topi (fun x_93 ex_93 => ?_)
        refine lv_istore_n (lv' := [(3, .int x_93), (2, .int 0), (0, .ref h0), (1, .int p0)]) hx hb dX8_append_14 rfl hl (by decide) rfl (fun ls hl => ?_)
        refine lv_iload_n hx hb dX8_append_15 rfl (lv_at hl 0 rfl) ?_
        have hy_94 : kS p0 0 = x_93 := by rw [ex_93, ex_92]; exact (kSu0 p0).symm
        refine lv_if_eq (tgt := 52) hx hb dX8_append_16 (by decide) (fun c_95 => ?_) (fun c_95 => ?_)
        · refine lv_iinc (v := (-8)) (lv' := [(2, .int (-8)), (3, .int x_93), (0, .ref h0), (1, .int p0)]) hx hb dX8_append_52 hl (k := 1) rfl (by decide) (by decide) rfl (fun ls hl => ?_)
          refine lv_goto (tgt := 3) hx hb dX8_append_55 (by decide) ?_
          refine lv_iload_n hx hb dX8_append_3 rfl (lv_at hl 0 rfl) ?_
          refine lv_if_lt (tgt := 58) hx hb dX8_append_4 (by decide) (fun c_96 => ?_) (fun c_96 => absurd (by decide) c_96)
          have hk9 : kCnt p0 = 1 := by simp [kCnt, kC1, hy_4, hy_84, hy_89, hy_94, c_5, c_85, c_90, c_95]
          have hP9 : va_P (dC, dI) vwCl [(h0, .inr (8, [.ref q0, .int (nI (k + kCnt p0))])), (q0, .inl (cC, 120, .inl f_79))] H := by rw [hk9]; exact hP.sub [0, 1] rfl
          have hD9 : va_D A [(h0, .inr (8, [.ref q0, .int (nI (k + kCnt p0))])), (q0, .inl (cC, 120, .inl f_79))] := by rw [hk9]; exact hD.sub [0, 1] (by decide) rfl
          have hK9 := hK.sub (tys' := [(cC, .char)]) [0] rfl
          exact W.vret hx hb hr (fun t ht hW => ⟨⟨f_79, rfl, trivial,  by rw [ht]; exact hP9, va_K.moved hW.alike hK9, hD9⟩, hS.F ht⟩) hS.2.2 dX8_append_58
        · refine lv_aload_n hx hb dX8_append_19 rfl (lv_at hl 2 rfl) ?_
          refine va_get (D := (dC, dI)) (ci := 8) (v := .int (nI (k + 1))) (C := RX8) (T := TX8) (N := 2) hx hb hts (fun _ h => List.mem_cons_of_mem _ (List.mem_append_right _ h)) hown hK hP 0 rfl rfl 1 (by decide) (hts (.fieldLink RX8 15 "NotEnded$Tape" "length" "I") (List.mem_cons_of_mem _ (List.mem_append_left _ (List.mem_of_getElem? (i := 0) rfl)))) (fun _ h9 => h9) rfl dX8_append_20 ?_
          refine lv_aload_n hx hb dX8_append_23 rfl (lv_at hl 2 rfl) ?_
          refine va_get (D := (dC, dI)) (ci := 8) (v := .ref q0) (C := RX8) (T := TX8) (N := 2) hx hb hts (fun _ h => List.mem_cons_of_mem _ (List.mem_append_right _ h)) hown hK hP 0 rfl rfl 0 (by decide) (hts (.fieldLink RX8 9 "NotEnded$Tape" "signs" "[C") (List.mem_cons_of_mem _ (List.mem_append_left _ (List.mem_of_getElem? (i := 1) rfl)))) (fun _ h9 => h9) rfl dX8_append_24 ?_
          refine va_alen hx hb hK hP 1 0 rfl rfl (v := 120) rfl dX8_append_27 ?_
          refine lv_icmp_ge (tgt := 52) hx hb dX8_append_28 (by decide) (fun c_97 => absurd c_97 (nI_ge (a := k + 1) (b := 120) (by omega) (by decide))) (fun c_97 => ?_)
          refine lv_aload_n hx hb dX8_append_31 rfl (lv_at hl 2 rfl) ?_
          refine va_get (D := (dC, dI)) (ci := 8) (v := .ref q0) (C := RX8) (T := TX8) (N := 2) hx hb hts (fun _ h => List.mem_cons_of_mem _ (List.mem_append_right _ h)) hown hK hP 0 rfl rfl 0 (by decide) (hts (.fieldLink RX8 9 "NotEnded$Tape" "signs" "[C") (List.mem_cons_of_mem _ (List.mem_append_left _ (List.mem_of_getElem? (i := 1) rfl)))) (fun _ h9 => h9) rfl dX8_append_32 ?_
          refine lv_aload_n hx hb dX8_append_35 rfl (lv_at hl 2 rfl) ?_
          refine va_get (D := (dC, dI)) (ci := 8) (v := .int (nI (k + 1))) (C := RX8) (T := TX8) (N := 2) hx hb hts (fun _ h => List.mem_cons_of_mem _ (List.mem_append_right _ h)) hown hK hP 0 rfl rfl 1 (by decide) (hts (.fieldLink RX8 15 "NotEnded$Tape" "length" "I") (List.mem_cons_of_mem _ (List.mem_append_left _ (List.mem_of_getElem? (i := 0) rfl)))) (fun _ h9 => h9) rfl dX8_append_36 ?_
          refine lv_iload_n hx hb dX8_append_39 rfl (lv_at hl 0 rfl) ?_
          obtain ⟨x_98, ex_98⟩ : ∃ z : Int32, z = (Int32.toUInt32 x_93 % 65536).toInt32 := ⟨_, rfl⟩
          refine lv_i2c (v := x_98) hx hb dX8_append_40 ex_98.symm ?_
          refine va_cast hx hb hK hP hD hS 1 0 rfl rfl (vp_in_nI (n := k + 1) (N := 120) (by omega) (by decide)) dX8_append_41 (fun H locs hP hD hS => ?_)
          obtain ⟨f_99, ef_99⟩ : ∃ gg9 : Nat → Int32, gg9 = upd f_79 (Int32.toNatClampNeg (nI (k + 1))) (vp_nar .char x_98) := ⟨_, rfl⟩
          have hP : va_P (dC, dI) vwCl [(h0, .inr (8, [.ref q0, .int (nI (k + 1))])), (q0, .inl (cC, 120, .inl f_99))] H := by rw [ef_99]; exact hP
          have hD : va_D A [(h0, .inr (8, [.ref q0, .int (nI (k + 1))])), (q0, .inl (cC, 120, .inl f_99))] := by rw [ef_99]; exact hD
          refine lv_aload_n hx hb dX8_append_42 rfl (lv_at hl 2 rfl) ?_
          refine lv_dup hx hb dX8_append_43 rfl ?_
          refine va_get (D := (dC, dI)) (ci := 8) (v := .int (nI (k + 1))) (C := RX8) (T := TX8) (N := 2) hx hb hts (fun _ h => List.mem_cons_of_mem _ (List.mem_append_right _ h)) hown hK hP 0 rfl rfl 1 (by decide) (hts (.fieldLink RX8 15 "NotEnded$Tape" "length" "I") (List.mem_cons_of_mem _ (List.mem_append_left _ (List.mem_of_getElem? (i := 0) rfl)))) (fun _ h9 => h9) rfl dX8_append_44 ?_
          refine lv_iconst (v := 1) hx hb dX8_append_47 (by decide) ?_
          refine lv_iadd hx hb dX8_append_48 ?_
          refine lv_topi (fun y_100 ey_100 => ?_)
          obtain rfl : y_100 = nI (k + 1 + 1) := ey_100.trans (nI_add (k + 1) (1))
          refine va_put (D := (dC, dI)) (ci := 8) (v := .int (nI (k + 1 + 1))) (ty := tyX8 1) (C := RX8) (T := TX8) (N := 2) hx hb hts (fun _ h => List.mem_cons_of_mem _ (List.mem_append_right _ h)) tyX8 tyX8_ok nmX8 hown hK hP hD hS 0 rfl rfl 1 (by decide) (hts (.fieldLink RX8 15 "NotEnded$Tape" "length" "I") (List.mem_cons_of_mem _ (List.mem_append_left _ (List.mem_of_getElem? (i := 0) rfl)))) (fun _ h9 => h9) rfl (tyX8_ok 1 (by decide)) rfl rfl (Nat.le_of_ble_eq_true rfl) dX8_append_49 (fun H locs hP hD hS => ?_)
          have hP : va_P (dC, dI) vwCl [(h0, .inr (8, [.ref q0, .int (nI (k + 1 + 1))])), (q0, .inl (cC, 120, .inl f_99))] H := hP
          have hD : va_D A [(h0, .inr (8, [.ref q0, .int (nI (k + 1 + 1))])), (q0, .inl (cC, 120, .inl f_99))] := hD
          refine lv_iinc (v := (-8)) (lv' := [(2, .int (-8)), (3, .int x_93), (0, .ref h0), (1, .int p0)]) hx hb dX8_append_52 hl (k := 1) rfl (by decide) (by decide) rfl (fun ls hl => ?_)
          refine lv_goto (tgt := 3) hx hb dX8_append_55 (by decide) ?_
          refine lv_iload_n hx hb dX8_append_3 rfl (lv_at hl 0 rfl) ?_
          refine lv_if_lt (tgt := 58) hx hb dX8_append_4 (by decide) (fun c_101 => ?_) (fun c_101 => absurd (by decide) c_101)
          have hk9 : kCnt p0 = 2 := by simp [kCnt, kC1, hy_4, hy_84, hy_89, hy_94, c_5, c_85, c_90, c_95]
          have hP9 : va_P (dC, dI) vwCl [(h0, .inr (8, [.ref q0, .int (nI (k + kCnt p0))])), (q0, .inl (cC, 120, .inl f_99))] H := by rw [hk9]; exact hP.sub [0, 1] rfl
          have hD9 : va_D A [(h0, .inr (8, [.ref q0, .int (nI (k + kCnt p0))])), (q0, .inl (cC, 120, .inl f_99))] := by rw [hk9]; exact hD.sub [0, 1] (by decide) rfl
          have hK9 := hK.sub (tys' := [(cC, .char)]) [0] rfl
          exact W.vret hx hb hr (fun t ht hW => ⟨⟨f_99, rfl, trivial,  by rw [ht]; exact hP9, va_K.moved hW.alike hK9, hD9⟩, hS.F ht⟩) hS.2.2 dX8_append_58
      · refine lv_aload_n hx hb dX8_append_19 rfl (lv_at hl 2 rfl) ?_
        refine va_get (D := (dC, dI)) (ci := 8) (v := .int (nI (k + 1))) (C := RX8) (T := TX8) (N := 2) hx hb hts (fun _ h => List.mem_cons_of_mem _ (List.mem_append_right _ h)) hown hK hP 0 rfl rfl 1 (by decide) (hts (.fieldLink RX8 15 "NotEnded$Tape" "length" "I") (List.mem_cons_of_mem _ (List.mem_append_left _ (List.mem_of_getElem? (i := 0) rfl)))) (fun _ h9 => h9) rfl dX8_append_20 ?_
        refine lv_aload_n hx hb dX8_append_23 rfl (lv_at hl 2 rfl) ?_
        refine va_get (D := (dC, dI)) (ci := 8) (v := .ref q0) (C := RX8) (T := TX8) (N := 2) hx hb hts (fun _ h => List.mem_cons_of_mem _ (List.mem_append_right _ h)) hown hK hP 0 rfl rfl 0 (by decide) (hts (.fieldLink RX8 9 "NotEnded$Tape" "signs" "[C") (List.mem_cons_of_mem _ (List.mem_append_left _ (List.mem_of_getElem? (i := 1) rfl)))) (fun _ h9 => h9) rfl dX8_append_24 ?_
        refine va_alen hx hb hK hP 1 0 rfl rfl (v := 120) rfl dX8_append_27 ?_
        refine lv_icmp_ge (tgt := 52) hx hb dX8_append_28 (by decide) (fun c_102 => absurd c_102 (nI_ge (a := k + 1) (b := 120) (by omega) (by decide))) (fun c_102 => ?_)
        refine lv_aload_n hx hb dX8_append_31 rfl (lv_at hl 2 rfl) ?_
        refine va_get (D := (dC, dI)) (ci := 8) (v := .ref q0) (C := RX8) (T := TX8) (N := 2) hx hb hts (fun _ h => List.mem_cons_of_mem _ (List.mem_append_right _ h)) hown hK hP 0 rfl rfl 0 (by decide) (hts (.fieldLink RX8 9 "NotEnded$Tape" "signs" "[C") (List.mem_cons_of_mem _ (List.mem_append_left _ (List.mem_of_getElem? (i := 1) rfl)))) (fun _ h9 => h9) rfl dX8_append_32 ?_
        refine lv_aload_n hx hb dX8_append_35 rfl (lv_at hl 2 rfl) ?_
        refine va_get (D := (dC, dI)) (ci := 8) (v := .int (nI (k + 1))) (C := RX8) (T := TX8) (N := 2) hx hb hts (fun _ h => List.mem_cons_of_mem _ (List.mem_append_right _ h)) hown hK hP 0 rfl rfl 1 (by decide) (hts (.fieldLink RX8 15 "NotEnded$Tape" "length" "I") (List.mem_cons_of_mem _ (List.mem_append_left _ (List.mem_of_getElem? (i := 0) rfl)))) (fun _ h9 => h9) rfl dX8_append_36 ?_
        refine lv_iload_n hx hb dX8_append_39 rfl (lv_at hl 0 rfl) ?_
        obtain ⟨x_103, ex_103⟩ : ∃ z : Int32, z = (Int32.toUInt32 x_88 % 65536).toInt32 := ⟨_, rfl⟩
        refine lv_i2c (v := x_103) hx hb dX8_append_40 ex_103.symm ?_
        refine va_cast hx hb hK hP hD hS 1 0 rfl rfl (vp_in_nI (n := k + 1) (N := 120) (by omega) (by decide)) dX8_append_41 (fun H locs hP hD hS => ?_)
        obtain ⟨f_104, ef_104⟩ : ∃ gg9 : Nat → Int32, gg9 = upd f_79 (Int32.toNatClampNeg (nI (k + 1))) (vp_nar .char x_103) := ⟨_, rfl⟩
        have hP : va_P (dC, dI) vwCl [(h0, .inr (8, [.ref q0, .int (nI (k + 1))])), (q0, .inl (cC, 120, .inl f_104))] H := by rw [ef_104]; exact hP
        have hD : va_D A [(h0, .inr (8, [.ref q0, .int (nI (k + 1))])), (q0, .inl (cC, 120, .inl f_104))] := by rw [ef_104]; exact hD
        refine lv_aload_n hx hb dX8_append_42 rfl (lv_at hl 2 rfl) ?_
        refine lv_dup hx hb dX8_append_43 rfl ?_
        refine va_get (D := (dC, dI)) (ci := 8) (v := .int (nI (k + 1))) (C := RX8) (T := TX8) (N := 2) hx hb hts (fun _ h => List.mem_cons_of_mem _ (List.mem_append_right _ h)) hown hK hP 0 rfl rfl 1 (by decide) (hts (.fieldLink RX8 15 "NotEnded$Tape" "length" "I") (List.mem_cons_of_mem _ (List.mem_append_left _ (List.mem_of_getElem? (i := 0) rfl)))) (fun _ h9 => h9) rfl dX8_append_44 ?_
        refine lv_iconst (v := 1) hx hb dX8_append_47 (by decide) ?_
        refine lv_iadd hx hb dX8_append_48 ?_
        refine lv_topi (fun y_105 ey_105 => ?_)
        obtain rfl : y_105 = nI (k + 1 + 1) := ey_105.trans (nI_add (k + 1) (1))
        refine va_put (D := (dC, dI)) (ci := 8) (v := .int (nI (k + 1 + 1))) (ty := tyX8 1) (C := RX8) (T := TX8) (N := 2) hx hb hts (fun _ h => List.mem_cons_of_mem _ (List.mem_append_right _ h)) tyX8 tyX8_ok nmX8 hown hK hP hD hS 0 rfl rfl 1 (by decide) (hts (.fieldLink RX8 15 "NotEnded$Tape" "length" "I") (List.mem_cons_of_mem _ (List.mem_append_left _ (List.mem_of_getElem? (i := 0) rfl)))) (fun _ h9 => h9) rfl (tyX8_ok 1 (by decide)) rfl rfl (Nat.le_of_ble_eq_true rfl) dX8_append_49 (fun H locs hP hD hS => ?_)
        have hP : va_P (dC, dI) vwCl [(h0, .inr (8, [.ref q0, .int (nI (k + 1 + 1))])), (q0, .inl (cC, 120, .inl f_104))] H := hP
        have hD : va_D A [(h0, .inr (8, [.ref q0, .int (nI (k + 1 + 1))])), (q0, .inl (cC, 120, .inl f_104))] := hD
        refine lv_iinc (v := 0) (lv' := [(2, .int 0), (3, .int x_88), (0, .ref h0), (1, .int p0)]) hx hb dX8_append_52 hl (k := 1) rfl (by decide) (by decide) rfl (fun ls hl => ?_)
        refine lv_goto (tgt := 3) hx hb dX8_append_55 (by decide) ?_
        refine lv_iload_n hx hb dX8_append_3 rfl (lv_at hl 0 rfl) ?_
        refine lv_if_lt (tgt := 58) hx hb dX8_append_4 (by decide) (fun c_106 => absurd c_106 (by decide)) (fun c_106 => ?_)
        refine lv_iload_n hx hb dX8_append_7 rfl (lv_at hl 3 rfl) ?_
        refine lv_iload_n hx hb dX8_append_8 rfl (lv_at hl 0 rfl) ?_
        obtain ⟨x_107, ex_107⟩ : ∃ z : Int32, z = (Int32.toUInt32 p0 >>> (Int32.toUInt32 0 &&& Int32.toUInt32 31)).toInt32 := ⟨_, rfl⟩
        refine lv_iushr (v := x_107) hx hb dX8_append_9 ex_107.symm ?_
        refine lv_sipush (v := 255) hx hb dX8_append_10 (by decide) ?_
        refine lv_iand hx hb dX8_append_13 ?_
        refine lv_topi (fun x_108 ex_108 => ?_)
        refine lv_istore_n (lv' := [(3, .int x_108), (2, .int 0), (0, .ref h0), (1, .int p0)]) hx hb dX8_append_14 rfl hl (by decide) rfl (fun ls hl => ?_)
        refine lv_iload_n hx hb dX8_append_15 rfl (lv_at hl 0 rfl) ?_
        have hy_109 : kS p0 0 = x_108 := by rw [ex_108, ex_107]; exact (kSu0 p0).symm
        refine lv_if_eq (tgt := 52) hx hb dX8_append_16 (by decide) (fun c_110 => ?_) (fun c_110 => ?_)
        · refine lv_iinc (v := (-8)) (lv' := [(2, .int (-8)), (3, .int x_108), (0, .ref h0), (1, .int p0)]) hx hb dX8_append_52 hl (k := 1) rfl (by decide) (by decide) rfl (fun ls hl => ?_)
          refine lv_goto (tgt := 3) hx hb dX8_append_55 (by decide) ?_
          refine lv_iload_n hx hb dX8_append_3 rfl (lv_at hl 0 rfl) ?_
          refine lv_if_lt (tgt := 58) hx hb dX8_append_4 (by decide) (fun c_111 => ?_) (fun c_111 => absurd (by decide) c_111)
          have hk9 : kCnt p0 = 2 := by simp [kCnt, kC1, hy_4, hy_84, hy_89, hy_109, c_5, c_85, c_90, c_110]
          have hP9 : va_P (dC, dI) vwCl [(h0, .inr (8, [.ref q0, .int (nI (k + kCnt p0))])), (q0, .inl (cC, 120, .inl f_104))] H := by rw [hk9]; exact hP.sub [0, 1] rfl
          have hD9 : va_D A [(h0, .inr (8, [.ref q0, .int (nI (k + kCnt p0))])), (q0, .inl (cC, 120, .inl f_104))] := by rw [hk9]; exact hD.sub [0, 1] (by decide) rfl
          have hK9 := hK.sub (tys' := [(cC, .char)]) [0] rfl
          exact W.vret hx hb hr (fun t ht hW => ⟨⟨f_104, rfl, trivial,  by rw [ht]; exact hP9, va_K.moved hW.alike hK9, hD9⟩, hS.F ht⟩) hS.2.2 dX8_append_58
        · refine lv_aload_n hx hb dX8_append_19 rfl (lv_at hl 2 rfl) ?_
          refine va_get (D := (dC, dI)) (ci := 8) (v := .int (nI (k + 1 + 1))) (C := RX8) (T := TX8) (N := 2) hx hb hts (fun _ h => List.mem_cons_of_mem _ (List.mem_append_right _ h)) hown hK hP 0 rfl rfl 1 (by decide) (hts (.fieldLink RX8 15 "NotEnded$Tape" "length" "I") (List.mem_cons_of_mem _ (List.mem_append_left _ (List.mem_of_getElem? (i := 0) rfl)))) (fun _ h9 => h9) rfl dX8_append_20 ?_
          refine lv_aload_n hx hb dX8_append_23 rfl (lv_at hl 2 rfl) ?_
          refine va_get (D := (dC, dI)) (ci := 8) (v := .ref q0) (C := RX8) (T := TX8) (N := 2) hx hb hts (fun _ h => List.mem_cons_of_mem _ (List.mem_append_right _ h)) hown hK hP 0 rfl rfl 0 (by decide) (hts (.fieldLink RX8 9 "NotEnded$Tape" "signs" "[C") (List.mem_cons_of_mem _ (List.mem_append_left _ (List.mem_of_getElem? (i := 1) rfl)))) (fun _ h9 => h9) rfl dX8_append_24 ?_
          refine va_alen hx hb hK hP 1 0 rfl rfl (v := 120) rfl dX8_append_27 ?_
          refine lv_icmp_ge (tgt := 52) hx hb dX8_append_28 (by decide) (fun c_112 => absurd c_112 (nI_ge (a := k + 1 + 1) (b := 120) (by omega) (by decide))) (fun c_112 => ?_)
          refine lv_aload_n hx hb dX8_append_31 rfl (lv_at hl 2 rfl) ?_
          refine va_get (D := (dC, dI)) (ci := 8) (v := .ref q0) (C := RX8) (T := TX8) (N := 2) hx hb hts (fun _ h => List.mem_cons_of_mem _ (List.mem_append_right _ h)) hown hK hP 0 rfl rfl 0 (by decide) (hts (.fieldLink RX8 9 "NotEnded$Tape" "signs" "[C") (List.mem_cons_of_mem _ (List.mem_append_left _ (List.mem_of_getElem? (i := 1) rfl)))) (fun _ h9 => h9) rfl dX8_append_32 ?_
          refine lv_aload_n hx hb dX8_append_35 rfl (lv_at hl 2 rfl) ?_
          refine va_get (D := (dC, dI)) (ci := 8) (v := .int (nI (k + 1 + 1))) (C := RX8) (T := TX8) (N := 2) hx hb hts (fun _ h => List.mem_cons_of_mem _ (List.mem_append_right _ h)) hown hK hP 0 rfl rfl 1 (by decide) (hts (.fieldLink RX8 15 "NotEnded$Tape" "length" "I") (List.mem_cons_of_mem _ (List.mem_append_left _ (List.mem_of_getElem? (i := 0) rfl)))) (fun _ h9 => h9) rfl dX8_append_36 ?_
          refine lv_iload_n hx hb dX8_append_39 rfl (lv_at hl 0 rfl) ?_
          obtain ⟨x_113, ex_113⟩ : ∃ z : Int32, z = (Int32.toUInt32 x_108 % 65536).toInt32 := ⟨_, rfl⟩
          refine lv_i2c (v := x_113) hx hb dX8_append_40 ex_113.symm ?_
          refine va_cast hx hb hK hP hD hS 1 0 rfl rfl (vp_in_nI (n := k + 1 + 1) (N := 120) (by omega) (by decide)) dX8_append_41 (fun H locs hP hD hS => ?_)
          obtain ⟨f_114, ef_114⟩ : ∃ gg9 : Nat → Int32, gg9 = upd f_104 (Int32.toNatClampNeg (nI (k + 1 + 1))) (vp_nar .char x_113) := ⟨_, rfl⟩
          have hP : va_P (dC, dI) vwCl [(h0, .inr (8, [.ref q0, .int (nI (k + 1 + 1))])), (q0, .inl (cC, 120, .inl f_114))] H := by rw [ef_114]; exact hP
          have hD : va_D A [(h0, .inr (8, [.ref q0, .int (nI (k + 1 + 1))])), (q0, .inl (cC, 120, .inl f_114))] := by rw [ef_114]; exact hD
          refine lv_aload_n hx hb dX8_append_42 rfl (lv_at hl 2 rfl) ?_
          refine lv_dup hx hb dX8_append_43 rfl ?_
          refine va_get (D := (dC, dI)) (ci := 8) (v := .int (nI (k + 1 + 1))) (C := RX8) (T := TX8) (N := 2) hx hb hts (fun _ h => List.mem_cons_of_mem _ (List.mem_append_right _ h)) hown hK hP 0 rfl rfl 1 (by decide) (hts (.fieldLink RX8 15 "NotEnded$Tape" "length" "I") (List.mem_cons_of_mem _ (List.mem_append_left _ (List.mem_of_getElem? (i := 0) rfl)))) (fun _ h9 => h9) rfl dX8_append_44 ?_
          refine lv_iconst (v := 1) hx hb dX8_append_47 (by decide) ?_
          refine lv_iadd hx hb dX8_append_48 ?_
          refine lv_topi (fun y_115 ey_115 => ?_)
          obtain rfl : y_115 = nI (k + 1 + 1 + 1) := ey_115.trans (nI_add (k + 1 + 1) (1))
          refine va_put (D := (dC, dI)) (ci := 8) (v := .int (nI (k + 1 + 1 + 1))) (ty := tyX8 1) (C := RX8) (T := TX8) (N := 2) hx hb hts (fun _ h => List.mem_cons_of_mem _ (List.mem_append_right _ h)) tyX8 tyX8_ok nmX8 hown hK hP hD hS 0 rfl rfl 1 (by decide) (hts (.fieldLink RX8 15 "NotEnded$Tape" "length" "I") (List.mem_cons_of_mem _ (List.mem_append_left _ (List.mem_of_getElem? (i := 0) rfl)))) (fun _ h9 => h9) rfl (tyX8_ok 1 (by decide)) rfl rfl (Nat.le_of_ble_eq_true rfl) dX8_append_49 (fun H locs hP hD hS => ?_)
          have hP : va_P (dC, dI) vwCl [(h0, .inr (8, [.ref q0, .int (nI (k + 1 + 1 + 1))])), (q0, .inl (cC, 120, .inl f_114))] H := hP
          have hD : va_D A [(h0, .inr (8, [.ref q0, .int (nI (k + 1 + 1 + 1))])), (q0, .inl (cC, 120, .inl f_114))] := hD
          refine lv_iinc (v := (-8)) (lv' := [(2, .int (-8)), (3, .int x_108), (0, .ref h0), (1, .int p0)]) hx hb dX8_append_52 hl (k := 1) rfl (by decide) (by decide) rfl (fun ls hl => ?_)
          refine lv_goto (tgt := 3) hx hb dX8_append_55 (by decide) ?_
          refine lv_iload_n hx hb dX8_append_3 rfl (lv_at hl 0 rfl) ?_
          refine lv_if_lt (tgt := 58) hx hb dX8_append_4 (by decide) (fun c_116 => ?_) (fun c_116 => absurd (by decide) c_116)
          have hk9 : kCnt p0 = 3 := by simp [kCnt, kC1, hy_4, hy_84, hy_89, hy_109, c_5, c_85, c_90, c_110]
          have hP9 : va_P (dC, dI) vwCl [(h0, .inr (8, [.ref q0, .int (nI (k + kCnt p0))])), (q0, .inl (cC, 120, .inl f_114))] H := by rw [hk9]; exact hP.sub [0, 1] rfl
          have hD9 : va_D A [(h0, .inr (8, [.ref q0, .int (nI (k + kCnt p0))])), (q0, .inl (cC, 120, .inl f_114))] := by rw [hk9]; exact hD.sub [0, 1] (by decide) rfl
          have hK9 := hK.sub (tys' := [(cC, .char)]) [0] rfl
          exact W.vret hx hb hr (fun t ht hW => ⟨⟨f_114, rfl, trivial,  by rw [ht]; exact hP9, va_K.moved hW.alike hK9, hD9⟩, hS.F ht⟩) hS.2.2 dX8_append_58
    · refine lv_aload_n hx hb dX8_append_19 rfl (lv_at hl 2 rfl) ?_
      refine va_get (D := (dC, dI)) (ci := 8) (v := .int (nI (k + 1))) (C := RX8) (T := TX8) (N := 2) hx hb hts (fun _ h => List.mem_cons_of_mem _ (List.mem_append_right _ h)) hown hK hP 0 rfl rfl 1 (by decide) (hts (.fieldLink RX8 15 "NotEnded$Tape" "length" "I") (List.mem_cons_of_mem _ (List.mem_append_left _ (List.mem_of_getElem? (i := 0) rfl)))) (fun _ h9 => h9) rfl dX8_append_20 ?_
      refine lv_aload_n hx hb dX8_append_23 rfl (lv_at hl 2 rfl) ?_
      refine va_get (D := (dC, dI)) (ci := 8) (v := .ref q0) (C := RX8) (T := TX8) (N := 2) hx hb hts (fun _ h => List.mem_cons_of_mem _ (List.mem_append_right _ h)) hown hK hP 0 rfl rfl 0 (by decide) (hts (.fieldLink RX8 9 "NotEnded$Tape" "signs" "[C") (List.mem_cons_of_mem _ (List.mem_append_left _ (List.mem_of_getElem? (i := 1) rfl)))) (fun _ h9 => h9) rfl dX8_append_24 ?_
      refine va_alen hx hb hK hP 1 0 rfl rfl (v := 120) rfl dX8_append_27 ?_
      refine lv_icmp_ge (tgt := 52) hx hb dX8_append_28 (by decide) (fun c_117 => absurd c_117 (nI_ge (a := k + 1) (b := 120) (by omega) (by decide))) (fun c_117 => ?_)
      refine lv_aload_n hx hb dX8_append_31 rfl (lv_at hl 2 rfl) ?_
      refine va_get (D := (dC, dI)) (ci := 8) (v := .ref q0) (C := RX8) (T := TX8) (N := 2) hx hb hts (fun _ h => List.mem_cons_of_mem _ (List.mem_append_right _ h)) hown hK hP 0 rfl rfl 0 (by decide) (hts (.fieldLink RX8 9 "NotEnded$Tape" "signs" "[C") (List.mem_cons_of_mem _ (List.mem_append_left _ (List.mem_of_getElem? (i := 1) rfl)))) (fun _ h9 => h9) rfl dX8_append_32 ?_
      refine lv_aload_n hx hb dX8_append_35 rfl (lv_at hl 2 rfl) ?_
      refine va_get (D := (dC, dI)) (ci := 8) (v := .int (nI (k + 1))) (C := RX8) (T := TX8) (N := 2) hx hb hts (fun _ h => List.mem_cons_of_mem _ (List.mem_append_right _ h)) hown hK hP 0 rfl rfl 1 (by decide) (hts (.fieldLink RX8 15 "NotEnded$Tape" "length" "I") (List.mem_cons_of_mem _ (List.mem_append_left _ (List.mem_of_getElem? (i := 0) rfl)))) (fun _ h9 => h9) rfl dX8_append_36 ?_
      refine lv_iload_n hx hb dX8_append_39 rfl (lv_at hl 0 rfl) ?_
      obtain ⟨x_118, ex_118⟩ : ∃ z : Int32, z = (Int32.toUInt32 x_83 % 65536).toInt32 := ⟨_, rfl⟩
      refine lv_i2c (v := x_118) hx hb dX8_append_40 ex_118.symm ?_
      refine va_cast hx hb hK hP hD hS 1 0 rfl rfl (vp_in_nI (n := k + 1) (N := 120) (by omega) (by decide)) dX8_append_41 (fun H locs hP hD hS => ?_)
      obtain ⟨f_119, ef_119⟩ : ∃ gg9 : Nat → Int32, gg9 = upd f_79 (Int32.toNatClampNeg (nI (k + 1))) (vp_nar .char x_118) := ⟨_, rfl⟩
      have hP : va_P (dC, dI) vwCl [(h0, .inr (8, [.ref q0, .int (nI (k + 1))])), (q0, .inl (cC, 120, .inl f_119))] H := by rw [ef_119]; exact hP
      have hD : va_D A [(h0, .inr (8, [.ref q0, .int (nI (k + 1))])), (q0, .inl (cC, 120, .inl f_119))] := by rw [ef_119]; exact hD
      refine lv_aload_n hx hb dX8_append_42 rfl (lv_at hl 2 rfl) ?_
      refine lv_dup hx hb dX8_append_43 rfl ?_
      refine va_get (D := (dC, dI)) (ci := 8) (v := .int (nI (k + 1))) (C := RX8) (T := TX8) (N := 2) hx hb hts (fun _ h => List.mem_cons_of_mem _ (List.mem_append_right _ h)) hown hK hP 0 rfl rfl 1 (by decide) (hts (.fieldLink RX8 15 "NotEnded$Tape" "length" "I") (List.mem_cons_of_mem _ (List.mem_append_left _ (List.mem_of_getElem? (i := 0) rfl)))) (fun _ h9 => h9) rfl dX8_append_44 ?_
      refine lv_iconst (v := 1) hx hb dX8_append_47 (by decide) ?_
      refine lv_iadd hx hb dX8_append_48 ?_
      refine lv_topi (fun y_120 ey_120 => ?_)
      obtain rfl : y_120 = nI (k + 1 + 1) := ey_120.trans (nI_add (k + 1) (1))
      refine va_put (D := (dC, dI)) (ci := 8) (v := .int (nI (k + 1 + 1))) (ty := tyX8 1) (C := RX8) (T := TX8) (N := 2) hx hb hts (fun _ h => List.mem_cons_of_mem _ (List.mem_append_right _ h)) tyX8 tyX8_ok nmX8 hown hK hP hD hS 0 rfl rfl 1 (by decide) (hts (.fieldLink RX8 15 "NotEnded$Tape" "length" "I") (List.mem_cons_of_mem _ (List.mem_append_left _ (List.mem_of_getElem? (i := 0) rfl)))) (fun _ h9 => h9) rfl (tyX8_ok 1 (by decide)) rfl rfl (Nat.le_of_ble_eq_true rfl) dX8_append_49 (fun H locs hP hD hS => ?_)
      have hP : va_P (dC, dI) vwCl [(h0, .inr (8, [.ref q0, .int (nI (k + 1 + 1))])), (q0, .inl (cC, 120, .inl f_119))] H := hP
      have hD : va_D A [(h0, .inr (8, [.ref q0, .int (nI (k + 1 + 1))])), (q0, .inl (cC, 120, .inl f_119))] := hD
      refine lv_iinc (v := 8) (lv' := [(2, .int 8), (3, .int x_83), (0, .ref h0), (1, .int p0)]) hx hb dX8_append_52 hl (k := 1) rfl (by decide) (by decide) rfl (fun ls hl => ?_)
      refine lv_goto (tgt := 3) hx hb dX8_append_55 (by decide) ?_
      refine lv_iload_n hx hb dX8_append_3 rfl (lv_at hl 0 rfl) ?_
      refine lv_if_lt (tgt := 58) hx hb dX8_append_4 (by decide) (fun c_121 => absurd c_121 (by decide)) (fun c_121 => ?_)
      refine lv_iload_n hx hb dX8_append_7 rfl (lv_at hl 3 rfl) ?_
      refine lv_iload_n hx hb dX8_append_8 rfl (lv_at hl 0 rfl) ?_
      obtain ⟨x_122, ex_122⟩ : ∃ z : Int32, z = (Int32.toUInt32 p0 >>> (Int32.toUInt32 8 &&& Int32.toUInt32 31)).toInt32 := ⟨_, rfl⟩
      refine lv_iushr (v := x_122) hx hb dX8_append_9 ex_122.symm ?_
      refine lv_sipush (v := 255) hx hb dX8_append_10 (by decide) ?_
      refine lv_iand hx hb dX8_append_13 ?_
      refine lv_topi (fun x_123 ex_123 => ?_)
      refine lv_istore_n (lv' := [(3, .int x_123), (2, .int 8), (0, .ref h0), (1, .int p0)]) hx hb dX8_append_14 rfl hl (by decide) rfl (fun ls hl => ?_)
      refine lv_iload_n hx hb dX8_append_15 rfl (lv_at hl 0 rfl) ?_
      have hy_124 : kS p0 8 = x_123 := by rw [ex_123, ex_122]; exact (kSu8 p0).symm
      refine lv_if_eq (tgt := 52) hx hb dX8_append_16 (by decide) (fun c_125 => ?_) (fun c_125 => ?_)
      · refine lv_iinc (v := 0) (lv' := [(2, .int 0), (3, .int x_123), (0, .ref h0), (1, .int p0)]) hx hb dX8_append_52 hl (k := 1) rfl (by decide) (by decide) rfl (fun ls hl => ?_)
        refine lv_goto (tgt := 3) hx hb dX8_append_55 (by decide) ?_
        refine lv_iload_n hx hb dX8_append_3 rfl (lv_at hl 0 rfl) ?_
        refine lv_if_lt (tgt := 58) hx hb dX8_append_4 (by decide) (fun c_126 => absurd c_126 (by decide)) (fun c_126 => ?_)
        refine lv_iload_n hx hb dX8_append_7 rfl (lv_at hl 3 rfl) ?_
        refine lv_iload_n hx hb dX8_append_8 rfl (lv_at hl 0 rfl) ?_
        obtain ⟨x_127, ex_127⟩ : ∃ z : Int32, z = (Int32.toUInt32 p0 >>> (Int32.toUInt32 0 &&& Int32.toUInt32 31)).toInt32 := ⟨_, rfl⟩
        refine lv_iushr (v := x_127) hx hb dX8_append_9 ex_127.symm ?_
        refine lv_sipush (v := 255) hx hb dX8_append_10 (by decide) ?_
        refine lv_iand hx hb dX8_append_13 ?_
        refine lv_topi (fun x_128 ex_128 => ?_)
        refine lv_istore_n (lv' := [(3, .int x_128), (2, .int 0), (0, .ref h0), (1, .int p0)]) hx hb dX8_append_14 rfl hl (by decide) rfl (fun ls hl => ?_)
        refine lv_iload_n hx hb dX8_append_15 rfl (lv_at hl 0 rfl) ?_
        have hy_129 : kS p0 0 = x_128 := by rw [ex_128, ex_127]; exact (kSu0 p0).symm
        refine lv_if_eq (tgt := 52) hx hb dX8_append_16 (by decide) (fun c_130 => ?_) (fun c_130 => ?_)
        · refine lv_iinc (v := (-8)) (lv' := [(2, .int (-8)), (3, .int x_128), (0, .ref h0), (1, .int p0)]) hx hb dX8_append_52 hl (k := 1) rfl (by decide) (by decide) rfl (fun ls hl => ?_)
          refine lv_goto (tgt := 3) hx hb dX8_append_55 (by decide) ?_
          refine lv_iload_n hx hb dX8_append_3 rfl (lv_at hl 0 rfl) ?_
          refine lv_if_lt (tgt := 58) hx hb dX8_append_4 (by decide) (fun c_131 => ?_) (fun c_131 => absurd (by decide) c_131)
          have hk9 : kCnt p0 = 2 := by simp [kCnt, kC1, hy_4, hy_84, hy_124, hy_129, c_5, c_85, c_125, c_130]
          have hP9 : va_P (dC, dI) vwCl [(h0, .inr (8, [.ref q0, .int (nI (k + kCnt p0))])), (q0, .inl (cC, 120, .inl f_119))] H := by rw [hk9]; exact hP.sub [0, 1] rfl
          have hD9 : va_D A [(h0, .inr (8, [.ref q0, .int (nI (k + kCnt p0))])), (q0, .inl (cC, 120, .inl f_119))] := by rw [hk9]; exact hD.sub [0, 1] (by decide) rfl
          have hK9 := hK.sub (tys' := [(cC, .char)]) [0] rfl
          exact W.vret hx hb hr (fun t ht hW => ⟨⟨f_119, rfl, trivial,  by rw [ht]; exact hP9, va_K.moved hW.alike hK9, hD9⟩, hS.F ht⟩) hS.2.2 dX8_append_58
        · refine lv_aload_n hx hb dX8_append_19 rfl (lv_at hl 2 rfl) ?_
          refine va_get (D := (dC, dI)) (ci := 8) (v := .int (nI (k + 1 + 1))) (C := RX8) (T := TX8) (N := 2) hx hb hts (fun _ h => List.mem_cons_of_mem _ (List.mem_append_right _ h)) hown hK hP 0 rfl rfl 1 (by decide) (hts (.fieldLink RX8 15 "NotEnded$Tape" "length" "I") (List.mem_cons_of_mem _ (List.mem_append_left _ (List.mem_of_getElem? (i := 0) rfl)))) (fun _ h9 => h9) rfl dX8_append_20 ?_
          refine lv_aload_n hx hb dX8_append_23 rfl (lv_at hl 2 rfl) ?_
          refine va_get (D := (dC, dI)) (ci := 8) (v := .ref q0) (C := RX8) (T := TX8) (N := 2) hx hb hts (fun _ h => List.mem_cons_of_mem _ (List.mem_append_right _ h)) hown hK hP 0 rfl rfl 0 (by decide) (hts (.fieldLink RX8 9 "NotEnded$Tape" "signs" "[C") (List.mem_cons_of_mem _ (List.mem_append_left _ (List.mem_of_getElem? (i := 1) rfl)))) (fun _ h9 => h9) rfl dX8_append_24 ?_
          refine va_alen hx hb hK hP 1 0 rfl rfl (v := 120) rfl dX8_append_27 ?_
          refine lv_icmp_ge (tgt := 52) hx hb dX8_append_28 (by decide) (fun c_132 => absurd c_132 (nI_ge (a := k + 1 + 1) (b := 120) (by omega) (by decide))) (fun c_132 => ?_)
          refine lv_aload_n hx hb dX8_append_31 rfl (lv_at hl 2 rfl) ?_
          refine va_get (D := (dC, dI)) (ci := 8) (v := .ref q0) (C := RX8) (T := TX8) (N := 2) hx hb hts (fun _ h => List.mem_cons_of_mem _ (List.mem_append_right _ h)) hown hK hP 0 rfl rfl 0 (by decide) (hts (.fieldLink RX8 9 "NotEnded$Tape" "signs" "[C") (List.mem_cons_of_mem _ (List.mem_append_left _ (List.mem_of_getElem? (i := 1) rfl)))) (fun _ h9 => h9) rfl dX8_append_32 ?_
          refine lv_aload_n hx hb dX8_append_35 rfl (lv_at hl 2 rfl) ?_
          refine va_get (D := (dC, dI)) (ci := 8) (v := .int (nI (k + 1 + 1))) (C := RX8) (T := TX8) (N := 2) hx hb hts (fun _ h => List.mem_cons_of_mem _ (List.mem_append_right _ h)) hown hK hP 0 rfl rfl 1 (by decide) (hts (.fieldLink RX8 15 "NotEnded$Tape" "length" "I") (List.mem_cons_of_mem _ (List.mem_append_left _ (List.mem_of_getElem? (i := 0) rfl)))) (fun _ h9 => h9) rfl dX8_append_36 ?_
          refine lv_iload_n hx hb dX8_append_39 rfl (lv_at hl 0 rfl) ?_
          obtain ⟨x_133, ex_133⟩ : ∃ z : Int32, z = (Int32.toUInt32 x_128 % 65536).toInt32 := ⟨_, rfl⟩
          refine lv_i2c (v := x_133) hx hb dX8_append_40 ex_133.symm ?_
          refine va_cast hx hb hK hP hD hS 1 0 rfl rfl (vp_in_nI (n := k + 1 + 1) (N := 120) (by omega) (by decide)) dX8_append_41 (fun H locs hP hD hS => ?_)
          obtain ⟨f_134, ef_134⟩ : ∃ gg9 : Nat → Int32, gg9 = upd f_119 (Int32.toNatClampNeg (nI (k + 1 + 1))) (vp_nar .char x_133) := ⟨_, rfl⟩
          have hP : va_P (dC, dI) vwCl [(h0, .inr (8, [.ref q0, .int (nI (k + 1 + 1))])), (q0, .inl (cC, 120, .inl f_134))] H := by rw [ef_134]; exact hP
          have hD : va_D A [(h0, .inr (8, [.ref q0, .int (nI (k + 1 + 1))])), (q0, .inl (cC, 120, .inl f_134))] := by rw [ef_134]; exact hD
          refine lv_aload_n hx hb dX8_append_42 rfl (lv_at hl 2 rfl) ?_
          refine lv_dup hx hb dX8_append_43 rfl ?_
          refine va_get (D := (dC, dI)) (ci := 8) (v := .int (nI (k + 1 + 1))) (C := RX8) (T := TX8) (N := 2) hx hb hts (fun _ h => List.mem_cons_of_mem _ (List.mem_append_right _ h)) hown hK hP 0 rfl rfl 1 (by decide) (hts (.fieldLink RX8 15 "NotEnded$Tape" "length" "I") (List.mem_cons_of_mem _ (List.mem_append_left _ (List.mem_of_getElem? (i := 0) rfl)))) (fun _ h9 => h9) rfl dX8_append_44 ?_
          refine lv_iconst (v := 1) hx hb dX8_append_47 (by decide) ?_
          refine lv_iadd hx hb dX8_append_48 ?_
          refine lv_topi (fun y_135 ey_135 => ?_)
          obtain rfl : y_135 = nI (k + 1 + 1 + 1) := ey_135.trans (nI_add (k + 1 + 1) (1))
          refine va_put (D := (dC, dI)) (ci := 8) (v := .int (nI (k + 1 + 1 + 1))) (ty := tyX8 1) (C := RX8) (T := TX8) (N := 2) hx hb hts (fun _ h => List.mem_cons_of_mem _ (List.mem_append_right _ h)) tyX8 tyX8_ok nmX8 hown hK hP hD hS 0 rfl rfl 1 (by decide) (hts (.fieldLink RX8 15 "NotEnded$Tape" "length" "I") (List.mem_cons_of_mem _ (List.mem_append_left _ (List.mem_of_getElem? (i := 0) rfl)))) (fun _ h9 => h9) rfl (tyX8_ok 1 (by decide)) rfl rfl (Nat.le_of_ble_eq_true rfl) dX8_append_49 (fun H locs hP hD hS => ?_)
          have hP : va_P (dC, dI) vwCl [(h0, .inr (8, [.ref q0, .int (nI (k + 1 + 1 + 1))])), (q0, .inl (cC, 120, .inl f_134))] H := hP
          have hD : va_D A [(h0, .inr (8, [.ref q0, .int (nI (k + 1 + 1 + 1))])), (q0, .inl (cC, 120, .inl f_134))] := hD
          refine lv_iinc (v := (-8)) (lv' := [(2, .int (-8)), (3, .int x_128), (0, .ref h0), (1, .int p0)]) hx hb dX8_append_52 hl (k := 1) rfl (by decide) (by decide) rfl (fun ls hl => ?_)
          refine lv_goto (tgt := 3) hx hb dX8_append_55 (by decide) ?_
          refine lv_iload_n hx hb dX8_append_3 rfl (lv_at hl 0 rfl) ?_
          refine lv_if_lt (tgt := 58) hx hb dX8_append_4 (by decide) (fun c_136 => ?_) (fun c_136 => absurd (by decide) c_136)
          have hk9 : kCnt p0 = 3 := by simp [kCnt, kC1, hy_4, hy_84, hy_124, hy_129, c_5, c_85, c_125, c_130]
          have hP9 : va_P (dC, dI) vwCl [(h0, .inr (8, [.ref q0, .int (nI (k + kCnt p0))])), (q0, .inl (cC, 120, .inl f_134))] H := by rw [hk9]; exact hP.sub [0, 1] rfl
          have hD9 : va_D A [(h0, .inr (8, [.ref q0, .int (nI (k + kCnt p0))])), (q0, .inl (cC, 120, .inl f_134))] := by rw [hk9]; exact hD.sub [0, 1] (by decide) rfl
          have hK9 := hK.sub (tys' := [(cC, .char)]) [0] rfl
          exact W.vret hx hb hr (fun t ht hW => ⟨⟨f_134, rfl, trivial,  by rw [ht]; exact hP9, va_K.moved hW.alike hK9, hD9⟩, hS.F ht⟩) hS.2.2 dX8_append_58
      · refine lv_aload_n hx hb dX8_append_19 rfl (lv_at hl 2 rfl) ?_
        refine va_get (D := (dC, dI)) (ci := 8) (v := .int (nI (k + 1 + 1))) (C := RX8) (T := TX8) (N := 2) hx hb hts (fun _ h => List.mem_cons_of_mem _ (List.mem_append_right _ h)) hown hK hP 0 rfl rfl 1 (by decide) (hts (.fieldLink RX8 15 "NotEnded$Tape" "length" "I") (List.mem_cons_of_mem _ (List.mem_append_left _ (List.mem_of_getElem? (i := 0) rfl)))) (fun _ h9 => h9) rfl dX8_append_20 ?_
        refine lv_aload_n hx hb dX8_append_23 rfl (lv_at hl 2 rfl) ?_
        refine va_get (D := (dC, dI)) (ci := 8) (v := .ref q0) (C := RX8) (T := TX8) (N := 2) hx hb hts (fun _ h => List.mem_cons_of_mem _ (List.mem_append_right _ h)) hown hK hP 0 rfl rfl 0 (by decide) (hts (.fieldLink RX8 9 "NotEnded$Tape" "signs" "[C") (List.mem_cons_of_mem _ (List.mem_append_left _ (List.mem_of_getElem? (i := 1) rfl)))) (fun _ h9 => h9) rfl dX8_append_24 ?_
        refine va_alen hx hb hK hP 1 0 rfl rfl (v := 120) rfl dX8_append_27 ?_
        refine lv_icmp_ge (tgt := 52) hx hb dX8_append_28 (by decide) (fun c_137 => absurd c_137 (nI_ge (a := k + 1 + 1) (b := 120) (by omega) (by decide))) (fun c_137 => ?_)
        refine lv_aload_n hx hb dX8_append_31 rfl (lv_at hl 2 rfl) ?_
        refine va_get (D := (dC, dI)) (ci := 8) (v := .ref q0) (C := RX8) (T := TX8) (N := 2) hx hb hts (fun _ h => List.mem_cons_of_mem _ (List.mem_append_right _ h)) hown hK hP 0 rfl rfl 0 (by decide) (hts (.fieldLink RX8 9 "NotEnded$Tape" "signs" "[C") (List.mem_cons_of_mem _ (List.mem_append_left _ (List.mem_of_getElem? (i := 1) rfl)))) (fun _ h9 => h9) rfl dX8_append_32 ?_
        refine lv_aload_n hx hb dX8_append_35 rfl (lv_at hl 2 rfl) ?_
        refine va_get (D := (dC, dI)) (ci := 8) (v := .int (nI (k + 1 + 1))) (C := RX8) (T := TX8) (N := 2) hx hb hts (fun _ h => List.mem_cons_of_mem _ (List.mem_append_right _ h)) hown hK hP 0 rfl rfl 1 (by decide) (hts (.fieldLink RX8 15 "NotEnded$Tape" "length" "I") (List.mem_cons_of_mem _ (List.mem_append_left _ (List.mem_of_getElem? (i := 0) rfl)))) (fun _ h9 => h9) rfl dX8_append_36 ?_
        refine lv_iload_n hx hb dX8_append_39 rfl (lv_at hl 0 rfl) ?_
        obtain ⟨x_138, ex_138⟩ : ∃ z : Int32, z = (Int32.toUInt32 x_123 % 65536).toInt32 := ⟨_, rfl⟩
        refine lv_i2c (v := x_138) hx hb dX8_append_40 ex_138.symm ?_
        refine va_cast hx hb hK hP hD hS 1 0 rfl rfl (vp_in_nI (n := k + 1 + 1) (N := 120) (by omega) (by decide)) dX8_append_41 (fun H locs hP hD hS => ?_)
        obtain ⟨f_139, ef_139⟩ : ∃ gg9 : Nat → Int32, gg9 = upd f_119 (Int32.toNatClampNeg (nI (k + 1 + 1))) (vp_nar .char x_138) := ⟨_, rfl⟩
        have hP : va_P (dC, dI) vwCl [(h0, .inr (8, [.ref q0, .int (nI (k + 1 + 1))])), (q0, .inl (cC, 120, .inl f_139))] H := by rw [ef_139]; exact hP
        have hD : va_D A [(h0, .inr (8, [.ref q0, .int (nI (k + 1 + 1))])), (q0, .inl (cC, 120, .inl f_139))] := by rw [ef_139]; exact hD
        refine lv_aload_n hx hb dX8_append_42 rfl (lv_at hl 2 rfl) ?_
        refine lv_dup hx hb dX8_append_43 rfl ?_
        refine va_get (D := (dC, dI)) (ci := 8) (v := .int (nI (k + 1 + 1))) (C := RX8) (T := TX8) (N := 2) hx hb hts (fun _ h => List.mem_cons_of_mem _ (List.mem_append_right _ h)) hown hK hP 0 rfl rfl 1 (by decide) (hts (.fieldLink RX8 15 "NotEnded$Tape" "length" "I") (List.mem_cons_of_mem _ (List.mem_append_left _ (List.mem_of_getElem? (i := 0) rfl)))) (fun _ h9 => h9) rfl dX8_append_44 ?_
        refine lv_iconst (v := 1) hx hb dX8_append_47 (by decide) ?_
        refine lv_iadd hx hb dX8_append_48 ?_
        refine lv_topi (fun y_140 ey_140 => ?_)
        obtain rfl : y_140 = nI (k + 1 + 1 + 1) := ey_140.trans (nI_add (k + 1 + 1) (1))
        refine va_put (D := (dC, dI)) (ci := 8) (v := .int (nI (k + 1 + 1 + 1))) (ty := tyX8 1) (C := RX8) (T := TX8) (N := 2) hx hb hts (fun _ h => List.mem_cons_of_mem _ (List.mem_append_right _ h)) tyX8 tyX8_ok nmX8 hown hK hP hD hS 0 rfl rfl 1 (by decide) (hts (.fieldLink RX8 15 "NotEnded$Tape" "length" "I") (List.mem_cons_of_mem _ (List.mem_append_left _ (List.mem_of_getElem? (i := 0) rfl)))) (fun _ h9 => h9) rfl (tyX8_ok 1 (by decide)) rfl rfl (Nat.le_of_ble_eq_true rfl) dX8_append_49 (fun H locs hP hD hS => ?_)
        have hP : va_P (dC, dI) vwCl [(h0, .inr (8, [.ref q0, .int (nI (k + 1 + 1 + 1))])), (q0, .inl (cC, 120, .inl f_139))] H := hP
        have hD : va_D A [(h0, .inr (8, [.ref q0, .int (nI (k + 1 + 1 + 1))])), (q0, .inl (cC, 120, .inl f_139))] := hD
        refine lv_iinc (v := 0) (lv' := [(2, .int 0), (3, .int x_123), (0, .ref h0), (1, .int p0)]) hx hb dX8_append_52 hl (k := 1) rfl (by decide) (by decide) rfl (fun ls hl => ?_)
        refine lv_goto (tgt := 3) hx hb dX8_append_55 (by decide) ?_
        refine lv_iload_n hx hb dX8_append_3 rfl (lv_at hl 0 rfl) ?_
        refine lv_if_lt (tgt := 58) hx hb dX8_append_4 (by decide) (fun c_141 => absurd c_141 (by decide)) (fun c_141 => ?_)
        refine lv_iload_n hx hb dX8_append_7 rfl (lv_at hl 3 rfl) ?_
        refine lv_iload_n hx hb dX8_append_8 rfl (lv_at hl 0 rfl) ?_
        obtain ⟨x_142, ex_142⟩ : ∃ z : Int32, z = (Int32.toUInt32 p0 >>> (Int32.toUInt32 0 &&& Int32.toUInt32 31)).toInt32 := ⟨_, rfl⟩
        refine lv_iushr (v := x_142) hx hb dX8_append_9 ex_142.symm ?_
        refine lv_sipush (v := 255) hx hb dX8_append_10 (by decide) ?_
        refine lv_iand hx hb dX8_append_13 ?_
        refine lv_topi (fun x_143 ex_143 => ?_)
        refine lv_istore_n (lv' := [(3, .int x_143), (2, .int 0), (0, .ref h0), (1, .int p0)]) hx hb dX8_append_14 rfl hl (by decide) rfl (fun ls hl => ?_)
        refine lv_iload_n hx hb dX8_append_15 rfl (lv_at hl 0 rfl) ?_
        have hy_144 : kS p0 0 = x_143 := by rw [ex_143, ex_142]; exact (kSu0 p0).symm
        refine lv_if_eq (tgt := 52) hx hb dX8_append_16 (by decide) (fun c_145 => ?_) (fun c_145 => ?_)
        · refine lv_iinc (v := (-8)) (lv' := [(2, .int (-8)), (3, .int x_143), (0, .ref h0), (1, .int p0)]) hx hb dX8_append_52 hl (k := 1) rfl (by decide) (by decide) rfl (fun ls hl => ?_)
          refine lv_goto (tgt := 3) hx hb dX8_append_55 (by decide) ?_
          refine lv_iload_n hx hb dX8_append_3 rfl (lv_at hl 0 rfl) ?_
          refine lv_if_lt (tgt := 58) hx hb dX8_append_4 (by decide) (fun c_146 => ?_) (fun c_146 => absurd (by decide) c_146)
          have hk9 : kCnt p0 = 3 := by simp [kCnt, kC1, hy_4, hy_84, hy_124, hy_144, c_5, c_85, c_125, c_145]
          have hP9 : va_P (dC, dI) vwCl [(h0, .inr (8, [.ref q0, .int (nI (k + kCnt p0))])), (q0, .inl (cC, 120, .inl f_139))] H := by rw [hk9]; exact hP.sub [0, 1] rfl
          have hD9 : va_D A [(h0, .inr (8, [.ref q0, .int (nI (k + kCnt p0))])), (q0, .inl (cC, 120, .inl f_139))] := by rw [hk9]; exact hD.sub [0, 1] (by decide) rfl
          have hK9 := hK.sub (tys' := [(cC, .char)]) [0] rfl
          exact W.vret hx hb hr (fun t ht hW => ⟨⟨f_139, rfl, trivial,  by rw [ht]; exact hP9, va_K.moved hW.alike hK9, hD9⟩, hS.F ht⟩) hS.2.2 dX8_append_58
        · refine lv_aload_n hx hb dX8_append_19 rfl (lv_at hl 2 rfl) ?_
          refine va_get (D := (dC, dI)) (ci := 8) (v := .int (nI (k + 1 + 1 + 1))) (C := RX8) (T := TX8) (N := 2) hx hb hts (fun _ h => List.mem_cons_of_mem _ (List.mem_append_right _ h)) hown hK hP 0 rfl rfl 1 (by decide) (hts (.fieldLink RX8 15 "NotEnded$Tape" "length" "I") (List.mem_cons_of_mem _ (List.mem_append_left _ (List.mem_of_getElem? (i := 0) rfl)))) (fun _ h9 => h9) rfl dX8_append_20 ?_
          refine lv_aload_n hx hb dX8_append_23 rfl (lv_at hl 2 rfl) ?_
          refine va_get (D := (dC, dI)) (ci := 8) (v := .ref q0) (C := RX8) (T := TX8) (N := 2) hx hb hts (fun _ h => List.mem_cons_of_mem _ (List.mem_append_right _ h)) hown hK hP 0 rfl rfl 0 (by decide) (hts (.fieldLink RX8 9 "NotEnded$Tape" "signs" "[C") (List.mem_cons_of_mem _ (List.mem_append_left _ (List.mem_of_getElem? (i := 1) rfl)))) (fun _ h9 => h9) rfl dX8_append_24 ?_
          refine va_alen hx hb hK hP 1 0 rfl rfl (v := 120) rfl dX8_append_27 ?_
          refine lv_icmp_ge (tgt := 52) hx hb dX8_append_28 (by decide) (fun c_147 => absurd c_147 (nI_ge (a := k + 1 + 1 + 1) (b := 120) (by omega) (by decide))) (fun c_147 => ?_)
          refine lv_aload_n hx hb dX8_append_31 rfl (lv_at hl 2 rfl) ?_
          refine va_get (D := (dC, dI)) (ci := 8) (v := .ref q0) (C := RX8) (T := TX8) (N := 2) hx hb hts (fun _ h => List.mem_cons_of_mem _ (List.mem_append_right _ h)) hown hK hP 0 rfl rfl 0 (by decide) (hts (.fieldLink RX8 9 "NotEnded$Tape" "signs" "[C") (List.mem_cons_of_mem _ (List.mem_append_left _ (List.mem_of_getElem? (i := 1) rfl)))) (fun _ h9 => h9) rfl dX8_append_32 ?_
          refine lv_aload_n hx hb dX8_append_35 rfl (lv_at hl 2 rfl) ?_
          refine va_get (D := (dC, dI)) (ci := 8) (v := .int (nI (k + 1 + 1 + 1))) (C := RX8) (T := TX8) (N := 2) hx hb hts (fun _ h => List.mem_cons_of_mem _ (List.mem_append_right _ h)) hown hK hP 0 rfl rfl 1 (by decide) (hts (.fieldLink RX8 15 "NotEnded$Tape" "length" "I") (List.mem_cons_of_mem _ (List.mem_append_left _ (List.mem_of_getElem? (i := 0) rfl)))) (fun _ h9 => h9) rfl dX8_append_36 ?_
          refine lv_iload_n hx hb dX8_append_39 rfl (lv_at hl 0 rfl) ?_
          obtain ⟨x_148, ex_148⟩ : ∃ z : Int32, z = (Int32.toUInt32 x_143 % 65536).toInt32 := ⟨_, rfl⟩
          refine lv_i2c (v := x_148) hx hb dX8_append_40 ex_148.symm ?_
          refine va_cast hx hb hK hP hD hS 1 0 rfl rfl (vp_in_nI (n := k + 1 + 1 + 1) (N := 120) (by omega) (by decide)) dX8_append_41 (fun H locs hP hD hS => ?_)
          obtain ⟨f_149, ef_149⟩ : ∃ gg9 : Nat → Int32, gg9 = upd f_139 (Int32.toNatClampNeg (nI (k + 1 + 1 + 1))) (vp_nar .char x_148) := ⟨_, rfl⟩
          have hP : va_P (dC, dI) vwCl [(h0, .inr (8, [.ref q0, .int (nI (k + 1 + 1 + 1))])), (q0, .inl (cC, 120, .inl f_149))] H := by rw [ef_149]; exact hP
          have hD : va_D A [(h0, .inr (8, [.ref q0, .int (nI (k + 1 + 1 + 1))])), (q0, .inl (cC, 120, .inl f_149))] := by rw [ef_149]; exact hD
          refine lv_aload_n hx hb dX8_append_42 rfl (lv_at hl 2 rfl) ?_
          refine lv_dup hx hb dX8_append_43 rfl ?_
          refine va_get (D := (dC, dI)) (ci := 8) (v := .int (nI (k + 1 + 1 + 1))) (C := RX8) (T := TX8) (N := 2) hx hb hts (fun _ h => List.mem_cons_of_mem _ (List.mem_append_right _ h)) hown hK hP 0 rfl rfl 1 (by decide) (hts (.fieldLink RX8 15 "NotEnded$Tape" "length" "I") (List.mem_cons_of_mem _ (List.mem_append_left _ (List.mem_of_getElem? (i := 0) rfl)))) (fun _ h9 => h9) rfl dX8_append_44 ?_
          refine lv_iconst (v := 1) hx hb dX8_append_47 (by decide) ?_
          refine lv_iadd hx hb dX8_append_48 ?_
          refine lv_topi (fun y_150 ey_150 => ?_)
          obtain rfl : y_150 = nI (k + 1 + 1 + 1 + 1) := ey_150.trans (nI_add (k + 1 + 1 + 1) (1))
          refine va_put (D := (dC, dI)) (ci := 8) (v := .int (nI (k + 1 + 1 + 1 + 1))) (ty := tyX8 1) (C := RX8) (T := TX8) (N := 2) hx hb hts (fun _ h => List.mem_cons_of_mem _ (List.mem_append_right _ h)) tyX8 tyX8_ok nmX8 hown hK hP hD hS 0 rfl rfl 1 (by decide) (hts (.fieldLink RX8 15 "NotEnded$Tape" "length" "I") (List.mem_cons_of_mem _ (List.mem_append_left _ (List.mem_of_getElem? (i := 0) rfl)))) (fun _ h9 => h9) rfl (tyX8_ok 1 (by decide)) rfl rfl (Nat.le_of_ble_eq_true rfl) dX8_append_49 (fun H locs hP hD hS => ?_)
          have hP : va_P (dC, dI) vwCl [(h0, .inr (8, [.ref q0, .int (nI (k + 1 + 1 + 1 + 1))])), (q0, .inl (cC, 120, .inl f_149))] H := hP
          have hD : va_D A [(h0, .inr (8, [.ref q0, .int (nI (k + 1 + 1 + 1 + 1))])), (q0, .inl (cC, 120, .inl f_149))] := hD
          refine lv_iinc (v := (-8)) (lv' := [(2, .int (-8)), (3, .int x_143), (0, .ref h0), (1, .int p0)]) hx hb dX8_append_52 hl (k := 1) rfl (by decide) (by decide) rfl (fun ls hl => ?_)
          refine lv_goto (tgt := 3) hx hb dX8_append_55 (by decide) ?_
          refine lv_iload_n hx hb dX8_append_3 rfl (lv_at hl 0 rfl) ?_
          refine lv_if_lt (tgt := 58) hx hb dX8_append_4 (by decide) (fun c_151 => ?_) (fun c_151 => absurd (by decide) c_151)
          have hk9 : kCnt p0 = 4 := by simp [kCnt, kC1, hy_4, hy_84, hy_124, hy_144, c_5, c_85, c_125, c_145]
          have hP9 : va_P (dC, dI) vwCl [(h0, .inr (8, [.ref q0, .int (nI (k + kCnt p0))])), (q0, .inl (cC, 120, .inl f_149))] H := by rw [hk9]; exact hP.sub [0, 1] rfl
          have hD9 : va_D A [(h0, .inr (8, [.ref q0, .int (nI (k + kCnt p0))])), (q0, .inl (cC, 120, .inl f_149))] := by rw [hk9]; exact hD.sub [0, 1] (by decide) rfl
          have hK9 := hK.sub (tys' := [(cC, .char)]) [0] rfl
          exact W.vret hx hb hr (fun t ht hW => ⟨⟨f_149, rfl, trivial,  by rw [ht]; exact hP9, va_K.moved hW.alike hK9, hD9⟩, hS.F ht⟩) hS.2.2 dX8_append_58
