theorem dX2_addWord_0 : decode cX2_addWord 0 = .ok (.aload_n 0, 1) := by decide +kernel
theorem dX2_addWord_1 : decode cX2_addWord 1 = .ok (.getfield 34, 3) := by decide +kernel
theorem dX2_addWord_4 : decode cX2_addWord 4 = .ok (.iconst 4, 1) := by decide +kernel
theorem dX2_addWord_5 : decode cX2_addWord 5 = .ok (.if_icmp .lt 5, 3) := by decide +kernel
theorem dX2_addWord_10 : decode cX2_addWord 10 = .ok (.aload_n 0, 1) := by decide +kernel
theorem dX2_addWord_11 : decode cX2_addWord 11 = .ok (.getfield 24, 3) := by decide +kernel
theorem dX2_addWord_14 : decode cX2_addWord 14 = .ok (.aload_n 0, 1) := by decide +kernel
theorem dX2_addWord_15 : decode cX2_addWord 15 = .ok (.getfield 34, 3) := by decide +kernel
theorem dX2_addWord_18 : decode cX2_addWord 18 = .ok (.iload_n 1, 1) := by decide +kernel
theorem dX2_addWord_19 : decode cX2_addWord 19 = .ok (.iastore, 1) := by decide +kernel
theorem dX2_addWord_20 : decode cX2_addWord 20 = .ok (.aload_n 0, 1) := by decide +kernel
theorem dX2_addWord_21 : decode cX2_addWord 21 = .ok (.dup, 1) := by decide +kernel
theorem dX2_addWord_22 : decode cX2_addWord 22 = .ok (.getfield 34, 3) := by decide +kernel
theorem dX2_addWord_25 : decode cX2_addWord 25 = .ok (.iconst 1, 1) := by decide +kernel
theorem dX2_addWord_26 : decode cX2_addWord 26 = .ok (.iadd, 1) := by decide +kernel
theorem dX2_addWord_27 : decode cX2_addWord 27 = .ok (.putfield 34, 3) := by decide +kernel
theorem dX2_addWord_30 : decode cX2_addWord 30 = .ok (.aload_n 0, 1) := by decide +kernel
theorem dX2_addWord_31 : decode cX2_addWord 31 = .ok (.getfield 34, 3) := by decide +kernel
theorem dX2_addWord_34 : decode cX2_addWord 34 = .ok (.ireturn, 1) := by decide +kernel
def w_c_addWord2 : List Cond := .code yX2_addWord cX2_addWord 2 (some .int) :: ([.fieldLink RX2 34 "NotEnded$Folk" "words" "I", .fieldLink RX2 24 "NotEnded$Folk" "hours" "[I"] ++ (wsX20))
theorem gw_c_addWord2 : (w_c_addWord2).all goodWord = true := by decide +kernel
set_option maxHeartbeats 4000000 in
set_option maxRecDepth 100000 in
theorem c_addWord2 (l : Launch) (dC : Nat → ClassId) (dI : Nat → Nat → Nat) (h0 : Nat) (q4 : Nat) (cI : ClassId) (g4 : Nat → Int32) (u0 : Value) (u1 : Value) (u2 : Value) (u3 : Value) (u5 : Value) (u6 : Value) (p0 : Int32) (sz : Nat) : Met l yX2_addWord w_c_addWord2 ({ frames := 1, cells := 0, slots := 0, locals := 60 }) (kW dC dI [.ref h0, .int p0] [(h0, .inr (2, [u0, u1, u2, u3, .ref q4, u5, u6, .int 0])), (q4, .inl (cI, 4, .inl g4))] [(cI, .int)] kT sz) (va_Qi (fun (r : Int32) (_ : Unit) => r = 1) (fun _ _ => True) (va_A [(h0, .inr (2, [u0, u1, u2, u3, .ref q4, u5, u6, .int 0])), (q4, .inl (cI, 4, .inl g4))] sz)) 0 0 (va_A [(h0, .inr (2, [u0, u1, u2, u3, .ref q4, u5, u6, .int 0])), (q4, .inl (cI, 4, .inl g4))] sz) := by
  refine Met.ofW (cc := cX2_addWord) (maxL := 2) (ret := (some .int)) (by decide) rfl ?_
  intro p e s m args below meth c s₁ B hml hv
  obtain ⟨rfl, hsz, hP, hK, hD0, hX⟩ := hv
  have hx := B.exec
  have hb := B.bytes
  have hr := B.returns
  have hts := atoms_spec (ws := w_c_addWord2) B.pre
  have hown : s.vm.findClass RX2 = some m.cls := findClass_of_methodNamed B.named
  have hlocks := B.notSynchronized
  subst hsz
  have hD := hD0.self (sz := s.heap.size)
  generalize hAe : va_A [(h0, .inr (2, [u0, u1, u2, u3, .ref q4, u5, u6, .int 0])), (q4, .inl (cI, 4, .inl g4))] s.heap.size = A at hD ⊢
  have hA : ∀ q : Nat, s.heap.size ≤ q → A q := fun q h => by rw [← hAe]; exact Or.inr h
  have hS : va_S A s.heap s.heap [] := va_S.rf
  have hP : va_P (dC, dI) vwCl [(h0, .inr (2, [u0, u1, u2, u3, .ref q4, u5, u6, .int 0])), (q4, .inl (cI, 4, .inl g4))] s.heap := hP
  have hl := lv_entry ([.ref h0, .int p0]) (n := 2) (Nat.le_of_ble_eq_true rfl)
  rw [lg_entry_eq]
  generalize (lg_sl ([.ref h0, .int p0]) ++ List.replicate (2 - (lg_sl ([.ref h0, .int p0])).length) Slot.unset).toArray = ls at hl ⊢
  have hl : lv_has ls 2 [(0, .ref h0), (1, .int p0)] := hl
  refine lv_aload_n hx hb dX2_addWord_0 rfl (lv_at hl 0 rfl) ?_
  refine va_get (D := (dC, dI)) (ci := 2) (v := .int 0) (C := RX2) (T := TX2) (N := 8) hx hb hts (fun _ h => List.mem_cons_of_mem _ (List.mem_append_right _ h)) hown hK hP 0 rfl rfl 7 (by decide) (hts (.fieldLink RX2 34 "NotEnded$Folk" "words" "I") (List.mem_cons_of_mem _ (List.mem_append_left _ (List.mem_of_getElem? (i := 0) rfl)))) (fun _ h9 => h9) rfl dX2_addWord_1 ?_
  refine lv_iconst (v := 4) hx hb dX2_addWord_4 (by decide) ?_
  refine lv_icmp_lt (tgt := 10) hx hb dX2_addWord_5 (by decide) (fun c_1 => ?_) (fun c_1 => absurd (by decide) c_1)
  refine lv_aload_n hx hb dX2_addWord_10 rfl (lv_at hl 0 rfl) ?_
  refine va_get (D := (dC, dI)) (ci := 2) (v := .ref q4) (C := RX2) (T := TX2) (N := 8) hx hb hts (fun _ h => List.mem_cons_of_mem _ (List.mem_append_right _ h)) hown hK hP 0 rfl rfl 4 (by decide) (hts (.fieldLink RX2 24 "NotEnded$Folk" "hours" "[I") (List.mem_cons_of_mem _ (List.mem_append_left _ (List.mem_of_getElem? (i := 1) rfl)))) (fun _ h9 => h9) rfl dX2_addWord_11 ?_
  refine lv_aload_n hx hb dX2_addWord_14 rfl (lv_at hl 0 rfl) ?_
  refine va_get (D := (dC, dI)) (ci := 2) (v := .int 0) (C := RX2) (T := TX2) (N := 8) hx hb hts (fun _ h => List.mem_cons_of_mem _ (List.mem_append_right _ h)) hown hK hP 0 rfl rfl 7 (by decide) (hts (.fieldLink RX2 34 "NotEnded$Folk" "words" "I") (List.mem_cons_of_mem _ (List.mem_append_left _ (List.mem_of_getElem? (i := 0) rfl)))) (fun _ h9 => h9) rfl dX2_addWord_15 ?_
  refine lv_iload_n hx hb dX2_addWord_18 rfl (lv_at hl 1 rfl) ?_
  refine va_iast hx hb hK hP hD hS 1 0 rfl rfl (by unfold vp_in; decide) dX2_addWord_19 (fun H locs hP hD hS => ?_)
  obtain ⟨f_2, ef_2⟩ : ∃ gg9 : Nat → Int32, gg9 = upd g4 (Int32.toNatClampNeg 0) p0 := ⟨_, rfl⟩
  have hP : va_P (dC, dI) vwCl [(h0, .inr (2, [u0, u1, u2, u3, .ref q4, u5, u6, .int 0])), (q4, .inl (cI, 4, .inl f_2))] H := by rw [ef_2]; exact hP
  have hD : va_D A [(h0, .inr (2, [u0, u1, u2, u3, .ref q4, u5, u6, .int 0])), (q4, .inl (cI, 4, .inl f_2))] := by rw [ef_2]; exact hD
  refine lv_aload_n hx hb dX2_addWord_20 rfl (lv_at hl 0 rfl) ?_
  refine lv_dup hx hb dX2_addWord_21 rfl ?_
  refine va_get (D := (dC, dI)) (ci := 2) (v := .int 0) (C := RX2) (T := TX2) (N := 8) hx hb hts (fun _ h => List.mem_cons_of_mem _ (List.mem_append_right _ h)) hown hK hP 0 rfl rfl 7 (by decide) (hts (.fieldLink RX2 34 "NotEnded$Folk" "words" "I") (List.mem_cons_of_mem _ (List.mem_append_left _ (List.mem_of_getElem? (i := 0) rfl)))) (fun _ h9 => h9) rfl dX2_addWord_22 ?_
  refine lv_iconst (v := 1) hx hb dX2_addWord_25 (by decide) ?_
  refine lv_iadd hx hb dX2_addWord_26 ?_
  refine lv_topi (fun y_3 ey_3 => ?_)
  obtain rfl : y_3 = 1 := ey_3.trans (by decide)
  refine va_put (D := (dC, dI)) (ci := 2) (v := .int 1) (ty := tyX2 7) (C := RX2) (T := TX2) (N := 8) hx hb hts (fun _ h => List.mem_cons_of_mem _ (List.mem_append_right _ h)) tyX2 tyX2_ok nmX2 hown hK hP hD hS 0 rfl rfl 7 (by decide) (hts (.fieldLink RX2 34 "NotEnded$Folk" "words" "I") (List.mem_cons_of_mem _ (List.mem_append_left _ (List.mem_of_getElem? (i := 0) rfl)))) (fun _ h9 => h9) rfl (tyX2_ok 7 (by decide)) rfl rfl (Nat.le_of_ble_eq_true rfl) dX2_addWord_27 (fun H locs hP hD hS => ?_)
  have hP : va_P (dC, dI) vwCl [(h0, .inr (2, [u0, u1, u2, u3, .ref q4, u5, u6, .int 1])), (q4, .inl (cI, 4, .inl f_2))] H := hP
  have hD : va_D A [(h0, .inr (2, [u0, u1, u2, u3, .ref q4, u5, u6, .int 1])), (q4, .inl (cI, 4, .inl f_2))] := hD
  refine lv_aload_n hx hb dX2_addWord_30 rfl (lv_at hl 0 rfl) ?_
  refine va_get (D := (dC, dI)) (ci := 2) (v := .int 1) (C := RX2) (T := TX2) (N := 8) hx hb hts (fun _ h => List.mem_cons_of_mem _ (List.mem_append_right _ h)) hown hK hP 0 rfl rfl 7 (by decide) (hts (.fieldLink RX2 34 "NotEnded$Folk" "words" "I") (List.mem_cons_of_mem _ (List.mem_append_left _ (List.mem_of_getElem? (i := 0) rfl)))) (fun _ h9 => h9) rfl dX2_addWord_31 ?_
  exact W.iret (v := 1) hx hb hr (fun t ht hW => ⟨⟨1, (), rfl, rfl, trivial⟩, hS.F ht⟩) hS.2.2 dX2_addWord_34

theorem dX9_word_0 : decode cX9_word 0 = .ok (.iload_n 1, 1) := by decide +kernel
theorem dX9_word_1 : decode cX9_word 1 = .ok (.iconst 0, 1) := by decide +kernel
theorem dX9_word_2 : decode cX9_word 2 = .ok (.bipush 47, 2) := by decide +kernel
theorem dX9_word_4 : decode cX9_word 4 = .ok (.invokestatic 117, 3) := by decide +kernel
theorem dX9_word_7 : decode cX9_word 7 = .ok (.ifCond .eq 14, 3) := by decide +kernel
theorem dX9_word_21 : decode cX9_word 21 = .ok (.iconst (-1), 1) := by decide +kernel
theorem dX9_word_22 : decode cX9_word 22 = .ok (.ireturn, 1) := by decide +kernel
theorem dX9_word_10 : decode cX9_word 10 = .ok (.aload_n 0, 1) := by decide +kernel
theorem dX9_word_11 : decode cX9_word 11 = .ok (.getfield 47, 3) := by decide +kernel
theorem dX9_word_14 : decode cX9_word 14 = .ok (.iload_n 1, 1) := by decide +kernel
theorem dX9_word_15 : decode cX9_word 15 = .ok (.invokevirtual 135, 3) := by decide +kernel
theorem dX9_word_18 : decode cX9_word 18 = .ok (.goto 4, 3) := by decide +kernel
def w_c_word9 : List Cond := .code yX9_word cX9_word 2 (some .int) :: ([.initialized RX9, .static yX9_isIn, .methodLink RX9 117 yX9_isIn, .fieldLink RX9 47 "NotEnded" "folk" "LNotEnded$Folk;", .initialized RX2, .selects RX2 yX2_addWord yX2_addWord, .instanceMethod yX2_addWord, .methodLink RX9 135 yX2_addWord] ++ (w_c_isIn9 ++ (wsX90 ++ (w_c_addWord2))))
theorem gw_c_word9 : (w_c_word9).all goodWord = true := by decide +kernel
set_option maxHeartbeats 4000000 in
set_option maxRecDepth 100000 in
theorem c_word9 (l : Launch) (dC : Nat → ClassId) (dI : Nat → Nat → Nat) (h0 : Nat) (hF : Nat) (q4 : Nat) (cI : ClassId) (g4 : Nat → Int32) (v0 : Value) (v1 : Value) (v2 : Value) (v3 : Value) (v4 : Value) (v6 : Value) (v7 : Value) (v8 : Value) (v9 : Value) (u0 : Value) (u1 : Value) (u2 : Value) (u3 : Value) (u5 : Value) (u6 : Value) (p0 : Int32) (sz : Nat) : Met l yX9_word w_c_word9 ({ frames := 2, cells := 0, slots := 0, locals := 120 }) (kW dC dI [.ref h0, .int p0] [(h0, .inr (9, [v0, v1, v2, v3, v4, .ref hF, v6, v7, v8, v9])), (hF, .inr (2, [u0, u1, u2, u3, .ref q4, u5, u6, .int 0])), (q4, .inl (cI, 4, .inl g4))] [(cI, .int)] kT sz) (va_Qi (fun (r : Int32) (_ : Unit) => r = kWord p0) (fun _ _ => True) (va_A [(h0, .inr (9, [v0, v1, v2, v3, v4, .ref hF, v6, v7, v8, v9])), (hF, .inr (2, [u0, u1, u2, u3, .ref q4, u5, u6, .int 0])), (q4, .inl (cI, 4, .inl g4))] sz)) 0 0 (va_A [(h0, .inr (9, [v0, v1, v2, v3, v4, .ref hF, v6, v7, v8, v9])), (hF, .inr (2, [u0, u1, u2, u3, .ref q4, u5, u6, .int 0])), (q4, .inl (cI, 4, .inl g4))] sz) := by
  refine Met.ofW (cc := cX9_word) (maxL := 2) (ret := (some .int)) (by decide) rfl ?_
  intro p e s m args below meth c s₁ B hml hv
  obtain ⟨rfl, hsz, hP, hK, hD0, hX⟩ := hv
  have hx := B.exec
  have hb := B.bytes
  have hr := B.returns
  have hts := atoms_spec (ws := w_c_word9) B.pre
  have hown : s.vm.findClass RX9 = some m.cls := findClass_of_methodNamed B.named
  have hlocks := B.notSynchronized
  subst hsz
  have hD := hD0.self (sz := s.heap.size)
  generalize hAe : va_A [(h0, .inr (9, [v0, v1, v2, v3, v4, .ref hF, v6, v7, v8, v9])), (hF, .inr (2, [u0, u1, u2, u3, .ref q4, u5, u6, .int 0])), (q4, .inl (cI, 4, .inl g4))] s.heap.size = A at hD ⊢
  have hA : ∀ q : Nat, s.heap.size ≤ q → A q := fun q h => by rw [← hAe]; exact Or.inr h
  have hS : va_S A s.heap s.heap [] := va_S.rf
  have hP : va_P (dC, dI) vwCl [(h0, .inr (9, [v0, v1, v2, v3, v4, .ref hF, v6, v7, v8, v9])), (hF, .inr (2, [u0, u1, u2, u3, .ref q4, u5, u6, .int 0])), (q4, .inl (cI, 4, .inl g4))] s.heap := hP
  have hl := lv_entry ([.ref h0, .int p0]) (n := 2) (Nat.le_of_ble_eq_true rfl)
  rw [lg_entry_eq]
  generalize (lg_sl ([.ref h0, .int p0]) ++ List.replicate (2 - (lg_sl ([.ref h0, .int p0])).length) Slot.unset).toArray = ls at hl ⊢
  have hl : lv_has ls 2 [(0, .ref h0), (1, .int p0)] := hl
  refine lv_iload_n hx hb dX9_word_0 rfl (lv_at hl 1 rfl) ?_
  refine lv_iconst (v := 0) hx hb dX9_word_1 (by decide) ?_
  refine lv_bipush (v := 47) hx hb dX9_word_2 (by decide) ?_
  have hPc := hP.sub (ws' := []) [] rfl
  have hKc := hK.sub (tys' := []) [] rfl
  refine vp_callSi (va_runS (As := [.int p0, .int 0, .int 47]) (rest := []) ⟨hx, hb, hml, hown, hts⟩ (c_isIn9 l dC dI p0 0 47) (va_cwS 3 hts (kG (List.forall_mem_cons.mpr ⟨(List.mem_cons_of_mem _ (List.mem_append_left _ (List.mem_of_getElem? (i := 2) rfl))), (List.forall_mem_cons.mpr ⟨(List.mem_cons_of_mem _ (List.mem_append_left _ (List.mem_of_getElem? (i := 1) rfl))), (List.forall_mem_cons.mpr ⟨(List.mem_cons_of_mem _ (List.mem_append_left _ (List.mem_of_getElem? (i := 0) rfl))), (fun _ h => absurd h List.not_mem_nil)⟩)⟩)⟩) (by decide +kernel) (fun _ h => List.mem_cons_of_mem _ (List.mem_append_right _ (List.mem_append_left _ h))) gw_c_isIn9) rfl rfl rfl (by decide +kernel) ⟨(Nat.le_of_ble_eq_true rfl), (Nat.le_of_ble_eq_true rfl)⟩) (kR_S kT_blind kT_give hPc hKc) rfl rfl hl.1 rfl (lv_room (Nat.le_of_ble_eq_true rfl)) dX9_word_4 ⟨(Nat.le_of_ble_eq_true rfl), (Nat.le_of_ble_eq_true rfl)⟩).run (fun r_1 hw => ?_)
  have hw_2 := hw
  refine lv_if_eq (tgt := 21) hx hb dX9_word_7 (by decide) (fun c_3 => ?_) (fun c_3 => ?_)
  · refine lv_iconst (v := (-1)) hx hb dX9_word_21 (by decide) ?_
    exact W.iret (v := (-1)) hx hb hr (fun t ht hW => ⟨⟨(-1), (), rfl, (by simp [kWord, c_3, ← hw_2]), trivial⟩, hS.F ht⟩) hS.2.2 dX9_word_22
  · refine lv_aload_n hx hb dX9_word_10 rfl (lv_at hl 0 rfl) ?_
    refine va_get (D := (dC, dI)) (ci := 9) (v := .ref hF) (C := RX9) (T := TX9) (N := 10) hx hb hts (fun _ h => List.mem_cons_of_mem _ (List.mem_append_right _ (List.mem_append_right _ (List.mem_append_left _ h)))) hown hK hP 0 rfl rfl 5 (by decide) (hts (.fieldLink RX9 47 "NotEnded" "folk" "LNotEnded$Folk;") (List.mem_cons_of_mem _ (List.mem_append_left _ (List.mem_of_getElem? (i := 3) rfl)))) (fun _ h9 => h9) rfl dX9_word_11 ?_
    refine lv_iload_n hx hb dX9_word_14 rfl (lv_at hl 1 rfl) ?_
    have hPc := hP.sub (ws' := [(hF, .inr (2, [u0, u1, u2, u3, .ref q4, u5, u6, .int 0])), (q4, .inl (cI, 4, .inl g4))]) [1, 2] rfl
    have hKc := hK.sub (tys' := [(cI, .int)]) [0] rfl
    have hDc := hD.sub (ws' := [(hF, .inr (2, [u0, u1, u2, u3, .ref q4, u5, u6, .int 0])), (q4, .inl (cI, 4, .inl g4))]) [1, 2] (by decide) rfl
    have hFc := va_free (wc := [(hF, .inr (2, [u0, u1, u2, u3, .ref q4, u5, u6, .int 0])), (q4, .inl (cI, 4, .inl g4))]) hD hS hA [1, 2] rfl
    refine va_calli (va_runV (As := [.int p0]) (rest := []) ⟨hx, hb, hml, hown, hts⟩ (c_addWord2 l dC dI hF q4 cI g4 (u0 : Value) (u1 : Value) (u2 : Value) (u3 : Value) (u5 : Value) (u6 : Value) p0 s.heap.size) (cwV 1 hts (kG (List.forall_mem_cons.mpr ⟨(List.mem_cons_of_mem _ (List.mem_append_left _ (List.mem_of_getElem? (i := 7) rfl))), (List.forall_mem_cons.mpr ⟨(List.mem_cons_of_mem _ (List.mem_append_left _ (List.mem_of_getElem? (i := 6) rfl))), (List.forall_mem_cons.mpr ⟨(List.mem_cons_of_mem _ (List.mem_append_left _ (List.mem_of_getElem? (i := 5) rfl))), (List.forall_mem_cons.mpr ⟨(List.mem_cons_of_mem _ (List.mem_append_left _ (List.mem_of_getElem? (i := 4) rfl))), (fun _ h => absurd h List.not_mem_nil)⟩)⟩)⟩)⟩) (by decide +kernel) (fun _ h => List.mem_cons_of_mem _ (List.mem_append_right _ (List.mem_append_right _ (List.mem_append_right _ h)))) gw_c_addWord2) rfl rfl rfl (by decide +kernel) ⟨(Nat.le_of_ble_eq_true rfl), (Nat.le_of_ble_eq_true rfl)⟩) (kW_V kT_blind kT_give (va_recv hKc hPc (ci := 2) (q0 := 0) rfl rfl) hPc hKc hDc) rfl rfl hl.1 rfl (lv_room (Nat.le_of_ble_eq_true rfl)) dX9_word_15 ⟨(Nat.le_of_ble_eq_true rfl), (Nat.le_of_ble_eq_true rfl)⟩) hS (fun q _ h => hFc q h) hFc (fun r_4 u t H1 locs ht hvm hw hB hz1 hk1 hS => ?_)
    have hP1 : va_P (dC, dI) vwCl [] H1 := fun k q h => by simp at h
    have hD1 : va_D (va_A [(hF, .inr (2, [u0, u1, u2, u3, .ref q4, u5, u6, .int 0])), (q4, .inl (cI, 4, .inl g4))] s.heap.size) [] := ⟨fun i j p q h => by simp at h, fun k q h => by simp at h⟩
    try dsimp only at hw
    obtain ⟨hP, hD⟩ := va_join (wr := [(h0, .inr (9, [v0, v1, v2, v3, v4, .ref hF, v6, v7, v8, v9]))]) (w1 := []) hP hD [1, 2] [0] rfl rfl (by decide) (by decide) hk1 hFc hP1 hD1
    generalize H1 = H at hP hS ⊢
    have hP : va_P (dC, dI) vwCl [(h0, .inr (9, [v0, v1, v2, v3, v4, .ref hF, v6, v7, v8, v9]))] H := hP
    have hD : va_D A [(h0, .inr (9, [v0, v1, v2, v3, v4, .ref hF, v6, v7, v8, v9]))] := hD
    obtain rfl : r_4 = 1 := hw
    refine lv_goto (tgt := 22) hx hb dX9_word_18 (by decide) ?_
    exact W.iret (v := 1) hx hb hr (fun t ht hW => ⟨⟨1, (), rfl, (by simp [kWord, c_3, ← hw_2]), trivial⟩, hS.F ht⟩) hS.2.2 dX9_word_22

theorem dX2_addPerson_0 : decode cX2_addPerson 0 = .ok (.aload_n 0, 1) := by decide +kernel
theorem dX2_addPerson_1 : decode cX2_addPerson 1 = .ok (.getfield 31, 3) := by decide +kernel
theorem dX2_addPerson_4 : decode cX2_addPerson 4 = .ok (.bipush 10, 2) := by decide +kernel
theorem dX2_addPerson_6 : decode cX2_addPerson 6 = .ok (.if_icmp .lt 5, 3) := by decide +kernel
theorem dX2_addPerson_11 : decode cX2_addPerson 11 = .ok (.aload_n 0, 1) := by decide +kernel
theorem dX2_addPerson_12 : decode cX2_addPerson 12 = .ok (.getfield 9, 3) := by decide +kernel
theorem dX2_addPerson_15 : decode cX2_addPerson 15 = .ok (.aload_n 0, 1) := by decide +kernel
theorem dX2_addPerson_16 : decode cX2_addPerson 16 = .ok (.getfield 31, 3) := by decide +kernel
theorem dX2_addPerson_19 : decode cX2_addPerson 19 = .ok (.iload_n 1, 1) := by decide +kernel
theorem dX2_addPerson_20 : decode cX2_addPerson 20 = .ok (.iastore, 1) := by decide +kernel
theorem dX2_addPerson_21 : decode cX2_addPerson 21 = .ok (.aload_n 0, 1) := by decide +kernel
theorem dX2_addPerson_22 : decode cX2_addPerson 22 = .ok (.getfield 15, 3) := by decide +kernel
theorem dX2_addPerson_25 : decode cX2_addPerson 25 = .ok (.aload_n 0, 1) := by decide +kernel
theorem dX2_addPerson_26 : decode cX2_addPerson 26 = .ok (.getfield 31, 3) := by decide +kernel
theorem dX2_addPerson_29 : decode cX2_addPerson 29 = .ok (.iload_n 2, 1) := by decide +kernel
theorem dX2_addPerson_30 : decode cX2_addPerson 30 = .ok (.iastore, 1) := by decide +kernel
theorem dX2_addPerson_31 : decode cX2_addPerson 31 = .ok (.aload_n 0, 1) := by decide +kernel
theorem dX2_addPerson_32 : decode cX2_addPerson 32 = .ok (.getfield 18, 3) := by decide +kernel
theorem dX2_addPerson_35 : decode cX2_addPerson 35 = .ok (.aload_n 0, 1) := by decide +kernel
theorem dX2_addPerson_36 : decode cX2_addPerson 36 = .ok (.getfield 31, 3) := by decide +kernel
theorem dX2_addPerson_39 : decode cX2_addPerson 39 = .ok (.iload_n 3, 1) := by decide +kernel
theorem dX2_addPerson_40 : decode cX2_addPerson 40 = .ok (.iastore, 1) := by decide +kernel
theorem dX2_addPerson_41 : decode cX2_addPerson 41 = .ok (.iload 4, 2) := by decide +kernel
theorem dX2_addPerson_43 : decode cX2_addPerson 43 = .ok (.ifCond .eq 18, 3) := by decide +kernel
theorem dX2_addPerson_61 : decode cX2_addPerson 61 = .ok (.aload_n 0, 1) := by decide +kernel
theorem dX2_addPerson_62 : decode cX2_addPerson 62 = .ok (.dup, 1) := by decide +kernel
theorem dX2_addPerson_63 : decode cX2_addPerson 63 = .ok (.getfield 31, 3) := by decide +kernel
theorem dX2_addPerson_66 : decode cX2_addPerson 66 = .ok (.iconst 1, 1) := by decide +kernel
theorem dX2_addPerson_67 : decode cX2_addPerson 67 = .ok (.iadd, 1) := by decide +kernel
theorem dX2_addPerson_68 : decode cX2_addPerson 68 = .ok (.putfield 31, 3) := by decide +kernel
theorem dX2_addPerson_71 : decode cX2_addPerson 71 = .ok (.aload_n 0, 1) := by decide +kernel
theorem dX2_addPerson_72 : decode cX2_addPerson 72 = .ok (.getfield 31, 3) := by decide +kernel
theorem dX2_addPerson_75 : decode cX2_addPerson 75 = .ok (.iconst 1, 1) := by decide +kernel
theorem dX2_addPerson_76 : decode cX2_addPerson 76 = .ok (.isub, 1) := by decide +kernel
theorem dX2_addPerson_77 : decode cX2_addPerson 77 = .ok (.ireturn, 1) := by decide +kernel
theorem dX2_addPerson_46 : decode cX2_addPerson 46 = .ok (.aload_n 0, 1) := by decide +kernel
theorem dX2_addPerson_47 : decode cX2_addPerson 47 = .ok (.dup, 1) := by decide +kernel
theorem dX2_addPerson_48 : decode cX2_addPerson 48 = .ok (.getfield 27, 3) := by decide +kernel
theorem dX2_addPerson_51 : decode cX2_addPerson 51 = .ok (.iconst 1, 1) := by decide +kernel
theorem dX2_addPerson_52 : decode cX2_addPerson 52 = .ok (.aload_n 0, 1) := by decide +kernel
theorem dX2_addPerson_53 : decode cX2_addPerson 53 = .ok (.getfield 31, 3) := by decide +kernel
theorem dX2_addPerson_56 : decode cX2_addPerson 56 = .ok (.ishl, 1) := by decide +kernel
theorem dX2_addPerson_57 : decode cX2_addPerson 57 = .ok (.ior, 1) := by decide +kernel
theorem dX2_addPerson_58 : decode cX2_addPerson 58 = .ok (.putfield 27, 3) := by decide +kernel
def w_c_addPerson2 : List Cond := .code yX2_addPerson cX2_addPerson 5 (some .int) :: ([.fieldLink RX2 31 "NotEnded$Folk" "size" "I", .fieldLink RX2 9 "NotEnded$Folk" "holds" "[I", .fieldLink RX2 15 "NotEnded$Folk" "putIn" "[I", .fieldLink RX2 18 "NotEnded$Folk" "houses" "[I", .fieldLink RX2 27 "NotEnded$Folk" "sent" "I"] ++ (wsX20))
theorem gw_c_addPerson2 : (w_c_addPerson2).all goodWord = true := by decide +kernel
set_option maxHeartbeats 4000000 in
set_option maxRecDepth 100000 in
theorem c_addPerson2 (l : Launch) (dC : Nat → ClassId) (dI : Nat → Nat → Nat) (h0 : Nat) (q0 : Nat) (q1 : Nat) (q2 : Nat) (c0 : ClassId) (c1 : ClassId) (c2 : ClassId) (g0 : Nat → Int32) (g1 : Nat → Int32) (g2 : Nat → Int32) (u3 : Value) (u4 : Value) (u7 : Value) (p0 : Int32) (p1 : Int32) (p2 : Int32) (p3 : Int32) (sz : Nat) : Met l yX2_addPerson w_c_addPerson2 ({ frames := 1, cells := 0, slots := 0, locals := 60 }) (kW dC dI [.ref h0, .int p0, .int p1, .int p2, .int p3] [(h0, .inr (2, [.ref q0, .ref q1, .ref q2, u3, u4, .int 0, .int 0, u7])), (q0, .inl (c0, 10, .inl g0)), (q1, .inl (c1, 10, .inl g1)), (q2, .inl (c2, 10, .inl g2))] [(c0, .int), (c1, .int), (c2, .int)] kT sz) (va_Qi (fun (r : Int32) (_ : Unit) => r = 0) (fun _ _ => True) (va_A [(h0, .inr (2, [.ref q0, .ref q1, .ref q2, u3, u4, .int 0, .int 0, u7])), (q0, .inl (c0, 10, .inl g0)), (q1, .inl (c1, 10, .inl g1)), (q2, .inl (c2, 10, .inl g2))] sz)) 0 0 (va_A [(h0, .inr (2, [.ref q0, .ref q1, .ref q2, u3, u4, .int 0, .int 0, u7])), (q0, .inl (c0, 10, .inl g0)), (q1, .inl (c1, 10, .inl g1)), (q2, .inl (c2, 10, .inl g2))] sz) := by
  refine Met.ofW (cc := cX2_addPerson) (maxL := 5) (ret := (some .int)) (by decide) rfl ?_
  intro p e s m args below meth c s₁ B hml hv
  obtain ⟨rfl, hsz, hP, hK, hD0, hX⟩ := hv
  have hx := B.exec
  have hb := B.bytes
  have hr := B.returns
  have hts := atoms_spec (ws := w_c_addPerson2) B.pre
  have hown : s.vm.findClass RX2 = some m.cls := findClass_of_methodNamed B.named
  have hlocks := B.notSynchronized
  subst hsz
  have hD := hD0.self (sz := s.heap.size)
  generalize hAe : va_A [(h0, .inr (2, [.ref q0, .ref q1, .ref q2, u3, u4, .int 0, .int 0, u7])), (q0, .inl (c0, 10, .inl g0)), (q1, .inl (c1, 10, .inl g1)), (q2, .inl (c2, 10, .inl g2))] s.heap.size = A at hD ⊢
  have hA : ∀ q : Nat, s.heap.size ≤ q → A q := fun q h => by rw [← hAe]; exact Or.inr h
  have hS : va_S A s.heap s.heap [] := va_S.rf
  have hP : va_P (dC, dI) vwCl [(h0, .inr (2, [.ref q0, .ref q1, .ref q2, u3, u4, .int 0, .int 0, u7])), (q0, .inl (c0, 10, .inl g0)), (q1, .inl (c1, 10, .inl g1)), (q2, .inl (c2, 10, .inl g2))] s.heap := hP
  have hl := lv_entry ([.ref h0, .int p0, .int p1, .int p2, .int p3]) (n := 5) (Nat.le_of_ble_eq_true rfl)
  rw [lg_entry_eq]
  generalize (lg_sl ([.ref h0, .int p0, .int p1, .int p2, .int p3]) ++ List.replicate (5 - (lg_sl ([.ref h0, .int p0, .int p1, .int p2, .int p3])).length) Slot.unset).toArray = ls at hl ⊢
  have hl : lv_has ls 5 [(0, .ref h0), (1, .int p0), (2, .int p1), (3, .int p2), (4, .int p3)] := hl
  refine lv_aload_n hx hb dX2_addPerson_0 rfl (lv_at hl 0 rfl) ?_
  refine va_get (D := (dC, dI)) (ci := 2) (v := .int 0) (C := RX2) (T := TX2) (N := 8) hx hb hts (fun _ h => List.mem_cons_of_mem _ (List.mem_append_right _ h)) hown hK hP 0 rfl rfl 6 (by decide) (hts (.fieldLink RX2 31 "NotEnded$Folk" "size" "I") (List.mem_cons_of_mem _ (List.mem_append_left _ (List.mem_of_getElem? (i := 0) rfl)))) (fun _ h9 => h9) rfl dX2_addPerson_1 ?_
  refine lv_bipush (v := 10) hx hb dX2_addPerson_4 (by decide) ?_
  refine lv_icmp_lt (tgt := 11) hx hb dX2_addPerson_6 (by decide) (fun c_1 => ?_) (fun c_1 => absurd (by decide) c_1)
  refine lv_aload_n hx hb dX2_addPerson_11 rfl (lv_at hl 0 rfl) ?_
  refine va_get (D := (dC, dI)) (ci := 2) (v := .ref q0) (C := RX2) (T := TX2) (N := 8) hx hb hts (fun _ h => List.mem_cons_of_mem _ (List.mem_append_right _ h)) hown hK hP 0 rfl rfl 0 (by decide) (hts (.fieldLink RX2 9 "NotEnded$Folk" "holds" "[I") (List.mem_cons_of_mem _ (List.mem_append_left _ (List.mem_of_getElem? (i := 1) rfl)))) (fun _ h9 => h9) rfl dX2_addPerson_12 ?_
  refine lv_aload_n hx hb dX2_addPerson_15 rfl (lv_at hl 0 rfl) ?_
  refine va_get (D := (dC, dI)) (ci := 2) (v := .int 0) (C := RX2) (T := TX2) (N := 8) hx hb hts (fun _ h => List.mem_cons_of_mem _ (List.mem_append_right _ h)) hown hK hP 0 rfl rfl 6 (by decide) (hts (.fieldLink RX2 31 "NotEnded$Folk" "size" "I") (List.mem_cons_of_mem _ (List.mem_append_left _ (List.mem_of_getElem? (i := 0) rfl)))) (fun _ h9 => h9) rfl dX2_addPerson_16 ?_
  refine lv_iload_n hx hb dX2_addPerson_19 rfl (lv_at hl 1 rfl) ?_
  refine va_iast hx hb hK hP hD hS 1 0 rfl rfl (by unfold vp_in; decide) dX2_addPerson_20 (fun H locs hP hD hS => ?_)
  obtain ⟨f_2, ef_2⟩ : ∃ gg9 : Nat → Int32, gg9 = upd g0 (Int32.toNatClampNeg 0) p0 := ⟨_, rfl⟩
  have hP : va_P (dC, dI) vwCl [(h0, .inr (2, [.ref q0, .ref q1, .ref q2, u3, u4, .int 0, .int 0, u7])), (q0, .inl (c0, 10, .inl f_2)), (q1, .inl (c1, 10, .inl g1)), (q2, .inl (c2, 10, .inl g2))] H := by rw [ef_2]; exact hP
  have hD : va_D A [(h0, .inr (2, [.ref q0, .ref q1, .ref q2, u3, u4, .int 0, .int 0, u7])), (q0, .inl (c0, 10, .inl f_2)), (q1, .inl (c1, 10, .inl g1)), (q2, .inl (c2, 10, .inl g2))] := by rw [ef_2]; exact hD
  refine lv_aload_n hx hb dX2_addPerson_21 rfl (lv_at hl 0 rfl) ?_
  refine va_get (D := (dC, dI)) (ci := 2) (v := .ref q1) (C := RX2) (T := TX2) (N := 8) hx hb hts (fun _ h => List.mem_cons_of_mem _ (List.mem_append_right _ h)) hown hK hP 0 rfl rfl 1 (by decide) (hts (.fieldLink RX2 15 "NotEnded$Folk" "putIn" "[I") (List.mem_cons_of_mem _ (List.mem_append_left _ (List.mem_of_getElem? (i := 2) rfl)))) (fun _ h9 => h9) rfl dX2_addPerson_22 ?_
  refine lv_aload_n hx hb dX2_addPerson_25 rfl (lv_at hl 0 rfl) ?_
  refine va_get (D := (dC, dI)) (ci := 2) (v := .int 0) (C := RX2) (T := TX2) (N := 8) hx hb hts (fun _ h => List.mem_cons_of_mem _ (List.mem_append_right _ h)) hown hK hP 0 rfl rfl 6 (by decide) (hts (.fieldLink RX2 31 "NotEnded$Folk" "size" "I") (List.mem_cons_of_mem _ (List.mem_append_left _ (List.mem_of_getElem? (i := 0) rfl)))) (fun _ h9 => h9) rfl dX2_addPerson_26 ?_
  refine lv_iload_n hx hb dX2_addPerson_29 rfl (lv_at hl 2 rfl) ?_
  refine va_iast hx hb hK hP hD hS 2 1 rfl rfl (by unfold vp_in; decide) dX2_addPerson_30 (fun H locs hP hD hS => ?_)
  obtain ⟨f_3, ef_3⟩ : ∃ gg9 : Nat → Int32, gg9 = upd g1 (Int32.toNatClampNeg 0) p1 := ⟨_, rfl⟩
  have hP : va_P (dC, dI) vwCl [(h0, .inr (2, [.ref q0, .ref q1, .ref q2, u3, u4, .int 0, .int 0, u7])), (q0, .inl (c0, 10, .inl f_2)), (q1, .inl (c1, 10, .inl f_3)), (q2, .inl (c2, 10, .inl g2))] H := by rw [ef_3]; exact hP
  have hD : va_D A [(h0, .inr (2, [.ref q0, .ref q1, .ref q2, u3, u4, .int 0, .int 0, u7])), (q0, .inl (c0, 10, .inl f_2)), (q1, .inl (c1, 10, .inl f_3)), (q2, .inl (c2, 10, .inl g2))] := by rw [ef_3]; exact hD
  refine lv_aload_n hx hb dX2_addPerson_31 rfl (lv_at hl 0 rfl) ?_
  refine va_get (D := (dC, dI)) (ci := 2) (v := .ref q2) (C := RX2) (T := TX2) (N := 8) hx hb hts (fun _ h => List.mem_cons_of_mem _ (List.mem_append_right _ h)) hown hK hP 0 rfl rfl 2 (by decide) (hts (.fieldLink RX2 18 "NotEnded$Folk" "houses" "[I") (List.mem_cons_of_mem _ (List.mem_append_left _ (List.mem_of_getElem? (i := 3) rfl)))) (fun _ h9 => h9) rfl dX2_addPerson_32 ?_
  refine lv_aload_n hx hb dX2_addPerson_35 rfl (lv_at hl 0 rfl) ?_
  refine va_get (D := (dC, dI)) (ci := 2) (v := .int 0) (C := RX2) (T := TX2) (N := 8) hx hb hts (fun _ h => List.mem_cons_of_mem _ (List.mem_append_right _ h)) hown hK hP 0 rfl rfl 6 (by decide) (hts (.fieldLink RX2 31 "NotEnded$Folk" "size" "I") (List.mem_cons_of_mem _ (List.mem_append_left _ (List.mem_of_getElem? (i := 0) rfl)))) (fun _ h9 => h9) rfl dX2_addPerson_36 ?_
  refine lv_iload_n hx hb dX2_addPerson_39 rfl (lv_at hl 3 rfl) ?_
  refine va_iast hx hb hK hP hD hS 3 2 rfl rfl (by unfold vp_in; decide) dX2_addPerson_40 (fun H locs hP hD hS => ?_)
  obtain ⟨f_4, ef_4⟩ : ∃ gg9 : Nat → Int32, gg9 = upd g2 (Int32.toNatClampNeg 0) p2 := ⟨_, rfl⟩
  have hP : va_P (dC, dI) vwCl [(h0, .inr (2, [.ref q0, .ref q1, .ref q2, u3, u4, .int 0, .int 0, u7])), (q0, .inl (c0, 10, .inl f_2)), (q1, .inl (c1, 10, .inl f_3)), (q2, .inl (c2, 10, .inl f_4))] H := by rw [ef_4]; exact hP
  have hD : va_D A [(h0, .inr (2, [.ref q0, .ref q1, .ref q2, u3, u4, .int 0, .int 0, u7])), (q0, .inl (c0, 10, .inl f_2)), (q1, .inl (c1, 10, .inl f_3)), (q2, .inl (c2, 10, .inl f_4))] := by rw [ef_4]; exact hD
  refine lv_iload hx hb dX2_addPerson_41 (lv_at hl 4 rfl) ?_
  refine lv_if_eq (tgt := 61) hx hb dX2_addPerson_43 (by decide) (fun c_5 => ?_) (fun c_5 => ?_)
  · refine lv_aload_n hx hb dX2_addPerson_61 rfl (lv_at hl 0 rfl) ?_
    refine lv_dup hx hb dX2_addPerson_62 rfl ?_
    refine va_get (D := (dC, dI)) (ci := 2) (v := .int 0) (C := RX2) (T := TX2) (N := 8) hx hb hts (fun _ h => List.mem_cons_of_mem _ (List.mem_append_right _ h)) hown hK hP 0 rfl rfl 6 (by decide) (hts (.fieldLink RX2 31 "NotEnded$Folk" "size" "I") (List.mem_cons_of_mem _ (List.mem_append_left _ (List.mem_of_getElem? (i := 0) rfl)))) (fun _ h9 => h9) rfl dX2_addPerson_63 ?_
    refine lv_iconst (v := 1) hx hb dX2_addPerson_66 (by decide) ?_
    refine lv_iadd hx hb dX2_addPerson_67 ?_
    refine lv_topi (fun y_6 ey_6 => ?_)
    obtain rfl : y_6 = 1 := ey_6.trans (by decide)
    refine va_put (D := (dC, dI)) (ci := 2) (v := .int 1) (ty := tyX2 6) (C := RX2) (T := TX2) (N := 8) hx hb hts (fun _ h => List.mem_cons_of_mem _ (List.mem_append_right _ h)) tyX2 tyX2_ok nmX2 hown hK hP hD hS 0 rfl rfl 6 (by decide) (hts (.fieldLink RX2 31 "NotEnded$Folk" "size" "I") (List.mem_cons_of_mem _ (List.mem_append_left _ (List.mem_of_getElem? (i := 0) rfl)))) (fun _ h9 => h9) rfl (tyX2_ok 6 (by decide)) rfl rfl (Nat.le_of_ble_eq_true rfl) dX2_addPerson_68 (fun H locs hP hD hS => ?_)
    have hP : va_P (dC, dI) vwCl [(h0, .inr (2, [.ref q0, .ref q1, .ref q2, u3, u4, .int 0, .int 1, u7])), (q0, .inl (c0, 10, .inl f_2)), (q1, .inl (c1, 10, .inl f_3)), (q2, .inl (c2, 10, .inl f_4))] H := hP
    have hD : va_D A [(h0, .inr (2, [.ref q0, .ref q1, .ref q2, u3, u4, .int 0, .int 1, u7])), (q0, .inl (c0, 10, .inl f_2)), (q1, .inl (c1, 10, .inl f_3)), (q2, .inl (c2, 10, .inl f_4))] := hD
    refine lv_aload_n hx hb dX2_addPerson_71 rfl (lv_at hl 0 rfl) ?_
    refine va_get (D := (dC, dI)) (ci := 2) (v := .int 1) (C := RX2) (T := TX2) (N := 8) hx hb hts (fun _ h => List.mem_cons_of_mem _ (List.mem_append_right _ h)) hown hK hP 0 rfl rfl 6 (by decide) (hts (.fieldLink RX2 31 "NotEnded$Folk" "size" "I") (List.mem_cons_of_mem _ (List.mem_append_left _ (List.mem_of_getElem? (i := 0) rfl)))) (fun _ h9 => h9) rfl dX2_addPerson_72 ?_
    refine lv_iconst (v := 1) hx hb dX2_addPerson_75 (by decide) ?_
    refine lv_isub hx hb dX2_addPerson_76 ?_
    refine lv_topi (fun y_7 ey_7 => ?_)
    obtain rfl : y_7 = 0 := ey_7.trans (by decide)
    exact W.iret (v := 0) hx hb hr (fun t ht hW => ⟨⟨0, (), rfl, rfl, trivial⟩, hS.F ht⟩) hS.2.2 dX2_addPerson_77
  · refine lv_aload_n hx hb dX2_addPerson_46 rfl (lv_at hl 0 rfl) ?_
    refine lv_dup hx hb dX2_addPerson_47 rfl ?_
    refine va_get (D := (dC, dI)) (ci := 2) (v := .int 0) (C := RX2) (T := TX2) (N := 8) hx hb hts (fun _ h => List.mem_cons_of_mem _ (List.mem_append_right _ h)) hown hK hP 0 rfl rfl 5 (by decide) (hts (.fieldLink RX2 27 "NotEnded$Folk" "sent" "I") (List.mem_cons_of_mem _ (List.mem_append_left _ (List.mem_of_getElem? (i := 4) rfl)))) (fun _ h9 => h9) rfl dX2_addPerson_48 ?_
    refine lv_iconst (v := 1) hx hb dX2_addPerson_51 (by decide) ?_
    refine lv_aload_n hx hb dX2_addPerson_52 rfl (lv_at hl 0 rfl) ?_
    refine va_get (D := (dC, dI)) (ci := 2) (v := .int 0) (C := RX2) (T := TX2) (N := 8) hx hb hts (fun _ h => List.mem_cons_of_mem _ (List.mem_append_right _ h)) hown hK hP 0 rfl rfl 6 (by decide) (hts (.fieldLink RX2 31 "NotEnded$Folk" "size" "I") (List.mem_cons_of_mem _ (List.mem_append_left _ (List.mem_of_getElem? (i := 0) rfl)))) (fun _ h9 => h9) rfl dX2_addPerson_53 ?_
    refine lv_ishl hx hb dX2_addPerson_56 ?_
    refine lv_topi (fun y_8 ey_8 => ?_)
    obtain rfl : y_8 = 1 := ey_8.trans (by decide)
    refine lv_ior hx hb dX2_addPerson_57 ?_
    refine lv_topi (fun y_9 ey_9 => ?_)
    obtain rfl : y_9 = 1 := ey_9.trans (by decide)
    refine va_put (D := (dC, dI)) (ci := 2) (v := .int 1) (ty := tyX2 5) (C := RX2) (T := TX2) (N := 8) hx hb hts (fun _ h => List.mem_cons_of_mem _ (List.mem_append_right _ h)) tyX2 tyX2_ok nmX2 hown hK hP hD hS 0 rfl rfl 5 (by decide) (hts (.fieldLink RX2 27 "NotEnded$Folk" "sent" "I") (List.mem_cons_of_mem _ (List.mem_append_left _ (List.mem_of_getElem? (i := 4) rfl)))) (fun _ h9 => h9) rfl (tyX2_ok 5 (by decide)) rfl rfl (Nat.le_of_ble_eq_true rfl) dX2_addPerson_58 (fun H locs hP hD hS => ?_)
    have hP : va_P (dC, dI) vwCl [(h0, .inr (2, [.ref q0, .ref q1, .ref q2, u3, u4, .int 1, .int 0, u7])), (q0, .inl (c0, 10, .inl f_2)), (q1, .inl (c1, 10, .inl f_3)), (q2, .inl (c2, 10, .inl f_4))] H := hP
    have hD : va_D A [(h0, .inr (2, [.ref q0, .ref q1, .ref q2, u3, u4, .int 1, .int 0, u7])), (q0, .inl (c0, 10, .inl f_2)), (q1, .inl (c1, 10, .inl f_3)), (q2, .inl (c2, 10, .inl f_4))] := hD
    refine lv_aload_n hx hb dX2_addPerson_61 rfl (lv_at hl 0 rfl) ?_
    refine lv_dup hx hb dX2_addPerson_62 rfl ?_
    refine va_get (D := (dC, dI)) (ci := 2) (v := .int 0) (C := RX2) (T := TX2) (N := 8) hx hb hts (fun _ h => List.mem_cons_of_mem _ (List.mem_append_right _ h)) hown hK hP 0 rfl rfl 6 (by decide) (hts (.fieldLink RX2 31 "NotEnded$Folk" "size" "I") (List.mem_cons_of_mem _ (List.mem_append_left _ (List.mem_of_getElem? (i := 0) rfl)))) (fun _ h9 => h9) rfl dX2_addPerson_63 ?_
    refine lv_iconst (v := 1) hx hb dX2_addPerson_66 (by decide) ?_
    refine lv_iadd hx hb dX2_addPerson_67 ?_
    refine lv_topi (fun y_10 ey_10 => ?_)
    obtain rfl : y_10 = 1 := ey_10.trans (by decide)
    refine va_put (D := (dC, dI)) (ci := 2) (v := .int 1) (ty := tyX2 6) (C := RX2) (T := TX2) (N := 8) hx hb hts (fun _ h => List.mem_cons_of_mem _ (List.mem_append_right _ h)) tyX2 tyX2_ok nmX2 hown hK hP hD hS 0 rfl rfl 6 (by decide) (hts (.fieldLink RX2 31 "NotEnded$Folk" "size" "I") (List.mem_cons_of_mem _ (List.mem_append_left _ (List.mem_of_getElem? (i := 0) rfl)))) (fun _ h9 => h9) rfl (tyX2_ok 6 (by decide)) rfl rfl (Nat.le_of_ble_eq_true rfl) dX2_addPerson_68 (fun H locs hP hD hS => ?_)
    have hP : va_P (dC, dI) vwCl [(h0, .inr (2, [.ref q0, .ref q1, .ref q2, u3, u4, .int 1, .int 1, u7])), (q0, .inl (c0, 10, .inl f_2)), (q1, .inl (c1, 10, .inl f_3)), (q2, .inl (c2, 10, .inl f_4))] H := hP
    have hD : va_D A [(h0, .inr (2, [.ref q0, .ref q1, .ref q2, u3, u4, .int 1, .int 1, u7])), (q0, .inl (c0, 10, .inl f_2)), (q1, .inl (c1, 10, .inl f_3)), (q2, .inl (c2, 10, .inl f_4))] := hD
    refine lv_aload_n hx hb dX2_addPerson_71 rfl (lv_at hl 0 rfl) ?_
    refine va_get (D := (dC, dI)) (ci := 2) (v := .int 1) (C := RX2) (T := TX2) (N := 8) hx hb hts (fun _ h => List.mem_cons_of_mem _ (List.mem_append_right _ h)) hown hK hP 0 rfl rfl 6 (by decide) (hts (.fieldLink RX2 31 "NotEnded$Folk" "size" "I") (List.mem_cons_of_mem _ (List.mem_append_left _ (List.mem_of_getElem? (i := 0) rfl)))) (fun _ h9 => h9) rfl dX2_addPerson_72 ?_
    refine lv_iconst (v := 1) hx hb dX2_addPerson_75 (by decide) ?_
    refine lv_isub hx hb dX2_addPerson_76 ?_
    refine lv_topi (fun y_11 ey_11 => ?_)
    obtain rfl : y_11 = 0 := ey_11.trans (by decide)
    exact W.iret (v := 0) hx hb hr (fun t ht hW => ⟨⟨0, (), rfl, rfl, trivial⟩, hS.F ht⟩) hS.2.2 dX2_addPerson_77

theorem dX9_person_0 : decode cX9_person 0 = .ok (.iload_n 1, 1) := by decide +kernel
theorem dX9_person_1 : decode cX9_person 1 = .ok (.iconst 0, 1) := by decide +kernel
theorem dX9_person_2 : decode cX9_person 2 = .ok (.bipush 100, 2) := by decide +kernel
theorem dX9_person_4 : decode cX9_person 4 = .ok (.invokestatic 117, 3) := by decide +kernel
theorem dX9_person_7 : decode cX9_person 7 = .ok (.ifCond .eq 24, 3) := by decide +kernel
theorem dX9_person_31 : decode cX9_person 31 = .ok (.iconst 0, 1) := by decide +kernel
theorem dX9_person_32 : decode cX9_person 32 = .ok (.istore 5, 2) := by decide +kernel
theorem dX9_person_34 : decode cX9_person 34 = .ok (.iload 5, 2) := by decide +kernel
theorem dX9_person_36 : decode cX9_person 36 = .ok (.ifCond .eq 18, 3) := by decide +kernel
theorem dX9_person_54 : decode cX9_person 54 = .ok (.iconst (-1), 1) := by decide +kernel
theorem dX9_person_55 : decode cX9_person 55 = .ok (.ireturn, 1) := by decide +kernel
theorem dX9_person_10 : decode cX9_person 10 = .ok (.iload_n 2, 1) := by decide +kernel
theorem dX9_person_11 : decode cX9_person 11 = .ok (.iconst 0, 1) := by decide +kernel
theorem dX9_person_12 : decode cX9_person 12 = .ok (.bipush 99, 2) := by decide +kernel
theorem dX9_person_14 : decode cX9_person 14 = .ok (.invokestatic 117, 3) := by decide +kernel
theorem dX9_person_17 : decode cX9_person 17 = .ok (.ifCond .eq 14, 3) := by decide +kernel
theorem dX9_person_20 : decode cX9_person 20 = .ok (.iload_n 3, 1) := by decide +kernel
theorem dX9_person_21 : decode cX9_person 21 = .ok (.invokestatic 121, 3) := by decide +kernel
theorem dX9_person_24 : decode cX9_person 24 = .ok (.ifCond .eq 7, 3) := by decide +kernel
theorem dX9_person_27 : decode cX9_person 27 = .ok (.iconst 1, 1) := by decide +kernel
theorem dX9_person_28 : decode cX9_person 28 = .ok (.goto 4, 3) := by decide +kernel
theorem dX9_person_39 : decode cX9_person 39 = .ok (.aload_n 0, 1) := by decide +kernel
theorem dX9_person_40 : decode cX9_person 40 = .ok (.getfield 47, 3) := by decide +kernel
theorem dX9_person_43 : decode cX9_person 43 = .ok (.iload_n 1, 1) := by decide +kernel
theorem dX9_person_44 : decode cX9_person 44 = .ok (.iload_n 2, 1) := by decide +kernel
theorem dX9_person_45 : decode cX9_person 45 = .ok (.iload_n 3, 1) := by decide +kernel
theorem dX9_person_46 : decode cX9_person 46 = .ok (.iload 4, 2) := by decide +kernel
theorem dX9_person_48 : decode cX9_person 48 = .ok (.invokevirtual 124, 3) := by decide +kernel
theorem dX9_person_51 : decode cX9_person 51 = .ok (.goto 4, 3) := by decide +kernel
def w_c_person9 : List Cond := .code yX9_person cX9_person 6 (some .int) :: ([.initialized RX9, .static yX9_isIn, .methodLink RX9 117 yX9_isIn, .static yX9_isHouse, .methodLink RX9 121 yX9_isHouse, .fieldLink RX9 47 "NotEnded" "folk" "LNotEnded$Folk;", .initialized RX2, .selects RX2 yX2_addPerson yX2_addPerson, .instanceMethod yX2_addPerson, .methodLink RX9 124 yX2_addPerson] ++ (w_c_isIn9 ++ (w_c_isHouse9 ++ (wsX90 ++ (w_c_addPerson2)))))
theorem gw_c_person9 : (w_c_person9).all goodWord = true := by decide +kernel
set_option maxHeartbeats 4000000 in
set_option maxRecDepth 100000 in
theorem c_person9 (l : Launch) (dC : Nat → ClassId) (dI : Nat → Nat → Nat) (h0 : Nat) (hF : Nat) (v0 : Value) (v1 : Value) (v2 : Value) (v3 : Value) (v4 : Value) (v6 : Value) (v7 : Value) (v8 : Value) (v9 : Value) (q0 : Nat) (q1 : Nat) (q2 : Nat) (c0 : ClassId) (c1 : ClassId) (c2 : ClassId) (g0 : Nat → Int32) (g1 : Nat → Int32) (g2 : Nat → Int32) (u3 : Value) (u4 : Value) (u7 : Value) (p0 : Int32) (p1 : Int32) (p2 : Int32) (p3 : Int32) (sz : Nat) : Met l yX9_person w_c_person9 ({ frames := 3, cells := 0, slots := 0, locals := 180 }) (kW dC dI [.ref h0, .int p0, .int p1, .int p2, .int p3] [(h0, .inr (9, [v0, v1, v2, v3, v4, .ref hF, v6, v7, v8, v9])), (hF, .inr (2, [.ref q0, .ref q1, .ref q2, u3, u4, .int 0, .int 0, u7])), (q0, .inl (c0, 10, .inl g0)), (q1, .inl (c1, 10, .inl g1)), (q2, .inl (c2, 10, .inl g2))] [(c0, .int), (c1, .int), (c2, .int)] kT sz) (va_Qi (fun (r : Int32) (_ : Unit) => r = kPerson p0 p1 p2) (fun _ _ => True) (va_A [(h0, .inr (9, [v0, v1, v2, v3, v4, .ref hF, v6, v7, v8, v9])), (hF, .inr (2, [.ref q0, .ref q1, .ref q2, u3, u4, .int 0, .int 0, u7])), (q0, .inl (c0, 10, .inl g0)), (q1, .inl (c1, 10, .inl g1)), (q2, .inl (c2, 10, .inl g2))] sz)) 0 0 (va_A [(h0, .inr (9, [v0, v1, v2, v3, v4, .ref hF, v6, v7, v8, v9])), (hF, .inr (2, [.ref q0, .ref q1, .ref q2, u3, u4, .int 0, .int 0, u7])), (q0, .inl (c0, 10, .inl g0)), (q1, .inl (c1, 10, .inl g1)), (q2, .inl (c2, 10, .inl g2))] sz) := by
  refine Met.ofW (cc := cX9_person) (maxL := 6) (ret := (some .int)) (by decide) rfl ?_
  intro p e s m args below meth c s₁ B hml hv
  obtain ⟨rfl, hsz, hP, hK, hD0, hX⟩ := hv
  have hx := B.exec
  have hb := B.bytes
  have hr := B.returns
  have hts := atoms_spec (ws := w_c_person9) B.pre
  have hown : s.vm.findClass RX9 = some m.cls := findClass_of_methodNamed B.named
  have hlocks := B.notSynchronized
  subst hsz
  have hD := hD0.self (sz := s.heap.size)
  generalize hAe : va_A [(h0, .inr (9, [v0, v1, v2, v3, v4, .ref hF, v6, v7, v8, v9])), (hF, .inr (2, [.ref q0, .ref q1, .ref q2, u3, u4, .int 0, .int 0, u7])), (q0, .inl (c0, 10, .inl g0)), (q1, .inl (c1, 10, .inl g1)), (q2, .inl (c2, 10, .inl g2))] s.heap.size = A at hD ⊢
  have hA : ∀ q : Nat, s.heap.size ≤ q → A q := fun q h => by rw [← hAe]; exact Or.inr h
  have hS : va_S A s.heap s.heap [] := va_S.rf
  have hP : va_P (dC, dI) vwCl [(h0, .inr (9, [v0, v1, v2, v3, v4, .ref hF, v6, v7, v8, v9])), (hF, .inr (2, [.ref q0, .ref q1, .ref q2, u3, u4, .int 0, .int 0, u7])), (q0, .inl (c0, 10, .inl g0)), (q1, .inl (c1, 10, .inl g1)), (q2, .inl (c2, 10, .inl g2))] s.heap := hP
  have hl := lv_entry ([.ref h0, .int p0, .int p1, .int p2, .int p3]) (n := 6) (Nat.le_of_ble_eq_true rfl)
  rw [lg_entry_eq]
  generalize (lg_sl ([.ref h0, .int p0, .int p1, .int p2, .int p3]) ++ List.replicate (6 - (lg_sl ([.ref h0, .int p0, .int p1, .int p2, .int p3])).length) Slot.unset).toArray = ls at hl ⊢
  have hl : lv_has ls 6 [(0, .ref h0), (1, .int p0), (2, .int p1), (3, .int p2), (4, .int p3)] := hl
  refine lv_iload_n hx hb dX9_person_0 rfl (lv_at hl 1 rfl) ?_
  refine lv_iconst (v := 0) hx hb dX9_person_1 (by decide) ?_
  refine lv_bipush (v := 100) hx hb dX9_person_2 (by decide) ?_
  have hPc := hP.sub (ws' := []) [] rfl
  have hKc := hK.sub (tys' := []) [] rfl
  refine vp_callSi (va_runS (As := [.int p0, .int 0, .int 100]) (rest := []) ⟨hx, hb, hml, hown, hts⟩ (c_isIn9 l dC dI p0 0 100) (va_cwS 3 hts (kG (List.forall_mem_cons.mpr ⟨(List.mem_cons_of_mem _ (List.mem_append_left _ (List.mem_of_getElem? (i := 2) rfl))), (List.forall_mem_cons.mpr ⟨(List.mem_cons_of_mem _ (List.mem_append_left _ (List.mem_of_getElem? (i := 1) rfl))), (List.forall_mem_cons.mpr ⟨(List.mem_cons_of_mem _ (List.mem_append_left _ (List.mem_of_getElem? (i := 0) rfl))), (fun _ h => absurd h List.not_mem_nil)⟩)⟩)⟩) (by decide +kernel) (fun _ h => List.mem_cons_of_mem _ (List.mem_append_right _ (List.mem_append_left _ h))) gw_c_isIn9) rfl rfl rfl (by decide +kernel) ⟨(Nat.le_of_ble_eq_true rfl), (Nat.le_of_ble_eq_true rfl)⟩) (kR_S kT_blind kT_give hPc hKc) rfl rfl hl.1 rfl (lv_room (Nat.le_of_ble_eq_true rfl)) dX9_person_4 ⟨(Nat.le_of_ble_eq_true rfl), (Nat.le_of_ble_eq_true rfl)⟩).run (fun r_1 hw => ?_)
  have hw_2 := hw
  refine lv_if_eq (tgt := 31) hx hb dX9_person_7 (by decide) (fun c_3 => ?_) (fun c_3 => ?_)
  · refine lv_iconst (v := 0) hx hb dX9_person_31 (by decide) ?_
    refine lv_istore (lv' := [(5, .int 0), (0, .ref h0), (1, .int p0), (2, .int p1), (3, .int p2), (4, .int p3)]) hx hb dX9_person_32 hl (by decide) rfl (fun ls hl => ?_)
    refine lv_iload hx hb dX9_person_34 (lv_at hl 0 rfl) ?_
    refine lv_if_eq (tgt := 54) hx hb dX9_person_36 (by decide) (fun c_4 => ?_) (fun c_4 => absurd (by decide) c_4)
    refine lv_iconst (v := (-1)) hx hb dX9_person_54 (by decide) ?_
    exact W.iret (v := (-1)) hx hb hr (fun t ht hW => ⟨⟨(-1), (), rfl, (by simp [kPerson, c_3, ← hw_2]), trivial⟩, hS.F ht⟩) hS.2.2 dX9_person_55
  · refine lv_iload_n hx hb dX9_person_10 rfl (lv_at hl 2 rfl) ?_
    refine lv_iconst (v := 0) hx hb dX9_person_11 (by decide) ?_
    refine lv_bipush (v := 99) hx hb dX9_person_12 (by decide) ?_
    have hPc := hP.sub (ws' := []) [] rfl
    have hKc := hK.sub (tys' := []) [] rfl
    refine vp_callSi (va_runS (As := [.int p1, .int 0, .int 99]) (rest := []) ⟨hx, hb, hml, hown, hts⟩ (c_isIn9 l dC dI p1 0 99) (va_cwS 3 hts (kG (List.forall_mem_cons.mpr ⟨(List.mem_cons_of_mem _ (List.mem_append_left _ (List.mem_of_getElem? (i := 2) rfl))), (List.forall_mem_cons.mpr ⟨(List.mem_cons_of_mem _ (List.mem_append_left _ (List.mem_of_getElem? (i := 1) rfl))), (List.forall_mem_cons.mpr ⟨(List.mem_cons_of_mem _ (List.mem_append_left _ (List.mem_of_getElem? (i := 0) rfl))), (fun _ h => absurd h List.not_mem_nil)⟩)⟩)⟩) (by decide +kernel) (fun _ h => List.mem_cons_of_mem _ (List.mem_append_right _ (List.mem_append_left _ h))) gw_c_isIn9) rfl rfl rfl (by decide +kernel) ⟨(Nat.le_of_ble_eq_true rfl), (Nat.le_of_ble_eq_true rfl)⟩) (kR_S kT_blind kT_give hPc hKc) rfl rfl hl.1 rfl (lv_room (Nat.le_of_ble_eq_true rfl)) dX9_person_14 ⟨(Nat.le_of_ble_eq_true rfl), (Nat.le_of_ble_eq_true rfl)⟩).run (fun r_5 hw => ?_)
    have hw_6 := hw
    refine lv_if_eq (tgt := 31) hx hb dX9_person_17 (by decide) (fun c_7 => ?_) (fun c_7 => ?_)
    · refine lv_iconst (v := 0) hx hb dX9_person_31 (by decide) ?_
      refine lv_istore (lv' := [(5, .int 0), (0, .ref h0), (1, .int p0), (2, .int p1), (3, .int p2), (4, .int p3)]) hx hb dX9_person_32 hl (by decide) rfl (fun ls hl => ?_)
      refine lv_iload hx hb dX9_person_34 (lv_at hl 0 rfl) ?_
      refine lv_if_eq (tgt := 54) hx hb dX9_person_36 (by decide) (fun c_8 => ?_) (fun c_8 => absurd (by decide) c_8)
      refine lv_iconst (v := (-1)) hx hb dX9_person_54 (by decide) ?_
      exact W.iret (v := (-1)) hx hb hr (fun t ht hW => ⟨⟨(-1), (), rfl, (by simp [kPerson, c_3, c_7, ← hw_2, ← hw_6]), trivial⟩, hS.F ht⟩) hS.2.2 dX9_person_55
    · refine lv_iload_n hx hb dX9_person_20 rfl (lv_at hl 3 rfl) ?_
      have hPc := hP.sub (ws' := []) [] rfl
      have hKc := hK.sub (tys' := []) [] rfl
      refine vp_callSi (va_runS (As := [.int p2]) (rest := []) ⟨hx, hb, hml, hown, hts⟩ (c_isHouse9 l dC dI p2) (va_cwS 1 hts (kG (List.forall_mem_cons.mpr ⟨(List.mem_cons_of_mem _ (List.mem_append_left _ (List.mem_of_getElem? (i := 4) rfl))), (List.forall_mem_cons.mpr ⟨(List.mem_cons_of_mem _ (List.mem_append_left _ (List.mem_of_getElem? (i := 3) rfl))), (List.forall_mem_cons.mpr ⟨(List.mem_cons_of_mem _ (List.mem_append_left _ (List.mem_of_getElem? (i := 0) rfl))), (fun _ h => absurd h List.not_mem_nil)⟩)⟩)⟩) (by decide +kernel) (fun _ h => List.mem_cons_of_mem _ (List.mem_append_right _ (List.mem_append_right _ (List.mem_append_left _ h)))) gw_c_isHouse9) rfl rfl rfl (by decide +kernel) ⟨(Nat.le_of_ble_eq_true rfl), (Nat.le_of_ble_eq_true rfl)⟩) (kR_S kT_blind kT_give hPc hKc) rfl rfl hl.1 rfl (lv_room (Nat.le_of_ble_eq_true rfl)) dX9_person_21 ⟨(Nat.le_of_ble_eq_true rfl), (Nat.le_of_ble_eq_true rfl)⟩).run (fun r_9 hw => ?_)
      have hw_10 := hw
      refine lv_if_eq (tgt := 31) hx hb dX9_person_24 (by decide) (fun c_11 => ?_) (fun c_11 => ?_)
      · refine lv_iconst (v := 0) hx hb dX9_person_31 (by decide) ?_
        refine lv_istore (lv' := [(5, .int 0), (0, .ref h0), (1, .int p0), (2, .int p1), (3, .int p2), (4, .int p3)]) hx hb dX9_person_32 hl (by decide) rfl (fun ls hl => ?_)
        refine lv_iload hx hb dX9_person_34 (lv_at hl 0 rfl) ?_
        refine lv_if_eq (tgt := 54) hx hb dX9_person_36 (by decide) (fun c_12 => ?_) (fun c_12 => absurd (by decide) c_12)
        refine lv_iconst (v := (-1)) hx hb dX9_person_54 (by decide) ?_
        exact W.iret (v := (-1)) hx hb hr (fun t ht hW => ⟨⟨(-1), (), rfl, (by simp [kPerson, c_3, c_7, c_11, ← hw_2, ← hw_6, ← hw_10]), trivial⟩, hS.F ht⟩) hS.2.2 dX9_person_55
      · refine lv_iconst (v := 1) hx hb dX9_person_27 (by decide) ?_
        refine lv_goto (tgt := 32) hx hb dX9_person_28 (by decide) ?_
        refine lv_istore (lv' := [(5, .int 1), (0, .ref h0), (1, .int p0), (2, .int p1), (3, .int p2), (4, .int p3)]) hx hb dX9_person_32 hl (by decide) rfl (fun ls hl => ?_)
        refine lv_iload hx hb dX9_person_34 (lv_at hl 0 rfl) ?_
        refine lv_if_eq (tgt := 54) hx hb dX9_person_36 (by decide) (fun c_13 => absurd c_13 (by decide)) (fun c_13 => ?_)
        refine lv_aload_n hx hb dX9_person_39 rfl (lv_at hl 1 rfl) ?_
        refine va_get (D := (dC, dI)) (ci := 9) (v := .ref hF) (C := RX9) (T := TX9) (N := 10) hx hb hts (fun _ h => List.mem_cons_of_mem _ (List.mem_append_right _ (List.mem_append_right _ (List.mem_append_right _ (List.mem_append_left _ h))))) hown hK hP 0 rfl rfl 5 (by decide) (hts (.fieldLink RX9 47 "NotEnded" "folk" "LNotEnded$Folk;") (List.mem_cons_of_mem _ (List.mem_append_left _ (List.mem_of_getElem? (i := 5) rfl)))) (fun _ h9 => h9) rfl dX9_person_40 ?_
        refine lv_iload_n hx hb dX9_person_43 rfl (lv_at hl 2 rfl) ?_
        refine lv_iload_n hx hb dX9_person_44 rfl (lv_at hl 3 rfl) ?_
        refine lv_iload_n hx hb dX9_person_45 rfl (lv_at hl 4 rfl) ?_
        refine lv_iload hx hb dX9_person_46 (lv_at hl 5 rfl) ?_
        have hPc := hP.sub (ws' := [(hF, .inr (2, [.ref q0, .ref q1, .ref q2, u3, u4, .int 0, .int 0, u7])), (q0, .inl (c0, 10, .inl g0)), (q1, .inl (c1, 10, .inl g1)), (q2, .inl (c2, 10, .inl g2))]) [1, 2, 3, 4] rfl
        have hKc := hK.sub (tys' := [(c0, .int), (c1, .int), (c2, .int)]) [0, 1, 2] rfl
        have hDc := hD.sub (ws' := [(hF, .inr (2, [.ref q0, .ref q1, .ref q2, u3, u4, .int 0, .int 0, u7])), (q0, .inl (c0, 10, .inl g0)), (q1, .inl (c1, 10, .inl g1)), (q2, .inl (c2, 10, .inl g2))]) [1, 2, 3, 4] (by decide) rfl
        have hFc := va_free (wc := [(hF, .inr (2, [.ref q0, .ref q1, .ref q2, u3, u4, .int 0, .int 0, u7])), (q0, .inl (c0, 10, .inl g0)), (q1, .inl (c1, 10, .inl g1)), (q2, .inl (c2, 10, .inl g2))]) hD hS hA [1, 2, 3, 4] rfl
        refine va_calli (va_runV (As := [.int p0, .int p1, .int p2, .int p3]) (rest := []) ⟨hx, hb, hml, hown, hts⟩ (c_addPerson2 l dC dI hF q0 q1 q2 c0 c1 c2 g0 g1 g2 (u3 : Value) (u4 : Value) (u7 : Value) p0 p1 p2 p3 s.heap.size) (cwV 4 hts (kG (List.forall_mem_cons.mpr ⟨(List.mem_cons_of_mem _ (List.mem_append_left _ (List.mem_of_getElem? (i := 9) rfl))), (List.forall_mem_cons.mpr ⟨(List.mem_cons_of_mem _ (List.mem_append_left _ (List.mem_of_getElem? (i := 8) rfl))), (List.forall_mem_cons.mpr ⟨(List.mem_cons_of_mem _ (List.mem_append_left _ (List.mem_of_getElem? (i := 7) rfl))), (List.forall_mem_cons.mpr ⟨(List.mem_cons_of_mem _ (List.mem_append_left _ (List.mem_of_getElem? (i := 6) rfl))), (fun _ h => absurd h List.not_mem_nil)⟩)⟩)⟩)⟩) (by decide +kernel) (fun _ h => List.mem_cons_of_mem _ (List.mem_append_right _ (List.mem_append_right _ (List.mem_append_right _ (List.mem_append_right _ h))))) gw_c_addPerson2) rfl rfl rfl (by decide +kernel) ⟨(Nat.le_of_ble_eq_true rfl), (Nat.le_of_ble_eq_true rfl)⟩) (kW_V kT_blind kT_give (va_recv hKc hPc (ci := 2) (q0 := 0) rfl rfl) hPc hKc hDc) rfl rfl hl.1 rfl (lv_room (Nat.le_of_ble_eq_true rfl)) dX9_person_48 ⟨(Nat.le_of_ble_eq_true rfl), (Nat.le_of_ble_eq_true rfl)⟩) hS (fun q _ h => hFc q h) hFc (fun r_14 u t H1 locs ht hvm hw hB hz1 hk1 hS => ?_)
        have hP1 : va_P (dC, dI) vwCl [] H1 := fun k q h => by simp at h
        have hD1 : va_D (va_A [(hF, .inr (2, [.ref q0, .ref q1, .ref q2, u3, u4, .int 0, .int 0, u7])), (q0, .inl (c0, 10, .inl g0)), (q1, .inl (c1, 10, .inl g1)), (q2, .inl (c2, 10, .inl g2))] s.heap.size) [] := ⟨fun i j p q h => by simp at h, fun k q h => by simp at h⟩
        try dsimp only at hw
        obtain ⟨hP, hD⟩ := va_join (wr := [(h0, .inr (9, [v0, v1, v2, v3, v4, .ref hF, v6, v7, v8, v9]))]) (w1 := []) hP hD [1, 2, 3, 4] [0] rfl rfl (by decide) (by decide) hk1 hFc hP1 hD1
        generalize H1 = H at hP hS ⊢
        have hP : va_P (dC, dI) vwCl [(h0, .inr (9, [v0, v1, v2, v3, v4, .ref hF, v6, v7, v8, v9]))] H := hP
        have hD : va_D A [(h0, .inr (9, [v0, v1, v2, v3, v4, .ref hF, v6, v7, v8, v9]))] := hD
        obtain rfl : r_14 = 0 := hw
        refine lv_goto (tgt := 55) hx hb dX9_person_51 (by decide) ?_
        exact W.iret (v := 0) hx hb hr (fun t ht hW => ⟨⟨0, (), rfl, (by simp [kPerson, c_3, c_7, c_11, ← hw_2, ← hw_6, ← hw_10]), trivial⟩, hS.F ht⟩) hS.2.2 dX9_person_55

theorem dX10_word_0 : decode cX10_word 0 = .ok (.aload_n 0, 1) := by decide +kernel
theorem dX10_word_1 : decode cX10_word 1 = .ok (.iconst 0, 1) := by decide +kernel
theorem dX10_word_2 : decode cX10_word 2 = .ok (.putfield 117, 3) := by decide +kernel
theorem dX10_word_5 : decode cX10_word 5 = .ok (.aload_n 0, 1) := by decide +kernel
theorem dX10_word_6 : decode cX10_word 6 = .ok (.getfield 256, 3) := by decide +kernel
theorem dX10_word_9 : decode cX10_word 9 = .ok (.iconst 4, 1) := by decide +kernel
theorem dX10_word_10 : decode cX10_word 10 = .ok (.if_icmp .eq 13, 3) := by decide +kernel
theorem dX10_word_13 : decode cX10_word 13 = .ok (.iload_n 1, 1) := by decide +kernel
theorem dX10_word_14 : decode cX10_word 14 = .ok (.iconst 0, 1) := by decide +kernel
theorem dX10_word_15 : decode cX10_word 15 = .ok (.bipush 47, 2) := by decide +kernel
theorem dX10_word_17 : decode cX10_word 17 = .ok (.invokestatic 236, 3) := by decide +kernel
theorem dX10_word_20 : decode cX10_word 20 = .ok (.ifCond .ne 5, 3) := by decide +kernel
theorem dX10_word_25 : decode cX10_word 25 = .ok (.aload_n 0, 1) := by decide +kernel
theorem dX10_word_26 : decode cX10_word 26 = .ok (.getfield 52, 3) := by decide +kernel
theorem dX10_word_29 : decode cX10_word 29 = .ok (.aload_n 0, 1) := by decide +kernel
theorem dX10_word_30 : decode cX10_word 30 = .ok (.getfield 256, 3) := by decide +kernel
theorem dX10_word_33 : decode cX10_word 33 = .ok (.iload_n 1, 1) := by decide +kernel
theorem dX10_word_34 : decode cX10_word 34 = .ok (.iastore, 1) := by decide +kernel
theorem dX10_word_35 : decode cX10_word 35 = .ok (.aload_n 0, 1) := by decide +kernel
theorem dX10_word_36 : decode cX10_word 36 = .ok (.dup, 1) := by decide +kernel
theorem dX10_word_37 : decode cX10_word 37 = .ok (.getfield 256, 3) := by decide +kernel
theorem dX10_word_40 : decode cX10_word 40 = .ok (.iconst 1, 1) := by decide +kernel
theorem dX10_word_41 : decode cX10_word 41 = .ok (.iadd, 1) := by decide +kernel
theorem dX10_word_42 : decode cX10_word 42 = .ok (.putfield 256, 3) := by decide +kernel
theorem dX10_word_45 : decode cX10_word 45 = .ok (.aload_n 0, 1) := by decide +kernel
theorem dX10_word_46 : decode cX10_word 46 = .ok (.getfield 256, 3) := by decide +kernel
theorem dX10_word_49 : decode cX10_word 49 = .ok (.ireturn, 1) := by decide +kernel
theorem dX10_word_23 : decode cX10_word 23 = .ok (.iconst (-1), 1) := by decide +kernel
theorem dX10_word_24 : decode cX10_word 24 = .ok (.ireturn, 1) := by decide +kernel
def w_c_word10 : List Cond := .code yX10_word cX10_word 2 (some .int) :: ([.fieldLink RX10 117 "NotEndedModel" "thrown" "I", .fieldLink RX10 256 "NotEndedModel" "words" "I", .initialized RX10, .static yX10_isIn, .methodLink RX10 236 yX10_isIn, .fieldLink RX10 52 "NotEndedModel" "due" "[I"] ++ (wsX100 ++ (w_c_isIn10)))
theorem gw_c_word10 : (w_c_word10).all goodWord = true := by decide +kernel
set_option maxHeartbeats 4000000 in
set_option maxRecDepth 100000 in
theorem c_word10 (l : Launch) (dC : Nat → ClassId) (dI : Nat → Nat → Nat) (h0 : Nat) (q1 : Nat) (c1 : ClassId) (g1 : Nat → Int32) (v0 : Value) (v1 : Value) (v2 : Value) (v3 : Value) (v4 : Value) (v5 : Value) (v6 : Value) (v7 : Value) (v8 : Value) (v9 : Value) (v10 : Value) (v11 : Value) (v12 : Value) (v13 : Value) (v14 : Value) (v15 : Value) (v16 : Value) (v17 : Value) (v18 : Value) (v19 : Value) (v20 : Value) (v21 : Value) (v22 : Value) (v23 : Value) (v25 : Value) (v26 : Value) (v28 : Value) (v29 : Value) (v30 : Value) (v31 : Value) (v32 : Value) (v33 : Value) (v34 : Value) (v35 : Value) (v36 : Value) (v37 : Value) (v38 : Value) (v39 : Value) (v40 : Value) (v41 : Value) (v42 : Value) (v43 : Value) (v44 : Value) (v45 : Value) (v46 : Value) (v47 : Value) (v48 : Value) (v49 : Value) (v50 : Value) (v51 : Value) (p0 : Int32) (sz : Nat) : Met l yX10_word w_c_word10 ({ frames := 2, cells := 0, slots := 0, locals := 120 }) (kW dC dI [.ref h0, .int p0] [(h0, .inr (10, [v0, v1, v2, v3, v4, v5, v6, v7, v8, v9, v10, v11, v12, v13, v14, v15, v16, v17, v18, v19, v20, v21, v22, v23, .ref q1, v25, v26, .int 0, v28, v29, v30, v31, v32, v33, v34, v35, v36, v37, v38, v39, v40, v41, v42, v43, v44, v45, v46, v47, v48, v49, v50, v51])), (q1, .inl (c1, 4, .inl g1))] [(c1, .int)] kT sz) (va_Qi (fun (r : Int32) (_ : Unit) => r = kWord p0) (fun _ _ => True) (va_A [(h0, .inr (10, [v0, v1, v2, v3, v4, v5, v6, v7, v8, v9, v10, v11, v12, v13, v14, v15, v16, v17, v18, v19, v20, v21, v22, v23, .ref q1, v25, v26, .int 0, v28, v29, v30, v31, v32, v33, v34, v35, v36, v37, v38, v39, v40, v41, v42, v43, v44, v45, v46, v47, v48, v49, v50, v51])), (q1, .inl (c1, 4, .inl g1))] sz)) 0 0 (va_A [(h0, .inr (10, [v0, v1, v2, v3, v4, v5, v6, v7, v8, v9, v10, v11, v12, v13, v14, v15, v16, v17, v18, v19, v20, v21, v22, v23, .ref q1, v25, v26, .int 0, v28, v29, v30, v31, v32, v33, v34, v35, v36, v37, v38, v39, v40, v41, v42, v43, v44, v45, v46, v47, v48, v49, v50, v51])), (q1, .inl (c1, 4, .inl g1))] sz) := by
  refine Met.ofW (cc := cX10_word) (maxL := 2) (ret := (some .int)) (by decide) rfl ?_
  intro p e s m args below meth c s₁ B hml hv
  obtain ⟨rfl, hsz, hP, hK, hD0, hX⟩ := hv
  have hx := B.exec
  have hb := B.bytes
  have hr := B.returns
  have hts := atoms_spec (ws := w_c_word10) B.pre
  have hown : s.vm.findClass RX10 = some m.cls := findClass_of_methodNamed B.named
  have hlocks := B.notSynchronized
  subst hsz
  have hD := hD0.self (sz := s.heap.size)
  generalize hAe : va_A [(h0, .inr (10, [v0, v1, v2, v3, v4, v5, v6, v7, v8, v9, v10, v11, v12, v13, v14, v15, v16, v17, v18, v19, v20, v21, v22, v23, .ref q1, v25, v26, .int 0, v28, v29, v30, v31, v32, v33, v34, v35, v36, v37, v38, v39, v40, v41, v42, v43, v44, v45, v46, v47, v48, v49, v50, v51])), (q1, .inl (c1, 4, .inl g1))] s.heap.size = A at hD ⊢
  have hA : ∀ q : Nat, s.heap.size ≤ q → A q := fun q h => by rw [← hAe]; exact Or.inr h
  have hS : va_S A s.heap s.heap [] := va_S.rf
  have hP : va_P (dC, dI) vwCl [(h0, .inr (10, [v0, v1, v2, v3, v4, v5, v6, v7, v8, v9, v10, v11, v12, v13, v14, v15, v16, v17, v18, v19, v20, v21, v22, v23, .ref q1, v25, v26, .int 0, v28, v29, v30, v31, v32, v33, v34, v35, v36, v37, v38, v39, v40, v41, v42, v43, v44, v45, v46, v47, v48, v49, v50, v51])), (q1, .inl (c1, 4, .inl g1))] s.heap := hP
  have hl := lv_entry ([.ref h0, .int p0]) (n := 2) (Nat.le_of_ble_eq_true rfl)
  rw [lg_entry_eq]
  generalize (lg_sl ([.ref h0, .int p0]) ++ List.replicate (2 - (lg_sl ([.ref h0, .int p0])).length) Slot.unset).toArray = ls at hl ⊢
  have hl : lv_has ls 2 [(0, .ref h0), (1, .int p0)] := hl
  refine lv_aload_n hx hb dX10_word_0 rfl (lv_at hl 0 rfl) ?_
  refine lv_iconst (v := 0) hx hb dX10_word_1 (by decide) ?_
  refine va_put (D := (dC, dI)) (ci := 10) (v := .int 0) (ty := tyX10 0) (C := RX10) (T := TX10) (N := 52) hx hb hts (fun _ h => List.mem_cons_of_mem _ (List.mem_append_right _ (List.mem_append_left _ h))) tyX10 tyX10_ok nmX10 hown hK hP hD hS 0 rfl rfl 0 (by decide) (hts (.fieldLink RX10 117 "NotEndedModel" "thrown" "I") (List.mem_cons_of_mem _ (List.mem_append_left _ (List.mem_of_getElem? (i := 0) rfl)))) (fun _ h9 => h9) rfl (tyX10_ok 0 (by decide)) rfl rfl (Nat.le_of_ble_eq_true rfl) dX10_word_2 (fun H locs hP hD hS => ?_)
  have hP : va_P (dC, dI) vwCl [(h0, .inr (10, [.int 0, v1, v2, v3, v4, v5, v6, v7, v8, v9, v10, v11, v12, v13, v14, v15, v16, v17, v18, v19, v20, v21, v22, v23, .ref q1, v25, v26, .int 0, v28, v29, v30, v31, v32, v33, v34, v35, v36, v37, v38, v39, v40, v41, v42, v43, v44, v45, v46, v47, v48, v49, v50, v51])), (q1, .inl (c1, 4, .inl g1))] H := hP
  have hD : va_D A [(h0, .inr (10, [.int 0, v1, v2, v3, v4, v5, v6, v7, v8, v9, v10, v11, v12, v13, v14, v15, v16, v17, v18, v19, v20, v21, v22, v23, .ref q1, v25, v26, .int 0, v28, v29, v30, v31, v32, v33, v34, v35, v36, v37, v38, v39, v40, v41, v42, v43, v44, v45, v46, v47, v48, v49, v50, v51])), (q1, .inl (c1, 4, .inl g1))] := hD
  refine lv_aload_n hx hb dX10_word_5 rfl (lv_at hl 0 rfl) ?_
  refine va_get (D := (dC, dI)) (ci := 10) (v := .int 0) (C := RX10) (T := TX10) (N := 52) hx hb hts (fun _ h => List.mem_cons_of_mem _ (List.mem_append_right _ (List.mem_append_left _ h))) hown hK hP 0 rfl rfl 27 (by decide) (hts (.fieldLink RX10 256 "NotEndedModel" "words" "I") (List.mem_cons_of_mem _ (List.mem_append_left _ (List.mem_of_getElem? (i := 1) rfl)))) (fun _ h9 => h9) rfl dX10_word_6 ?_
  refine lv_iconst (v := 4) hx hb dX10_word_9 (by decide) ?_
  refine lv_icmp_eq (tgt := 23) hx hb dX10_word_10 (by decide) (fun c_1 => absurd c_1 (by decide)) (fun c_1 => ?_)
  refine lv_iload_n hx hb dX10_word_13 rfl (lv_at hl 1 rfl) ?_
  refine lv_iconst (v := 0) hx hb dX10_word_14 (by decide) ?_
  refine lv_bipush (v := 47) hx hb dX10_word_15 (by decide) ?_
  have hPc := hP.sub (ws' := []) [] rfl
  have hKc := hK.sub (tys' := []) [] rfl
  refine vp_callSi (va_runS (As := [.int p0, .int 0, .int 47]) (rest := []) ⟨hx, hb, hml, hown, hts⟩ (c_isIn10 l dC dI p0 0 47) (va_cwS 3 hts (kG (List.forall_mem_cons.mpr ⟨(List.mem_cons_of_mem _ (List.mem_append_left _ (List.mem_of_getElem? (i := 4) rfl))), (List.forall_mem_cons.mpr ⟨(List.mem_cons_of_mem _ (List.mem_append_left _ (List.mem_of_getElem? (i := 3) rfl))), (List.forall_mem_cons.mpr ⟨(List.mem_cons_of_mem _ (List.mem_append_left _ (List.mem_of_getElem? (i := 2) rfl))), (fun _ h => absurd h List.not_mem_nil)⟩)⟩)⟩) (by decide +kernel) (fun _ h => List.mem_cons_of_mem _ (List.mem_append_right _ (List.mem_append_right _ h))) gw_c_isIn10) rfl rfl rfl (by decide +kernel) ⟨(Nat.le_of_ble_eq_true rfl), (Nat.le_of_ble_eq_true rfl)⟩) (kR_S kT_blind kT_give hPc hKc) rfl rfl hl.1 rfl (lv_room (Nat.le_of_ble_eq_true rfl)) dX10_word_17 ⟨(Nat.le_of_ble_eq_true rfl), (Nat.le_of_ble_eq_true rfl)⟩).run (fun r_2 hw => ?_)
  have hw_3 := hw
  refine lv_if_ne (tgt := 25) hx hb dX10_word_20 (by decide) (fun c_4 => ?_) (fun c_4 => ?_)
  · refine lv_aload_n hx hb dX10_word_25 rfl (lv_at hl 0 rfl) ?_
    refine va_get (D := (dC, dI)) (ci := 10) (v := .ref q1) (C := RX10) (T := TX10) (N := 52) hx hb hts (fun _ h => List.mem_cons_of_mem _ (List.mem_append_right _ (List.mem_append_left _ h))) hown hK hP 0 rfl rfl 24 (by decide) (hts (.fieldLink RX10 52 "NotEndedModel" "due" "[I") (List.mem_cons_of_mem _ (List.mem_append_left _ (List.mem_of_getElem? (i := 5) rfl)))) (fun _ h9 => h9) rfl dX10_word_26 ?_
    refine lv_aload_n hx hb dX10_word_29 rfl (lv_at hl 0 rfl) ?_
    refine va_get (D := (dC, dI)) (ci := 10) (v := .int 0) (C := RX10) (T := TX10) (N := 52) hx hb hts (fun _ h => List.mem_cons_of_mem _ (List.mem_append_right _ (List.mem_append_left _ h))) hown hK hP 0 rfl rfl 27 (by decide) (hts (.fieldLink RX10 256 "NotEndedModel" "words" "I") (List.mem_cons_of_mem _ (List.mem_append_left _ (List.mem_of_getElem? (i := 1) rfl)))) (fun _ h9 => h9) rfl dX10_word_30 ?_
    refine lv_iload_n hx hb dX10_word_33 rfl (lv_at hl 1 rfl) ?_
    refine va_iast hx hb hK hP hD hS 1 0 rfl rfl (by unfold vp_in; decide) dX10_word_34 (fun H locs hP hD hS => ?_)
    obtain ⟨f_5, ef_5⟩ : ∃ gg9 : Nat → Int32, gg9 = upd g1 (Int32.toNatClampNeg 0) p0 := ⟨_, rfl⟩
    have hP : va_P (dC, dI) vwCl [(h0, .inr (10, [.int 0, v1, v2, v3, v4, v5, v6, v7, v8, v9, v10, v11, v12, v13, v14, v15, v16, v17, v18, v19, v20, v21, v22, v23, .ref q1, v25, v26, .int 0, v28, v29, v30, v31, v32, v33, v34, v35, v36, v37, v38, v39, v40, v41, v42, v43, v44, v45, v46, v47, v48, v49, v50, v51])), (q1, .inl (c1, 4, .inl f_5))] H := by rw [ef_5]; exact hP
    have hD : va_D A [(h0, .inr (10, [.int 0, v1, v2, v3, v4, v5, v6, v7, v8, v9, v10, v11, v12, v13, v14, v15, v16, v17, v18, v19, v20, v21, v22, v23, .ref q1, v25, v26, .int 0, v28, v29, v30, v31, v32, v33, v34, v35, v36, v37, v38, v39, v40, v41, v42, v43, v44, v45, v46, v47, v48, v49, v50, v51])), (q1, .inl (c1, 4, .inl f_5))] := by rw [ef_5]; exact hD
    refine lv_aload_n hx hb dX10_word_35 rfl (lv_at hl 0 rfl) ?_
    refine lv_dup hx hb dX10_word_36 rfl ?_
    refine va_get (D := (dC, dI)) (ci := 10) (v := .int 0) (C := RX10) (T := TX10) (N := 52) hx hb hts (fun _ h => List.mem_cons_of_mem _ (List.mem_append_right _ (List.mem_append_left _ h))) hown hK hP 0 rfl rfl 27 (by decide) (hts (.fieldLink RX10 256 "NotEndedModel" "words" "I") (List.mem_cons_of_mem _ (List.mem_append_left _ (List.mem_of_getElem? (i := 1) rfl)))) (fun _ h9 => h9) rfl dX10_word_37 ?_
    refine lv_iconst (v := 1) hx hb dX10_word_40 (by decide) ?_
    refine lv_iadd hx hb dX10_word_41 ?_
    refine lv_topi (fun y_6 ey_6 => ?_)
    obtain rfl : y_6 = 1 := ey_6.trans (by decide)
    refine va_put (D := (dC, dI)) (ci := 10) (v := .int 1) (ty := tyX10 27) (C := RX10) (T := TX10) (N := 52) hx hb hts (fun _ h => List.mem_cons_of_mem _ (List.mem_append_right _ (List.mem_append_left _ h))) tyX10 tyX10_ok nmX10 hown hK hP hD hS 0 rfl rfl 27 (by decide) (hts (.fieldLink RX10 256 "NotEndedModel" "words" "I") (List.mem_cons_of_mem _ (List.mem_append_left _ (List.mem_of_getElem? (i := 1) rfl)))) (fun _ h9 => h9) rfl (tyX10_ok 27 (by decide)) rfl rfl (Nat.le_of_ble_eq_true rfl) dX10_word_42 (fun H locs hP hD hS => ?_)
    have hP : va_P (dC, dI) vwCl [(h0, .inr (10, [.int 0, v1, v2, v3, v4, v5, v6, v7, v8, v9, v10, v11, v12, v13, v14, v15, v16, v17, v18, v19, v20, v21, v22, v23, .ref q1, v25, v26, .int 1, v28, v29, v30, v31, v32, v33, v34, v35, v36, v37, v38, v39, v40, v41, v42, v43, v44, v45, v46, v47, v48, v49, v50, v51])), (q1, .inl (c1, 4, .inl f_5))] H := hP
    have hD : va_D A [(h0, .inr (10, [.int 0, v1, v2, v3, v4, v5, v6, v7, v8, v9, v10, v11, v12, v13, v14, v15, v16, v17, v18, v19, v20, v21, v22, v23, .ref q1, v25, v26, .int 1, v28, v29, v30, v31, v32, v33, v34, v35, v36, v37, v38, v39, v40, v41, v42, v43, v44, v45, v46, v47, v48, v49, v50, v51])), (q1, .inl (c1, 4, .inl f_5))] := hD
    refine lv_aload_n hx hb dX10_word_45 rfl (lv_at hl 0 rfl) ?_
    refine va_get (D := (dC, dI)) (ci := 10) (v := .int 1) (C := RX10) (T := TX10) (N := 52) hx hb hts (fun _ h => List.mem_cons_of_mem _ (List.mem_append_right _ (List.mem_append_left _ h))) hown hK hP 0 rfl rfl 27 (by decide) (hts (.fieldLink RX10 256 "NotEndedModel" "words" "I") (List.mem_cons_of_mem _ (List.mem_append_left _ (List.mem_of_getElem? (i := 1) rfl)))) (fun _ h9 => h9) rfl dX10_word_46 ?_
    exact W.iret (v := 1) hx hb hr (fun t ht hW => ⟨⟨1, (), rfl, (by simp [kWord, c_4, ← hw_3]), trivial⟩, hS.F ht⟩) hS.2.2 dX10_word_49
  · refine lv_iconst (v := (-1)) hx hb dX10_word_23 (by decide) ?_
    exact W.iret (v := (-1)) hx hb hr (fun t ht hW => ⟨⟨(-1), (), rfl, (by simp [kWord, c_4, ← hw_3]), trivial⟩, hS.F ht⟩) hS.2.2 dX10_word_24

theorem dX10_person_0 : decode cX10_person 0 = .ok (.aload_n 0, 1) := by decide +kernel
theorem dX10_person_1 : decode cX10_person 1 = .ok (.iconst 0, 1) := by decide +kernel
theorem dX10_person_2 : decode cX10_person 2 = .ok (.putfield 117, 3) := by decide +kernel
theorem dX10_person_5 : decode cX10_person 5 = .ok (.aload_n 0, 1) := by decide +kernel
theorem dX10_person_6 : decode cX10_person 6 = .ok (.getfield 250, 3) := by decide +kernel
theorem dX10_person_9 : decode cX10_person 9 = .ok (.bipush 10, 2) := by decide +kernel
theorem dX10_person_11 : decode cX10_person 11 = .ok (.if_icmp .eq 32, 3) := by decide +kernel
theorem dX10_person_14 : decode cX10_person 14 = .ok (.iload_n 1, 1) := by decide +kernel
theorem dX10_person_15 : decode cX10_person 15 = .ok (.iconst 0, 1) := by decide +kernel
theorem dX10_person_16 : decode cX10_person 16 = .ok (.bipush 100, 2) := by decide +kernel
theorem dX10_person_18 : decode cX10_person 18 = .ok (.invokestatic 236, 3) := by decide +kernel
theorem dX10_person_21 : decode cX10_person 21 = .ok (.ifCond .eq 22, 3) := by decide +kernel
theorem dX10_person_43 : decode cX10_person 43 = .ok (.iconst (-1), 1) := by decide +kernel
theorem dX10_person_44 : decode cX10_person 44 = .ok (.ireturn, 1) := by decide +kernel
theorem dX10_person_24 : decode cX10_person 24 = .ok (.iload_n 2, 1) := by decide +kernel
theorem dX10_person_25 : decode cX10_person 25 = .ok (.iconst 0, 1) := by decide +kernel
theorem dX10_person_26 : decode cX10_person 26 = .ok (.bipush 99, 2) := by decide +kernel
theorem dX10_person_28 : decode cX10_person 28 = .ok (.invokestatic 236, 3) := by decide +kernel
theorem dX10_person_31 : decode cX10_person 31 = .ok (.ifCond .eq 12, 3) := by decide +kernel
theorem dX10_person_34 : decode cX10_person 34 = .ok (.iload_n 3, 1) := by decide +kernel
theorem dX10_person_35 : decode cX10_person 35 = .ok (.iconst 0, 1) := by decide +kernel
theorem dX10_person_36 : decode cX10_person 36 = .ok (.iconst 3, 1) := by decide +kernel
theorem dX10_person_37 : decode cX10_person 37 = .ok (.invokestatic 236, 3) := by decide +kernel
theorem dX10_person_40 : decode cX10_person 40 = .ok (.ifCond .ne 5, 3) := by decide +kernel
theorem dX10_person_45 : decode cX10_person 45 = .ok (.aload_n 0, 1) := by decide +kernel
theorem dX10_person_46 : decode cX10_person 46 = .ok (.getfield 37, 3) := by decide +kernel
theorem dX10_person_49 : decode cX10_person 49 = .ok (.aload_n 0, 1) := by decide +kernel
theorem dX10_person_50 : decode cX10_person 50 = .ok (.getfield 250, 3) := by decide +kernel
theorem dX10_person_53 : decode cX10_person 53 = .ok (.iload_n 1, 1) := by decide +kernel
theorem dX10_person_54 : decode cX10_person 54 = .ok (.iastore, 1) := by decide +kernel
theorem dX10_person_55 : decode cX10_person 55 = .ok (.aload_n 0, 1) := by decide +kernel
theorem dX10_person_56 : decode cX10_person 56 = .ok (.getfield 40, 3) := by decide +kernel
theorem dX10_person_59 : decode cX10_person 59 = .ok (.aload_n 0, 1) := by decide +kernel
theorem dX10_person_60 : decode cX10_person 60 = .ok (.getfield 250, 3) := by decide +kernel
theorem dX10_person_63 : decode cX10_person 63 = .ok (.iload_n 2, 1) := by decide +kernel
theorem dX10_person_64 : decode cX10_person 64 = .ok (.iastore, 1) := by decide +kernel
theorem dX10_person_65 : decode cX10_person 65 = .ok (.aload_n 0, 1) := by decide +kernel
theorem dX10_person_66 : decode cX10_person 66 = .ok (.getfield 43, 3) := by decide +kernel
theorem dX10_person_69 : decode cX10_person 69 = .ok (.aload_n 0, 1) := by decide +kernel
theorem dX10_person_70 : decode cX10_person 70 = .ok (.getfield 250, 3) := by decide +kernel
theorem dX10_person_73 : decode cX10_person 73 = .ok (.iload_n 3, 1) := by decide +kernel
theorem dX10_person_74 : decode cX10_person 74 = .ok (.iastore, 1) := by decide +kernel
theorem dX10_person_75 : decode cX10_person 75 = .ok (.aload_n 0, 1) := by decide +kernel
theorem dX10_person_76 : decode cX10_person 76 = .ok (.getfield 46, 3) := by decide +kernel
theorem dX10_person_79 : decode cX10_person 79 = .ok (.aload_n 0, 1) := by decide +kernel
theorem dX10_person_80 : decode cX10_person 80 = .ok (.getfield 250, 3) := by decide +kernel
theorem dX10_person_83 : decode cX10_person 83 = .ok (.iconst 0, 1) := by decide +kernel
theorem dX10_person_84 : decode cX10_person 84 = .ok (.iastore, 1) := by decide +kernel
theorem dX10_person_85 : decode cX10_person 85 = .ok (.aload_n 0, 1) := by decide +kernel
theorem dX10_person_86 : decode cX10_person 86 = .ok (.getfield 49, 3) := by decide +kernel
theorem dX10_person_89 : decode cX10_person 89 = .ok (.aload_n 0, 1) := by decide +kernel
theorem dX10_person_90 : decode cX10_person 90 = .ok (.getfield 250, 3) := by decide +kernel
theorem dX10_person_93 : decode cX10_person 93 = .ok (.iconst (-1), 1) := by decide +kernel
theorem dX10_person_94 : decode cX10_person 94 = .ok (.iastore, 1) := by decide +kernel
theorem dX10_person_95 : decode cX10_person 95 = .ok (.aload_n 0, 1) := by decide +kernel
theorem dX10_person_96 : decode cX10_person 96 = .ok (.getfield 55, 3) := by decide +kernel
theorem dX10_person_99 : decode cX10_person 99 = .ok (.aload_n 0, 1) := by decide +kernel
theorem dX10_person_100 : decode cX10_person 100 = .ok (.getfield 250, 3) := by decide +kernel
theorem dX10_person_103 : decode cX10_person 103 = .ok (.iload 4, 2) := by decide +kernel
theorem dX10_person_105 : decode cX10_person 105 = .ok (.bastore, 1) := by decide +kernel
theorem dX10_person_106 : decode cX10_person 106 = .ok (.aload_n 0, 1) := by decide +kernel
theorem dX10_person_107 : decode cX10_person 107 = .ok (.dup, 1) := by decide +kernel
theorem dX10_person_108 : decode cX10_person 108 = .ok (.getfield 250, 3) := by decide +kernel
theorem dX10_person_111 : decode cX10_person 111 = .ok (.iconst 1, 1) := by decide +kernel
theorem dX10_person_112 : decode cX10_person 112 = .ok (.iadd, 1) := by decide +kernel
theorem dX10_person_113 : decode cX10_person 113 = .ok (.putfield 250, 3) := by decide +kernel
theorem dX10_person_116 : decode cX10_person 116 = .ok (.aload_n 0, 1) := by decide +kernel
theorem dX10_person_117 : decode cX10_person 117 = .ok (.getfield 250, 3) := by decide +kernel
theorem dX10_person_120 : decode cX10_person 120 = .ok (.iconst 1, 1) := by decide +kernel
theorem dX10_person_121 : decode cX10_person 121 = .ok (.isub, 1) := by decide +kernel
theorem dX10_person_122 : decode cX10_person 122 = .ok (.ireturn, 1) := by decide +kernel
def w_c_person10 : List Cond := .code yX10_person cX10_person 5 (some .int) :: ([.fieldLink RX10 117 "NotEndedModel" "thrown" "I", .fieldLink RX10 250 "NotEndedModel" "persons" "I", .initialized RX10, .static yX10_isIn, .methodLink RX10 236 yX10_isIn, .fieldLink RX10 37 "NotEndedModel" "toldHolds" "[I", .fieldLink RX10 40 "NotEndedModel" "toldIn" "[I", .fieldLink RX10 43 "NotEndedModel" "toldHouse" "[I", .fieldLink RX10 46 "NotEndedModel" "knows" "[I", .fieldLink RX10 49 "NotEndedModel" "said" "[I", .fieldLink RX10 55 "NotEndedModel" "isSent" "[Z"] ++ (wsX100 ++ (w_c_isIn10)))
theorem gw_c_person10 : (w_c_person10).all goodWord = true := by decide +kernel
set_option maxHeartbeats 4000000 in
set_option maxRecDepth 100000 in
theorem c_person10 (l : Launch) (dC : Nat → ClassId) (dI : Nat → Nat → Nat) (h0 : Nat) (q19 : Nat) (q20 : Nat) (q21 : Nat) (q22 : Nat) (q23 : Nat) (q25 : Nat) (c19 : ClassId) (c20 : ClassId) (c21 : ClassId) (c22 : ClassId) (c23 : ClassId) (c25 : ClassId) (g19 : Nat → Int32) (g20 : Nat → Int32) (g21 : Nat → Int32) (g22 : Nat → Int32) (g23 : Nat → Int32) (g25 : Nat → Int32) (v0 : Value) (v1 : Value) (v2 : Value) (v3 : Value) (v4 : Value) (v5 : Value) (v6 : Value) (v7 : Value) (v8 : Value) (v9 : Value) (v10 : Value) (v11 : Value) (v12 : Value) (v13 : Value) (v14 : Value) (v15 : Value) (v16 : Value) (v17 : Value) (v18 : Value) (v24 : Value) (v27 : Value) (v28 : Value) (v29 : Value) (v30 : Value) (v31 : Value) (v32 : Value) (v33 : Value) (v34 : Value) (v35 : Value) (v36 : Value) (v37 : Value) (v38 : Value) (v39 : Value) (v40 : Value) (v41 : Value) (v42 : Value) (v43 : Value) (v44 : Value) (v45 : Value) (v46 : Value) (v47 : Value) (v48 : Value) (v49 : Value) (v50 : Value) (v51 : Value) (p0 : Int32) (p1 : Int32) (p2 : Int32) (p3 : Int32) (sz : Nat) : Met l yX10_person w_c_person10 ({ frames := 2, cells := 0, slots := 0, locals := 120 }) (kW dC dI [.ref h0, .int p0, .int p1, .int p2, .int p3] [(h0, .inr (10, [v0, v1, v2, v3, v4, v5, v6, v7, v8, v9, v10, v11, v12, v13, v14, v15, v16, v17, v18, .ref q19, .ref q20, .ref q21, .ref q22, .ref q23, v24, .ref q25, .int 0, v27, v28, v29, v30, v31, v32, v33, v34, v35, v36, v37, v38, v39, v40, v41, v42, v43, v44, v45, v46, v47, v48, v49, v50, v51])), (q19, .inl (c19, 10, .inl g19)), (q20, .inl (c20, 10, .inl g20)), (q21, .inl (c21, 10, .inl g21)), (q22, .inl (c22, 10, .inl g22)), (q23, .inl (c23, 10, .inl g23)), (q25, .inl (c25, 10, .inl g25))] [(c19, .int), (c20, .int), (c21, .int), (c22, .int), (c23, .int), (c25, .boolean)] kT sz) (va_Qi (fun (r : Int32) (_ : Unit) => r = kPerson p0 p1 p2) (fun _ _ => True) (va_A [(h0, .inr (10, [v0, v1, v2, v3, v4, v5, v6, v7, v8, v9, v10, v11, v12, v13, v14, v15, v16, v17, v18, .ref q19, .ref q20, .ref q21, .ref q22, .ref q23, v24, .ref q25, .int 0, v27, v28, v29, v30, v31, v32, v33, v34, v35, v36, v37, v38, v39, v40, v41, v42, v43, v44, v45, v46, v47, v48, v49, v50, v51])), (q19, .inl (c19, 10, .inl g19)), (q20, .inl (c20, 10, .inl g20)), (q21, .inl (c21, 10, .inl g21)), (q22, .inl (c22, 10, .inl g22)), (q23, .inl (c23, 10, .inl g23)), (q25, .inl (c25, 10, .inl g25))] sz)) 0 0 (va_A [(h0, .inr (10, [v0, v1, v2, v3, v4, v5, v6, v7, v8, v9, v10, v11, v12, v13, v14, v15, v16, v17, v18, .ref q19, .ref q20, .ref q21, .ref q22, .ref q23, v24, .ref q25, .int 0, v27, v28, v29, v30, v31, v32, v33, v34, v35, v36, v37, v38, v39, v40, v41, v42, v43, v44, v45, v46, v47, v48, v49, v50, v51])), (q19, .inl (c19, 10, .inl g19)), (q20, .inl (c20, 10, .inl g20)), (q21, .inl (c21, 10, .inl g21)), (q22, .inl (c22, 10, .inl g22)), (q23, .inl (c23, 10, .inl g23)), (q25, .inl (c25, 10, .inl g25))] sz) := by
  refine Met.ofW (cc := cX10_person) (maxL := 5) (ret := (some .int)) (by decide) rfl ?_
  intro p e s m args below meth c s₁ B hml hv
  obtain ⟨rfl, hsz, hP, hK, hD0, hX⟩ := hv
  have hx := B.exec
  have hb := B.bytes
  have hr := B.returns
  have hts := atoms_spec (ws := w_c_person10) B.pre
  have hown : s.vm.findClass RX10 = some m.cls := findClass_of_methodNamed B.named
  have hlocks := B.notSynchronized
  subst hsz
  have hD := hD0.self (sz := s.heap.size)
  generalize hAe : va_A [(h0, .inr (10, [v0, v1, v2, v3, v4, v5, v6, v7, v8, v9, v10, v11, v12, v13, v14, v15, v16, v17, v18, .ref q19, .ref q20, .ref q21, .ref q22, .ref q23, v24, .ref q25, .int 0, v27, v28, v29, v30, v31, v32, v33, v34, v35, v36, v37, v38, v39, v40, v41, v42, v43, v44, v45, v46, v47, v48, v49, v50, v51])), (q19, .inl (c19, 10, .inl g19)), (q20, .inl (c20, 10, .inl g20)), (q21, .inl (c21, 10, .inl g21)), (q22, .inl (c22, 10, .inl g22)), (q23, .inl (c23, 10, .inl g23)), (q25, .inl (c25, 10, .inl g25))] s.heap.size = A at hD ⊢
  have hA : ∀ q : Nat, s.heap.size ≤ q → A q := fun q h => by rw [← hAe]; exact Or.inr h
  have hS : va_S A s.heap s.heap [] := va_S.rf
  have hP : va_P (dC, dI) vwCl [(h0, .inr (10, [v0, v1, v2, v3, v4, v5, v6, v7, v8, v9, v10, v11, v12, v13, v14, v15, v16, v17, v18, .ref q19, .ref q20, .ref q21, .ref q22, .ref q23, v24, .ref q25, .int 0, v27, v28, v29, v30, v31, v32, v33, v34, v35, v36, v37, v38, v39, v40, v41, v42, v43, v44, v45, v46, v47, v48, v49, v50, v51])), (q19, .inl (c19, 10, .inl g19)), (q20, .inl (c20, 10, .inl g20)), (q21, .inl (c21, 10, .inl g21)), (q22, .inl (c22, 10, .inl g22)), (q23, .inl (c23, 10, .inl g23)), (q25, .inl (c25, 10, .inl g25))] s.heap := hP
  have hl := lv_entry ([.ref h0, .int p0, .int p1, .int p2, .int p3]) (n := 5) (Nat.le_of_ble_eq_true rfl)
  rw [lg_entry_eq]
  generalize (lg_sl ([.ref h0, .int p0, .int p1, .int p2, .int p3]) ++ List.replicate (5 - (lg_sl ([.ref h0, .int p0, .int p1, .int p2, .int p3])).length) Slot.unset).toArray = ls at hl ⊢
  have hl : lv_has ls 5 [(0, .ref h0), (1, .int p0), (2, .int p1), (3, .int p2), (4, .int p3)] := hl
  refine lv_aload_n hx hb dX10_person_0 rfl (lv_at hl 0 rfl) ?_
  refine lv_iconst (v := 0) hx hb dX10_person_1 (by decide) ?_
  refine va_put (D := (dC, dI)) (ci := 10) (v := .int 0) (ty := tyX10 0) (C := RX10) (T := TX10) (N := 52) hx hb hts (fun _ h => List.mem_cons_of_mem _ (List.mem_append_right _ (List.mem_append_left _ h))) tyX10 tyX10_ok nmX10 hown hK hP hD hS 0 rfl rfl 0 (by decide) (hts (.fieldLink RX10 117 "NotEndedModel" "thrown" "I") (List.mem_cons_of_mem _ (List.mem_append_left _ (List.mem_of_getElem? (i := 0) rfl)))) (fun _ h9 => h9) rfl (tyX10_ok 0 (by decide)) rfl rfl (Nat.le_of_ble_eq_true rfl) dX10_person_2 (fun H locs hP hD hS => ?_)
  have hP : va_P (dC, dI) vwCl [(h0, .inr (10, [.int 0, v1, v2, v3, v4, v5, v6, v7, v8, v9, v10, v11, v12, v13, v14, v15, v16, v17, v18, .ref q19, .ref q20, .ref q21, .ref q22, .ref q23, v24, .ref q25, .int 0, v27, v28, v29, v30, v31, v32, v33, v34, v35, v36, v37, v38, v39, v40, v41, v42, v43, v44, v45, v46, v47, v48, v49, v50, v51])), (q19, .inl (c19, 10, .inl g19)), (q20, .inl (c20, 10, .inl g20)), (q21, .inl (c21, 10, .inl g21)), (q22, .inl (c22, 10, .inl g22)), (q23, .inl (c23, 10, .inl g23)), (q25, .inl (c25, 10, .inl g25))] H := hP
  have hD : va_D A [(h0, .inr (10, [.int 0, v1, v2, v3, v4, v5, v6, v7, v8, v9, v10, v11, v12, v13, v14, v15, v16, v17, v18, .ref q19, .ref q20, .ref q21, .ref q22, .ref q23, v24, .ref q25, .int 0, v27, v28, v29, v30, v31, v32, v33, v34, v35, v36, v37, v38, v39, v40, v41, v42, v43, v44, v45, v46, v47, v48, v49, v50, v51])), (q19, .inl (c19, 10, .inl g19)), (q20, .inl (c20, 10, .inl g20)), (q21, .inl (c21, 10, .inl g21)), (q22, .inl (c22, 10, .inl g22)), (q23, .inl (c23, 10, .inl g23)), (q25, .inl (c25, 10, .inl g25))] := hD
  refine lv_aload_n hx hb dX10_person_5 rfl (lv_at hl 0 rfl) ?_
  refine va_get (D := (dC, dI)) (ci := 10) (v := .int 0) (C := RX10) (T := TX10) (N := 52) hx hb hts (fun _ h => List.mem_cons_of_mem _ (List.mem_append_right _ (List.mem_append_left _ h))) hown hK hP 0 rfl rfl 26 (by decide) (hts (.fieldLink RX10 250 "NotEndedModel" "persons" "I") (List.mem_cons_of_mem _ (List.mem_append_left _ (List.mem_of_getElem? (i := 1) rfl)))) (fun _ h9 => h9) rfl dX10_person_6 ?_
  refine lv_bipush (v := 10) hx hb dX10_person_9 (by decide) ?_
  refine lv_icmp_eq (tgt := 43) hx hb dX10_person_11 (by decide) (fun c_1 => absurd c_1 (by decide)) (fun c_1 => ?_)
  refine lv_iload_n hx hb dX10_person_14 rfl (lv_at hl 1 rfl) ?_
  refine lv_iconst (v := 0) hx hb dX10_person_15 (by decide) ?_
  refine lv_bipush (v := 100) hx hb dX10_person_16 (by decide) ?_
  have hPc := hP.sub (ws' := []) [] rfl
  have hKc := hK.sub (tys' := []) [] rfl
  refine vp_callSi (va_runS (As := [.int p0, .int 0, .int 100]) (rest := []) ⟨hx, hb, hml, hown, hts⟩ (c_isIn10 l dC dI p0 0 100) (va_cwS 3 hts (kG (List.forall_mem_cons.mpr ⟨(List.mem_cons_of_mem _ (List.mem_append_left _ (List.mem_of_getElem? (i := 4) rfl))), (List.forall_mem_cons.mpr ⟨(List.mem_cons_of_mem _ (List.mem_append_left _ (List.mem_of_getElem? (i := 3) rfl))), (List.forall_mem_cons.mpr ⟨(List.mem_cons_of_mem _ (List.mem_append_left _ (List.mem_of_getElem? (i := 2) rfl))), (fun _ h => absurd h List.not_mem_nil)⟩)⟩)⟩) (by decide +kernel) (fun _ h => List.mem_cons_of_mem _ (List.mem_append_right _ (List.mem_append_right _ h))) gw_c_isIn10) rfl rfl rfl (by decide +kernel) ⟨(Nat.le_of_ble_eq_true rfl), (Nat.le_of_ble_eq_true rfl)⟩) (kR_S kT_blind kT_give hPc hKc) rfl rfl hl.1 rfl (lv_room (Nat.le_of_ble_eq_true rfl)) dX10_person_18 ⟨(Nat.le_of_ble_eq_true rfl), (Nat.le_of_ble_eq_true rfl)⟩).run (fun r_2 hw => ?_)
  have hw_3 := hw
  refine lv_if_eq (tgt := 43) hx hb dX10_person_21 (by decide) (fun c_4 => ?_) (fun c_4 => ?_)
  · refine lv_iconst (v := (-1)) hx hb dX10_person_43 (by decide) ?_
    exact W.iret (v := (-1)) hx hb hr (fun t ht hW => ⟨⟨(-1), (), rfl, (by simp [kPerson, c_4, ← hw_3]), trivial⟩, hS.F ht⟩) hS.2.2 dX10_person_44
  · refine lv_iload_n hx hb dX10_person_24 rfl (lv_at hl 2 rfl) ?_
    refine lv_iconst (v := 0) hx hb dX10_person_25 (by decide) ?_
    refine lv_bipush (v := 99) hx hb dX10_person_26 (by decide) ?_
    have hPc := hP.sub (ws' := []) [] rfl
    have hKc := hK.sub (tys' := []) [] rfl
    refine vp_callSi (va_runS (As := [.int p1, .int 0, .int 99]) (rest := []) ⟨hx, hb, hml, hown, hts⟩ (c_isIn10 l dC dI p1 0 99) (va_cwS 3 hts (kG (List.forall_mem_cons.mpr ⟨(List.mem_cons_of_mem _ (List.mem_append_left _ (List.mem_of_getElem? (i := 4) rfl))), (List.forall_mem_cons.mpr ⟨(List.mem_cons_of_mem _ (List.mem_append_left _ (List.mem_of_getElem? (i := 3) rfl))), (List.forall_mem_cons.mpr ⟨(List.mem_cons_of_mem _ (List.mem_append_left _ (List.mem_of_getElem? (i := 2) rfl))), (fun _ h => absurd h List.not_mem_nil)⟩)⟩)⟩) (by decide +kernel) (fun _ h => List.mem_cons_of_mem _ (List.mem_append_right _ (List.mem_append_right _ h))) gw_c_isIn10) rfl rfl rfl (by decide +kernel) ⟨(Nat.le_of_ble_eq_true rfl), (Nat.le_of_ble_eq_true rfl)⟩) (kR_S kT_blind kT_give hPc hKc) rfl rfl hl.1 rfl (lv_room (Nat.le_of_ble_eq_true rfl)) dX10_person_28 ⟨(Nat.le_of_ble_eq_true rfl), (Nat.le_of_ble_eq_true rfl)⟩).run (fun r_5 hw => ?_)
    have hw_6 := hw
    refine lv_if_eq (tgt := 43) hx hb dX10_person_31 (by decide) (fun c_7 => ?_) (fun c_7 => ?_)
    · refine lv_iconst (v := (-1)) hx hb dX10_person_43 (by decide) ?_
      exact W.iret (v := (-1)) hx hb hr (fun t ht hW => ⟨⟨(-1), (), rfl, (by simp [kPerson, c_4, c_7, ← hw_3, ← hw_6]), trivial⟩, hS.F ht⟩) hS.2.2 dX10_person_44
    · refine lv_iload_n hx hb dX10_person_34 rfl (lv_at hl 3 rfl) ?_
      refine lv_iconst (v := 0) hx hb dX10_person_35 (by decide) ?_
      refine lv_iconst (v := 3) hx hb dX10_person_36 (by decide) ?_
      have hPc := hP.sub (ws' := []) [] rfl
      have hKc := hK.sub (tys' := []) [] rfl
      refine vp_callSi (va_runS (As := [.int p2, .int 0, .int 3]) (rest := []) ⟨hx, hb, hml, hown, hts⟩ (c_isIn10 l dC dI p2 0 3) (va_cwS 3 hts (kG (List.forall_mem_cons.mpr ⟨(List.mem_cons_of_mem _ (List.mem_append_left _ (List.mem_of_getElem? (i := 4) rfl))), (List.forall_mem_cons.mpr ⟨(List.mem_cons_of_mem _ (List.mem_append_left _ (List.mem_of_getElem? (i := 3) rfl))), (List.forall_mem_cons.mpr ⟨(List.mem_cons_of_mem _ (List.mem_append_left _ (List.mem_of_getElem? (i := 2) rfl))), (fun _ h => absurd h List.not_mem_nil)⟩)⟩)⟩) (by decide +kernel) (fun _ h => List.mem_cons_of_mem _ (List.mem_append_right _ (List.mem_append_right _ h))) gw_c_isIn10) rfl rfl rfl (by decide +kernel) ⟨(Nat.le_of_ble_eq_true rfl), (Nat.le_of_ble_eq_true rfl)⟩) (kR_S kT_blind kT_give hPc hKc) rfl rfl hl.1 rfl (lv_room (Nat.le_of_ble_eq_true rfl)) dX10_person_37 ⟨(Nat.le_of_ble_eq_true rfl), (Nat.le_of_ble_eq_true rfl)⟩).run (fun r_8 hw => ?_)
      have hw_9 := hw
      refine lv_if_ne (tgt := 45) hx hb dX10_person_40 (by decide) (fun c_10 => ?_) (fun c_10 => ?_)
      · refine lv_aload_n hx hb dX10_person_45 rfl (lv_at hl 0 rfl) ?_
        refine va_get (D := (dC, dI)) (ci := 10) (v := .ref q19) (C := RX10) (T := TX10) (N := 52) hx hb hts (fun _ h => List.mem_cons_of_mem _ (List.mem_append_right _ (List.mem_append_left _ h))) hown hK hP 0 rfl rfl 19 (by decide) (hts (.fieldLink RX10 37 "NotEndedModel" "toldHolds" "[I") (List.mem_cons_of_mem _ (List.mem_append_left _ (List.mem_of_getElem? (i := 5) rfl)))) (fun _ h9 => h9) rfl dX10_person_46 ?_
        refine lv_aload_n hx hb dX10_person_49 rfl (lv_at hl 0 rfl) ?_
        refine va_get (D := (dC, dI)) (ci := 10) (v := .int 0) (C := RX10) (T := TX10) (N := 52) hx hb hts (fun _ h => List.mem_cons_of_mem _ (List.mem_append_right _ (List.mem_append_left _ h))) hown hK hP 0 rfl rfl 26 (by decide) (hts (.fieldLink RX10 250 "NotEndedModel" "persons" "I") (List.mem_cons_of_mem _ (List.mem_append_left _ (List.mem_of_getElem? (i := 1) rfl)))) (fun _ h9 => h9) rfl dX10_person_50 ?_
        refine lv_iload_n hx hb dX10_person_53 rfl (lv_at hl 1 rfl) ?_
        refine va_iast hx hb hK hP hD hS 1 0 rfl rfl (by unfold vp_in; decide) dX10_person_54 (fun H locs hP hD hS => ?_)
        obtain ⟨f_11, ef_11⟩ : ∃ gg9 : Nat → Int32, gg9 = upd g19 (Int32.toNatClampNeg 0) p0 := ⟨_, rfl⟩
        have hP : va_P (dC, dI) vwCl [(h0, .inr (10, [.int 0, v1, v2, v3, v4, v5, v6, v7, v8, v9, v10, v11, v12, v13, v14, v15, v16, v17, v18, .ref q19, .ref q20, .ref q21, .ref q22, .ref q23, v24, .ref q25, .int 0, v27, v28, v29, v30, v31, v32, v33, v34, v35, v36, v37, v38, v39, v40, v41, v42, v43, v44, v45, v46, v47, v48, v49, v50, v51])), (q19, .inl (c19, 10, .inl f_11)), (q20, .inl (c20, 10, .inl g20)), (q21, .inl (c21, 10, .inl g21)), (q22, .inl (c22, 10, .inl g22)), (q23, .inl (c23, 10, .inl g23)), (q25, .inl (c25, 10, .inl g25))] H := by rw [ef_11]; exact hP
        have hD : va_D A [(h0, .inr (10, [.int 0, v1, v2, v3, v4, v5, v6, v7, v8, v9, v10, v11, v12, v13, v14, v15, v16, v17, v18, .ref q19, .ref q20, .ref q21, .ref q22, .ref q23, v24, .ref q25, .int 0, v27, v28, v29, v30, v31, v32, v33, v34, v35, v36, v37, v38, v39, v40, v41, v42, v43, v44, v45, v46, v47, v48, v49, v50, v51])), (q19, .inl (c19, 10, .inl f_11)), (q20, .inl (c20, 10, .inl g20)), (q21, .inl (c21, 10, .inl g21)), (q22, .inl (c22, 10, .inl g22)), (q23, .inl (c23, 10, .inl g23)), (q25, .inl (c25, 10, .inl g25))] := by rw [ef_11]; exact hD
        refine lv_aload_n hx hb dX10_person_55 rfl (lv_at hl 0 rfl) ?_
        refine va_get (D := (dC, dI)) (ci := 10) (v := .ref q20) (C := RX10) (T := TX10) (N := 52) hx hb hts (fun _ h => List.mem_cons_of_mem _ (List.mem_append_right _ (List.mem_append_left _ h))) hown hK hP 0 rfl rfl 20 (by decide) (hts (.fieldLink RX10 40 "NotEndedModel" "toldIn" "[I") (List.mem_cons_of_mem _ (List.mem_append_left _ (List.mem_of_getElem? (i := 6) rfl)))) (fun _ h9 => h9) rfl dX10_person_56 ?_
        refine lv_aload_n hx hb dX10_person_59 rfl (lv_at hl 0 rfl) ?_
        refine va_get (D := (dC, dI)) (ci := 10) (v := .int 0) (C := RX10) (T := TX10) (N := 52) hx hb hts (fun _ h => List.mem_cons_of_mem _ (List.mem_append_right _ (List.mem_append_left _ h))) hown hK hP 0 rfl rfl 26 (by decide) (hts (.fieldLink RX10 250 "NotEndedModel" "persons" "I") (List.mem_cons_of_mem _ (List.mem_append_left _ (List.mem_of_getElem? (i := 1) rfl)))) (fun _ h9 => h9) rfl dX10_person_60 ?_
        refine lv_iload_n hx hb dX10_person_63 rfl (lv_at hl 2 rfl) ?_
        refine va_iast hx hb hK hP hD hS 2 1 rfl rfl (by unfold vp_in; decide) dX10_person_64 (fun H locs hP hD hS => ?_)
        obtain ⟨f_12, ef_12⟩ : ∃ gg9 : Nat → Int32, gg9 = upd g20 (Int32.toNatClampNeg 0) p1 := ⟨_, rfl⟩
        have hP : va_P (dC, dI) vwCl [(h0, .inr (10, [.int 0, v1, v2, v3, v4, v5, v6, v7, v8, v9, v10, v11, v12, v13, v14, v15, v16, v17, v18, .ref q19, .ref q20, .ref q21, .ref q22, .ref q23, v24, .ref q25, .int 0, v27, v28, v29, v30, v31, v32, v33, v34, v35, v36, v37, v38, v39, v40, v41, v42, v43, v44, v45, v46, v47, v48, v49, v50, v51])), (q19, .inl (c19, 10, .inl f_11)), (q20, .inl (c20, 10, .inl f_12)), (q21, .inl (c21, 10, .inl g21)), (q22, .inl (c22, 10, .inl g22)), (q23, .inl (c23, 10, .inl g23)), (q25, .inl (c25, 10, .inl g25))] H := by rw [ef_12]; exact hP
        have hD : va_D A [(h0, .inr (10, [.int 0, v1, v2, v3, v4, v5, v6, v7, v8, v9, v10, v11, v12, v13, v14, v15, v16, v17, v18, .ref q19, .ref q20, .ref q21, .ref q22, .ref q23, v24, .ref q25, .int 0, v27, v28, v29, v30, v31, v32, v33, v34, v35, v36, v37, v38, v39, v40, v41, v42, v43, v44, v45, v46, v47, v48, v49, v50, v51])), (q19, .inl (c19, 10, .inl f_11)), (q20, .inl (c20, 10, .inl f_12)), (q21, .inl (c21, 10, .inl g21)), (q22, .inl (c22, 10, .inl g22)), (q23, .inl (c23, 10, .inl g23)), (q25, .inl (c25, 10, .inl g25))] := by rw [ef_12]; exact hD
        refine lv_aload_n hx hb dX10_person_65 rfl (lv_at hl 0 rfl) ?_
        refine va_get (D := (dC, dI)) (ci := 10) (v := .ref q21) (C := RX10) (T := TX10) (N := 52) hx hb hts (fun _ h => List.mem_cons_of_mem _ (List.mem_append_right _ (List.mem_append_left _ h))) hown hK hP 0 rfl rfl 21 (by decide) (hts (.fieldLink RX10 43 "NotEndedModel" "toldHouse" "[I") (List.mem_cons_of_mem _ (List.mem_append_left _ (List.mem_of_getElem? (i := 7) rfl)))) (fun _ h9 => h9) rfl dX10_person_66 ?_
        refine lv_aload_n hx hb dX10_person_69 rfl (lv_at hl 0 rfl) ?_
        refine va_get (D := (dC, dI)) (ci := 10) (v := .int 0) (C := RX10) (T := TX10) (N := 52) hx hb hts (fun _ h => List.mem_cons_of_mem _ (List.mem_append_right _ (List.mem_append_left _ h))) hown hK hP 0 rfl rfl 26 (by decide) (hts (.fieldLink RX10 250 "NotEndedModel" "persons" "I") (List.mem_cons_of_mem _ (List.mem_append_left _ (List.mem_of_getElem? (i := 1) rfl)))) (fun _ h9 => h9) rfl dX10_person_70 ?_
        refine lv_iload_n hx hb dX10_person_73 rfl (lv_at hl 3 rfl) ?_
        refine va_iast hx hb hK hP hD hS 3 2 rfl rfl (by unfold vp_in; decide) dX10_person_74 (fun H locs hP hD hS => ?_)
        obtain ⟨f_13, ef_13⟩ : ∃ gg9 : Nat → Int32, gg9 = upd g21 (Int32.toNatClampNeg 0) p2 := ⟨_, rfl⟩
        have hP : va_P (dC, dI) vwCl [(h0, .inr (10, [.int 0, v1, v2, v3, v4, v5, v6, v7, v8, v9, v10, v11, v12, v13, v14, v15, v16, v17, v18, .ref q19, .ref q20, .ref q21, .ref q22, .ref q23, v24, .ref q25, .int 0, v27, v28, v29, v30, v31, v32, v33, v34, v35, v36, v37, v38, v39, v40, v41, v42, v43, v44, v45, v46, v47, v48, v49, v50, v51])), (q19, .inl (c19, 10, .inl f_11)), (q20, .inl (c20, 10, .inl f_12)), (q21, .inl (c21, 10, .inl f_13)), (q22, .inl (c22, 10, .inl g22)), (q23, .inl (c23, 10, .inl g23)), (q25, .inl (c25, 10, .inl g25))] H := by rw [ef_13]; exact hP
        have hD : va_D A [(h0, .inr (10, [.int 0, v1, v2, v3, v4, v5, v6, v7, v8, v9, v10, v11, v12, v13, v14, v15, v16, v17, v18, .ref q19, .ref q20, .ref q21, .ref q22, .ref q23, v24, .ref q25, .int 0, v27, v28, v29, v30, v31, v32, v33, v34, v35, v36, v37, v38, v39, v40, v41, v42, v43, v44, v45, v46, v47, v48, v49, v50, v51])), (q19, .inl (c19, 10, .inl f_11)), (q20, .inl (c20, 10, .inl f_12)), (q21, .inl (c21, 10, .inl f_13)), (q22, .inl (c22, 10, .inl g22)), (q23, .inl (c23, 10, .inl g23)), (q25, .inl (c25, 10, .inl g25))] := by rw [ef_13]; exact hD
        refine lv_aload_n hx hb dX10_person_75 rfl (lv_at hl 0 rfl) ?_
        refine va_get (D := (dC, dI)) (ci := 10) (v := .ref q22) (C := RX10) (T := TX10) (N := 52) hx hb hts (fun _ h => List.mem_cons_of_mem _ (List.mem_append_right _ (List.mem_append_left _ h))) hown hK hP 0 rfl rfl 22 (by decide) (hts (.fieldLink RX10 46 "NotEndedModel" "knows" "[I") (List.mem_cons_of_mem _ (List.mem_append_left _ (List.mem_of_getElem? (i := 8) rfl)))) (fun _ h9 => h9) rfl dX10_person_76 ?_
        refine lv_aload_n hx hb dX10_person_79 rfl (lv_at hl 0 rfl) ?_
        refine va_get (D := (dC, dI)) (ci := 10) (v := .int 0) (C := RX10) (T := TX10) (N := 52) hx hb hts (fun _ h => List.mem_cons_of_mem _ (List.mem_append_right _ (List.mem_append_left _ h))) hown hK hP 0 rfl rfl 26 (by decide) (hts (.fieldLink RX10 250 "NotEndedModel" "persons" "I") (List.mem_cons_of_mem _ (List.mem_append_left _ (List.mem_of_getElem? (i := 1) rfl)))) (fun _ h9 => h9) rfl dX10_person_80 ?_
        refine lv_iconst (v := 0) hx hb dX10_person_83 (by decide) ?_
        refine va_iast hx hb hK hP hD hS 4 3 rfl rfl (by unfold vp_in; decide) dX10_person_84 (fun H locs hP hD hS => ?_)
        obtain ⟨f_14, ef_14⟩ : ∃ gg9 : Nat → Int32, gg9 = upd g22 (Int32.toNatClampNeg 0) 0 := ⟨_, rfl⟩
        have hP : va_P (dC, dI) vwCl [(h0, .inr (10, [.int 0, v1, v2, v3, v4, v5, v6, v7, v8, v9, v10, v11, v12, v13, v14, v15, v16, v17, v18, .ref q19, .ref q20, .ref q21, .ref q22, .ref q23, v24, .ref q25, .int 0, v27, v28, v29, v30, v31, v32, v33, v34, v35, v36, v37, v38, v39, v40, v41, v42, v43, v44, v45, v46, v47, v48, v49, v50, v51])), (q19, .inl (c19, 10, .inl f_11)), (q20, .inl (c20, 10, .inl f_12)), (q21, .inl (c21, 10, .inl f_13)), (q22, .inl (c22, 10, .inl f_14)), (q23, .inl (c23, 10, .inl g23)), (q25, .inl (c25, 10, .inl g25))] H := by rw [ef_14]; exact hP
        have hD : va_D A [(h0, .inr (10, [.int 0, v1, v2, v3, v4, v5, v6, v7, v8, v9, v10, v11, v12, v13, v14, v15, v16, v17, v18, .ref q19, .ref q20, .ref q21, .ref q22, .ref q23, v24, .ref q25, .int 0, v27, v28, v29, v30, v31, v32, v33, v34, v35, v36, v37, v38, v39, v40, v41, v42, v43, v44, v45, v46, v47, v48, v49, v50, v51])), (q19, .inl (c19, 10, .inl f_11)), (q20, .inl (c20, 10, .inl f_12)), (q21, .inl (c21, 10, .inl f_13)), (q22, .inl (c22, 10, .inl f_14)), (q23, .inl (c23, 10, .inl g23)), (q25, .inl (c25, 10, .inl g25))] := by rw [ef_14]; exact hD
        refine lv_aload_n hx hb dX10_person_85 rfl (lv_at hl 0 rfl) ?_
        refine va_get (D := (dC, dI)) (ci := 10) (v := .ref q23) (C := RX10) (T := TX10) (N := 52) hx hb hts (fun _ h => List.mem_cons_of_mem _ (List.mem_append_right _ (List.mem_append_left _ h))) hown hK hP 0 rfl rfl 23 (by decide) (hts (.fieldLink RX10 49 "NotEndedModel" "said" "[I") (List.mem_cons_of_mem _ (List.mem_append_left _ (List.mem_of_getElem? (i := 9) rfl)))) (fun _ h9 => h9) rfl dX10_person_86 ?_
        refine lv_aload_n hx hb dX10_person_89 rfl (lv_at hl 0 rfl) ?_
        refine va_get (D := (dC, dI)) (ci := 10) (v := .int 0) (C := RX10) (T := TX10) (N := 52) hx hb hts (fun _ h => List.mem_cons_of_mem _ (List.mem_append_right _ (List.mem_append_left _ h))) hown hK hP 0 rfl rfl 26 (by decide) (hts (.fieldLink RX10 250 "NotEndedModel" "persons" "I") (List.mem_cons_of_mem _ (List.mem_append_left _ (List.mem_of_getElem? (i := 1) rfl)))) (fun _ h9 => h9) rfl dX10_person_90 ?_
        refine lv_iconst (v := (-1)) hx hb dX10_person_93 (by decide) ?_
        refine va_iast hx hb hK hP hD hS 5 4 rfl rfl (by unfold vp_in; decide) dX10_person_94 (fun H locs hP hD hS => ?_)
        obtain ⟨f_15, ef_15⟩ : ∃ gg9 : Nat → Int32, gg9 = upd g23 (Int32.toNatClampNeg 0) (-1) := ⟨_, rfl⟩
        have hP : va_P (dC, dI) vwCl [(h0, .inr (10, [.int 0, v1, v2, v3, v4, v5, v6, v7, v8, v9, v10, v11, v12, v13, v14, v15, v16, v17, v18, .ref q19, .ref q20, .ref q21, .ref q22, .ref q23, v24, .ref q25, .int 0, v27, v28, v29, v30, v31, v32, v33, v34, v35, v36, v37, v38, v39, v40, v41, v42, v43, v44, v45, v46, v47, v48, v49, v50, v51])), (q19, .inl (c19, 10, .inl f_11)), (q20, .inl (c20, 10, .inl f_12)), (q21, .inl (c21, 10, .inl f_13)), (q22, .inl (c22, 10, .inl f_14)), (q23, .inl (c23, 10, .inl f_15)), (q25, .inl (c25, 10, .inl g25))] H := by rw [ef_15]; exact hP
        have hD : va_D A [(h0, .inr (10, [.int 0, v1, v2, v3, v4, v5, v6, v7, v8, v9, v10, v11, v12, v13, v14, v15, v16, v17, v18, .ref q19, .ref q20, .ref q21, .ref q22, .ref q23, v24, .ref q25, .int 0, v27, v28, v29, v30, v31, v32, v33, v34, v35, v36, v37, v38, v39, v40, v41, v42, v43, v44, v45, v46, v47, v48, v49, v50, v51])), (q19, .inl (c19, 10, .inl f_11)), (q20, .inl (c20, 10, .inl f_12)), (q21, .inl (c21, 10, .inl f_13)), (q22, .inl (c22, 10, .inl f_14)), (q23, .inl (c23, 10, .inl f_15)), (q25, .inl (c25, 10, .inl g25))] := by rw [ef_15]; exact hD
        refine lv_aload_n hx hb dX10_person_95 rfl (lv_at hl 0 rfl) ?_
        refine va_get (D := (dC, dI)) (ci := 10) (v := .ref q25) (C := RX10) (T := TX10) (N := 52) hx hb hts (fun _ h => List.mem_cons_of_mem _ (List.mem_append_right _ (List.mem_append_left _ h))) hown hK hP 0 rfl rfl 25 (by decide) (hts (.fieldLink RX10 55 "NotEndedModel" "isSent" "[Z") (List.mem_cons_of_mem _ (List.mem_append_left _ (List.mem_of_getElem? (i := 10) rfl)))) (fun _ h9 => h9) rfl dX10_person_96 ?_
        refine lv_aload_n hx hb dX10_person_99 rfl (lv_at hl 0 rfl) ?_
        refine va_get (D := (dC, dI)) (ci := 10) (v := .int 0) (C := RX10) (T := TX10) (N := 52) hx hb hts (fun _ h => List.mem_cons_of_mem _ (List.mem_append_right _ (List.mem_append_left _ h))) hown hK hP 0 rfl rfl 26 (by decide) (hts (.fieldLink RX10 250 "NotEndedModel" "persons" "I") (List.mem_cons_of_mem _ (List.mem_append_left _ (List.mem_of_getElem? (i := 1) rfl)))) (fun _ h9 => h9) rfl dX10_person_100 ?_
        refine lv_iload hx hb dX10_person_103 (lv_at hl 4 rfl) ?_
        refine va_zast hx hb hK hP hD hS 6 5 rfl rfl (by unfold vp_in; decide) dX10_person_105 (fun H locs hP hD hS => ?_)
        obtain ⟨f_16, ef_16⟩ : ∃ gg9 : Nat → Int32, gg9 = upd g25 (Int32.toNatClampNeg 0) (vp_nar .boolean p3) := ⟨_, rfl⟩
        have hP : va_P (dC, dI) vwCl [(h0, .inr (10, [.int 0, v1, v2, v3, v4, v5, v6, v7, v8, v9, v10, v11, v12, v13, v14, v15, v16, v17, v18, .ref q19, .ref q20, .ref q21, .ref q22, .ref q23, v24, .ref q25, .int 0, v27, v28, v29, v30, v31, v32, v33, v34, v35, v36, v37, v38, v39, v40, v41, v42, v43, v44, v45, v46, v47, v48, v49, v50, v51])), (q19, .inl (c19, 10, .inl f_11)), (q20, .inl (c20, 10, .inl f_12)), (q21, .inl (c21, 10, .inl f_13)), (q22, .inl (c22, 10, .inl f_14)), (q23, .inl (c23, 10, .inl f_15)), (q25, .inl (c25, 10, .inl f_16))] H := by rw [ef_16]; exact hP
        have hD : va_D A [(h0, .inr (10, [.int 0, v1, v2, v3, v4, v5, v6, v7, v8, v9, v10, v11, v12, v13, v14, v15, v16, v17, v18, .ref q19, .ref q20, .ref q21, .ref q22, .ref q23, v24, .ref q25, .int 0, v27, v28, v29, v30, v31, v32, v33, v34, v35, v36, v37, v38, v39, v40, v41, v42, v43, v44, v45, v46, v47, v48, v49, v50, v51])), (q19, .inl (c19, 10, .inl f_11)), (q20, .inl (c20, 10, .inl f_12)), (q21, .inl (c21, 10, .inl f_13)), (q22, .inl (c22, 10, .inl f_14)), (q23, .inl (c23, 10, .inl f_15)), (q25, .inl (c25, 10, .inl f_16))] := by rw [ef_16]; exact hD
        refine lv_aload_n hx hb dX10_person_106 rfl (lv_at hl 0 rfl) ?_
        refine lv_dup hx hb dX10_person_107 rfl ?_
        refine va_get (D := (dC, dI)) (ci := 10) (v := .int 0) (C := RX10) (T := TX10) (N := 52) hx hb hts (fun _ h => List.mem_cons_of_mem _ (List.mem_append_right _ (List.mem_append_left _ h))) hown hK hP 0 rfl rfl 26 (by decide) (hts (.fieldLink RX10 250 "NotEndedModel" "persons" "I") (List.mem_cons_of_mem _ (List.mem_append_left _ (List.mem_of_getElem? (i := 1) rfl)))) (fun _ h9 => h9) rfl dX10_person_108 ?_
        refine lv_iconst (v := 1) hx hb dX10_person_111 (by decide) ?_
        refine lv_iadd hx hb dX10_person_112 ?_
        refine lv_topi (fun y_17 ey_17 => ?_)
        obtain rfl : y_17 = 1 := ey_17.trans (by decide)
        refine va_put (D := (dC, dI)) (ci := 10) (v := .int 1) (ty := tyX10 26) (C := RX10) (T := TX10) (N := 52) hx hb hts (fun _ h => List.mem_cons_of_mem _ (List.mem_append_right _ (List.mem_append_left _ h))) tyX10 tyX10_ok nmX10 hown hK hP hD hS 0 rfl rfl 26 (by decide) (hts (.fieldLink RX10 250 "NotEndedModel" "persons" "I") (List.mem_cons_of_mem _ (List.mem_append_left _ (List.mem_of_getElem? (i := 1) rfl)))) (fun _ h9 => h9) rfl (tyX10_ok 26 (by decide)) rfl rfl (Nat.le_of_ble_eq_true rfl) dX10_person_113 (fun H locs hP hD hS => ?_)
        have hP : va_P (dC, dI) vwCl [(h0, .inr (10, [.int 0, v1, v2, v3, v4, v5, v6, v7, v8, v9, v10, v11, v12, v13, v14, v15, v16, v17, v18, .ref q19, .ref q20, .ref q21, .ref q22, .ref q23, v24, .ref q25, .int 1, v27, v28, v29, v30, v31, v32, v33, v34, v35, v36, v37, v38, v39, v40, v41, v42, v43, v44, v45, v46, v47, v48, v49, v50, v51])), (q19, .inl (c19, 10, .inl f_11)), (q20, .inl (c20, 10, .inl f_12)), (q21, .inl (c21, 10, .inl f_13)), (q22, .inl (c22, 10, .inl f_14)), (q23, .inl (c23, 10, .inl f_15)), (q25, .inl (c25, 10, .inl f_16))] H := hP
        have hD : va_D A [(h0, .inr (10, [.int 0, v1, v2, v3, v4, v5, v6, v7, v8, v9, v10, v11, v12, v13, v14, v15, v16, v17, v18, .ref q19, .ref q20, .ref q21, .ref q22, .ref q23, v24, .ref q25, .int 1, v27, v28, v29, v30, v31, v32, v33, v34, v35, v36, v37, v38, v39, v40, v41, v42, v43, v44, v45, v46, v47, v48, v49, v50, v51])), (q19, .inl (c19, 10, .inl f_11)), (q20, .inl (c20, 10, .inl f_12)), (q21, .inl (c21, 10, .inl f_13)), (q22, .inl (c22, 10, .inl f_14)), (q23, .inl (c23, 10, .inl f_15)), (q25, .inl (c25, 10, .inl f_16))] := hD
        refine lv_aload_n hx hb dX10_person_116 rfl (lv_at hl 0 rfl) ?_
        refine va_get (D := (dC, dI)) (ci := 10) (v := .int 1) (C := RX10) (T := TX10) (N := 52) hx hb hts (fun _ h => List.mem_cons_of_mem _ (List.mem_append_right _ (List.mem_append_left _ h))) hown hK hP 0 rfl rfl 26 (by decide) (hts (.fieldLink RX10 250 "NotEndedModel" "persons" "I") (List.mem_cons_of_mem _ (List.mem_append_left _ (List.mem_of_getElem? (i := 1) rfl)))) (fun _ h9 => h9) rfl dX10_person_117 ?_
        refine lv_iconst (v := 1) hx hb dX10_person_120 (by decide) ?_
        refine lv_isub hx hb dX10_person_121 ?_
        refine lv_topi (fun y_18 ey_18 => ?_)
        obtain rfl : y_18 = 0 := ey_18.trans (by decide)
        exact W.iret (v := 0) hx hb hr (fun t ht hW => ⟨⟨0, (), rfl, (by simp [kPerson, c_4, c_7, c_10, ← hw_3, ← hw_6, ← hw_9]), trivial⟩, hS.F ht⟩) hS.2.2 dX10_person_122
      · refine lv_iconst (v := (-1)) hx hb dX10_person_43 (by decide) ?_
        exact W.iret (v := (-1)) hx hb hr (fun t ht hW => ⟨⟨(-1), (), rfl, (by simp [kPerson, c_4, c_7, c_10, ← hw_3, ← hw_6, ← hw_9]), trivial⟩, hS.F ht⟩) hS.2.2 dX10_person_44
