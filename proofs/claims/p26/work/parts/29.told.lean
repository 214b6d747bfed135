theorem dX9_person_0 : decode cX9_person 0 = .ok (.iload_n 1, 1) := kDs0 kf_27 (by decide +kernel)
theorem dX9_person_1 : decode cX9_person 1 = .ok (.iconst 0, 1) := kDs0 kf_3 (by decide +kernel)
theorem dX9_person_2 : decode cX9_person 2 = .ok (.bipush 100, 2) := kDs3 kf_16 (by decide +kernel)
theorem dX9_person_4 : decode cX9_person 4 = .ok (.invokestatic 117, 3) := kDs2 kf_184 (by decide +kernel)
theorem dX9_person_7 : decode cX9_person 7 = .ok (.ifCond .eq 24, 3) := kDs4 kf_153 (by decide +kernel)
theorem dX9_person_31 : decode cX9_person 31 = .ok (.iconst 0, 1) := kDs0 kf_3 (by decide +kernel)
theorem dX9_person_32 : decode cX9_person 32 = .ok (.istore 5, 2) := kDs1 kf_54 (by decide +kernel)
theorem dX9_person_34 : decode cX9_person 34 = .ok (.iload 5, 2) := kDs1 kf_21 (by decide +kernel)
theorem dX9_person_36 : decode cX9_person 36 = .ok (.ifCond .eq 18, 3) := kDs4 kf_153 (by decide +kernel)
theorem dX9_person_54 : decode cX9_person 54 = .ok (.iconst (-1), 1) := kDs0 kf_2 (by decide +kernel)
theorem dX9_person_55 : decode cX9_person 55 = .ok (.ireturn, 1) := kDs0 kf_172 (by decide +kernel)
theorem dX9_person_10 : decode cX9_person 10 = .ok (.iload_n 2, 1) := kDs0 kf_28 (by decide +kernel)
theorem dX9_person_11 : decode cX9_person 11 = .ok (.iconst 0, 1) := kDs0 kf_3 (by decide +kernel)
theorem dX9_person_12 : decode cX9_person 12 = .ok (.bipush 99, 2) := kDs3 kf_16 (by decide +kernel)
theorem dX9_person_14 : decode cX9_person 14 = .ok (.invokestatic 117, 3) := kDs2 kf_184 (by decide +kernel)
theorem dX9_person_17 : decode cX9_person 17 = .ok (.ifCond .eq 14, 3) := kDs4 kf_153 (by decide +kernel)
theorem dX9_person_20 : decode cX9_person 20 = .ok (.iload_n 3, 1) := kDs0 kf_29 (by decide +kernel)
theorem dX9_person_21 : decode cX9_person 21 = .ok (.invokestatic 121, 3) := kDs2 kf_184 (by decide +kernel)
theorem dX9_person_24 : decode cX9_person 24 = .ok (.ifCond .eq 7, 3) := kDs4 kf_153 (by decide +kernel)
theorem dX9_person_27 : decode cX9_person 27 = .ok (.iconst 1, 1) := kDs0 kf_4 (by decide +kernel)
theorem dX9_person_28 : decode cX9_person 28 = .ok (.goto 4, 3) := kDs4 kf_167 (by decide +kernel)
theorem dX9_person_39 : decode cX9_person 39 = .ok (.aload_n 0, 1) := kDs0 kf_42 (by decide +kernel)
theorem dX9_person_40 : decode cX9_person 40 = .ok (.getfield 47, 3) := kDs2 kf_180 (by decide +kernel)
theorem dX9_person_43 : decode cX9_person 43 = .ok (.iload_n 1, 1) := kDs0 kf_27 (by decide +kernel)
theorem dX9_person_44 : decode cX9_person 44 = .ok (.iload_n 2, 1) := kDs0 kf_28 (by decide +kernel)
theorem dX9_person_45 : decode cX9_person 45 = .ok (.iload_n 3, 1) := kDs0 kf_29 (by decide +kernel)
theorem dX9_person_46 : decode cX9_person 46 = .ok (.iload 4, 2) := kDs1 kf_21 (by decide +kernel)
theorem dX9_person_48 : decode cX9_person 48 = .ok (.invokevirtual 124, 3) := kDs2 kf_182 (by decide +kernel)
theorem dX9_person_51 : decode cX9_person 51 = .ok (.goto 4, 3) := kDs4 kf_167 (by decide +kernel)
def w_s_person9 : List Cond := .code yX9_person cX9_person 6 (some .int) :: ([.initialized RX9, .static yX9_isIn, .methodLink RX9 117 yX9_isIn, .static yX9_isHouse, .methodLink RX9 121 yX9_isHouse, .fieldLink RX9 47 "NotEnded" "folk" "LNotEnded$Folk;", .initialized RX2, .selects RX2 yX2_addPerson yX2_addPerson, .instanceMethod yX2_addPerson, .methodLink RX9 124 yX2_addPerson] ++ (w_s_isIn9 ++ (w_s_isHouse9x ++ (wsX90 ++ (w_s_addPerson2x)))))
theorem gw_s_person9 : (w_s_person9).all goodWord = true := kGc rfl (kGa (by decide +kernel) (kGa gw_s_isIn9 (kGa gw_s_isHouse9x (kGa gw_wsX90 gw_s_addPerson2x))))
theorem hd_X9_person : yX9_person.cls ≠ "java/lang/invoke/MethodHandle" ∧ yX9_person.cls ≠ "java/lang/invoke/VarHandle" ∧ (parseMethodDescriptor yX9_person.desc).map (fun d => d.parameters.length) = some 4 := by decide +kernel
set_option maxHeartbeats 4000000 in
set_option maxRecDepth 100000 in
theorem s_person9 (l : Launch) (dC : Nat → ClassId) (dI : Nat → Nat → Nat) (jX : Nat) (jT : Nat) (jR : Nat) (jL : Nat) (jU : Nat) (hN : Nat) (jA : Nat) (sd : Nat) (hF : Nat) (jC : Nat) (jK : Nat) (f0 : Nat) (f1 : Nat) (f2 : Nat) (f3 : Nat) (f4 : Nat) (z0 : ClassId) (z1 : ClassId) (z2 : ClassId) (z3 : ClassId) (z4 : ClassId) (g0 : Nat → Int32) (g1 : Nat → Int32) (g2 : Nat → Int32) (g3 : Nat → Int32) (g4 : Nat → Int32) (ks : Nat) (kw : Nat) (hks : ks ≤ 10) (hkw : kw ≤ 4) (sv : Nat) (hsv : sv < 1024) (p0 : Int32) (p1 : Int32) (p2 : Int32) (p3 : Int32) (sz : Nat) : Met l yX9_person w_s_person9 ({ frames := 3, cells := 0, slots := 0, locals := 180 }) (kW dC dI [.ref jX, .int p0, .int p1, .int p2, .int p3] [(jX, .inr (9, [.ref jT, .ref jR, .ref jK, .ref jL, .ref jU, .ref hF, .ref jC, .ref hN, .ref jA, .ref sd])), (hF, .inr (2, [.ref f0, .ref f1, .ref f2, .ref f3, .ref f4, .int (nI (sv)), .int (nI (ks)), .int (nI (kw))])), (f0, .inl (z0, 10, .inl g0)), (f1, .inl (z1, 10, .inl g1)), (f2, .inl (z2, 10, .inl g2)), (f3, .inl (z3, 10, .inl g3)), (f4, .inl (z4, 4, .inl g4))] [(z0, .int), (z1, .int), (z2, .int), (z3, .int), (z4, .int)] kT sz) (va_Qi (fun (r : Int32) (u : (Nat → Int32) × (Nat → Int32) × (Nat → Int32) × Nat × Nat) => match u with | (n0, n1, n2, sn1, ks1) => (r = kPerA p0 p1 p2 ks ∧ ks1 = kPerN p0 p1 p2 ks ∧ sn1 < 1024 ∧ sn1 = kSnN p0 p1 p2 p3 ks sv ∧ n0 = kPeF p0 p1 p2 ks p0 g0 ∧ n1 = kPeF p0 p1 p2 ks p1 g1 ∧ n2 = kPeF p0 p1 p2 ks p2 g2)) (fun (u : (Nat → Int32) × (Nat → Int32) × (Nat → Int32) × Nat × Nat) => match u with | (n0, n1, n2, sn1, ks1) => fun t : State => kB dC dI [(jX, .inr (9, [.ref jT, .ref jR, .ref jK, .ref jL, .ref jU, .ref hF, .ref jC, .ref hN, .ref jA, .ref sd])), (hF, .inr (2, [.ref f0, .ref f1, .ref f2, .ref f3, .ref f4, .int (nI (sn1)), .int (nI (ks1)), .int (nI (kw))])), (f0, .inl (z0, 10, .inl n0)), (f1, .inl (z1, 10, .inl n1)), (f2, .inl (z2, 10, .inl n2)), (f3, .inl (z3, 10, .inl g3)), (f4, .inl (z4, 4, .inl g4))] [(z0, .int), (z1, .int), (z2, .int), (z3, .int), (z4, .int)] (va_A [(jX, .inr (9, [.ref jT, .ref jR, .ref jK, .ref jL, .ref jU, .ref hF, .ref jC, .ref hN, .ref jA, .ref sd])), (hF, .inr (2, [.ref f0, .ref f1, .ref f2, .ref f3, .ref f4, .int (nI (sv)), .int (nI (ks)), .int (nI (kw))])), (f0, .inl (z0, 10, .inl g0)), (f1, .inl (z1, 10, .inl g1)), (f2, .inl (z2, 10, .inl g2)), (f3, .inl (z3, 10, .inl g3)), (f4, .inl (z4, 4, .inl g4))] sz) t) (va_A [(jX, .inr (9, [.ref jT, .ref jR, .ref jK, .ref jL, .ref jU, .ref hF, .ref jC, .ref hN, .ref jA, .ref sd])), (hF, .inr (2, [.ref f0, .ref f1, .ref f2, .ref f3, .ref f4, .int (nI (sv)), .int (nI (ks)), .int (nI (kw))])), (f0, .inl (z0, 10, .inl g0)), (f1, .inl (z1, 10, .inl g1)), (f2, .inl (z2, 10, .inl g2)), (f3, .inl (z3, 10, .inl g3)), (f4, .inl (z4, 4, .inl g4))] sz)) 0 0 (va_A [(jX, .inr (9, [.ref jT, .ref jR, .ref jK, .ref jL, .ref jU, .ref hF, .ref jC, .ref hN, .ref jA, .ref sd])), (hF, .inr (2, [.ref f0, .ref f1, .ref f2, .ref f3, .ref f4, .int (nI (sv)), .int (nI (ks)), .int (nI (kw))])), (f0, .inl (z0, 10, .inl g0)), (f1, .inl (z1, 10, .inl g1)), (f2, .inl (z2, 10, .inl g2)), (f3, .inl (z3, 10, .inl g3)), (f4, .inl (z4, 4, .inl g4))] sz) := by
  refine Met.ofW (cc := cX9_person) (maxL := 6) (ret := (some .int)) (by decide) rfl ?_
  intro p e s m args below meth c s₁ B hml hv
  obtain ⟨rfl, hsz, hP, hK, hD0, hX⟩ := hv
  have hx := B.exec
  have hb := B.bytes
  have hr := B.returns
  have hts := atoms_spec (ws := w_s_person9) B.pre
  have hown : s.vm.findClass RX9 = some m.cls := findClass_of_methodNamed B.named
  have hlocks := B.notSynchronized
  subst hsz
  have hD := hD0.self (sz := s.heap.size)
  generalize hAe : va_A [(jX, .inr (9, [.ref jT, .ref jR, .ref jK, .ref jL, .ref jU, .ref hF, .ref jC, .ref hN, .ref jA, .ref sd])), (hF, .inr (2, [.ref f0, .ref f1, .ref f2, .ref f3, .ref f4, .int (nI (sv)), .int (nI (ks)), .int (nI (kw))])), (f0, .inl (z0, 10, .inl g0)), (f1, .inl (z1, 10, .inl g1)), (f2, .inl (z2, 10, .inl g2)), (f3, .inl (z3, 10, .inl g3)), (f4, .inl (z4, 4, .inl g4))] s.heap.size = A at hD ⊢
  have hA : ∀ q : Nat, s.heap.size ≤ q → A q := fun q h => by rw [← hAe]; exact Or.inr h
  have hS : va_S A s.heap s.heap [] := va_S.rf
  have hP : va_P (dC, dI) vwCl [(jX, .inr (9, [.ref jT, .ref jR, .ref jK, .ref jL, .ref jU, .ref hF, .ref jC, .ref hN, .ref jA, .ref sd])), (hF, .inr (2, [.ref f0, .ref f1, .ref f2, .ref f3, .ref f4, .int (nI (sv)), .int (nI (ks)), .int (nI (kw))])), (f0, .inl (z0, 10, .inl g0)), (f1, .inl (z1, 10, .inl g1)), (f2, .inl (z2, 10, .inl g2)), (f3, .inl (z3, 10, .inl g3)), (f4, .inl (z4, 4, .inl g4))] s.heap := hP
  have hl := lv_entry ([.ref jX, .int p0, .int p1, .int p2, .int p3]) (n := 6) (Nat.le_of_ble_eq_true rfl)
  rw [lg_entry_eq]
  generalize (lg_sl ([.ref jX, .int p0, .int p1, .int p2, .int p3]) ++ List.replicate (6 - (lg_sl ([.ref jX, .int p0, .int p1, .int p2, .int p3])).length) Slot.unset).toArray = ls at hl ⊢
  have hl : lv_has ls 6 [(0, .ref jX), (1, .int p0), (2, .int p1), (3, .int p2), (4, .int p3)] := hl
  refine kQ (fun Q hQ => ?_)
  refine lv_iload_n hx hb dX9_person_0 rfl (lv_at hl 1 rfl) ?_
  refine lv_iconst (v := 0) hx hb dX9_person_1 kc_i_0 ?_
  refine lv_bipush (v := 100) hx hb dX9_person_2 kc_b_100 ?_
  have hPc := hP.sb (ws2 := []) [] rfl
  have hKc := hK.sb (tys2 := []) [] rfl
  refine vp_callSi (va_runS (As := [.int p0, .int 0, .int 100]) (rest := []) ⟨hx, hb, hml, hown, hts⟩ (s_isIn9 l dC dI p0 0 100) (va_cwS 3 hts (kG (List.forall_mem_cons.mpr ⟨(List.mem_cons_of_mem _ (List.mem_append_left _ (List.mem_of_getElem? (i := 2) rfl))), (List.forall_mem_cons.mpr ⟨(List.mem_cons_of_mem _ (List.mem_append_left _ (List.mem_of_getElem? (i := 1) rfl))), (List.forall_mem_cons.mpr ⟨(List.mem_cons_of_mem _ (List.mem_append_left _ (List.mem_of_getElem? (i := 0) rfl))), (fun _ h => absurd h List.not_mem_nil)⟩)⟩)⟩) (kGS _ _ _) (fun _ h => List.mem_cons_of_mem _ (List.mem_append_right _ (List.mem_append_left _ h))) gw_s_isIn9) rfl rfl rfl hd_X9_isIn ⟨(Nat.le_of_ble_eq_true rfl), (Nat.le_of_ble_eq_true rfl)⟩) (kR_S kT_blind kT_give hPc hKc) rfl rfl hl.1 rfl (lv_room (Nat.le_of_ble_eq_true rfl)) dX9_person_4 ⟨(Nat.le_of_ble_eq_true rfl), (Nat.le_of_ble_eq_true rfl)⟩).run (fun r_1 hw => ?_)
  have hw_2 := hw
  refine lv_if_eq (tgt := 31) hx hb dX9_person_7 kc_t_7_24 (fun c_3 => ?_) (fun c_3 => ?_)
  · have ff_4 := kZr hw_2 c_3
    refine lv_iconst (v := 0) hx hb dX9_person_31 kc_i_0 ?_
    refine lv_istore hx hb dX9_person_32 hl kc_l_5_6 (kTo [(5, .int 0), (0, .ref jX), (1, .int p0), (2, .int p1), (3, .int p2), (4, .int p3)]) (fun ls hl => ?_)
    refine lv_iload hx hb dX9_person_34 (lv_at hl 0 rfl) ?_
    refine lv_if_eq (tgt := 54) hx hb dX9_person_36 kc_t_36_18 (fun c_5 => ?_) (fun c_5 => absurd (by decide) c_5)
    refine lv_iconst (v := (-1)) hx hb dX9_person_54 kc_i_m1 ?_
    have hP9 := hP
    have hD9 := hD
    have hK9 := hK
    rw [hQ]
    exact W.iret (v := (-1)) hx hb hr (fun t ht hW => ⟨⟨(-1), (g0, g1, g2, sv, ks), rfl, ⟨by simp [kPerA, ff_4], by simp [kPerN, ff_4], hsv, by unfold kSnN; rw [if_pos (by simp [kPerN, ff_4])], by unfold kPeF; rw [if_pos (by simp [kPerN, ff_4])], by unfold kPeF; rw [if_pos (by simp [kPerN, ff_4])], by unfold kPeF; rw [if_pos (by simp [kPerN, ff_4])]⟩,  by rw [ht]; exact hP9, va_K.moved hW.alike hK9, hD9⟩, hS.F ht⟩) hS.2.2 dX9_person_55
  · have ff_6 := kNzr hw_2 c_3
    refine lv_iload_n hx hb dX9_person_10 rfl (lv_at hl 2 rfl) ?_
    refine lv_iconst (v := 0) hx hb dX9_person_11 kc_i_0 ?_
    refine lv_bipush (v := 99) hx hb dX9_person_12 kc_b_99 ?_
    have hPc := hP.sb (ws2 := []) [] rfl
    have hKc := hK.sb (tys2 := []) [] rfl
    refine vp_callSi (va_runS (As := [.int p1, .int 0, .int 99]) (rest := []) ⟨hx, hb, hml, hown, hts⟩ (s_isIn9 l dC dI p1 0 99) (va_cwS 3 hts (kG (List.forall_mem_cons.mpr ⟨(List.mem_cons_of_mem _ (List.mem_append_left _ (List.mem_of_getElem? (i := 2) rfl))), (List.forall_mem_cons.mpr ⟨(List.mem_cons_of_mem _ (List.mem_append_left _ (List.mem_of_getElem? (i := 1) rfl))), (List.forall_mem_cons.mpr ⟨(List.mem_cons_of_mem _ (List.mem_append_left _ (List.mem_of_getElem? (i := 0) rfl))), (fun _ h => absurd h List.not_mem_nil)⟩)⟩)⟩) (kGS _ _ _) (fun _ h => List.mem_cons_of_mem _ (List.mem_append_right _ (List.mem_append_left _ h))) gw_s_isIn9) rfl rfl rfl hd_X9_isIn ⟨(Nat.le_of_ble_eq_true rfl), (Nat.le_of_ble_eq_true rfl)⟩) (kR_S kT_blind kT_give hPc hKc) rfl rfl hl.1 rfl (lv_room (Nat.le_of_ble_eq_true rfl)) dX9_person_14 ⟨(Nat.le_of_ble_eq_true rfl), (Nat.le_of_ble_eq_true rfl)⟩).run (fun r_7 hw => ?_)
    have hw_8 := hw
    refine lv_if_eq (tgt := 31) hx hb dX9_person_17 kc_t_17_14 (fun c_9 => ?_) (fun c_9 => ?_)
    · have ff_10 := kZr hw_8 c_9
      refine lv_iconst (v := 0) hx hb dX9_person_31 kc_i_0 ?_
      refine lv_istore hx hb dX9_person_32 hl kc_l_5_6 (kTo [(5, .int 0), (0, .ref jX), (1, .int p0), (2, .int p1), (3, .int p2), (4, .int p3)]) (fun ls hl => ?_)
      refine lv_iload hx hb dX9_person_34 (lv_at hl 0 rfl) ?_
      refine lv_if_eq (tgt := 54) hx hb dX9_person_36 kc_t_36_18 (fun c_11 => ?_) (fun c_11 => absurd (by decide) c_11)
      refine lv_iconst (v := (-1)) hx hb dX9_person_54 kc_i_m1 ?_
      have hP9 := hP
      have hD9 := hD
      have hK9 := hK
      rw [hQ]
      exact W.iret (v := (-1)) hx hb hr (fun t ht hW => ⟨⟨(-1), (g0, g1, g2, sv, ks), rfl, ⟨by simp [kPerA, ff_6, ff_10], by simp [kPerN, ff_6, ff_10], hsv, by unfold kSnN; rw [if_pos (by simp [kPerN, ff_6, ff_10])], by unfold kPeF; rw [if_pos (by simp [kPerN, ff_6, ff_10])], by unfold kPeF; rw [if_pos (by simp [kPerN, ff_6, ff_10])], by unfold kPeF; rw [if_pos (by simp [kPerN, ff_6, ff_10])]⟩,  by rw [ht]; exact hP9, va_K.moved hW.alike hK9, hD9⟩, hS.F ht⟩) hS.2.2 dX9_person_55
    · have ff_12 := kNzr hw_8 c_9
      refine lv_iload_n hx hb dX9_person_20 rfl (lv_at hl 3 rfl) ?_
      have hPc := hP.sb (ws2 := []) [] rfl
      have hKc := hK.sb (tys2 := []) [] rfl
      refine vp_callSi (va_runS (As := [.int p2]) (rest := []) ⟨hx, hb, hml, hown, hts⟩ (s_isHouse9x l dC dI p2) (va_cwS 1 hts (kG (List.forall_mem_cons.mpr ⟨(List.mem_cons_of_mem _ (List.mem_append_left _ (List.mem_of_getElem? (i := 4) rfl))), (List.forall_mem_cons.mpr ⟨(List.mem_cons_of_mem _ (List.mem_append_left _ (List.mem_of_getElem? (i := 3) rfl))), (List.forall_mem_cons.mpr ⟨(List.mem_cons_of_mem _ (List.mem_append_left _ (List.mem_of_getElem? (i := 0) rfl))), (fun _ h => absurd h List.not_mem_nil)⟩)⟩)⟩) (kGS _ _ _) (fun _ h => List.mem_cons_of_mem _ (List.mem_append_right _ (List.mem_append_right _ (List.mem_append_left _ h)))) gw_s_isHouse9x) rfl rfl rfl hd_X9_isHouse ⟨(Nat.le_of_ble_eq_true rfl), (Nat.le_of_ble_eq_true rfl)⟩) (kR_S kT_blind kT_give hPc hKc) rfl rfl hl.1 rfl (lv_room (Nat.le_of_ble_eq_true rfl)) dX9_person_21 ⟨(Nat.le_of_ble_eq_true rfl), (Nat.le_of_ble_eq_true rfl)⟩).run (fun r_13 hw => ?_)
      have hw_14 := hw
      refine lv_if_eq (tgt := 31) hx hb dX9_person_24 kc_t_24_7 (fun c_15 => ?_) (fun c_15 => ?_)
      · have ff_16 := kZr hw_14 c_15
        refine lv_iconst (v := 0) hx hb dX9_person_31 kc_i_0 ?_
        refine lv_istore hx hb dX9_person_32 hl kc_l_5_6 (kTo [(5, .int 0), (0, .ref jX), (1, .int p0), (2, .int p1), (3, .int p2), (4, .int p3)]) (fun ls hl => ?_)
        refine lv_iload hx hb dX9_person_34 (lv_at hl 0 rfl) ?_
        refine lv_if_eq (tgt := 54) hx hb dX9_person_36 kc_t_36_18 (fun c_17 => ?_) (fun c_17 => absurd (by decide) c_17)
        refine lv_iconst (v := (-1)) hx hb dX9_person_54 kc_i_m1 ?_
        have hP9 := hP
        have hD9 := hD
        have hK9 := hK
        rw [hQ]
        exact W.iret (v := (-1)) hx hb hr (fun t ht hW => ⟨⟨(-1), (g0, g1, g2, sv, ks), rfl, ⟨by simp [kPerA, ff_6, ff_12, ff_16], by simp [kPerN, ff_6, ff_12, ff_16], hsv, by unfold kSnN; rw [if_pos (by simp [kPerN, ff_6, ff_12, ff_16])], by unfold kPeF; rw [if_pos (by simp [kPerN, ff_6, ff_12, ff_16])], by unfold kPeF; rw [if_pos (by simp [kPerN, ff_6, ff_12, ff_16])], by unfold kPeF; rw [if_pos (by simp [kPerN, ff_6, ff_12, ff_16])]⟩,  by rw [ht]; exact hP9, va_K.moved hW.alike hK9, hD9⟩, hS.F ht⟩) hS.2.2 dX9_person_55
      · have ff_18 := kNzr hw_14 c_15
        refine lv_iconst (v := 1) hx hb dX9_person_27 kc_i_1 ?_
        refine lv_goto (tgt := 32) hx hb dX9_person_28 kc_t_28_4 ?_
        refine lv_istore hx hb dX9_person_32 hl kc_l_5_6 (kTo [(5, .int 1), (0, .ref jX), (1, .int p0), (2, .int p1), (3, .int p2), (4, .int p3)]) (fun ls hl => ?_)
        refine lv_iload hx hb dX9_person_34 (lv_at hl 0 rfl) ?_
        refine lv_if_eq (tgt := 54) hx hb dX9_person_36 kc_t_36_18 (fun c_19 => absurd c_19 (by decide)) (fun c_19 => ?_)
        refine lv_aload_n hx hb dX9_person_39 rfl (lv_at hl 1 rfl) ?_
        refine va_get (D := (dC, dI)) (ci := 9) (v := .ref hF) (C := RX9) (T := TX9) (N := 10) hx hb hts (fun _ h => List.mem_cons_of_mem _ (List.mem_append_right _ (List.mem_append_right _ (List.mem_append_right _ (List.mem_append_left _ h))))) hown hK hP 0 rfl rfl 5 kc_l_5_10 (hts (.fieldLink RX9 47 "NotEnded" "folk" "LNotEnded$Folk;") (List.mem_cons_of_mem _ (List.mem_append_left _ (List.mem_of_getElem? (i := 5) rfl)))) (fun _ h9 => h9) rfl dX9_person_40 ?_
        refine lv_iload_n hx hb dX9_person_43 rfl (lv_at hl 2 rfl) ?_
        refine lv_iload_n hx hb dX9_person_44 rfl (lv_at hl 3 rfl) ?_
        refine lv_iload_n hx hb dX9_person_45 rfl (lv_at hl 4 rfl) ?_
        refine lv_iload hx hb dX9_person_46 (lv_at hl 5 rfl) ?_
        have hCu := kCut (wc := [(hF, .inr (2, [.ref f0, .ref f1, .ref f2, .ref f3, .ref f4, .int (nI (sv)), .int (nI (ks)), .int (nI (kw))])), (f0, .inl (z0, 10, .inl g0)), (f1, .inl (z1, 10, .inl g1)), (f2, .inl (z2, 10, .inl g2)), (f3, .inl (z3, 10, .inl g3)), (f4, .inl (z4, 4, .inl g4))]) hP hD hS hA [1, 2, 3, 4, 5, 6] rfl kc_nd_532 rfl
        have hPc := hCu.1
        have hDc := hCu.2.1
        have hFc := hCu.2.2
        have hKc := hK.sb (tys2 := [(z0, .int), (z1, .int), (z2, .int), (z3, .int), (z4, .int)]) [0, 1, 2, 3, 4] rfl
        refine va_calli (va_runV (As := [.int p0, .int p1, .int p2, .int p3]) (rest := []) ⟨hx, hb, hml, hown, hts⟩ (s_addPerson2x l dC dI hF f0 f1 f2 f3 f4 z0 z1 z2 z3 z4 g0 g1 g2 g3 g4 ks kw hks hkw sv hsv p0 p1 p2 p3 s.heap.size) (cwV 4 hts (kG (List.forall_mem_cons.mpr ⟨(List.mem_cons_of_mem _ (List.mem_append_left _ (List.mem_of_getElem? (i := 9) rfl))), (List.forall_mem_cons.mpr ⟨(List.mem_cons_of_mem _ (List.mem_append_left _ (List.mem_of_getElem? (i := 8) rfl))), (List.forall_mem_cons.mpr ⟨(List.mem_cons_of_mem _ (List.mem_append_left _ (List.mem_of_getElem? (i := 7) rfl))), (List.forall_mem_cons.mpr ⟨(List.mem_cons_of_mem _ (List.mem_append_left _ (List.mem_of_getElem? (i := 6) rfl))), (fun _ h => absurd h List.not_mem_nil)⟩)⟩)⟩)⟩) (kGV _ _ _ _) (fun _ h => List.mem_cons_of_mem _ (List.mem_append_right _ (List.mem_append_right _ (List.mem_append_right _ (List.mem_append_right _ h))))) gw_s_addPerson2x) rfl rfl rfl ⟨rfl, hd_X2_addPerson⟩ ⟨(Nat.le_of_ble_eq_true rfl), (Nat.le_of_ble_eq_true rfl)⟩) (kW_V kT_blind kT_give (va_recv hKc hPc (ci := 2) (q0 := 0) rfl rfl) hPc hKc hDc) rfl rfl hl.1 rfl (lv_room (Nat.le_of_ble_eq_true rfl)) dX9_person_48 ⟨(Nat.le_of_ble_eq_true rfl), (Nat.le_of_ble_eq_true rfl)⟩) hS (fun q _ h => hFc q h) hFc (fun r_20 => kU5 (fun n0_21 n1_22 n2_23 sn1_24 ks1_25 t H_26 locs ht hvm hw hB hz1 hk1 hS => ?_))
        try dsimp only at hw
        have hPD : kPD dC dI A [(jX, .inr (9, [.ref jT, .ref jR, .ref jK, .ref jL, .ref jU, .ref hF, .ref jC, .ref hN, .ref jA, .ref sd])), (hF, .inr (2, [.ref f0, .ref f1, .ref f2, .ref f3, .ref f4, .int (nI (sn1_24)), .int (nI (ks1_25)), .int (nI (kw))])), (f0, .inl (z0, 10, .inl n0_21)), (f1, .inl (z1, 10, .inl n1_22)), (f2, .inl (z2, 10, .inl n2_23)), (f3, .inl (z3, 10, .inl g3)), (f4, .inl (z4, 4, .inl g4))] H_26 := kJoinX hP hD [1, 2, 3, 4, 5, 6] rfl hk1 hFc hB.1 ht hB.2.2 rfl [none, some 0, some 1, some 2, some 3, some 4, some 5] rfl rfl
        have hP := hPD.1
        have hD := hPD.2
        have hw_27 := hw
        refine lv_goto (tgt := 55) hx hb dX9_person_51 kc_t_51_4 ?_
        have hP9 := hP
        have hD9 := hD
        have hK9 := hK
        rw [hQ]
        exact W.iret (v := r_20) hx hb hr (fun t ht hW => ⟨⟨r_20, (n0_21, n1_22, n2_23, sn1_24, ks1_25), rfl, ⟨by unfold kPerA; rw [if_neg ff_6, if_neg ff_12, if_neg ff_18]; exact hw_27.1, by unfold kPerN; rw [if_neg ff_6, if_neg ff_12, if_neg ff_18]; exact hw_27.2.1, hw_27.2.2.1, by unfold kSnN; rw [kPerN_ok ff_6 ff_12 ff_18, hw_27.2.2.2.1]; by_cases z : ks < 10 <;> simp [z], by unfold kPeF; rw [kPerN_ok ff_6 ff_12 ff_18, hw_27.2.2.2.2.1]; by_cases z : ks < 10 <;> simp [z], by unfold kPeF; rw [kPerN_ok ff_6 ff_12 ff_18, hw_27.2.2.2.2.2.1]; by_cases z : ks < 10 <;> simp [z], by unfold kPeF; rw [kPerN_ok ff_6 ff_12 ff_18, hw_27.2.2.2.2.2.2]; by_cases z : ks < 10 <;> simp [z]⟩,  by rw [ht]; exact hP9, va_K.moved hW.alike hK9, hD9⟩, hS.F ht⟩) hS.2.2 dX9_person_55

theorem dX9_know_0 : decode cX9_know 0 = .ok (.aload_n 0, 1) := kDs0 kf_42 (by decide +kernel)
theorem dX9_know_1 : decode cX9_know 1 = .ok (.getfield 47, 3) := kDs2 kf_180 (by decide +kernel)
theorem dX9_know_4 : decode cX9_know 4 = .ok (.iload_n 1, 1) := kDs0 kf_27 (by decide +kernel)
theorem dX9_know_5 : decode cX9_know 5 = .ok (.invokevirtual 128, 3) := kDs2 kf_182 (by decide +kernel)
theorem dX9_know_8 : decode cX9_know 8 = .ok (.ifCond .eq 19, 3) := kDs4 kf_153 (by decide +kernel)
theorem dX9_know_27 : decode cX9_know 27 = .ok (.iconst 0, 1) := kDs0 kf_3 (by decide +kernel)
theorem dX9_know_28 : decode cX9_know 28 = .ok (.ireturn, 1) := kDs0 kf_172 (by decide +kernel)
theorem dX9_know_11 : decode cX9_know 11 = .ok (.aload_n 0, 1) := kDs0 kf_42 (by decide +kernel)
theorem dX9_know_12 : decode cX9_know 12 = .ok (.getfield 47, 3) := kDs2 kf_180 (by decide +kernel)
theorem dX9_know_15 : decode cX9_know 15 = .ok (.iload_n 2, 1) := kDs0 kf_28 (by decide +kernel)
theorem dX9_know_16 : decode cX9_know 16 = .ok (.invokevirtual 128, 3) := kDs2 kf_182 (by decide +kernel)
theorem dX9_know_19 : decode cX9_know 19 = .ok (.ifCond .eq 8, 3) := kDs4 kf_153 (by decide +kernel)
theorem dX9_know_22 : decode cX9_know 22 = .ok (.iload_n 1, 1) := kDs0 kf_27 (by decide +kernel)
theorem dX9_know_23 : decode cX9_know 23 = .ok (.iload_n 2, 1) := kDs0 kf_28 (by decide +kernel)
theorem dX9_know_24 : decode cX9_know 24 = .ok (.if_icmp .ne 5, 3) := kDs4 kf_160 (by decide +kernel)
theorem dX9_know_29 : decode cX9_know 29 = .ok (.aload_n 0, 1) := kDs0 kf_42 (by decide +kernel)
theorem dX9_know_30 : decode cX9_know 30 = .ok (.getfield 47, 3) := kDs2 kf_180 (by decide +kernel)
theorem dX9_know_33 : decode cX9_know 33 = .ok (.iload_n 1, 1) := kDs0 kf_27 (by decide +kernel)
theorem dX9_know_34 : decode cX9_know 34 = .ok (.iload_n 2, 1) := kDs0 kf_28 (by decide +kernel)
theorem dX9_know_35 : decode cX9_know 35 = .ok (.invokevirtual 131, 3) := kDs2 kf_182 (by decide +kernel)
theorem dX9_know_38 : decode cX9_know 38 = .ok (.iconst 1, 1) := kDs0 kf_4 (by decide +kernel)
theorem dX9_know_39 : decode cX9_know 39 = .ok (.ireturn, 1) := kDs0 kf_172 (by decide +kernel)
def w_s_know9 : List Cond := .code yX9_know cX9_know 3 (some .boolean) :: ([.fieldLink RX9 47 "NotEnded" "folk" "LNotEnded$Folk;", .initialized RX2, .selects RX2 yX2_has yX2_has, .instanceMethod yX2_has, .methodLink RX9 128 yX2_has, .selects RX2 yX2_acquaint yX2_acquaint, .instanceMethod yX2_acquaint, .methodLink RX9 131 yX2_acquaint] ++ (wsX90 ++ (w_s_has2x ++ (w_s_acquaint2x))))
theorem gw_s_know9 : (w_s_know9).all goodWord = true := kGc rfl (kGa (by decide +kernel) (kGa gw_wsX90 (kGa gw_s_has2x gw_s_acquaint2x)))
theorem hd_X9_know : yX9_know.cls ≠ "java/lang/invoke/MethodHandle" ∧ yX9_know.cls ≠ "java/lang/invoke/VarHandle" ∧ (parseMethodDescriptor yX9_know.desc).map (fun d => d.parameters.length) = some 2 := by decide +kernel
set_option maxHeartbeats 4000000 in
set_option maxRecDepth 100000 in
theorem s_know9 (l : Launch) (dC : Nat → ClassId) (dI : Nat → Nat → Nat) (jX : Nat) (jT : Nat) (jR : Nat) (jL : Nat) (jU : Nat) (hN : Nat) (jA : Nat) (sd : Nat) (hF : Nat) (jC : Nat) (jK : Nat) (f0 : Nat) (f1 : Nat) (f2 : Nat) (f3 : Nat) (f4 : Nat) (z0 : ClassId) (z1 : ClassId) (z2 : ClassId) (z3 : ClassId) (z4 : ClassId) (g0 : Nat → Int32) (g1 : Nat → Int32) (g2 : Nat → Int32) (g3 : Nat → Int32) (g4 : Nat → Int32) (ks : Nat) (kw : Nat) (hks : ks ≤ 10) (hkw : kw ≤ 4) (sv : Nat) (hsv : sv < 1024) (p0 : Int32) (p1 : Int32) (sz : Nat) : Met l yX9_know w_s_know9 ({ frames := 3, cells := 0, slots := 0, locals := 180 }) (kW dC dI [.ref jX, .int p0, .int p1] [(jX, .inr (9, [.ref jT, .ref jR, .ref jK, .ref jL, .ref jU, .ref hF, .ref jC, .ref hN, .ref jA, .ref sd])), (hF, .inr (2, [.ref f0, .ref f1, .ref f2, .ref f3, .ref f4, .int (nI (sv)), .int (nI (ks)), .int (nI (kw))])), (f0, .inl (z0, 10, .inl g0)), (f1, .inl (z1, 10, .inl g1)), (f2, .inl (z2, 10, .inl g2)), (f3, .inl (z3, 10, .inl g3)), (f4, .inl (z4, 4, .inl g4))] [(z0, .int), (z1, .int), (z2, .int), (z3, .int), (z4, .int)] kT sz) (va_Qi (fun (r : Int32) (n3 : (Nat → Int32)) => (r = kKnow p0 p1 ks ∧ n3 = kKnF p0 p1 ks g3)) (fun (n3 : (Nat → Int32)) => fun t : State => kB dC dI [(jX, .inr (9, [.ref jT, .ref jR, .ref jK, .ref jL, .ref jU, .ref hF, .ref jC, .ref hN, .ref jA, .ref sd])), (hF, .inr (2, [.ref f0, .ref f1, .ref f2, .ref f3, .ref f4, .int (nI (sv)), .int (nI (ks)), .int (nI (kw))])), (f0, .inl (z0, 10, .inl g0)), (f1, .inl (z1, 10, .inl g1)), (f2, .inl (z2, 10, .inl g2)), (f3, .inl (z3, 10, .inl n3)), (f4, .inl (z4, 4, .inl g4))] [(z0, .int), (z1, .int), (z2, .int), (z3, .int), (z4, .int)] (va_A [(jX, .inr (9, [.ref jT, .ref jR, .ref jK, .ref jL, .ref jU, .ref hF, .ref jC, .ref hN, .ref jA, .ref sd])), (hF, .inr (2, [.ref f0, .ref f1, .ref f2, .ref f3, .ref f4, .int (nI (sv)), .int (nI (ks)), .int (nI (kw))])), (f0, .inl (z0, 10, .inl g0)), (f1, .inl (z1, 10, .inl g1)), (f2, .inl (z2, 10, .inl g2)), (f3, .inl (z3, 10, .inl g3)), (f4, .inl (z4, 4, .inl g4))] sz) t) (va_A [(jX, .inr (9, [.ref jT, .ref jR, .ref jK, .ref jL, .ref jU, .ref hF, .ref jC, .ref hN, .ref jA, .ref sd])), (hF, .inr (2, [.ref f0, .ref f1, .ref f2, .ref f3, .ref f4, .int (nI (sv)), .int (nI (ks)), .int (nI (kw))])), (f0, .inl (z0, 10, .inl g0)), (f1, .inl (z1, 10, .inl g1)), (f2, .inl (z2, 10, .inl g2)), (f3, .inl (z3, 10, .inl g3)), (f4, .inl (z4, 4, .inl g4))] sz)) 0 0 (va_A [(jX, .inr (9, [.ref jT, .ref jR, .ref jK, .ref jL, .ref jU, .ref hF, .ref jC, .ref hN, .ref jA, .ref sd])), (hF, .inr (2, [.ref f0, .ref f1, .ref f2, .ref f3, .ref f4, .int (nI (sv)), .int (nI (ks)), .int (nI (kw))])), (f0, .inl (z0, 10, .inl g0)), (f1, .inl (z1, 10, .inl g1)), (f2, .inl (z2, 10, .inl g2)), (f3, .inl (z3, 10, .inl g3)), (f4, .inl (z4, 4, .inl g4))] sz) := by
  refine Met.ofW (cc := cX9_know) (maxL := 3) (ret := (some .boolean)) (by decide) rfl ?_
  intro p e s m args below meth c s₁ B hml hv
  obtain ⟨rfl, hsz, hP, hK, hD0, hX⟩ := hv
  have hx := B.exec
  have hb := B.bytes
  have hr := B.returns
  have hts := atoms_spec (ws := w_s_know9) B.pre
  have hown : s.vm.findClass RX9 = some m.cls := findClass_of_methodNamed B.named
  have hlocks := B.notSynchronized
  subst hsz
  have hD := hD0.self (sz := s.heap.size)
  generalize hAe : va_A [(jX, .inr (9, [.ref jT, .ref jR, .ref jK, .ref jL, .ref jU, .ref hF, .ref jC, .ref hN, .ref jA, .ref sd])), (hF, .inr (2, [.ref f0, .ref f1, .ref f2, .ref f3, .ref f4, .int (nI (sv)), .int (nI (ks)), .int (nI (kw))])), (f0, .inl (z0, 10, .inl g0)), (f1, .inl (z1, 10, .inl g1)), (f2, .inl (z2, 10, .inl g2)), (f3, .inl (z3, 10, .inl g3)), (f4, .inl (z4, 4, .inl g4))] s.heap.size = A at hD ⊢
  have hA : ∀ q : Nat, s.heap.size ≤ q → A q := fun q h => by rw [← hAe]; exact Or.inr h
  have hS : va_S A s.heap s.heap [] := va_S.rf
  have hP : va_P (dC, dI) vwCl [(jX, .inr (9, [.ref jT, .ref jR, .ref jK, .ref jL, .ref jU, .ref hF, .ref jC, .ref hN, .ref jA, .ref sd])), (hF, .inr (2, [.ref f0, .ref f1, .ref f2, .ref f3, .ref f4, .int (nI (sv)), .int (nI (ks)), .int (nI (kw))])), (f0, .inl (z0, 10, .inl g0)), (f1, .inl (z1, 10, .inl g1)), (f2, .inl (z2, 10, .inl g2)), (f3, .inl (z3, 10, .inl g3)), (f4, .inl (z4, 4, .inl g4))] s.heap := hP
  have hl := lv_entry ([.ref jX, .int p0, .int p1]) (n := 3) (Nat.le_of_ble_eq_true rfl)
  rw [lg_entry_eq]
  generalize (lg_sl ([.ref jX, .int p0, .int p1]) ++ List.replicate (3 - (lg_sl ([.ref jX, .int p0, .int p1])).length) Slot.unset).toArray = ls at hl ⊢
  have hl : lv_has ls 3 [(0, .ref jX), (1, .int p0), (2, .int p1)] := hl
  refine kQ (fun Q hQ => ?_)
  refine lv_aload_n hx hb dX9_know_0 rfl (lv_at hl 0 rfl) ?_
  refine va_get (D := (dC, dI)) (ci := 9) (v := .ref hF) (C := RX9) (T := TX9) (N := 10) hx hb hts (fun _ h => List.mem_cons_of_mem _ (List.mem_append_right _ (List.mem_append_left _ h))) hown hK hP 0 rfl rfl 5 kc_l_5_10 (hts (.fieldLink RX9 47 "NotEnded" "folk" "LNotEnded$Folk;") (List.mem_cons_of_mem _ (List.mem_append_left _ (List.mem_of_getElem? (i := 0) rfl)))) (fun _ h9 => h9) rfl dX9_know_1 ?_
  refine lv_iload_n hx hb dX9_know_4 rfl (lv_at hl 1 rfl) ?_
  have hPc := hP.sb (ws2 := [(hF, .inr (2, [.ref f0, .ref f1, .ref f2, .ref f3, .ref f4, .int (nI (sv)), .int (nI (ks)), .int (nI (kw))])), (f0, .inl (z0, 10, .inl g0)), (f1, .inl (z1, 10, .inl g1)), (f2, .inl (z2, 10, .inl g2)), (f3, .inl (z3, 10, .inl g3)), (f4, .inl (z4, 4, .inl g4))]) [1, 2, 3, 4, 5, 6] rfl
  have hKc := hK.sb (tys2 := [(z0, .int), (z1, .int), (z2, .int), (z3, .int), (z4, .int)]) [0, 1, 2, 3, 4] rfl
  refine vp_callSi (va_runV (As := [.int p0]) (rest := []) ⟨hx, hb, hml, hown, hts⟩ (s_has2x l dC dI hF f0 f1 f2 f3 f4 z0 z1 z2 z3 z4 g0 g1 g2 g3 g4 (nI (sv)) ks kw hks hkw p0) (cwV 1 hts (kG (List.forall_mem_cons.mpr ⟨(List.mem_cons_of_mem _ (List.mem_append_left _ (List.mem_of_getElem? (i := 4) rfl))), (List.forall_mem_cons.mpr ⟨(List.mem_cons_of_mem _ (List.mem_append_left _ (List.mem_of_getElem? (i := 3) rfl))), (List.forall_mem_cons.mpr ⟨(List.mem_cons_of_mem _ (List.mem_append_left _ (List.mem_of_getElem? (i := 2) rfl))), (List.forall_mem_cons.mpr ⟨(List.mem_cons_of_mem _ (List.mem_append_left _ (List.mem_of_getElem? (i := 1) rfl))), (fun _ h => absurd h List.not_mem_nil)⟩)⟩)⟩)⟩) (kGV _ _ _ _) (fun _ h => List.mem_cons_of_mem _ (List.mem_append_right _ (List.mem_append_right _ (List.mem_append_left _ h)))) gw_s_has2x) rfl rfl rfl ⟨rfl, hd_X2_has⟩ ⟨(Nat.le_of_ble_eq_true rfl), (Nat.le_of_ble_eq_true rfl)⟩) (kR_V kT_blind kT_give (va_recv hKc hPc (ci := 2) (q0 := 0) rfl rfl) hPc hKc) rfl rfl hl.1 rfl (lv_room (Nat.le_of_ble_eq_true rfl)) dX9_know_5 ⟨(Nat.le_of_ble_eq_true rfl), (Nat.le_of_ble_eq_true rfl)⟩).run (fun r_1 hw => ?_)
  obtain ⟨hw_2, hw_2_x⟩ := hw
  refine lv_if_eq (tgt := 27) hx hb dX9_know_8 kc_t_8_19 (fun c_3 => ?_) (fun c_3 => ?_)
  · have ff_4 := kZr hw_2_x c_3
    refine lv_iconst (v := 0) hx hb dX9_know_27 kc_i_0 ?_
    have hP9 := hP
    have hD9 := hD
    have hK9 := hK
    rw [hQ]
    exact W.zret (v := 0) hx hb hr rfl (fun t ht hW => ⟨⟨0, g3, rfl, ⟨(by simp [kKnow, ff_4]), by unfold kKnF; rw [if_pos (by simp [kKnow, ff_4])]⟩,  by rw [ht]; exact hP9, va_K.moved hW.alike hK9, hD9⟩, hS.F ht⟩) hS.2.2 dX9_know_28
  · have ff_5 := kNzr hw_2_x c_3
    obtain ⟨j_6, hj_6, ej_6⟩ := hw_2 c_3
    subst ej_6
    refine lv_aload_n hx hb dX9_know_11 rfl (lv_at hl 0 rfl) ?_
    refine va_get (D := (dC, dI)) (ci := 9) (v := .ref hF) (C := RX9) (T := TX9) (N := 10) hx hb hts (fun _ h => List.mem_cons_of_mem _ (List.mem_append_right _ (List.mem_append_left _ h))) hown hK hP 0 rfl rfl 5 kc_l_5_10 (hts (.fieldLink RX9 47 "NotEnded" "folk" "LNotEnded$Folk;") (List.mem_cons_of_mem _ (List.mem_append_left _ (List.mem_of_getElem? (i := 0) rfl)))) (fun _ h9 => h9) rfl dX9_know_12 ?_
    refine lv_iload_n hx hb dX9_know_15 rfl (lv_at hl 2 rfl) ?_
    have hPc := hP.sb (ws2 := [(hF, .inr (2, [.ref f0, .ref f1, .ref f2, .ref f3, .ref f4, .int (nI (sv)), .int (nI (ks)), .int (nI (kw))])), (f0, .inl (z0, 10, .inl g0)), (f1, .inl (z1, 10, .inl g1)), (f2, .inl (z2, 10, .inl g2)), (f3, .inl (z3, 10, .inl g3)), (f4, .inl (z4, 4, .inl g4))]) [1, 2, 3, 4, 5, 6] rfl
    have hKc := hK.sb (tys2 := [(z0, .int), (z1, .int), (z2, .int), (z3, .int), (z4, .int)]) [0, 1, 2, 3, 4] rfl
    refine vp_callSi (va_runV (As := [.int p1]) (rest := []) ⟨hx, hb, hml, hown, hts⟩ (s_has2x l dC dI hF f0 f1 f2 f3 f4 z0 z1 z2 z3 z4 g0 g1 g2 g3 g4 (nI (sv)) ks kw hks hkw p1) (cwV 1 hts (kG (List.forall_mem_cons.mpr ⟨(List.mem_cons_of_mem _ (List.mem_append_left _ (List.mem_of_getElem? (i := 4) rfl))), (List.forall_mem_cons.mpr ⟨(List.mem_cons_of_mem _ (List.mem_append_left _ (List.mem_of_getElem? (i := 3) rfl))), (List.forall_mem_cons.mpr ⟨(List.mem_cons_of_mem _ (List.mem_append_left _ (List.mem_of_getElem? (i := 2) rfl))), (List.forall_mem_cons.mpr ⟨(List.mem_cons_of_mem _ (List.mem_append_left _ (List.mem_of_getElem? (i := 1) rfl))), (fun _ h => absurd h List.not_mem_nil)⟩)⟩)⟩)⟩) (kGV _ _ _ _) (fun _ h => List.mem_cons_of_mem _ (List.mem_append_right _ (List.mem_append_right _ (List.mem_append_left _ h)))) gw_s_has2x) rfl rfl rfl ⟨rfl, hd_X2_has⟩ ⟨(Nat.le_of_ble_eq_true rfl), (Nat.le_of_ble_eq_true rfl)⟩) (kR_V kT_blind kT_give (va_recv hKc hPc (ci := 2) (q0 := 0) rfl rfl) hPc hKc) rfl rfl hl.1 rfl (lv_room (Nat.le_of_ble_eq_true rfl)) dX9_know_16 ⟨(Nat.le_of_ble_eq_true rfl), (Nat.le_of_ble_eq_true rfl)⟩).run (fun r_7 hw => ?_)
    obtain ⟨hw_8, hw_8_x⟩ := hw
    refine lv_if_eq (tgt := 27) hx hb dX9_know_19 kc_t_19_8 (fun c_9 => ?_) (fun c_9 => ?_)
    · have ff_10 := kZr hw_8_x c_9
      refine lv_iconst (v := 0) hx hb dX9_know_27 kc_i_0 ?_
      have hP9 := hP
      have hD9 := hD
      have hK9 := hK
      rw [hQ]
      exact W.zret (v := 0) hx hb hr rfl (fun t ht hW => ⟨⟨0, g3, rfl, ⟨(by simp [kKnow, ff_5, ff_10]), by unfold kKnF; rw [if_pos (by simp [kKnow, ff_5, ff_10])]⟩,  by rw [ht]; exact hP9, va_K.moved hW.alike hK9, hD9⟩, hS.F ht⟩) hS.2.2 dX9_know_28
    · have ff_11 := kNzr hw_8_x c_9
      obtain ⟨j_12, hj_12, ej_12⟩ := hw_8 c_9
      subst ej_12
      refine lv_iload_n hx hb dX9_know_22 rfl (lv_at hl 1 rfl) ?_
      refine lv_iload_n hx hb dX9_know_23 rfl (lv_at hl 2 rfl) ?_
      refine lv_icmp_ne (tgt := 29) hx hb dX9_know_24 kc_t_24_5 (fun c_13 => ?_) (fun c_13 => ?_)
      · have bd_15 : j_6 < 2147483648 := by omega
        have bd_16 : j_12 < 2147483648 := by omega
        have hn_14 := kneq (a := j_6) (b := j_12) bd_15 bd_16 c_13
        refine lv_aload_n hx hb dX9_know_29 rfl (lv_at hl 0 rfl) ?_
        refine va_get (D := (dC, dI)) (ci := 9) (v := .ref hF) (C := RX9) (T := TX9) (N := 10) hx hb hts (fun _ h => List.mem_cons_of_mem _ (List.mem_append_right _ (List.mem_append_left _ h))) hown hK hP 0 rfl rfl 5 kc_l_5_10 (hts (.fieldLink RX9 47 "NotEnded" "folk" "LNotEnded$Folk;") (List.mem_cons_of_mem _ (List.mem_append_left _ (List.mem_of_getElem? (i := 0) rfl)))) (fun _ h9 => h9) rfl dX9_know_30 ?_
        refine lv_iload_n hx hb dX9_know_33 rfl (lv_at hl 1 rfl) ?_
        refine lv_iload_n hx hb dX9_know_34 rfl (lv_at hl 2 rfl) ?_
        have bd_17 : j_6 < ks := by omega
        have bd_18 : j_12 < ks := by omega
        have hCu := kCut (wc := [(hF, .inr (2, [.ref f0, .ref f1, .ref f2, .ref f3, .ref f4, .int (nI (sv)), .int (nI (ks)), .int (nI (kw))])), (f0, .inl (z0, 10, .inl g0)), (f1, .inl (z1, 10, .inl g1)), (f2, .inl (z2, 10, .inl g2)), (f3, .inl (z3, 10, .inl g3)), (f4, .inl (z4, 4, .inl g4))]) hP hD hS hA [1, 2, 3, 4, 5, 6] rfl kc_nd_532 rfl
        have hPc := hCu.1
        have hDc := hCu.2.1
        have hFc := hCu.2.2
        have hKc := hK.sb (tys2 := [(z0, .int), (z1, .int), (z2, .int), (z3, .int), (z4, .int)]) [0, 1, 2, 3, 4] rfl
        refine va_callv (va_runV (As := [.int (nI (j_6)), .int (nI (j_12))]) (rest := []) ⟨hx, hb, hml, hown, hts⟩ (s_acquaint2x l dC dI hF f0 f1 f2 f3 f4 z0 z1 z2 z3 z4 g0 g1 g2 g3 g4 ks kw hks hkw sv hsv j_6 j_12 bd_17 bd_18 s.heap.size) (cwV 2 hts (kG (List.forall_mem_cons.mpr ⟨(List.mem_cons_of_mem _ (List.mem_append_left _ (List.mem_of_getElem? (i := 7) rfl))), (List.forall_mem_cons.mpr ⟨(List.mem_cons_of_mem _ (List.mem_append_left _ (List.mem_of_getElem? (i := 6) rfl))), (List.forall_mem_cons.mpr ⟨(List.mem_cons_of_mem _ (List.mem_append_left _ (List.mem_of_getElem? (i := 5) rfl))), (List.forall_mem_cons.mpr ⟨(List.mem_cons_of_mem _ (List.mem_append_left _ (List.mem_of_getElem? (i := 1) rfl))), (fun _ h => absurd h List.not_mem_nil)⟩)⟩)⟩)⟩) (kGV _ _ _ _) (fun _ h => List.mem_cons_of_mem _ (List.mem_append_right _ (List.mem_append_right _ (List.mem_append_right _ h)))) gw_s_acquaint2x) rfl rfl rfl ⟨rfl, hd_X2_acquaint⟩ ⟨(Nat.le_of_ble_eq_true rfl), (Nat.le_of_ble_eq_true rfl)⟩) (kW_V kT_blind kT_give (va_recv hKc hPc (ci := 2) (q0 := 0) rfl rfl) hPc hKc hDc) rfl rfl hl.1 rfl (lv_room (Nat.le_of_ble_eq_true rfl)) dX9_know_35 ⟨(Nat.le_of_ble_eq_true rfl), (Nat.le_of_ble_eq_true rfl)⟩) hS (fun q _ h => hFc q h) hFc (fun n3_19 t H_20 locs ht hvm hw hB hz1 hk1 hS => ?_)
        try dsimp only at hw
        have hPD : kPD dC dI A [(jX, .inr (9, [.ref jT, .ref jR, .ref jK, .ref jL, .ref jU, .ref hF, .ref jC, .ref hN, .ref jA, .ref sd])), (hF, .inr (2, [.ref f0, .ref f1, .ref f2, .ref f3, .ref f4, .int (nI (sv)), .int (nI (ks)), .int (nI (kw))])), (f0, .inl (z0, 10, .inl g0)), (f1, .inl (z1, 10, .inl g1)), (f2, .inl (z2, 10, .inl g2)), (f3, .inl (z3, 10, .inl n3_19)), (f4, .inl (z4, 4, .inl g4))] H_20 := kJoinX hP hD [1, 2, 3, 4, 5, 6] rfl hk1 hFc hB.1 ht hB.2.2 rfl [none, some 0, some 1, some 2, some 3, some 4, some 5] rfl rfl
        have hP := hPD.1
        have hD := hPD.2
        have hw_21 := hw
        refine lv_iconst (v := 1) hx hb dX9_know_38 kc_i_1 ?_
        have hP9 := hP
        have hD9 := hD
        have hK9 := hK
        rw [hQ]
        exact W.zret (v := 1) hx hb hr rfl (fun t ht hW => ⟨⟨1, n3_19, rfl, ⟨(by simp [kKnow, ff_5, ff_11, hn_14, c_13]), by unfold kKnF; rw [if_neg (by simp [kKnow, ff_5, ff_11, hn_14, c_13]), nI_clamp (n := j_6) (by omega), nI_clamp (n := j_12) (by omega)]; exact hw_21⟩,  by rw [ht]; exact hP9, va_K.moved hW.alike hK9, hD9⟩, hS.F ht⟩) hS.2.2 dX9_know_39
      · have bd_23 : j_6 < 2147483648 := by omega
        have bd_24 : j_12 < 2147483648 := by omega
        have hn_22 := keq (a := j_6) (b := j_12) bd_23 bd_24 c_13
        refine lv_iconst (v := 0) hx hb dX9_know_27 kc_i_0 ?_
        have hP9 := hP
        have hD9 := hD
        have hK9 := hK
        rw [hQ]
        exact W.zret (v := 0) hx hb hr rfl (fun t ht hW => ⟨⟨0, g3, rfl, ⟨(by simp [kKnow, ff_5, ff_11, hn_22, c_13]), by unfold kKnF; rw [if_pos (by simp [kKnow, ff_5, ff_11, hn_22, c_13])]⟩,  by rw [ht]; exact hP9, va_K.moved hW.alike hK9, hD9⟩, hS.F ht⟩) hS.2.2 dX9_know_28

theorem dX9_word_0 : decode cX9_word 0 = .ok (.iload_n 1, 1) := kDs0 kf_27 (by decide +kernel)
theorem dX9_word_1 : decode cX9_word 1 = .ok (.iconst 0, 1) := kDs0 kf_3 (by decide +kernel)
theorem dX9_word_2 : decode cX9_word 2 = .ok (.bipush 47, 2) := kDs3 kf_16 (by decide +kernel)
theorem dX9_word_4 : decode cX9_word 4 = .ok (.invokestatic 117, 3) := kDs2 kf_184 (by decide +kernel)
theorem dX9_word_7 : decode cX9_word 7 = .ok (.ifCond .eq 14, 3) := kDs4 kf_153 (by decide +kernel)
theorem dX9_word_21 : decode cX9_word 21 = .ok (.iconst (-1), 1) := kDs0 kf_2 (by decide +kernel)
theorem dX9_word_22 : decode cX9_word 22 = .ok (.ireturn, 1) := kDs0 kf_172 (by decide +kernel)
theorem dX9_word_10 : decode cX9_word 10 = .ok (.aload_n 0, 1) := kDs0 kf_42 (by decide +kernel)
theorem dX9_word_11 : decode cX9_word 11 = .ok (.getfield 47, 3) := kDs2 kf_180 (by decide +kernel)
theorem dX9_word_14 : decode cX9_word 14 = .ok (.iload_n 1, 1) := kDs0 kf_27 (by decide +kernel)
theorem dX9_word_15 : decode cX9_word 15 = .ok (.invokevirtual 135, 3) := kDs2 kf_182 (by decide +kernel)
theorem dX9_word_18 : decode cX9_word 18 = .ok (.goto 4, 3) := kDs4 kf_167 (by decide +kernel)
def w_s_word9 : List Cond := .code yX9_word cX9_word 2 (some .int) :: ([.initialized RX9, .static yX9_isIn, .methodLink RX9 117 yX9_isIn, .fieldLink RX9 47 "NotEnded" "folk" "LNotEnded$Folk;", .initialized RX2, .selects RX2 yX2_addWord yX2_addWord, .instanceMethod yX2_addWord, .methodLink RX9 135 yX2_addWord] ++ (w_s_isIn9 ++ (wsX90 ++ (w_s_addWord2))))
theorem gw_s_word9 : (w_s_word9).all goodWord = true := kGc rfl (kGa (by decide +kernel) (kGa gw_s_isIn9 (kGa gw_wsX90 gw_s_addWord2)))
theorem hd_X9_word : yX9_word.cls ≠ "java/lang/invoke/MethodHandle" ∧ yX9_word.cls ≠ "java/lang/invoke/VarHandle" ∧ (parseMethodDescriptor yX9_word.desc).map (fun d => d.parameters.length) = some 1 := by decide +kernel
set_option maxHeartbeats 4000000 in
set_option maxRecDepth 100000 in
theorem s_word9 (l : Launch) (dC : Nat → ClassId) (dI : Nat → Nat → Nat) (jX : Nat) (jT : Nat) (jR : Nat) (jL : Nat) (jU : Nat) (hN : Nat) (jA : Nat) (sd : Nat) (hF : Nat) (jC : Nat) (jK : Nat) (f0 : Nat) (f1 : Nat) (f2 : Nat) (f3 : Nat) (f4 : Nat) (z0 : ClassId) (z1 : ClassId) (z2 : ClassId) (z3 : ClassId) (z4 : ClassId) (g0 : Nat → Int32) (g1 : Nat → Int32) (g2 : Nat → Int32) (g3 : Nat → Int32) (g4 : Nat → Int32) (ks : Nat) (kw : Nat) (hks : ks ≤ 10) (hkw : kw ≤ 4) (sv : Nat) (hsv : sv < 1024) (p0 : Int32) (sz : Nat) : Met l yX9_word w_s_word9 ({ frames := 3, cells := 0, slots := 0, locals := 180 }) (kW dC dI [.ref jX, .int p0] [(jX, .inr (9, [.ref jT, .ref jR, .ref jK, .ref jL, .ref jU, .ref hF, .ref jC, .ref hN, .ref jA, .ref sd])), (hF, .inr (2, [.ref f0, .ref f1, .ref f2, .ref f3, .ref f4, .int (nI (sv)), .int (nI (ks)), .int (nI (kw))])), (f0, .inl (z0, 10, .inl g0)), (f1, .inl (z1, 10, .inl g1)), (f2, .inl (z2, 10, .inl g2)), (f3, .inl (z3, 10, .inl g3)), (f4, .inl (z4, 4, .inl g4))] [(z0, .int), (z1, .int), (z2, .int), (z3, .int), (z4, .int)] kT sz) (va_Qi (fun (r : Int32) (u : (Nat → Int32) × Nat) => match u with | (n4, kw1) => (r = kWordA p0 kw ∧ kw1 = kWordN p0 kw ∧ n4 = kWdF p0 kw g4)) (fun (u : (Nat → Int32) × Nat) => match u with | (n4, kw1) => fun t : State => kB dC dI [(jX, .inr (9, [.ref jT, .ref jR, .ref jK, .ref jL, .ref jU, .ref hF, .ref jC, .ref hN, .ref jA, .ref sd])), (hF, .inr (2, [.ref f0, .ref f1, .ref f2, .ref f3, .ref f4, .int (nI (sv)), .int (nI (ks)), .int (nI (kw1))])), (f0, .inl (z0, 10, .inl g0)), (f1, .inl (z1, 10, .inl g1)), (f2, .inl (z2, 10, .inl g2)), (f3, .inl (z3, 10, .inl g3)), (f4, .inl (z4, 4, .inl n4))] [(z0, .int), (z1, .int), (z2, .int), (z3, .int), (z4, .int)] (va_A [(jX, .inr (9, [.ref jT, .ref jR, .ref jK, .ref jL, .ref jU, .ref hF, .ref jC, .ref hN, .ref jA, .ref sd])), (hF, .inr (2, [.ref f0, .ref f1, .ref f2, .ref f3, .ref f4, .int (nI (sv)), .int (nI (ks)), .int (nI (kw))])), (f0, .inl (z0, 10, .inl g0)), (f1, .inl (z1, 10, .inl g1)), (f2, .inl (z2, 10, .inl g2)), (f3, .inl (z3, 10, .inl g3)), (f4, .inl (z4, 4, .inl g4))] sz) t) (va_A [(jX, .inr (9, [.ref jT, .ref jR, .ref jK, .ref jL, .ref jU, .ref hF, .ref jC, .ref hN, .ref jA, .ref sd])), (hF, .inr (2, [.ref f0, .ref f1, .ref f2, .ref f3, .ref f4, .int (nI (sv)), .int (nI (ks)), .int (nI (kw))])), (f0, .inl (z0, 10, .inl g0)), (f1, .inl (z1, 10, .inl g1)), (f2, .inl (z2, 10, .inl g2)), (f3, .inl (z3, 10, .inl g3)), (f4, .inl (z4, 4, .inl g4))] sz)) 0 0 (va_A [(jX, .inr (9, [.ref jT, .ref jR, .ref jK, .ref jL, .ref jU, .ref hF, .ref jC, .ref hN, .ref jA, .ref sd])), (hF, .inr (2, [.ref f0, .ref f1, .ref f2, .ref f3, .ref f4, .int (nI (sv)), .int (nI (ks)), .int (nI (kw))])), (f0, .inl (z0, 10, .inl g0)), (f1, .inl (z1, 10, .inl g1)), (f2, .inl (z2, 10, .inl g2)), (f3, .inl (z3, 10, .inl g3)), (f4, .inl (z4, 4, .inl g4))] sz) := by
  refine Met.ofW (cc := cX9_word) (maxL := 2) (ret := (some .int)) (by decide) rfl ?_
  intro p e s m args below meth c s₁ B hml hv
  obtain ⟨rfl, hsz, hP, hK, hD0, hX⟩ := hv
  have hx := B.exec
  have hb := B.bytes
  have hr := B.returns
  have hts := atoms_spec (ws := w_s_word9) B.pre
  have hown : s.vm.findClass RX9 = some m.cls := findClass_of_methodNamed B.named
  have hlocks := B.notSynchronized
  subst hsz
  have hD := hD0.self (sz := s.heap.size)
  generalize hAe : va_A [(jX, .inr (9, [.ref jT, .ref jR, .ref jK, .ref jL, .ref jU, .ref hF, .ref jC, .ref hN, .ref jA, .ref sd])), (hF, .inr (2, [.ref f0, .ref f1, .ref f2, .ref f3, .ref f4, .int (nI (sv)), .int (nI (ks)), .int (nI (kw))])), (f0, .inl (z0, 10, .inl g0)), (f1, .inl (z1, 10, .inl g1)), (f2, .inl (z2, 10, .inl g2)), (f3, .inl (z3, 10, .inl g3)), (f4, .inl (z4, 4, .inl g4))] s.heap.size = A at hD ⊢
  have hA : ∀ q : Nat, s.heap.size ≤ q → A q := fun q h => by rw [← hAe]; exact Or.inr h
  have hS : va_S A s.heap s.heap [] := va_S.rf
  have hP : va_P (dC, dI) vwCl [(jX, .inr (9, [.ref jT, .ref jR, .ref jK, .ref jL, .ref jU, .ref hF, .ref jC, .ref hN, .ref jA, .ref sd])), (hF, .inr (2, [.ref f0, .ref f1, .ref f2, .ref f3, .ref f4, .int (nI (sv)), .int (nI (ks)), .int (nI (kw))])), (f0, .inl (z0, 10, .inl g0)), (f1, .inl (z1, 10, .inl g1)), (f2, .inl (z2, 10, .inl g2)), (f3, .inl (z3, 10, .inl g3)), (f4, .inl (z4, 4, .inl g4))] s.heap := hP
  have hl := lv_entry ([.ref jX, .int p0]) (n := 2) (Nat.le_of_ble_eq_true rfl)
  rw [lg_entry_eq]
  generalize (lg_sl ([.ref jX, .int p0]) ++ List.replicate (2 - (lg_sl ([.ref jX, .int p0])).length) Slot.unset).toArray = ls at hl ⊢
  have hl : lv_has ls 2 [(0, .ref jX), (1, .int p0)] := hl
  refine kQ (fun Q hQ => ?_)
  refine lv_iload_n hx hb dX9_word_0 rfl (lv_at hl 1 rfl) ?_
  refine lv_iconst (v := 0) hx hb dX9_word_1 kc_i_0 ?_
  refine lv_bipush (v := 47) hx hb dX9_word_2 kc_b_47 ?_
  have hPc := hP.sb (ws2 := []) [] rfl
  have hKc := hK.sb (tys2 := []) [] rfl
  refine vp_callSi (va_runS (As := [.int p0, .int 0, .int 47]) (rest := []) ⟨hx, hb, hml, hown, hts⟩ (s_isIn9 l dC dI p0 0 47) (va_cwS 3 hts (kG (List.forall_mem_cons.mpr ⟨(List.mem_cons_of_mem _ (List.mem_append_left _ (List.mem_of_getElem? (i := 2) rfl))), (List.forall_mem_cons.mpr ⟨(List.mem_cons_of_mem _ (List.mem_append_left _ (List.mem_of_getElem? (i := 1) rfl))), (List.forall_mem_cons.mpr ⟨(List.mem_cons_of_mem _ (List.mem_append_left _ (List.mem_of_getElem? (i := 0) rfl))), (fun _ h => absurd h List.not_mem_nil)⟩)⟩)⟩) (kGS _ _ _) (fun _ h => List.mem_cons_of_mem _ (List.mem_append_right _ (List.mem_append_left _ h))) gw_s_isIn9) rfl rfl rfl hd_X9_isIn ⟨(Nat.le_of_ble_eq_true rfl), (Nat.le_of_ble_eq_true rfl)⟩) (kR_S kT_blind kT_give hPc hKc) rfl rfl hl.1 rfl (lv_room (Nat.le_of_ble_eq_true rfl)) dX9_word_4 ⟨(Nat.le_of_ble_eq_true rfl), (Nat.le_of_ble_eq_true rfl)⟩).run (fun r_1 hw => ?_)
  have hw_2 := hw
  refine lv_if_eq (tgt := 21) hx hb dX9_word_7 kc_t_7_14 (fun c_3 => ?_) (fun c_3 => ?_)
  · refine lv_iconst (v := (-1)) hx hb dX9_word_21 kc_i_m1 ?_
    have hP9 := hP
    have hD9 := hD
    have hK9 := hK
    rw [hQ]
    exact W.iret (v := (-1)) hx hb hr (fun t ht hW => ⟨⟨(-1), (g4, kw), rfl, (by have e9 := hw_2.symm.trans c_3; exact ⟨by unfold kWordA; rw [if_pos e9], by unfold kWordN; rw [if_pos e9], by unfold kWdF kWordN; rw [if_pos e9, if_pos rfl]⟩),  by rw [ht]; exact hP9, va_K.moved hW.alike hK9, hD9⟩, hS.F ht⟩) hS.2.2 dX9_word_22
  · refine lv_aload_n hx hb dX9_word_10 rfl (lv_at hl 0 rfl) ?_
    refine va_get (D := (dC, dI)) (ci := 9) (v := .ref hF) (C := RX9) (T := TX9) (N := 10) hx hb hts (fun _ h => List.mem_cons_of_mem _ (List.mem_append_right _ (List.mem_append_right _ (List.mem_append_left _ h)))) hown hK hP 0 rfl rfl 5 kc_l_5_10 (hts (.fieldLink RX9 47 "NotEnded" "folk" "LNotEnded$Folk;") (List.mem_cons_of_mem _ (List.mem_append_left _ (List.mem_of_getElem? (i := 3) rfl)))) (fun _ h9 => h9) rfl dX9_word_11 ?_
    refine lv_iload_n hx hb dX9_word_14 rfl (lv_at hl 1 rfl) ?_
    have hCu := kCut (wc := [(hF, .inr (2, [.ref f0, .ref f1, .ref f2, .ref f3, .ref f4, .int (nI (sv)), .int (nI (ks)), .int (nI (kw))])), (f0, .inl (z0, 10, .inl g0)), (f1, .inl (z1, 10, .inl g1)), (f2, .inl (z2, 10, .inl g2)), (f3, .inl (z3, 10, .inl g3)), (f4, .inl (z4, 4, .inl g4))]) hP hD hS hA [1, 2, 3, 4, 5, 6] rfl kc_nd_532 rfl
    have hPc := hCu.1
    have hDc := hCu.2.1
    have hFc := hCu.2.2
    have hKc := hK.sb (tys2 := [(z0, .int), (z1, .int), (z2, .int), (z3, .int), (z4, .int)]) [0, 1, 2, 3, 4] rfl
    refine va_calli (va_runV (As := [.int p0]) (rest := []) ⟨hx, hb, hml, hown, hts⟩ (s_addWord2 l dC dI hF f0 f1 f2 f3 f4 z0 z1 z2 z3 z4 g0 g1 g2 g3 g4 (nI (sv)) ks kw hks hkw p0 s.heap.size) (cwV 1 hts (kG (List.forall_mem_cons.mpr ⟨(List.mem_cons_of_mem _ (List.mem_append_left _ (List.mem_of_getElem? (i := 7) rfl))), (List.forall_mem_cons.mpr ⟨(List.mem_cons_of_mem _ (List.mem_append_left _ (List.mem_of_getElem? (i := 6) rfl))), (List.forall_mem_cons.mpr ⟨(List.mem_cons_of_mem _ (List.mem_append_left _ (List.mem_of_getElem? (i := 5) rfl))), (List.forall_mem_cons.mpr ⟨(List.mem_cons_of_mem _ (List.mem_append_left _ (List.mem_of_getElem? (i := 4) rfl))), (fun _ h => absurd h List.not_mem_nil)⟩)⟩)⟩)⟩) (kGV _ _ _ _) (fun _ h => List.mem_cons_of_mem _ (List.mem_append_right _ (List.mem_append_right _ (List.mem_append_right _ h)))) gw_s_addWord2) rfl rfl rfl ⟨rfl, hd_X2_addWord⟩ ⟨(Nat.le_of_ble_eq_true rfl), (Nat.le_of_ble_eq_true rfl)⟩) (kW_V kT_blind kT_give (va_recv hKc hPc (ci := 2) (q0 := 0) rfl rfl) hPc hKc hDc) rfl rfl hl.1 rfl (lv_room (Nat.le_of_ble_eq_true rfl)) dX9_word_15 ⟨(Nat.le_of_ble_eq_true rfl), (Nat.le_of_ble_eq_true rfl)⟩) hS (fun q _ h => hFc q h) hFc (fun r_4 => kU2 (fun n4_5 kw1_6 t H_7 locs ht hvm hw hB hz1 hk1 hS => ?_))
    try dsimp only at hw
    have hPD : kPD dC dI A [(jX, .inr (9, [.ref jT, .ref jR, .ref jK, .ref jL, .ref jU, .ref hF, .ref jC, .ref hN, .ref jA, .ref sd])), (hF, .inr (2, [.ref f0, .ref f1, .ref f2, .ref f3, .ref f4, .int (nI (sv)), .int (nI (ks)), .int (nI (kw1_6))])), (f0, .inl (z0, 10, .inl g0)), (f1, .inl (z1, 10, .inl g1)), (f2, .inl (z2, 10, .inl g2)), (f3, .inl (z3, 10, .inl g3)), (f4, .inl (z4, 4, .inl n4_5))] H_7 := kJoinX hP hD [1, 2, 3, 4, 5, 6] rfl hk1 hFc hB.1 ht hB.2.2 rfl [none, some 0, some 1, some 2, some 3, some 4, some 5] rfl rfl
    have hP := hPD.1
    have hD := hPD.2
    have hw_8 := hw
    refine lv_goto (tgt := 22) hx hb dX9_word_18 kc_t_18_4 ?_
    have hP9 := hP
    have hD9 := hD
    have hK9 := hK
    rw [hQ]
    exact W.iret (v := r_4) hx hb hr (fun t ht hW => ⟨⟨r_4, (n4_5, kw1_6), rfl, (by have e9 : ¬ kIn p0 0 47 = 0 := fun z => c_3 (hw_2.trans z); exact ⟨by unfold kWordA; rw [if_neg e9]; exact hw_8.1, by unfold kWordN; rw [if_neg e9]; exact hw_8.2.1, by unfold kWdF kWordN; rw [if_neg e9, hw_8.2.2]; by_cases z : kw < 4 <;> simp [z]⟩),  by rw [ht]; exact hP9, va_K.moved hW.alike hK9, hD9⟩, hS.F ht⟩) hS.2.2 dX9_word_22

theorem dX9_note_0 : decode cX9_note 0 = .ok (.aload_n 0, 1) := kDs0 kf_42 (by decide +kernel)
theorem dX9_note_1 : decode cX9_note 1 = .ok (.getfield 47, 3) := kDs2 kf_180 (by decide +kernel)
theorem dX9_note_4 : decode cX9_note 4 = .ok (.iload_n 1, 1) := kDs0 kf_27 (by decide +kernel)
theorem dX9_note_5 : decode cX9_note 5 = .ok (.invokevirtual 128, 3) := kDs2 kf_182 (by decide +kernel)
theorem dX9_note_8 : decode cX9_note 8 = .ok (.ifCond .eq 13, 3) := kDs4 kf_153 (by decide +kernel)
theorem dX9_note_21 : decode cX9_note 21 = .ok (.iconst (-1), 1) := kDs0 kf_2 (by decide +kernel)
theorem dX9_note_22 : decode cX9_note 22 = .ok (.ireturn, 1) := kDs0 kf_172 (by decide +kernel)
theorem dX9_note_11 : decode cX9_note 11 = .ok (.iload_n 2, 1) := kDs0 kf_28 (by decide +kernel)
theorem dX9_note_12 : decode cX9_note 12 = .ok (.iconst 0, 1) := kDs0 kf_3 (by decide +kernel)
theorem dX9_note_13 : decode cX9_note 13 = .ok (.bipush 48, 2) := kDs3 kf_16 (by decide +kernel)
theorem dX9_note_15 : decode cX9_note 15 = .ok (.invokestatic 117, 3) := kDs2 kf_184 (by decide +kernel)
theorem dX9_note_18 : decode cX9_note 18 = .ok (.ifCond .ne 5, 3) := kDs4 kf_154 (by decide +kernel)
theorem dX9_note_23 : decode cX9_note 23 = .ok (.iload_n 3, 1) := kDs0 kf_29 (by decide +kernel)
theorem dX9_note_24 : decode cX9_note 24 = .ok (.ifCond .ne 29, 3) := kDs4 kf_154 (by decide +kernel)
theorem dX9_note_53 : decode cX9_note 53 = .ok (.iconst 0, 1) := kDs0 kf_3 (by decide +kernel)
theorem dX9_note_54 : decode cX9_note 54 = .ok (.istore 6, 2) := kDs1 kf_54 (by decide +kernel)
theorem dX9_note_56 : decode cX9_note 56 = .ok (.iload_n 3, 1) := kDs0 kf_29 (by decide +kernel)
theorem dX9_note_57 : decode cX9_note 57 = .ok (.iconst 1, 1) := kDs0 kf_4 (by decide +kernel)
theorem dX9_note_58 : decode cX9_note 58 = .ok (.if_icmp .ne 21, 3) := kDs4 kf_160 (by decide +kernel)
theorem dX9_note_79 : decode cX9_note 79 = .ok (.iconst 0, 1) := kDs0 kf_3 (by decide +kernel)
theorem dX9_note_80 : decode cX9_note 80 = .ok (.istore 7, 2) := kDs1 kf_54 (by decide +kernel)
theorem dX9_note_82 : decode cX9_note 82 = .ok (.iload 6, 2) := kDs1 kf_21 (by decide +kernel)
theorem dX9_note_84 : decode cX9_note 84 = .ok (.ifCond .ne 8, 3) := kDs4 kf_154 (by decide +kernel)
theorem dX9_note_87 : decode cX9_note 87 = .ok (.iload 7, 2) := kDs1 kf_21 (by decide +kernel)
theorem dX9_note_89 : decode cX9_note 89 = .ok (.ifCond .eq 20, 3) := kDs4 kf_153 (by decide +kernel)
theorem dX9_note_109 : decode cX9_note 109 = .ok (.iconst (-1), 1) := kDs0 kf_2 (by decide +kernel)
theorem dX9_note_110 : decode cX9_note 110 = .ok (.ireturn, 1) := kDs0 kf_172 (by decide +kernel)
theorem dX9_note_61 : decode cX9_note 61 = .ok (.iload 4, 2) := kDs1 kf_21 (by decide +kernel)
theorem dX9_note_63 : decode cX9_note 63 = .ok (.iconst (-1), 1) := kDs0 kf_2 (by decide +kernel)
theorem dX9_note_64 : decode cX9_note 64 = .ok (.if_icmp .eq 11, 3) := kDs4 kf_159 (by decide +kernel)
theorem dX9_note_75 : decode cX9_note 75 = .ok (.iconst 1, 1) := kDs0 kf_4 (by decide +kernel)
theorem dX9_note_76 : decode cX9_note 76 = .ok (.goto 4, 3) := kDs4 kf_167 (by decide +kernel)
theorem dX9_note_92 : decode cX9_note 92 = .ok (.aload_n 0, 1) := kDs0 kf_42 (by decide +kernel)
theorem dX9_note_93 : decode cX9_note 93 = .ok (.getfield 63, 3) := kDs2 kf_180 (by decide +kernel)
theorem dX9_note_96 : decode cX9_note 96 = .ok (.iload_n 1, 1) := kDs0 kf_27 (by decide +kernel)
theorem dX9_note_97 : decode cX9_note 97 = .ok (.iload_n 2, 1) := kDs0 kf_28 (by decide +kernel)
theorem dX9_note_98 : decode cX9_note 98 = .ok (.iload_n 3, 1) := kDs0 kf_29 (by decide +kernel)
theorem dX9_note_99 : decode cX9_note 99 = .ok (.iload 4, 2) := kDs1 kf_21 (by decide +kernel)
theorem dX9_note_101 : decode cX9_note 101 = .ok (.iload 5, 2) := kDs1 kf_21 (by decide +kernel)
theorem dX9_note_103 : decode cX9_note 103 = .ok (.invokevirtual 194, 3) := kDs2 kf_182 (by decide +kernel)
theorem dX9_note_106 : decode cX9_note 106 = .ok (.goto 4, 3) := kDs4 kf_167 (by decide +kernel)
theorem dX9_note_67 : decode cX9_note 67 = .ok (.iload 4, 2) := kDs1 kf_21 (by decide +kernel)
theorem dX9_note_69 : decode cX9_note 69 = .ok (.invokestatic 121, 3) := kDs2 kf_184 (by decide +kernel)
theorem dX9_note_72 : decode cX9_note 72 = .ok (.ifCond .eq 7, 3) := kDs4 kf_153 (by decide +kernel)
theorem dX9_note_27 : decode cX9_note 27 = .ok (.iload 4, 2) := kDs1 kf_21 (by decide +kernel)
theorem dX9_note_29 : decode cX9_note 29 = .ok (.iconst 0, 1) := kDs0 kf_3 (by decide +kernel)
theorem dX9_note_30 : decode cX9_note 30 = .ok (.bipush 100, 2) := kDs3 kf_16 (by decide +kernel)
theorem dX9_note_32 : decode cX9_note 32 = .ok (.invokestatic 117, 3) := kDs2 kf_184 (by decide +kernel)
theorem dX9_note_35 : decode cX9_note 35 = .ok (.ifCond .eq 18, 3) := kDs4 kf_153 (by decide +kernel)
theorem dX9_note_38 : decode cX9_note 38 = .ok (.iload 5, 2) := kDs1 kf_21 (by decide +kernel)
theorem dX9_note_40 : decode cX9_note 40 = .ok (.iconst 0, 1) := kDs0 kf_3 (by decide +kernel)
theorem dX9_note_41 : decode cX9_note 41 = .ok (.bipush 50, 2) := kDs3 kf_16 (by decide +kernel)
theorem dX9_note_43 : decode cX9_note 43 = .ok (.invokestatic 117, 3) := kDs2 kf_184 (by decide +kernel)
theorem dX9_note_46 : decode cX9_note 46 = .ok (.ifCond .eq 7, 3) := kDs4 kf_153 (by decide +kernel)
theorem dX9_note_49 : decode cX9_note 49 = .ok (.iconst 1, 1) := kDs0 kf_4 (by decide +kernel)
theorem dX9_note_50 : decode cX9_note 50 = .ok (.goto 4, 3) := kDs4 kf_167 (by decide +kernel)
def w_s_note9 : List Cond := .code yX9_note cX9_note 8 (some .int) :: ([.fieldLink RX9 47 "NotEnded" "folk" "LNotEnded$Folk;", .initialized RX2, .selects RX2 yX2_has yX2_has, .instanceMethod yX2_has, .methodLink RX9 128 yX2_has, .initialized RX9, .static yX9_isIn, .methodLink RX9 117 yX9_isIn, .fieldLink RX9 63 "NotEnded" "notebook" "LNotEnded$Notebook;", .initialized RX3, .selects RX3 yX3_add yX3_add, .instanceMethod yX3_add, .methodLink RX9 194 yX3_add, .static yX9_isHouse, .methodLink RX9 121 yX9_isHouse] ++ (wsX90 ++ (w_s_has2x ++ (w_s_isIn9 ++ (w_s_add3x ++ (w_s_isHouse9x))))))
theorem gw_s_note9 : (w_s_note9).all goodWord = true := kGc rfl (kGa (by decide +kernel) (kGa gw_wsX90 (kGa gw_s_has2x (kGa gw_s_isIn9 (kGa gw_s_add3x gw_s_isHouse9x)))))
theorem hd_X9_note : yX9_note.cls ≠ "java/lang/invoke/MethodHandle" ∧ yX9_note.cls ≠ "java/lang/invoke/VarHandle" ∧ (parseMethodDescriptor yX9_note.desc).map (fun d => d.parameters.length) = some 5 := by decide +kernel
set_option maxHeartbeats 4000000 in
set_option maxRecDepth 100000 in
theorem s_note9 (l : Launch) (dC : Nat → ClassId) (dI : Nat → Nat → Nat) (jX : Nat) (jT : Nat) (jR : Nat) (jL : Nat) (jU : Nat) (hN : Nat) (jA : Nat) (sd : Nat) (hF : Nat) (jC : Nat) (jK : Nat) (f0 : Nat) (f1 : Nat) (f2 : Nat) (f3 : Nat) (f4 : Nat) (z0 : ClassId) (z1 : ClassId) (z2 : ClassId) (z3 : ClassId) (z4 : ClassId) (g0 : Nat → Int32) (g1 : Nat → Int32) (g2 : Nat → Int32) (g3 : Nat → Int32) (g4 : Nat → Int32) (ks : Nat) (kw : Nat) (hks : ks ≤ 10) (hkw : kw ≤ 4) (sv : Nat) (hsv : sv < 1024) (o0 : Nat) (o1 : Nat) (o2 : Nat) (o3 : Nat) (o4 : Nat) (y0 : ClassId) (y1 : ClassId) (y2 : ClassId) (y3 : ClassId) (y4 : ClassId) (q0 : Nat → Int32) (q1 : Nat → Int32) (q2 : Nat → Int32) (q3 : Nat → Int32) (q4 : Nat → Int32) (kn : Nat) (hkn : kn ≤ 20) (p0 : Int32) (p1 : Int32) (p2 : Int32) (p3 : Int32) (p4 : Int32) (sz : Nat) : Met l yX9_note w_s_note9 ({ frames := 3, cells := 0, slots := 0, locals := 180 }) (kW dC dI [.ref jX, .int p0, .int p1, .int p2, .int p3, .int p4] [(jX, .inr (9, [.ref jT, .ref jR, .ref jK, .ref jL, .ref jU, .ref hF, .ref jC, .ref hN, .ref jA, .ref sd])), (hF, .inr (2, [.ref f0, .ref f1, .ref f2, .ref f3, .ref f4, .int (nI (sv)), .int (nI (ks)), .int (nI (kw))])), (f0, .inl (z0, 10, .inl g0)), (f1, .inl (z1, 10, .inl g1)), (f2, .inl (z2, 10, .inl g2)), (f3, .inl (z3, 10, .inl g3)), (f4, .inl (z4, 4, .inl g4)), (hN, .inr (3, [.ref o0, .ref o1, .ref o2, .ref o3, .ref o4, .int (nI (kn))])), (o0, .inl (y0, 20, .inl q0)), (o1, .inl (y1, 20, .inl q1)), (o2, .inl (y2, 20, .inl q2)), (o3, .inl (y3, 20, .inl q3)), (o4, .inl (y4, 20, .inl q4))] [(z0, .int), (z1, .int), (z2, .int), (z3, .int), (z4, .int), (y0, .int), (y1, .int), (y2, .int), (y3, .int), (y4, .int)] kT sz) (va_Qi (fun (r : Int32) (u : (Nat → Int32) × (Nat → Int32) × (Nat → Int32) × (Nat → Int32) × (Nat → Int32) × Nat) => match u with | (n0, n1, n2, n3, n4, kn1) => (r = kNoteA p0 p1 p2 p3 p4 ks kn ∧ kn1 = kNoteN p0 p1 p2 p3 p4 ks kn)) (fun (u : (Nat → Int32) × (Nat → Int32) × (Nat → Int32) × (Nat → Int32) × (Nat → Int32) × Nat) => match u with | (n0, n1, n2, n3, n4, kn1) => fun t : State => kB dC dI [(jX, .inr (9, [.ref jT, .ref jR, .ref jK, .ref jL, .ref jU, .ref hF, .ref jC, .ref hN, .ref jA, .ref sd])), (hF, .inr (2, [.ref f0, .ref f1, .ref f2, .ref f3, .ref f4, .int (nI (sv)), .int (nI (ks)), .int (nI (kw))])), (f0, .inl (z0, 10, .inl g0)), (f1, .inl (z1, 10, .inl g1)), (f2, .inl (z2, 10, .inl g2)), (f3, .inl (z3, 10, .inl g3)), (f4, .inl (z4, 4, .inl g4)), (hN, .inr (3, [.ref o0, .ref o1, .ref o2, .ref o3, .ref o4, .int (nI (kn1))])), (o0, .inl (y0, 20, .inl n0)), (o1, .inl (y1, 20, .inl n1)), (o2, .inl (y2, 20, .inl n2)), (o3, .inl (y3, 20, .inl n3)), (o4, .inl (y4, 20, .inl n4))] [(z0, .int), (z1, .int), (z2, .int), (z3, .int), (z4, .int), (y0, .int), (y1, .int), (y2, .int), (y3, .int), (y4, .int)] (va_A [(jX, .inr (9, [.ref jT, .ref jR, .ref jK, .ref jL, .ref jU, .ref hF, .ref jC, .ref hN, .ref jA, .ref sd])), (hF, .inr (2, [.ref f0, .ref f1, .ref f2, .ref f3, .ref f4, .int (nI (sv)), .int (nI (ks)), .int (nI (kw))])), (f0, .inl (z0, 10, .inl g0)), (f1, .inl (z1, 10, .inl g1)), (f2, .inl (z2, 10, .inl g2)), (f3, .inl (z3, 10, .inl g3)), (f4, .inl (z4, 4, .inl g4)), (hN, .inr (3, [.ref o0, .ref o1, .ref o2, .ref o3, .ref o4, .int (nI (kn))])), (o0, .inl (y0, 20, .inl q0)), (o1, .inl (y1, 20, .inl q1)), (o2, .inl (y2, 20, .inl q2)), (o3, .inl (y3, 20, .inl q3)), (o4, .inl (y4, 20, .inl q4))] sz) t) (va_A [(jX, .inr (9, [.ref jT, .ref jR, .ref jK, .ref jL, .ref jU, .ref hF, .ref jC, .ref hN, .ref jA, .ref sd])), (hF, .inr (2, [.ref f0, .ref f1, .ref f2, .ref f3, .ref f4, .int (nI (sv)), .int (nI (ks)), .int (nI (kw))])), (f0, .inl (z0, 10, .inl g0)), (f1, .inl (z1, 10, .inl g1)), (f2, .inl (z2, 10, .inl g2)), (f3, .inl (z3, 10, .inl g3)), (f4, .inl (z4, 4, .inl g4)), (hN, .inr (3, [.ref o0, .ref o1, .ref o2, .ref o3, .ref o4, .int (nI (kn))])), (o0, .inl (y0, 20, .inl q0)), (o1, .inl (y1, 20, .inl q1)), (o2, .inl (y2, 20, .inl q2)), (o3, .inl (y3, 20, .inl q3)), (o4, .inl (y4, 20, .inl q4))] sz)) 0 0 (va_A [(jX, .inr (9, [.ref jT, .ref jR, .ref jK, .ref jL, .ref jU, .ref hF, .ref jC, .ref hN, .ref jA, .ref sd])), (hF, .inr (2, [.ref f0, .ref f1, .ref f2, .ref f3, .ref f4, .int (nI (sv)), .int (nI (ks)), .int (nI (kw))])), (f0, .inl (z0, 10, .inl g0)), (f1, .inl (z1, 10, .inl g1)), (f2, .inl (z2, 10, .inl g2)), (f3, .inl (z3, 10, .inl g3)), (f4, .inl (z4, 4, .inl g4)), (hN, .inr (3, [.ref o0, .ref o1, .ref o2, .ref o3, .ref o4, .int (nI (kn))])), (o0, .inl (y0, 20, .inl q0)), (o1, .inl (y1, 20, .inl q1)), (o2, .inl (y2, 20, .inl q2)), (o3, .inl (y3, 20, .inl q3)), (o4, .inl (y4, 20, .inl q4))] sz) := by
  refine Met.ofW (cc := cX9_note) (maxL := 8) (ret := (some .int)) (by decide) rfl ?_
  intro p e s m args below meth c s₁ B hml hv
  obtain ⟨rfl, hsz, hP, hK, hD0, hX⟩ := hv
  have hx := B.exec
  have hb := B.bytes
  have hr := B.returns
  have hts := atoms_spec (ws := w_s_note9) B.pre
  have hown : s.vm.findClass RX9 = some m.cls := findClass_of_methodNamed B.named
  have hlocks := B.notSynchronized
  subst hsz
  have hD := hD0.self (sz := s.heap.size)
  generalize hAe : va_A [(jX, .inr (9, [.ref jT, .ref jR, .ref jK, .ref jL, .ref jU, .ref hF, .ref jC, .ref hN, .ref jA, .ref sd])), (hF, .inr (2, [.ref f0, .ref f1, .ref f2, .ref f3, .ref f4, .int (nI (sv)), .int (nI (ks)), .int (nI (kw))])), (f0, .inl (z0, 10, .inl g0)), (f1, .inl (z1, 10, .inl g1)), (f2, .inl (z2, 10, .inl g2)), (f3, .inl (z3, 10, .inl g3)), (f4, .inl (z4, 4, .inl g4)), (hN, .inr (3, [.ref o0, .ref o1, .ref o2, .ref o3, .ref o4, .int (nI (kn))])), (o0, .inl (y0, 20, .inl q0)), (o1, .inl (y1, 20, .inl q1)), (o2, .inl (y2, 20, .inl q2)), (o3, .inl (y3, 20, .inl q3)), (o4, .inl (y4, 20, .inl q4))] s.heap.size = A at hD ⊢
  have hA : ∀ q : Nat, s.heap.size ≤ q → A q := fun q h => by rw [← hAe]; exact Or.inr h
  have hS : va_S A s.heap s.heap [] := va_S.rf
  have hP : va_P (dC, dI) vwCl [(jX, .inr (9, [.ref jT, .ref jR, .ref jK, .ref jL, .ref jU, .ref hF, .ref jC, .ref hN, .ref jA, .ref sd])), (hF, .inr (2, [.ref f0, .ref f1, .ref f2, .ref f3, .ref f4, .int (nI (sv)), .int (nI (ks)), .int (nI (kw))])), (f0, .inl (z0, 10, .inl g0)), (f1, .inl (z1, 10, .inl g1)), (f2, .inl (z2, 10, .inl g2)), (f3, .inl (z3, 10, .inl g3)), (f4, .inl (z4, 4, .inl g4)), (hN, .inr (3, [.ref o0, .ref o1, .ref o2, .ref o3, .ref o4, .int (nI (kn))])), (o0, .inl (y0, 20, .inl q0)), (o1, .inl (y1, 20, .inl q1)), (o2, .inl (y2, 20, .inl q2)), (o3, .inl (y3, 20, .inl q3)), (o4, .inl (y4, 20, .inl q4))] s.heap := hP
  have hl := lv_entry ([.ref jX, .int p0, .int p1, .int p2, .int p3, .int p4]) (n := 8) (Nat.le_of_ble_eq_true rfl)
  rw [lg_entry_eq]
  generalize (lg_sl ([.ref jX, .int p0, .int p1, .int p2, .int p3, .int p4]) ++ List.replicate (8 - (lg_sl ([.ref jX, .int p0, .int p1, .int p2, .int p3, .int p4])).length) Slot.unset).toArray = ls at hl ⊢
  have hl : lv_has ls 8 [(0, .ref jX), (1, .int p0), (2, .int p1), (3, .int p2), (4, .int p3), (5, .int p4)] := hl
  refine kQ (fun Q hQ => ?_)
  refine lv_aload_n hx hb dX9_note_0 rfl (lv_at hl 0 rfl) ?_
  refine va_get (D := (dC, dI)) (ci := 9) (v := .ref hF) (C := RX9) (T := TX9) (N := 10) hx hb hts (fun _ h => List.mem_cons_of_mem _ (List.mem_append_right _ (List.mem_append_left _ h))) hown hK hP 0 rfl rfl 5 kc_l_5_10 (hts (.fieldLink RX9 47 "NotEnded" "folk" "LNotEnded$Folk;") (List.mem_cons_of_mem _ (List.mem_append_left _ (List.mem_of_getElem? (i := 0) rfl)))) (fun _ h9 => h9) rfl dX9_note_1 ?_
  refine lv_iload_n hx hb dX9_note_4 rfl (lv_at hl 1 rfl) ?_
  have hPc := hP.sb (ws2 := [(hF, .inr (2, [.ref f0, .ref f1, .ref f2, .ref f3, .ref f4, .int (nI (sv)), .int (nI (ks)), .int (nI (kw))])), (f0, .inl (z0, 10, .inl g0)), (f1, .inl (z1, 10, .inl g1)), (f2, .inl (z2, 10, .inl g2)), (f3, .inl (z3, 10, .inl g3)), (f4, .inl (z4, 4, .inl g4))]) [1, 2, 3, 4, 5, 6] rfl
  have hKc := hK.sb (tys2 := [(z0, .int), (z1, .int), (z2, .int), (z3, .int), (z4, .int)]) [0, 1, 2, 3, 4] rfl
  refine vp_callSi (va_runV (As := [.int p0]) (rest := []) ⟨hx, hb, hml, hown, hts⟩ (s_has2x l dC dI hF f0 f1 f2 f3 f4 z0 z1 z2 z3 z4 g0 g1 g2 g3 g4 (nI (sv)) ks kw hks hkw p0) (cwV 1 hts (kG (List.forall_mem_cons.mpr ⟨(List.mem_cons_of_mem _ (List.mem_append_left _ (List.mem_of_getElem? (i := 4) rfl))), (List.forall_mem_cons.mpr ⟨(List.mem_cons_of_mem _ (List.mem_append_left _ (List.mem_of_getElem? (i := 3) rfl))), (List.forall_mem_cons.mpr ⟨(List.mem_cons_of_mem _ (List.mem_append_left _ (List.mem_of_getElem? (i := 2) rfl))), (List.forall_mem_cons.mpr ⟨(List.mem_cons_of_mem _ (List.mem_append_left _ (List.mem_of_getElem? (i := 1) rfl))), (fun _ h => absurd h List.not_mem_nil)⟩)⟩)⟩)⟩) (kGV _ _ _ _) (fun _ h => List.mem_cons_of_mem _ (List.mem_append_right _ (List.mem_append_right _ (List.mem_append_left _ h)))) gw_s_has2x) rfl rfl rfl ⟨rfl, hd_X2_has⟩ ⟨(Nat.le_of_ble_eq_true rfl), (Nat.le_of_ble_eq_true rfl)⟩) (kR_V kT_blind kT_give (va_recv hKc hPc (ci := 2) (q0 := 0) rfl rfl) hPc hKc) rfl rfl hl.1 rfl (lv_room (Nat.le_of_ble_eq_true rfl)) dX9_note_5 ⟨(Nat.le_of_ble_eq_true rfl), (Nat.le_of_ble_eq_true rfl)⟩).run (fun r_1 hw => ?_)
  obtain ⟨hw_2, hw_2_x⟩ := hw
  refine lv_if_eq (tgt := 21) hx hb dX9_note_8 kc_t_8_13 (fun c_3 => ?_) (fun c_3 => ?_)
  · have ff_4 := kZr hw_2_x c_3
    refine lv_iconst (v := (-1)) hx hb dX9_note_21 kc_i_m1 ?_
    have hP9 := hP
    have hD9 := hD
    have hK9 := hK
    rw [hQ]
    exact W.iret (v := (-1)) hx hb hr (fun t ht hW => ⟨⟨(-1), (q0, q1, q2, q3, q4, kn), rfl, ⟨by first | (simp [kNoteA, kNoteK, kIn_m1, ff_4]; done), by first | (simp [kNoteN, kNoteK, kIn_m1, ff_4]; done)⟩,  by rw [ht]; exact hP9, va_K.moved hW.alike hK9, hD9⟩, hS.F ht⟩) hS.2.2 dX9_note_22
  · have ff_5 := kNzr hw_2_x c_3
    obtain ⟨j_6, hj_6, ej_6⟩ := hw_2 c_3
    subst ej_6
    refine lv_iload_n hx hb dX9_note_11 rfl (lv_at hl 2 rfl) ?_
    refine lv_iconst (v := 0) hx hb dX9_note_12 kc_i_0 ?_
    refine lv_bipush (v := 48) hx hb dX9_note_13 kc_b_48 ?_
    have hPc := hP.sb (ws2 := []) [] rfl
    have hKc := hK.sb (tys2 := []) [] rfl
    refine vp_callSi (va_runS (As := [.int p1, .int 0, .int 48]) (rest := []) ⟨hx, hb, hml, hown, hts⟩ (s_isIn9 l dC dI p1 0 48) (va_cwS 3 hts (kG (List.forall_mem_cons.mpr ⟨(List.mem_cons_of_mem _ (List.mem_append_left _ (List.mem_of_getElem? (i := 7) rfl))), (List.forall_mem_cons.mpr ⟨(List.mem_cons_of_mem _ (List.mem_append_left _ (List.mem_of_getElem? (i := 6) rfl))), (List.forall_mem_cons.mpr ⟨(List.mem_cons_of_mem _ (List.mem_append_left _ (List.mem_of_getElem? (i := 5) rfl))), (fun _ h => absurd h List.not_mem_nil)⟩)⟩)⟩) (kGS _ _ _) (fun _ h => List.mem_cons_of_mem _ (List.mem_append_right _ (List.mem_append_right _ (List.mem_append_right _ (List.mem_append_left _ h))))) gw_s_isIn9) rfl rfl rfl hd_X9_isIn ⟨(Nat.le_of_ble_eq_true rfl), (Nat.le_of_ble_eq_true rfl)⟩) (kR_S kT_blind kT_give hPc hKc) rfl rfl hl.1 rfl (lv_room (Nat.le_of_ble_eq_true rfl)) dX9_note_15 ⟨(Nat.le_of_ble_eq_true rfl), (Nat.le_of_ble_eq_true rfl)⟩).run (fun r_7 hw => ?_)
    have hw_8 := hw
    refine lv_if_ne (tgt := 23) hx hb dX9_note_18 kc_t_18_5 (fun c_9 => ?_) (fun c_9 => ?_)
    · have ff_10 := kNzr hw_8 c_9
      refine lv_iload_n hx hb dX9_note_23 rfl (lv_at hl 3 rfl) ?_
      refine lv_if_ne (tgt := 53) hx hb dX9_note_24 kc_t_24_29 (fun c_11 => ?_) (fun c_11 => ?_)
      · refine lv_iconst (v := 0) hx hb dX9_note_53 kc_i_0 ?_
        refine lv_istore hx hb dX9_note_54 hl kc_l_6_8 (kTo [(6, .int 0), (0, .ref jX), (1, .int (nI (j_6))), (2, .int p1), (3, .int p2), (4, .int p3), (5, .int p4)]) (fun ls hl => ?_)
        refine lv_iload_n hx hb dX9_note_56 rfl (lv_at hl 4 rfl) ?_
        refine lv_iconst (v := 1) hx hb dX9_note_57 kc_i_1 ?_
        refine lv_icmp_ne (tgt := 79) hx hb dX9_note_58 kc_t_58_21 (fun c_12 => ?_) (fun c_12 => ?_)
        · refine lv_iconst (v := 0) hx hb dX9_note_79 kc_i_0 ?_
          refine lv_istore hx hb dX9_note_80 hl kc_l_7_8 (kTo [(7, .int 0), (6, .int 0), (0, .ref jX), (1, .int (nI (j_6))), (2, .int p1), (3, .int p2), (4, .int p3), (5, .int p4)]) (fun ls hl => ?_)
          refine lv_iload hx hb dX9_note_82 (lv_at hl 1 rfl) ?_
          refine lv_if_ne (tgt := 92) hx hb dX9_note_84 kc_t_84_8 (fun c_13 => absurd (by decide) c_13) (fun c_13 => ?_)
          refine lv_iload hx hb dX9_note_87 (lv_at hl 0 rfl) ?_
          refine lv_if_eq (tgt := 109) hx hb dX9_note_89 kc_t_89_20 (fun c_14 => ?_) (fun c_14 => absurd (by decide) c_14)
          refine lv_iconst (v := (-1)) hx hb dX9_note_109 kc_i_m1 ?_
          have hP9 := hP
          have hD9 := hD
          have hK9 := hK
          rw [hQ]
          exact W.iret (v := (-1)) hx hb hr (fun t ht hW => ⟨⟨(-1), (q0, q1, q2, q3, q4, kn), rfl, ⟨by first | (simp [kNoteA, kNoteK, kIn_m1, ff_5, ff_10, c_11, c_12]; done), by first | (simp [kNoteN, kNoteK, kIn_m1, ff_5, ff_10, c_11, c_12]; done)⟩,  by rw [ht]; exact hP9, va_K.moved hW.alike hK9, hD9⟩, hS.F ht⟩) hS.2.2 dX9_note_110
        · subst c_12
          refine lv_iload hx hb dX9_note_61 (lv_at hl 5 rfl) ?_
          refine lv_iconst (v := (-1)) hx hb dX9_note_63 kc_i_m1 ?_
          refine lv_icmp_eq (tgt := 75) hx hb dX9_note_64 kc_t_64_11 (fun c_15 => ?_) (fun c_15 => ?_)
          · subst c_15
            refine lv_iconst (v := 1) hx hb dX9_note_75 kc_i_1 ?_
            refine lv_goto (tgt := 80) hx hb dX9_note_76 kc_t_76_4 ?_
            refine lv_istore hx hb dX9_note_80 hl kc_l_7_8 (kTo [(7, .int 1), (6, .int 0), (0, .ref jX), (1, .int (nI (j_6))), (2, .int p1), (3, .int 1), (4, .int (-1)), (5, .int p4)]) (fun ls hl => ?_)
            refine lv_iload hx hb dX9_note_82 (lv_at hl 1 rfl) ?_
            refine lv_if_ne (tgt := 92) hx hb dX9_note_84 kc_t_84_8 (fun c_16 => absurd (by decide) c_16) (fun c_16 => ?_)
            refine lv_iload hx hb dX9_note_87 (lv_at hl 0 rfl) ?_
            refine lv_if_eq (tgt := 109) hx hb dX9_note_89 kc_t_89_20 (fun c_17 => absurd c_17 (by decide)) (fun c_17 => ?_)
            refine lv_aload_n hx hb dX9_note_92 rfl (lv_at hl 2 rfl) ?_
            refine va_get (D := (dC, dI)) (ci := 9) (v := .ref hN) (C := RX9) (T := TX9) (N := 10) hx hb hts (fun _ h => List.mem_cons_of_mem _ (List.mem_append_right _ (List.mem_append_left _ h))) hown hK hP 0 rfl rfl 7 kc_l_7_10 (hts (.fieldLink RX9 63 "NotEnded" "notebook" "LNotEnded$Notebook;") (List.mem_cons_of_mem _ (List.mem_append_left _ (List.mem_of_getElem? (i := 8) rfl)))) (fun _ h9 => h9) rfl dX9_note_93 ?_
            refine lv_iload_n hx hb dX9_note_96 rfl (lv_at hl 3 rfl) ?_
            refine lv_iload_n hx hb dX9_note_97 rfl (lv_at hl 4 rfl) ?_
            refine lv_iload_n hx hb dX9_note_98 rfl (lv_at hl 5 rfl) ?_
            refine lv_iload hx hb dX9_note_99 (lv_at hl 6 rfl) ?_
            refine lv_iload hx hb dX9_note_101 (lv_at hl 7 rfl) ?_
            have hCu := kCut (wc := [(hN, .inr (3, [.ref o0, .ref o1, .ref o2, .ref o3, .ref o4, .int (nI (kn))])), (o0, .inl (y0, 20, .inl q0)), (o1, .inl (y1, 20, .inl q1)), (o2, .inl (y2, 20, .inl q2)), (o3, .inl (y3, 20, .inl q3)), (o4, .inl (y4, 20, .inl q4))]) hP hD hS hA [7, 8, 9, 10, 11, 12] rfl kc_nd_546 rfl
            have hPc := hCu.1
            have hDc := hCu.2.1
            have hFc := hCu.2.2
            have hKc := hK.sb (tys2 := [(y0, .int), (y1, .int), (y2, .int), (y3, .int), (y4, .int)]) [5, 6, 7, 8, 9] rfl
            refine va_calli (va_runV (As := [.int (nI (j_6)), .int p1, .int 1, .int (-1), .int p4]) (rest := []) ⟨hx, hb, hml, hown, hts⟩ (s_add3x l dC dI hN o0 o1 o2 o3 o4 y0 y1 y2 y3 y4 q0 q1 q2 q3 q4 kn hkn (nI (j_6)) p1 1 (-1) p4 s.heap.size) (cwV 5 hts (kG (List.forall_mem_cons.mpr ⟨(List.mem_cons_of_mem _ (List.mem_append_left _ (List.mem_of_getElem? (i := 12) rfl))), (List.forall_mem_cons.mpr ⟨(List.mem_cons_of_mem _ (List.mem_append_left _ (List.mem_of_getElem? (i := 11) rfl))), (List.forall_mem_cons.mpr ⟨(List.mem_cons_of_mem _ (List.mem_append_left _ (List.mem_of_getElem? (i := 10) rfl))), (List.forall_mem_cons.mpr ⟨(List.mem_cons_of_mem _ (List.mem_append_left _ (List.mem_of_getElem? (i := 9) rfl))), (fun _ h => absurd h List.not_mem_nil)⟩)⟩)⟩)⟩) (kGV _ _ _ _) (fun _ h => List.mem_cons_of_mem _ (List.mem_append_right _ (List.mem_append_right _ (List.mem_append_right _ (List.mem_append_right _ (List.mem_append_left _ h)))))) gw_s_add3x) rfl rfl rfl ⟨rfl, hd_X3_add⟩ ⟨(Nat.le_of_ble_eq_true rfl), (Nat.le_of_ble_eq_true rfl)⟩) (kW_V kT_blind kT_give (va_recv hKc hPc (ci := 3) (q0 := 0) rfl rfl) hPc hKc hDc) rfl rfl hl.1 rfl (lv_room (Nat.le_of_ble_eq_true rfl)) dX9_note_103 ⟨(Nat.le_of_ble_eq_true rfl), (Nat.le_of_ble_eq_true rfl)⟩) hS (fun q _ h => hFc q h) hFc (fun r_18 => kU6 (fun n0_19 n1_20 n2_21 n3_22 n4_23 kn1_24 t H_25 locs ht hvm hw hB hz1 hk1 hS => ?_))
            try dsimp only at hw
            have hPD : kPD dC dI A [(jX, .inr (9, [.ref jT, .ref jR, .ref jK, .ref jL, .ref jU, .ref hF, .ref jC, .ref hN, .ref jA, .ref sd])), (hF, .inr (2, [.ref f0, .ref f1, .ref f2, .ref f3, .ref f4, .int (nI (sv)), .int (nI (ks)), .int (nI (kw))])), (f0, .inl (z0, 10, .inl g0)), (f1, .inl (z1, 10, .inl g1)), (f2, .inl (z2, 10, .inl g2)), (f3, .inl (z3, 10, .inl g3)), (f4, .inl (z4, 4, .inl g4)), (hN, .inr (3, [.ref o0, .ref o1, .ref o2, .ref o3, .ref o4, .int (nI (kn1_24))])), (o0, .inl (y0, 20, .inl n0_19)), (o1, .inl (y1, 20, .inl n1_20)), (o2, .inl (y2, 20, .inl n2_21)), (o3, .inl (y3, 20, .inl n3_22)), (o4, .inl (y4, 20, .inl n4_23))] H_25 := kJoinX hP hD [7, 8, 9, 10, 11, 12] rfl hk1 hFc hB.1 ht hB.2.2 rfl [none, none, none, none, none, none, none, some 0, some 1, some 2, some 3, some 4, some 5] rfl rfl
            have hP := hPD.1
            have hD := hPD.2
            have hw_26 := hw
            refine lv_goto (tgt := 110) hx hb dX9_note_106 kc_t_106_4 ?_
            have hP9 := hP
            have hD9 := hD
            have hK9 := hK
            rw [hQ]
            exact W.iret (v := r_18) hx hb hr (fun t ht hW => ⟨⟨r_18, (n0_19, n1_20, n2_21, n3_22, n4_23, kn1_24), rfl, ⟨by (have k9 : ¬ kNoteK 1 (-1) p4 = 0 := by first | (simp [kNoteK, kIn_m1, ff_5, ff_10, c_11]; done)); unfold kNoteA; rw [if_neg ff_5, if_neg ff_10, if_neg k9]; exact hw_26.1, by (have k9 : ¬ kNoteK 1 (-1) p4 = 0 := by first | (simp [kNoteK, kIn_m1, ff_5, ff_10, c_11]; done)); unfold kNoteN; rw [if_neg ff_5, if_neg ff_10, if_neg k9]; exact hw_26.2⟩,  by rw [ht]; exact hP9, va_K.moved hW.alike hK9, hD9⟩, hS.F ht⟩) hS.2.2 dX9_note_110
          · refine lv_iload hx hb dX9_note_67 (lv_at hl 5 rfl) ?_
            have hPc := hP.sb (ws2 := []) [] rfl
            have hKc := hK.sb (tys2 := []) [] rfl
            refine vp_callSi (va_runS (As := [.int p3]) (rest := []) ⟨hx, hb, hml, hown, hts⟩ (s_isHouse9x l dC dI p3) (va_cwS 1 hts (kG (List.forall_mem_cons.mpr ⟨(List.mem_cons_of_mem _ (List.mem_append_left _ (List.mem_of_getElem? (i := 14) rfl))), (List.forall_mem_cons.mpr ⟨(List.mem_cons_of_mem _ (List.mem_append_left _ (List.mem_of_getElem? (i := 13) rfl))), (List.forall_mem_cons.mpr ⟨(List.mem_cons_of_mem _ (List.mem_append_left _ (List.mem_of_getElem? (i := 5) rfl))), (fun _ h => absurd h List.not_mem_nil)⟩)⟩)⟩) (kGS _ _ _) (fun _ h => List.mem_cons_of_mem _ (List.mem_append_right _ (List.mem_append_right _ (List.mem_append_right _ (List.mem_append_right _ (List.mem_append_right _ h)))))) gw_s_isHouse9x) rfl rfl rfl hd_X9_isHouse ⟨(Nat.le_of_ble_eq_true rfl), (Nat.le_of_ble_eq_true rfl)⟩) (kR_S kT_blind kT_give hPc hKc) rfl rfl hl.1 rfl (lv_room (Nat.le_of_ble_eq_true rfl)) dX9_note_69 ⟨(Nat.le_of_ble_eq_true rfl), (Nat.le_of_ble_eq_true rfl)⟩).run (fun r_27 hw => ?_)
            have hw_28 := hw
            refine lv_if_eq (tgt := 79) hx hb dX9_note_72 kc_t_72_7 (fun c_29 => ?_) (fun c_29 => ?_)
            · have ff_30 := kZr hw_28 c_29
              refine lv_iconst (v := 0) hx hb dX9_note_79 kc_i_0 ?_
              refine lv_istore hx hb dX9_note_80 hl kc_l_7_8 (kTo [(7, .int 0), (6, .int 0), (0, .ref jX), (1, .int (nI (j_6))), (2, .int p1), (3, .int 1), (4, .int p3), (5, .int p4)]) (fun ls hl => ?_)
              refine lv_iload hx hb dX9_note_82 (lv_at hl 1 rfl) ?_
              refine lv_if_ne (tgt := 92) hx hb dX9_note_84 kc_t_84_8 (fun c_31 => absurd (by decide) c_31) (fun c_31 => ?_)
              refine lv_iload hx hb dX9_note_87 (lv_at hl 0 rfl) ?_
              refine lv_if_eq (tgt := 109) hx hb dX9_note_89 kc_t_89_20 (fun c_32 => ?_) (fun c_32 => absurd (by decide) c_32)
              refine lv_iconst (v := (-1)) hx hb dX9_note_109 kc_i_m1 ?_
              have hP9 := hP
              have hD9 := hD
              have hK9 := hK
              rw [hQ]
              exact W.iret (v := (-1)) hx hb hr (fun t ht hW => ⟨⟨(-1), (q0, q1, q2, q3, q4, kn), rfl, ⟨by first | (simp [kNoteA, kNoteK, kIn_m1, ff_5, ff_10, c_11, c_15, ff_30]; done) | (simp [kNoteA, kNoteK, ff_5, ff_10, c_11, c_15, ff_30, kHouseN c_11 ff_30]; done) | (simp [kNoteA, kNoteK, ff_5, ff_10, c_11, c_15, ff_30, kHouseN c_15 ff_30]; done), by first | (simp [kNoteN, kNoteK, kIn_m1, ff_5, ff_10, c_11, c_15, ff_30]; done) | (simp [kNoteN, kNoteK, ff_5, ff_10, c_11, c_15, ff_30, kHouseN c_11 ff_30]; done) | (simp [kNoteN, kNoteK, ff_5, ff_10, c_11, c_15, ff_30, kHouseN c_15 ff_30]; done)⟩,  by rw [ht]; exact hP9, va_K.moved hW.alike hK9, hD9⟩, hS.F ht⟩) hS.2.2 dX9_note_110
            · have ff_33 := kNzr hw_28 c_29
              refine lv_iconst (v := 1) hx hb dX9_note_75 kc_i_1 ?_
              refine lv_goto (tgt := 80) hx hb dX9_note_76 kc_t_76_4 ?_
              refine lv_istore hx hb dX9_note_80 hl kc_l_7_8 (kTo [(7, .int 1), (6, .int 0), (0, .ref jX), (1, .int (nI (j_6))), (2, .int p1), (3, .int 1), (4, .int p3), (5, .int p4)]) (fun ls hl => ?_)
              refine lv_iload hx hb dX9_note_82 (lv_at hl 1 rfl) ?_
              refine lv_if_ne (tgt := 92) hx hb dX9_note_84 kc_t_84_8 (fun c_34 => absurd (by decide) c_34) (fun c_34 => ?_)
              refine lv_iload hx hb dX9_note_87 (lv_at hl 0 rfl) ?_
              refine lv_if_eq (tgt := 109) hx hb dX9_note_89 kc_t_89_20 (fun c_35 => absurd c_35 (by decide)) (fun c_35 => ?_)
              refine lv_aload_n hx hb dX9_note_92 rfl (lv_at hl 2 rfl) ?_
              refine va_get (D := (dC, dI)) (ci := 9) (v := .ref hN) (C := RX9) (T := TX9) (N := 10) hx hb hts (fun _ h => List.mem_cons_of_mem _ (List.mem_append_right _ (List.mem_append_left _ h))) hown hK hP 0 rfl rfl 7 kc_l_7_10 (hts (.fieldLink RX9 63 "NotEnded" "notebook" "LNotEnded$Notebook;") (List.mem_cons_of_mem _ (List.mem_append_left _ (List.mem_of_getElem? (i := 8) rfl)))) (fun _ h9 => h9) rfl dX9_note_93 ?_
              refine lv_iload_n hx hb dX9_note_96 rfl (lv_at hl 3 rfl) ?_
              refine lv_iload_n hx hb dX9_note_97 rfl (lv_at hl 4 rfl) ?_
              refine lv_iload_n hx hb dX9_note_98 rfl (lv_at hl 5 rfl) ?_
              refine lv_iload hx hb dX9_note_99 (lv_at hl 6 rfl) ?_
              refine lv_iload hx hb dX9_note_101 (lv_at hl 7 rfl) ?_
              have hCu := kCut (wc := [(hN, .inr (3, [.ref o0, .ref o1, .ref o2, .ref o3, .ref o4, .int (nI (kn))])), (o0, .inl (y0, 20, .inl q0)), (o1, .inl (y1, 20, .inl q1)), (o2, .inl (y2, 20, .inl q2)), (o3, .inl (y3, 20, .inl q3)), (o4, .inl (y4, 20, .inl q4))]) hP hD hS hA [7, 8, 9, 10, 11, 12] rfl kc_nd_546 rfl
              have hPc := hCu.1
              have hDc := hCu.2.1
              have hFc := hCu.2.2
              have hKc := hK.sb (tys2 := [(y0, .int), (y1, .int), (y2, .int), (y3, .int), (y4, .int)]) [5, 6, 7, 8, 9] rfl
              refine va_calli (va_runV (As := [.int (nI (j_6)), .int p1, .int 1, .int p3, .int p4]) (rest := []) ⟨hx, hb, hml, hown, hts⟩ (s_add3x l dC dI hN o0 o1 o2 o3 o4 y0 y1 y2 y3 y4 q0 q1 q2 q3 q4 kn hkn (nI (j_6)) p1 1 p3 p4 s.heap.size) (cwV 5 hts (kG (List.forall_mem_cons.mpr ⟨(List.mem_cons_of_mem _ (List.mem_append_left _ (List.mem_of_getElem? (i := 12) rfl))), (List.forall_mem_cons.mpr ⟨(List.mem_cons_of_mem _ (List.mem_append_left _ (List.mem_of_getElem? (i := 11) rfl))), (List.forall_mem_cons.mpr ⟨(List.mem_cons_of_mem _ (List.mem_append_left _ (List.mem_of_getElem? (i := 10) rfl))), (List.forall_mem_cons.mpr ⟨(List.mem_cons_of_mem _ (List.mem_append_left _ (List.mem_of_getElem? (i := 9) rfl))), (fun _ h => absurd h List.not_mem_nil)⟩)⟩)⟩)⟩) (kGV _ _ _ _) (fun _ h => List.mem_cons_of_mem _ (List.mem_append_right _ (List.mem_append_right _ (List.mem_append_right _ (List.mem_append_right _ (List.mem_append_left _ h)))))) gw_s_add3x) rfl rfl rfl ⟨rfl, hd_X3_add⟩ ⟨(Nat.le_of_ble_eq_true rfl), (Nat.le_of_ble_eq_true rfl)⟩) (kW_V kT_blind kT_give (va_recv hKc hPc (ci := 3) (q0 := 0) rfl rfl) hPc hKc hDc) rfl rfl hl.1 rfl (lv_room (Nat.le_of_ble_eq_true rfl)) dX9_note_103 ⟨(Nat.le_of_ble_eq_true rfl), (Nat.le_of_ble_eq_true rfl)⟩) hS (fun q _ h => hFc q h) hFc (fun r_36 => kU6 (fun n0_37 n1_38 n2_39 n3_40 n4_41 kn1_42 t H_43 locs ht hvm hw hB hz1 hk1 hS => ?_))
              try dsimp only at hw
              have hPD : kPD dC dI A [(jX, .inr (9, [.ref jT, .ref jR, .ref jK, .ref jL, .ref jU, .ref hF, .ref jC, .ref hN, .ref jA, .ref sd])), (hF, .inr (2, [.ref f0, .ref f1, .ref f2, .ref f3, .ref f4, .int (nI (sv)), .int (nI (ks)), .int (nI (kw))])), (f0, .inl (z0, 10, .inl g0)), (f1, .inl (z1, 10, .inl g1)), (f2, .inl (z2, 10, .inl g2)), (f3, .inl (z3, 10, .inl g3)), (f4, .inl (z4, 4, .inl g4)), (hN, .inr (3, [.ref o0, .ref o1, .ref o2, .ref o3, .ref o4, .int (nI (kn1_42))])), (o0, .inl (y0, 20, .inl n0_37)), (o1, .inl (y1, 20, .inl n1_38)), (o2, .inl (y2, 20, .inl n2_39)), (o3, .inl (y3, 20, .inl n3_40)), (o4, .inl (y4, 20, .inl n4_41))] H_43 := kJoinX hP hD [7, 8, 9, 10, 11, 12] rfl hk1 hFc hB.1 ht hB.2.2 rfl [none, none, none, none, none, none, none, some 0, some 1, some 2, some 3, some 4, some 5] rfl rfl
              have hP := hPD.1
              have hD := hPD.2
              have hw_44 := hw
              refine lv_goto (tgt := 110) hx hb dX9_note_106 kc_t_106_4 ?_
              have hP9 := hP
              have hD9 := hD
              have hK9 := hK
              rw [hQ]
              exact W.iret (v := r_36) hx hb hr (fun t ht hW => ⟨⟨r_36, (n0_37, n1_38, n2_39, n3_40, n4_41, kn1_42), rfl, ⟨by (have k9 : ¬ kNoteK 1 p3 p4 = 0 := by first | (simp [kNoteK, kIn_m1, ff_5, ff_10, c_11, c_15, ff_33]; done) | (simp [kNoteK, ff_5, ff_10, c_11, c_15, ff_33, kHouseY ff_33]; done)); unfold kNoteA; rw [if_neg ff_5, if_neg ff_10, if_neg k9]; exact hw_44.1, by (have k9 : ¬ kNoteK 1 p3 p4 = 0 := by first | (simp [kNoteK, kIn_m1, ff_5, ff_10, c_11, c_15, ff_33]; done) | (simp [kNoteK, ff_5, ff_10, c_11, c_15, ff_33, kHouseY ff_33]; done)); unfold kNoteN; rw [if_neg ff_5, if_neg ff_10, if_neg k9]; exact hw_44.2⟩,  by rw [ht]; exact hP9, va_K.moved hW.alike hK9, hD9⟩, hS.F ht⟩) hS.2.2 dX9_note_110
      · subst c_11
        refine lv_iload hx hb dX9_note_27 (lv_at hl 4 rfl) ?_
        refine lv_iconst (v := 0) hx hb dX9_note_29 kc_i_0 ?_
        refine lv_bipush (v := 100) hx hb dX9_note_30 kc_b_100 ?_
        have hPc := hP.sb (ws2 := []) [] rfl
        have hKc := hK.sb (tys2 := []) [] rfl
        refine vp_callSi (va_runS (As := [.int p3, .int 0, .int 100]) (rest := []) ⟨hx, hb, hml, hown, hts⟩ (s_isIn9 l dC dI p3 0 100) (va_cwS 3 hts (kG (List.forall_mem_cons.mpr ⟨(List.mem_cons_of_mem _ (List.mem_append_left _ (List.mem_of_getElem? (i := 7) rfl))), (List.forall_mem_cons.mpr ⟨(List.mem_cons_of_mem _ (List.mem_append_left _ (List.mem_of_getElem? (i := 6) rfl))), (List.forall_mem_cons.mpr ⟨(List.mem_cons_of_mem _ (List.mem_append_left _ (List.mem_of_getElem? (i := 5) rfl))), (fun _ h => absurd h List.not_mem_nil)⟩)⟩)⟩) (kGS _ _ _) (fun _ h => List.mem_cons_of_mem _ (List.mem_append_right _ (List.mem_append_right _ (List.mem_append_right _ (List.mem_append_left _ h))))) gw_s_isIn9) rfl rfl rfl hd_X9_isIn ⟨(Nat.le_of_ble_eq_true rfl), (Nat.le_of_ble_eq_true rfl)⟩) (kR_S kT_blind kT_give hPc hKc) rfl rfl hl.1 rfl (lv_room (Nat.le_of_ble_eq_true rfl)) dX9_note_32 ⟨(Nat.le_of_ble_eq_true rfl), (Nat.le_of_ble_eq_true rfl)⟩).run (fun r_45 hw => ?_)
        have hw_46 := hw
        refine lv_if_eq (tgt := 53) hx hb dX9_note_35 kc_t_35_18 (fun c_47 => ?_) (fun c_47 => ?_)
        · have ff_48 := kZr hw_46 c_47
          refine lv_iconst (v := 0) hx hb dX9_note_53 kc_i_0 ?_
          refine lv_istore hx hb dX9_note_54 hl kc_l_6_8 (kTo [(6, .int 0), (0, .ref jX), (1, .int (nI (j_6))), (2, .int p1), (3, .int 0), (4, .int p3), (5, .int p4)]) (fun ls hl => ?_)
          refine lv_iload_n hx hb dX9_note_56 rfl (lv_at hl 4 rfl) ?_
          refine lv_iconst (v := 1) hx hb dX9_note_57 kc_i_1 ?_
          refine lv_icmp_ne (tgt := 79) hx hb dX9_note_58 kc_t_58_21 (fun c_49 => ?_) (fun c_49 => absurd c_49 (by decide))
          refine lv_iconst (v := 0) hx hb dX9_note_79 kc_i_0 ?_
          refine lv_istore hx hb dX9_note_80 hl kc_l_7_8 (kTo [(7, .int 0), (6, .int 0), (0, .ref jX), (1, .int (nI (j_6))), (2, .int p1), (3, .int 0), (4, .int p3), (5, .int p4)]) (fun ls hl => ?_)
          refine lv_iload hx hb dX9_note_82 (lv_at hl 1 rfl) ?_
          refine lv_if_ne (tgt := 92) hx hb dX9_note_84 kc_t_84_8 (fun c_50 => absurd (by decide) c_50) (fun c_50 => ?_)
          refine lv_iload hx hb dX9_note_87 (lv_at hl 0 rfl) ?_
          refine lv_if_eq (tgt := 109) hx hb dX9_note_89 kc_t_89_20 (fun c_51 => ?_) (fun c_51 => absurd (by decide) c_51)
          refine lv_iconst (v := (-1)) hx hb dX9_note_109 kc_i_m1 ?_
          have hP9 := hP
          have hD9 := hD
          have hK9 := hK
          rw [hQ]
          exact W.iret (v := (-1)) hx hb hr (fun t ht hW => ⟨⟨(-1), (q0, q1, q2, q3, q4, kn), rfl, ⟨by first | (simp [kNoteA, kNoteK, kIn_m1, ff_5, ff_10, ff_48]; done), by first | (simp [kNoteN, kNoteK, kIn_m1, ff_5, ff_10, ff_48]; done)⟩,  by rw [ht]; exact hP9, va_K.moved hW.alike hK9, hD9⟩, hS.F ht⟩) hS.2.2 dX9_note_110
        · have ff_52 := kNzr hw_46 c_47
          refine lv_iload hx hb dX9_note_38 (lv_at hl 5 rfl) ?_
          refine lv_iconst (v := 0) hx hb dX9_note_40 kc_i_0 ?_
          refine lv_bipush (v := 50) hx hb dX9_note_41 kc_b_50 ?_
          have hPc := hP.sb (ws2 := []) [] rfl
          have hKc := hK.sb (tys2 := []) [] rfl
          refine vp_callSi (va_runS (As := [.int p4, .int 0, .int 50]) (rest := []) ⟨hx, hb, hml, hown, hts⟩ (s_isIn9 l dC dI p4 0 50) (va_cwS 3 hts (kG (List.forall_mem_cons.mpr ⟨(List.mem_cons_of_mem _ (List.mem_append_left _ (List.mem_of_getElem? (i := 7) rfl))), (List.forall_mem_cons.mpr ⟨(List.mem_cons_of_mem _ (List.mem_append_left _ (List.mem_of_getElem? (i := 6) rfl))), (List.forall_mem_cons.mpr ⟨(List.mem_cons_of_mem _ (List.mem_append_left _ (List.mem_of_getElem? (i := 5) rfl))), (fun _ h => absurd h List.not_mem_nil)⟩)⟩)⟩) (kGS _ _ _) (fun _ h => List.mem_cons_of_mem _ (List.mem_append_right _ (List.mem_append_right _ (List.mem_append_right _ (List.mem_append_left _ h))))) gw_s_isIn9) rfl rfl rfl hd_X9_isIn ⟨(Nat.le_of_ble_eq_true rfl), (Nat.le_of_ble_eq_true rfl)⟩) (kR_S kT_blind kT_give hPc hKc) rfl rfl hl.1 rfl (lv_room (Nat.le_of_ble_eq_true rfl)) dX9_note_43 ⟨(Nat.le_of_ble_eq_true rfl), (Nat.le_of_ble_eq_true rfl)⟩).run (fun r_53 hw => ?_)
          have hw_54 := hw
          refine lv_if_eq (tgt := 53) hx hb dX9_note_46 kc_t_46_7 (fun c_55 => ?_) (fun c_55 => ?_)
          · have ff_56 := kZr hw_54 c_55
            refine lv_iconst (v := 0) hx hb dX9_note_53 kc_i_0 ?_
            refine lv_istore hx hb dX9_note_54 hl kc_l_6_8 (kTo [(6, .int 0), (0, .ref jX), (1, .int (nI (j_6))), (2, .int p1), (3, .int 0), (4, .int p3), (5, .int p4)]) (fun ls hl => ?_)
            refine lv_iload_n hx hb dX9_note_56 rfl (lv_at hl 4 rfl) ?_
            refine lv_iconst (v := 1) hx hb dX9_note_57 kc_i_1 ?_
            refine lv_icmp_ne (tgt := 79) hx hb dX9_note_58 kc_t_58_21 (fun c_57 => ?_) (fun c_57 => absurd c_57 (by decide))
            refine lv_iconst (v := 0) hx hb dX9_note_79 kc_i_0 ?_
            refine lv_istore hx hb dX9_note_80 hl kc_l_7_8 (kTo [(7, .int 0), (6, .int 0), (0, .ref jX), (1, .int (nI (j_6))), (2, .int p1), (3, .int 0), (4, .int p3), (5, .int p4)]) (fun ls hl => ?_)
            refine lv_iload hx hb dX9_note_82 (lv_at hl 1 rfl) ?_
            refine lv_if_ne (tgt := 92) hx hb dX9_note_84 kc_t_84_8 (fun c_58 => absurd (by decide) c_58) (fun c_58 => ?_)
            refine lv_iload hx hb dX9_note_87 (lv_at hl 0 rfl) ?_
            refine lv_if_eq (tgt := 109) hx hb dX9_note_89 kc_t_89_20 (fun c_59 => ?_) (fun c_59 => absurd (by decide) c_59)
            refine lv_iconst (v := (-1)) hx hb dX9_note_109 kc_i_m1 ?_
            have hP9 := hP
            have hD9 := hD
            have hK9 := hK
            rw [hQ]
            exact W.iret (v := (-1)) hx hb hr (fun t ht hW => ⟨⟨(-1), (q0, q1, q2, q3, q4, kn), rfl, ⟨by first | (simp [kNoteA, kNoteK, kIn_m1, ff_5, ff_10, ff_52, ff_56]; done), by first | (simp [kNoteN, kNoteK, kIn_m1, ff_5, ff_10, ff_52, ff_56]; done)⟩,  by rw [ht]; exact hP9, va_K.moved hW.alike hK9, hD9⟩, hS.F ht⟩) hS.2.2 dX9_note_110
          · have ff_60 := kNzr hw_54 c_55
            refine lv_iconst (v := 1) hx hb dX9_note_49 kc_i_1 ?_
            refine lv_goto (tgt := 54) hx hb dX9_note_50 kc_t_50_4 ?_
            refine lv_istore hx hb dX9_note_54 hl kc_l_6_8 (kTo [(6, .int 1), (0, .ref jX), (1, .int (nI (j_6))), (2, .int p1), (3, .int 0), (4, .int p3), (5, .int p4)]) (fun ls hl => ?_)
            refine lv_iload_n hx hb dX9_note_56 rfl (lv_at hl 4 rfl) ?_
            refine lv_iconst (v := 1) hx hb dX9_note_57 kc_i_1 ?_
            refine lv_icmp_ne (tgt := 79) hx hb dX9_note_58 kc_t_58_21 (fun c_61 => ?_) (fun c_61 => absurd c_61 (by decide))
            refine lv_iconst (v := 0) hx hb dX9_note_79 kc_i_0 ?_
            refine lv_istore hx hb dX9_note_80 hl kc_l_7_8 (kTo [(7, .int 0), (6, .int 1), (0, .ref jX), (1, .int (nI (j_6))), (2, .int p1), (3, .int 0), (4, .int p3), (5, .int p4)]) (fun ls hl => ?_)
            refine lv_iload hx hb dX9_note_82 (lv_at hl 1 rfl) ?_
            refine lv_if_ne (tgt := 92) hx hb dX9_note_84 kc_t_84_8 (fun c_62 => ?_) (fun c_62 => absurd c_62 (by decide))
            refine lv_aload_n hx hb dX9_note_92 rfl (lv_at hl 2 rfl) ?_
            refine va_get (D := (dC, dI)) (ci := 9) (v := .ref hN) (C := RX9) (T := TX9) (N := 10) hx hb hts (fun _ h => List.mem_cons_of_mem _ (List.mem_append_right _ (List.mem_append_left _ h))) hown hK hP 0 rfl rfl 7 kc_l_7_10 (hts (.fieldLink RX9 63 "NotEnded" "notebook" "LNotEnded$Notebook;") (List.mem_cons_of_mem _ (List.mem_append_left _ (List.mem_of_getElem? (i := 8) rfl)))) (fun _ h9 => h9) rfl dX9_note_93 ?_
            refine lv_iload_n hx hb dX9_note_96 rfl (lv_at hl 3 rfl) ?_
            refine lv_iload_n hx hb dX9_note_97 rfl (lv_at hl 4 rfl) ?_
            refine lv_iload_n hx hb dX9_note_98 rfl (lv_at hl 5 rfl) ?_
            refine lv_iload hx hb dX9_note_99 (lv_at hl 6 rfl) ?_
            refine lv_iload hx hb dX9_note_101 (lv_at hl 7 rfl) ?_
            have hCu := kCut (wc := [(hN, .inr (3, [.ref o0, .ref o1, .ref o2, .ref o3, .ref o4, .int (nI (kn))])), (o0, .inl (y0, 20, .inl q0)), (o1, .inl (y1, 20, .inl q1)), (o2, .inl (y2, 20, .inl q2)), (o3, .inl (y3, 20, .inl q3)), (o4, .inl (y4, 20, .inl q4))]) hP hD hS hA [7, 8, 9, 10, 11, 12] rfl kc_nd_546 rfl
            have hPc := hCu.1
            have hDc := hCu.2.1
            have hFc := hCu.2.2
            have hKc := hK.sb (tys2 := [(y0, .int), (y1, .int), (y2, .int), (y3, .int), (y4, .int)]) [5, 6, 7, 8, 9] rfl
            refine va_calli (va_runV (As := [.int (nI (j_6)), .int p1, .int 0, .int p3, .int p4]) (rest := []) ⟨hx, hb, hml, hown, hts⟩ (s_add3x l dC dI hN o0 o1 o2 o3 o4 y0 y1 y2 y3 y4 q0 q1 q2 q3 q4 kn hkn (nI (j_6)) p1 0 p3 p4 s.heap.size) (cwV 5 hts (kG (List.forall_mem_cons.mpr ⟨(List.mem_cons_of_mem _ (List.mem_append_left _ (List.mem_of_getElem? (i := 12) rfl))), (List.forall_mem_cons.mpr ⟨(List.mem_cons_of_mem _ (List.mem_append_left _ (List.mem_of_getElem? (i := 11) rfl))), (List.forall_mem_cons.mpr ⟨(List.mem_cons_of_mem _ (List.mem_append_left _ (List.mem_of_getElem? (i := 10) rfl))), (List.forall_mem_cons.mpr ⟨(List.mem_cons_of_mem _ (List.mem_append_left _ (List.mem_of_getElem? (i := 9) rfl))), (fun _ h => absurd h List.not_mem_nil)⟩)⟩)⟩)⟩) (kGV _ _ _ _) (fun _ h => List.mem_cons_of_mem _ (List.mem_append_right _ (List.mem_append_right _ (List.mem_append_right _ (List.mem_append_right _ (List.mem_append_left _ h)))))) gw_s_add3x) rfl rfl rfl ⟨rfl, hd_X3_add⟩ ⟨(Nat.le_of_ble_eq_true rfl), (Nat.le_of_ble_eq_true rfl)⟩) (kW_V kT_blind kT_give (va_recv hKc hPc (ci := 3) (q0 := 0) rfl rfl) hPc hKc hDc) rfl rfl hl.1 rfl (lv_room (Nat.le_of_ble_eq_true rfl)) dX9_note_103 ⟨(Nat.le_of_ble_eq_true rfl), (Nat.le_of_ble_eq_true rfl)⟩) hS (fun q _ h => hFc q h) hFc (fun r_63 => kU6 (fun n0_64 n1_65 n2_66 n3_67 n4_68 kn1_69 t H_70 locs ht hvm hw hB hz1 hk1 hS => ?_))
            try dsimp only at hw
            have hPD : kPD dC dI A [(jX, .inr (9, [.ref jT, .ref jR, .ref jK, .ref jL, .ref jU, .ref hF, .ref jC, .ref hN, .ref jA, .ref sd])), (hF, .inr (2, [.ref f0, .ref f1, .ref f2, .ref f3, .ref f4, .int (nI (sv)), .int (nI (ks)), .int (nI (kw))])), (f0, .inl (z0, 10, .inl g0)), (f1, .inl (z1, 10, .inl g1)), (f2, .inl (z2, 10, .inl g2)), (f3, .inl (z3, 10, .inl g3)), (f4, .inl (z4, 4, .inl g4)), (hN, .inr (3, [.ref o0, .ref o1, .ref o2, .ref o3, .ref o4, .int (nI (kn1_69))])), (o0, .inl (y0, 20, .inl n0_64)), (o1, .inl (y1, 20, .inl n1_65)), (o2, .inl (y2, 20, .inl n2_66)), (o3, .inl (y3, 20, .inl n3_67)), (o4, .inl (y4, 20, .inl n4_68))] H_70 := kJoinX hP hD [7, 8, 9, 10, 11, 12] rfl hk1 hFc hB.1 ht hB.2.2 rfl [none, none, none, none, none, none, none, some 0, some 1, some 2, some 3, some 4, some 5] rfl rfl
            have hP := hPD.1
            have hD := hPD.2
            have hw_71 := hw
            refine lv_goto (tgt := 110) hx hb dX9_note_106 kc_t_106_4 ?_
            have hP9 := hP
            have hD9 := hD
            have hK9 := hK
            rw [hQ]
            exact W.iret (v := r_63) hx hb hr (fun t ht hW => ⟨⟨r_63, (n0_64, n1_65, n2_66, n3_67, n4_68, kn1_69), rfl, ⟨by (have k9 : ¬ kNoteK 0 p3 p4 = 0 := by first | (simp [kNoteK, kIn_m1, ff_5, ff_10, ff_52, ff_60]; done) | (simp [kNoteK, ff_5, ff_10, ff_52, ff_60, kHouseY ff_60]; done)); unfold kNoteA; rw [if_neg ff_5, if_neg ff_10, if_neg k9]; exact hw_71.1, by (have k9 : ¬ kNoteK 0 p3 p4 = 0 := by first | (simp [kNoteK, kIn_m1, ff_5, ff_10, ff_52, ff_60]; done) | (simp [kNoteK, ff_5, ff_10, ff_52, ff_60, kHouseY ff_60]; done)); unfold kNoteN; rw [if_neg ff_5, if_neg ff_10, if_neg k9]; exact hw_71.2⟩,  by rw [ht]; exact hP9, va_K.moved hW.alike hK9, hD9⟩, hS.F ht⟩) hS.2.2 dX9_note_110
    · have ff_72 := kZr hw_8 c_9
      refine lv_iconst (v := (-1)) hx hb dX9_note_21 kc_i_m1 ?_
      have hP9 := hP
      have hD9 := hD
      have hK9 := hK
      rw [hQ]
      exact W.iret (v := (-1)) hx hb hr (fun t ht hW => ⟨⟨(-1), (q0, q1, q2, q3, q4, kn), rfl, ⟨by first | (simp [kNoteA, kNoteK, kIn_m1, ff_5, ff_72]; done), by first | (simp [kNoteN, kNoteK, kIn_m1, ff_5, ff_72]; done)⟩,  by rw [ht]; exact hP9, va_K.moved hW.alike hK9, hD9⟩, hS.F ht⟩) hS.2.2 dX9_note_22

theorem dX9_act_0 : decode cX9_act 0 = .ok (.aload_n 0, 1) := kDs0 kf_42 (by decide +kernel)
theorem dX9_act_1 : decode cX9_act 1 = .ok (.getfield 47, 3) := kDs2 kf_180 (by decide +kernel)
theorem dX9_act_4 : decode cX9_act 4 = .ok (.iload_n 1, 1) := kDs0 kf_27 (by decide +kernel)
theorem dX9_act_5 : decode cX9_act 5 = .ok (.invokevirtual 128, 3) := kDs2 kf_182 (by decide +kernel)
theorem dX9_act_8 : decode cX9_act 8 = .ok (.ifCond .eq 25, 3) := kDs4 kf_153 (by decide +kernel)
theorem dX9_act_33 : decode cX9_act 33 = .ok (.iconst (-1), 1) := kDs0 kf_2 (by decide +kernel)
theorem dX9_act_34 : decode cX9_act 34 = .ok (.ireturn, 1) := kDs0 kf_172 (by decide +kernel)
theorem dX9_act_11 : decode cX9_act 11 = .ok (.aload_n 0, 1) := kDs0 kf_42 (by decide +kernel)
theorem dX9_act_12 : decode cX9_act 12 = .ok (.getfield 47, 3) := kDs2 kf_180 (by decide +kernel)
theorem dX9_act_15 : decode cX9_act 15 = .ok (.iload_n 1, 1) := kDs0 kf_27 (by decide +kernel)
theorem dX9_act_16 : decode cX9_act 16 = .ok (.invokevirtual 182, 3) := kDs2 kf_182 (by decide +kernel)
theorem dX9_act_19 : decode cX9_act 19 = .ok (.ifCond .ne 14, 3) := kDs4 kf_154 (by decide +kernel)
theorem dX9_act_22 : decode cX9_act 22 = .ok (.iload 4, 2) := kDs1 kf_21 (by decide +kernel)
theorem dX9_act_24 : decode cX9_act 24 = .ok (.iconst 1, 1) := kDs0 kf_4 (by decide +kernel)
theorem dX9_act_25 : decode cX9_act 25 = .ok (.bipush 50, 2) := kDs3 kf_16 (by decide +kernel)
theorem dX9_act_27 : decode cX9_act 27 = .ok (.invokestatic 117, 3) := kDs2 kf_184 (by decide +kernel)
theorem dX9_act_30 : decode cX9_act 30 = .ok (.ifCond .ne 5, 3) := kDs4 kf_154 (by decide +kernel)
theorem dX9_act_35 : decode cX9_act 35 = .ok (.iload_n 2, 1) := kDs0 kf_28 (by decide +kernel)
theorem dX9_act_36 : decode cX9_act 36 = .ok (.ifCond .ne 17, 3) := kDs4 kf_154 (by decide +kernel)
theorem dX9_act_53 : decode cX9_act 53 = .ok (.iconst 0, 1) := kDs0 kf_3 (by decide +kernel)
theorem dX9_act_54 : decode cX9_act 54 = .ok (.istore 5, 2) := kDs1 kf_54 (by decide +kernel)
theorem dX9_act_56 : decode cX9_act 56 = .ok (.iload_n 2, 1) := kDs0 kf_28 (by decide +kernel)
theorem dX9_act_57 : decode cX9_act 57 = .ok (.iconst 1, 1) := kDs0 kf_4 (by decide +kernel)
theorem dX9_act_58 : decode cX9_act 58 = .ok (.if_icmp .ne 14, 3) := kDs4 kf_160 (by decide +kernel)
theorem dX9_act_72 : decode cX9_act 72 = .ok (.iconst 0, 1) := kDs0 kf_3 (by decide +kernel)
theorem dX9_act_73 : decode cX9_act 73 = .ok (.istore 6, 2) := kDs1 kf_54 (by decide +kernel)
theorem dX9_act_75 : decode cX9_act 75 = .ok (.iload_n 2, 1) := kDs0 kf_28 (by decide +kernel)
theorem dX9_act_76 : decode cX9_act 76 = .ok (.iconst 2, 1) := kDs0 kf_5 (by decide +kernel)
theorem dX9_act_77 : decode cX9_act 77 = .ok (.if_icmp .ne 23, 3) := kDs4 kf_160 (by decide +kernel)
theorem dX9_act_100 : decode cX9_act 100 = .ok (.iconst 0, 1) := kDs0 kf_3 (by decide +kernel)
theorem dX9_act_101 : decode cX9_act 101 = .ok (.istore 7, 2) := kDs1 kf_54 (by decide +kernel)
theorem dX9_act_103 : decode cX9_act 103 = .ok (.iload 5, 2) := kDs1 kf_21 (by decide +kernel)
theorem dX9_act_105 : decode cX9_act 105 = .ok (.ifCond .ne 13, 3) := kDs4 kf_154 (by decide +kernel)
theorem dX9_act_108 : decode cX9_act 108 = .ok (.iload 6, 2) := kDs1 kf_21 (by decide +kernel)
theorem dX9_act_110 : decode cX9_act 110 = .ok (.ifCond .ne 8, 3) := kDs4 kf_154 (by decide +kernel)
theorem dX9_act_113 : decode cX9_act 113 = .ok (.iload 7, 2) := kDs1 kf_21 (by decide +kernel)
theorem dX9_act_115 : decode cX9_act 115 = .ok (.ifCond .eq 18, 3) := kDs4 kf_153 (by decide +kernel)
theorem dX9_act_133 : decode cX9_act 133 = .ok (.iconst (-1), 1) := kDs0 kf_2 (by decide +kernel)
theorem dX9_act_134 : decode cX9_act 134 = .ok (.ireturn, 1) := kDs0 kf_172 (by decide +kernel)
theorem dX9_act_80 : decode cX9_act 80 = .ok (.aload_n 0, 1) := kDs0 kf_42 (by decide +kernel)
theorem dX9_act_81 : decode cX9_act 81 = .ok (.getfield 47, 3) := kDs2 kf_180 (by decide +kernel)
theorem dX9_act_84 : decode cX9_act 84 = .ok (.iload_n 3, 1) := kDs0 kf_29 (by decide +kernel)
theorem dX9_act_85 : decode cX9_act 85 = .ok (.invokevirtual 128, 3) := kDs2 kf_182 (by decide +kernel)
theorem dX9_act_88 : decode cX9_act 88 = .ok (.ifCond .eq 12, 3) := kDs4 kf_153 (by decide +kernel)
theorem dX9_act_91 : decode cX9_act 91 = .ok (.iload_n 3, 1) := kDs0 kf_29 (by decide +kernel)
theorem dX9_act_92 : decode cX9_act 92 = .ok (.iload_n 1, 1) := kDs0 kf_27 (by decide +kernel)
theorem dX9_act_93 : decode cX9_act 93 = .ok (.if_icmp .eq 7, 3) := kDs4 kf_159 (by decide +kernel)
theorem dX9_act_96 : decode cX9_act 96 = .ok (.iconst 1, 1) := kDs0 kf_4 (by decide +kernel)
theorem dX9_act_97 : decode cX9_act 97 = .ok (.goto 4, 3) := kDs4 kf_167 (by decide +kernel)
theorem dX9_act_118 : decode cX9_act 118 = .ok (.aload_n 0, 1) := kDs0 kf_42 (by decide +kernel)
theorem dX9_act_119 : decode cX9_act 119 = .ok (.getfield 70, 3) := kDs2 kf_180 (by decide +kernel)
theorem dX9_act_122 : decode cX9_act 122 = .ok (.iload_n 1, 1) := kDs0 kf_27 (by decide +kernel)
theorem dX9_act_123 : decode cX9_act 123 = .ok (.iload_n 2, 1) := kDs0 kf_28 (by decide +kernel)
theorem dX9_act_124 : decode cX9_act 124 = .ok (.iload_n 3, 1) := kDs0 kf_29 (by decide +kernel)
theorem dX9_act_125 : decode cX9_act 125 = .ok (.iload 4, 2) := kDs1 kf_21 (by decide +kernel)
theorem dX9_act_127 : decode cX9_act 127 = .ok (.invokevirtual 239, 3) := kDs2 kf_182 (by decide +kernel)
theorem dX9_act_130 : decode cX9_act 130 = .ok (.goto 4, 3) := kDs4 kf_167 (by decide +kernel)
theorem dX9_act_61 : decode cX9_act 61 = .ok (.iload_n 3, 1) := kDs0 kf_29 (by decide +kernel)
theorem dX9_act_62 : decode cX9_act 62 = .ok (.invokestatic 121, 3) := kDs2 kf_184 (by decide +kernel)
theorem dX9_act_65 : decode cX9_act 65 = .ok (.ifCond .eq 7, 3) := kDs4 kf_153 (by decide +kernel)
theorem dX9_act_68 : decode cX9_act 68 = .ok (.iconst 1, 1) := kDs0 kf_4 (by decide +kernel)
theorem dX9_act_69 : decode cX9_act 69 = .ok (.goto 4, 3) := kDs4 kf_167 (by decide +kernel)
theorem dX9_act_39 : decode cX9_act 39 = .ok (.iload_n 3, 1) := kDs0 kf_29 (by decide +kernel)
theorem dX9_act_40 : decode cX9_act 40 = .ok (.iconst 0, 1) := kDs0 kf_3 (by decide +kernel)
theorem dX9_act_41 : decode cX9_act 41 = .ok (.bipush 99, 2) := kDs3 kf_16 (by decide +kernel)
theorem dX9_act_43 : decode cX9_act 43 = .ok (.invokestatic 117, 3) := kDs2 kf_184 (by decide +kernel)
theorem dX9_act_46 : decode cX9_act 46 = .ok (.ifCond .eq 7, 3) := kDs4 kf_153 (by decide +kernel)
theorem dX9_act_49 : decode cX9_act 49 = .ok (.iconst 1, 1) := kDs0 kf_4 (by decide +kernel)
theorem dX9_act_50 : decode cX9_act 50 = .ok (.goto 4, 3) := kDs4 kf_167 (by decide +kernel)
def w_s_act9 : List Cond := .code yX9_act cX9_act 8 (some .int) :: ([.fieldLink RX9 47 "NotEnded" "folk" "LNotEnded$Folk;", .initialized RX2, .selects RX2 yX2_has yX2_has, .instanceMethod yX2_has, .methodLink RX9 128 yX2_has, .selects RX2 yX2_isSent yX2_isSent, .instanceMethod yX2_isSent, .methodLink RX9 182 yX2_isSent, .initialized RX9, .static yX9_isIn, .methodLink RX9 117 yX9_isIn, .fieldLink RX9 70 "NotEnded" "acts" "LNotEnded$Acts;", .initialized RX0, .selects RX0 yX0_add yX0_add, .instanceMethod yX0_add, .methodLink RX9 239 yX0_add, .static yX9_isHouse, .methodLink RX9 121 yX9_isHouse] ++ (wsX90 ++ (w_s_has2x ++ (w_s_isSent2x ++ (w_s_isIn9 ++ (w_s_add0x ++ (w_s_isHouse9x)))))))
theorem gw_s_act9 : (w_s_act9).all goodWord = true := kGc rfl (kGa (by decide +kernel) (kGa gw_wsX90 (kGa gw_s_has2x (kGa gw_s_isSent2x (kGa gw_s_isIn9 (kGa gw_s_add0x gw_s_isHouse9x))))))
theorem hd_X9_act : yX9_act.cls ≠ "java/lang/invoke/MethodHandle" ∧ yX9_act.cls ≠ "java/lang/invoke/VarHandle" ∧ (parseMethodDescriptor yX9_act.desc).map (fun d => d.parameters.length) = some 4 := by decide +kernel
set_option maxHeartbeats 4000000 in
set_option maxRecDepth 100000 in
theorem s_act9 (l : Launch) (dC : Nat → ClassId) (dI : Nat → Nat → Nat) (jX : Nat) (jT : Nat) (jR : Nat) (jL : Nat) (jU : Nat) (hN : Nat) (jA : Nat) (sd : Nat) (hF : Nat) (jC : Nat) (jK : Nat) (f0 : Nat) (f1 : Nat) (f2 : Nat) (f3 : Nat) (f4 : Nat) (z0 : ClassId) (z1 : ClassId) (z2 : ClassId) (z3 : ClassId) (z4 : ClassId) (g0 : Nat → Int32) (g1 : Nat → Int32) (g2 : Nat → Int32) (g3 : Nat → Int32) (g4 : Nat → Int32) (ks : Nat) (kw : Nat) (hks : ks ≤ 10) (hkw : kw ≤ 4) (sv : Nat) (hsv : sv < 1024) (i0 : Nat) (i1 : Nat) (i2 : Nat) (i3 : Nat) (x0 : ClassId) (x1 : ClassId) (x2 : ClassId) (x3 : ClassId) (t0 : Nat → Int32) (t1 : Nat → Int32) (t2 : Nat → Int32) (t3 : Nat → Int32) (ka : Nat) (hka : ka ≤ 6) (p0 : Int32) (p1 : Int32) (p2 : Int32) (p3 : Int32) (sz : Nat) : Met l yX9_act w_s_act9 ({ frames := 4, cells := 0, slots := 0, locals := 240 }) (kW dC dI [.ref jX, .int p0, .int p1, .int p2, .int p3] [(jX, .inr (9, [.ref jT, .ref jR, .ref jK, .ref jL, .ref jU, .ref hF, .ref jC, .ref hN, .ref jA, .ref sd])), (hF, .inr (2, [.ref f0, .ref f1, .ref f2, .ref f3, .ref f4, .int (nI (sv)), .int (nI (ks)), .int (nI (kw))])), (f0, .inl (z0, 10, .inl g0)), (f1, .inl (z1, 10, .inl g1)), (f2, .inl (z2, 10, .inl g2)), (f3, .inl (z3, 10, .inl g3)), (f4, .inl (z4, 4, .inl g4)), (jA, .inr (0, [.ref i0, .ref i1, .ref i2, .ref i3, .int (nI (ka))])), (i0, .inl (x0, 6, .inl t0)), (i1, .inl (x1, 6, .inl t1)), (i2, .inl (x2, 6, .inl t2)), (i3, .inl (x3, 6, .inl t3))] [(z0, .int), (z1, .int), (z2, .int), (z3, .int), (z4, .int), (x0, .int), (x1, .int), (x2, .int), (x3, .int)] kNL sz) (va_Qi (fun (r : Int32) (u : (Nat → Int32) × (Nat → Int32) × (Nat → Int32) × (Nat → Int32) × Nat) => match u with | (n0, n1, n2, n3, ka1) => (r = kActA p0 p1 p2 p3 ks (kIsB (nI sv) p0) ka ∧ ka1 = kActN p0 p1 p2 p3 ks (kIsB (nI sv) p0) ka)) (fun (u : (Nat → Int32) × (Nat → Int32) × (Nat → Int32) × (Nat → Int32) × Nat) => match u with | (n0, n1, n2, n3, ka1) => fun t : State => kB dC dI [(jX, .inr (9, [.ref jT, .ref jR, .ref jK, .ref jL, .ref jU, .ref hF, .ref jC, .ref hN, .ref jA, .ref sd])), (hF, .inr (2, [.ref f0, .ref f1, .ref f2, .ref f3, .ref f4, .int (nI (sv)), .int (nI (ks)), .int (nI (kw))])), (f0, .inl (z0, 10, .inl g0)), (f1, .inl (z1, 10, .inl g1)), (f2, .inl (z2, 10, .inl g2)), (f3, .inl (z3, 10, .inl g3)), (f4, .inl (z4, 4, .inl g4)), (jA, .inr (0, [.ref i0, .ref i1, .ref i2, .ref i3, .int (nI (ka1))])), (i0, .inl (x0, 6, .inl n0)), (i1, .inl (x1, 6, .inl n1)), (i2, .inl (x2, 6, .inl n2)), (i3, .inl (x3, 6, .inl n3))] [(z0, .int), (z1, .int), (z2, .int), (z3, .int), (z4, .int), (x0, .int), (x1, .int), (x2, .int), (x3, .int)] (va_A [(jX, .inr (9, [.ref jT, .ref jR, .ref jK, .ref jL, .ref jU, .ref hF, .ref jC, .ref hN, .ref jA, .ref sd])), (hF, .inr (2, [.ref f0, .ref f1, .ref f2, .ref f3, .ref f4, .int (nI (sv)), .int (nI (ks)), .int (nI (kw))])), (f0, .inl (z0, 10, .inl g0)), (f1, .inl (z1, 10, .inl g1)), (f2, .inl (z2, 10, .inl g2)), (f3, .inl (z3, 10, .inl g3)), (f4, .inl (z4, 4, .inl g4)), (jA, .inr (0, [.ref i0, .ref i1, .ref i2, .ref i3, .int (nI (ka))])), (i0, .inl (x0, 6, .inl t0)), (i1, .inl (x1, 6, .inl t1)), (i2, .inl (x2, 6, .inl t2)), (i3, .inl (x3, 6, .inl t3))] sz) t) (va_A [(jX, .inr (9, [.ref jT, .ref jR, .ref jK, .ref jL, .ref jU, .ref hF, .ref jC, .ref hN, .ref jA, .ref sd])), (hF, .inr (2, [.ref f0, .ref f1, .ref f2, .ref f3, .ref f4, .int (nI (sv)), .int (nI (ks)), .int (nI (kw))])), (f0, .inl (z0, 10, .inl g0)), (f1, .inl (z1, 10, .inl g1)), (f2, .inl (z2, 10, .inl g2)), (f3, .inl (z3, 10, .inl g3)), (f4, .inl (z4, 4, .inl g4)), (jA, .inr (0, [.ref i0, .ref i1, .ref i2, .ref i3, .int (nI (ka))])), (i0, .inl (x0, 6, .inl t0)), (i1, .inl (x1, 6, .inl t1)), (i2, .inl (x2, 6, .inl t2)), (i3, .inl (x3, 6, .inl t3))] sz)) 0 0 (va_A [(jX, .inr (9, [.ref jT, .ref jR, .ref jK, .ref jL, .ref jU, .ref hF, .ref jC, .ref hN, .ref jA, .ref sd])), (hF, .inr (2, [.ref f0, .ref f1, .ref f2, .ref f3, .ref f4, .int (nI (sv)), .int (nI (ks)), .int (nI (kw))])), (f0, .inl (z0, 10, .inl g0)), (f1, .inl (z1, 10, .inl g1)), (f2, .inl (z2, 10, .inl g2)), (f3, .inl (z3, 10, .inl g3)), (f4, .inl (z4, 4, .inl g4)), (jA, .inr (0, [.ref i0, .ref i1, .ref i2, .ref i3, .int (nI (ka))])), (i0, .inl (x0, 6, .inl t0)), (i1, .inl (x1, 6, .inl t1)), (i2, .inl (x2, 6, .inl t2)), (i3, .inl (x3, 6, .inl t3))] sz) := by
  refine Met.ofW (cc := cX9_act) (maxL := 8) (ret := (some .int)) (by decide) rfl ?_
  intro p e s m args below meth c s₁ B hml hv
  obtain ⟨rfl, hsz, hP, hK, hD0, hX⟩ := hv
  have hx := B.exec
  have hb := B.bytes
  have hr := B.returns
  have hts := atoms_spec (ws := w_s_act9) B.pre
  have hown : s.vm.findClass RX9 = some m.cls := findClass_of_methodNamed B.named
  have hlocks := B.notSynchronized
  subst hsz
  have hD := hD0.self (sz := s.heap.size)
  generalize hAe : va_A [(jX, .inr (9, [.ref jT, .ref jR, .ref jK, .ref jL, .ref jU, .ref hF, .ref jC, .ref hN, .ref jA, .ref sd])), (hF, .inr (2, [.ref f0, .ref f1, .ref f2, .ref f3, .ref f4, .int (nI (sv)), .int (nI (ks)), .int (nI (kw))])), (f0, .inl (z0, 10, .inl g0)), (f1, .inl (z1, 10, .inl g1)), (f2, .inl (z2, 10, .inl g2)), (f3, .inl (z3, 10, .inl g3)), (f4, .inl (z4, 4, .inl g4)), (jA, .inr (0, [.ref i0, .ref i1, .ref i2, .ref i3, .int (nI (ka))])), (i0, .inl (x0, 6, .inl t0)), (i1, .inl (x1, 6, .inl t1)), (i2, .inl (x2, 6, .inl t2)), (i3, .inl (x3, 6, .inl t3))] s.heap.size = A at hD ⊢
  have hA : ∀ q : Nat, s.heap.size ≤ q → A q := fun q h => by rw [← hAe]; exact Or.inr h
  have hS : va_S A s.heap s.heap [] := va_S.rf
  have hP : va_P (dC, dI) vwCl [(jX, .inr (9, [.ref jT, .ref jR, .ref jK, .ref jL, .ref jU, .ref hF, .ref jC, .ref hN, .ref jA, .ref sd])), (hF, .inr (2, [.ref f0, .ref f1, .ref f2, .ref f3, .ref f4, .int (nI (sv)), .int (nI (ks)), .int (nI (kw))])), (f0, .inl (z0, 10, .inl g0)), (f1, .inl (z1, 10, .inl g1)), (f2, .inl (z2, 10, .inl g2)), (f3, .inl (z3, 10, .inl g3)), (f4, .inl (z4, 4, .inl g4)), (jA, .inr (0, [.ref i0, .ref i1, .ref i2, .ref i3, .int (nI (ka))])), (i0, .inl (x0, 6, .inl t0)), (i1, .inl (x1, 6, .inl t1)), (i2, .inl (x2, 6, .inl t2)), (i3, .inl (x3, 6, .inl t3))] s.heap := hP
  have hl := lv_entry ([.ref jX, .int p0, .int p1, .int p2, .int p3]) (n := 8) (Nat.le_of_ble_eq_true rfl)
  rw [lg_entry_eq]
  generalize (lg_sl ([.ref jX, .int p0, .int p1, .int p2, .int p3]) ++ List.replicate (8 - (lg_sl ([.ref jX, .int p0, .int p1, .int p2, .int p3])).length) Slot.unset).toArray = ls at hl ⊢
  have hl : lv_has ls 8 [(0, .ref jX), (1, .int p0), (2, .int p1), (3, .int p2), (4, .int p3)] := hl
  refine kQ (fun Q hQ => ?_)
  refine lv_aload_n hx hb dX9_act_0 rfl (lv_at hl 0 rfl) ?_
  refine va_get (D := (dC, dI)) (ci := 9) (v := .ref hF) (C := RX9) (T := TX9) (N := 10) hx hb hts (fun _ h => List.mem_cons_of_mem _ (List.mem_append_right _ (List.mem_append_left _ h))) hown hK hP 0 rfl rfl 5 kc_l_5_10 (hts (.fieldLink RX9 47 "NotEnded" "folk" "LNotEnded$Folk;") (List.mem_cons_of_mem _ (List.mem_append_left _ (List.mem_of_getElem? (i := 0) rfl)))) (fun _ h9 => h9) rfl dX9_act_1 ?_
  refine lv_iload_n hx hb dX9_act_4 rfl (lv_at hl 1 rfl) ?_
  have hPc := hP.sb (ws2 := [(hF, .inr (2, [.ref f0, .ref f1, .ref f2, .ref f3, .ref f4, .int (nI (sv)), .int (nI (ks)), .int (nI (kw))])), (f0, .inl (z0, 10, .inl g0)), (f1, .inl (z1, 10, .inl g1)), (f2, .inl (z2, 10, .inl g2)), (f3, .inl (z3, 10, .inl g3)), (f4, .inl (z4, 4, .inl g4))]) [1, 2, 3, 4, 5, 6] rfl
  have hKc := hK.sb (tys2 := [(z0, .int), (z1, .int), (z2, .int), (z3, .int), (z4, .int)]) [0, 1, 2, 3, 4] rfl
  refine vp_callSi (va_runV (As := [.int p0]) (rest := []) ⟨hx, hb, hml, hown, hts⟩ (s_has2x l dC dI hF f0 f1 f2 f3 f4 z0 z1 z2 z3 z4 g0 g1 g2 g3 g4 (nI (sv)) ks kw hks hkw p0) (cwV 1 hts (kG (List.forall_mem_cons.mpr ⟨(List.mem_cons_of_mem _ (List.mem_append_left _ (List.mem_of_getElem? (i := 4) rfl))), (List.forall_mem_cons.mpr ⟨(List.mem_cons_of_mem _ (List.mem_append_left _ (List.mem_of_getElem? (i := 3) rfl))), (List.forall_mem_cons.mpr ⟨(List.mem_cons_of_mem _ (List.mem_append_left _ (List.mem_of_getElem? (i := 2) rfl))), (List.forall_mem_cons.mpr ⟨(List.mem_cons_of_mem _ (List.mem_append_left _ (List.mem_of_getElem? (i := 1) rfl))), (fun _ h => absurd h List.not_mem_nil)⟩)⟩)⟩)⟩) (kGV _ _ _ _) (fun _ h => List.mem_cons_of_mem _ (List.mem_append_right _ (List.mem_append_right _ (List.mem_append_left _ h)))) gw_s_has2x) rfl rfl rfl ⟨rfl, hd_X2_has⟩ ⟨(Nat.le_of_ble_eq_true rfl), (Nat.le_of_ble_eq_true rfl)⟩) (kR_V kT_blind kT_give (va_recv hKc hPc (ci := 2) (q0 := 0) rfl rfl) hPc hKc) rfl rfl hl.1 rfl (lv_room (Nat.le_of_ble_eq_true rfl)) dX9_act_5 ⟨(Nat.le_of_ble_eq_true rfl), (Nat.le_of_ble_eq_true rfl)⟩).run (fun r_1 hw => ?_)
  obtain ⟨hw_2, hw_2_x⟩ := hw
  refine lv_if_eq (tgt := 33) hx hb dX9_act_8 kc_t_8_25 (fun c_3 => ?_) (fun c_3 => ?_)
  · have ff_4 := kZr hw_2_x c_3
    refine lv_iconst (v := (-1)) hx hb dX9_act_33 kc_i_m1 ?_
    have hP9 := hP
    have hD9 := hD
    have hK9 := hK
    rw [hQ]
    exact W.iret (v := (-1)) hx hb hr (fun t ht hW => ⟨⟨(-1), (t0, t1, t2, t3, ka), rfl, ⟨by simp [kActA, kActK, ff_4], by simp [kActN, kActK, ff_4]⟩,  by rw [ht]; exact hP9, va_K.moved hW.alike hK9, hD9⟩, hS.F ht⟩) hS.2.2 dX9_act_34
  · have ff_5 := kNzr hw_2_x c_3
    obtain ⟨j_6, hj_6, ej_6⟩ := hw_2 c_3
    subst ej_6
    refine lv_aload_n hx hb dX9_act_11 rfl (lv_at hl 0 rfl) ?_
    refine va_get (D := (dC, dI)) (ci := 9) (v := .ref hF) (C := RX9) (T := TX9) (N := 10) hx hb hts (fun _ h => List.mem_cons_of_mem _ (List.mem_append_right _ (List.mem_append_left _ h))) hown hK hP 0 rfl rfl 5 kc_l_5_10 (hts (.fieldLink RX9 47 "NotEnded" "folk" "LNotEnded$Folk;") (List.mem_cons_of_mem _ (List.mem_append_left _ (List.mem_of_getElem? (i := 0) rfl)))) (fun _ h9 => h9) rfl dX9_act_12 ?_
    refine lv_iload_n hx hb dX9_act_15 rfl (lv_at hl 1 rfl) ?_
    have hPc := hP.sb (ws2 := [(hF, .inr (2, [.ref f0, .ref f1, .ref f2, .ref f3, .ref f4, .int (nI (sv)), .int (nI (ks)), .int (nI (kw))])), (f0, .inl (z0, 10, .inl g0)), (f1, .inl (z1, 10, .inl g1)), (f2, .inl (z2, 10, .inl g2)), (f3, .inl (z3, 10, .inl g3)), (f4, .inl (z4, 4, .inl g4))]) [1, 2, 3, 4, 5, 6] rfl
    have hKc := hK.sb (tys2 := [(z0, .int), (z1, .int), (z2, .int), (z3, .int), (z4, .int)]) [0, 1, 2, 3, 4] rfl
    refine vp_callSi (va_runV (As := [.int (nI (j_6))]) (rest := []) ⟨hx, hb, hml, hown, hts⟩ (s_isSent2x l dC dI hF f0 f1 f2 f3 f4 z0 z1 z2 z3 z4 g0 g1 g2 g3 g4 ks kw hks hkw sv hsv (nI (j_6))) (cwV 1 hts (kG (List.forall_mem_cons.mpr ⟨(List.mem_cons_of_mem _ (List.mem_append_left _ (List.mem_of_getElem? (i := 7) rfl))), (List.forall_mem_cons.mpr ⟨(List.mem_cons_of_mem _ (List.mem_append_left _ (List.mem_of_getElem? (i := 6) rfl))), (List.forall_mem_cons.mpr ⟨(List.mem_cons_of_mem _ (List.mem_append_left _ (List.mem_of_getElem? (i := 5) rfl))), (List.forall_mem_cons.mpr ⟨(List.mem_cons_of_mem _ (List.mem_append_left _ (List.mem_of_getElem? (i := 1) rfl))), (fun _ h => absurd h List.not_mem_nil)⟩)⟩)⟩)⟩) (kGV _ _ _ _) (fun _ h => List.mem_cons_of_mem _ (List.mem_append_right _ (List.mem_append_right _ (List.mem_append_right _ (List.mem_append_left _ h))))) gw_s_isSent2x) rfl rfl rfl ⟨rfl, hd_X2_isSent⟩ ⟨(Nat.le_of_ble_eq_true rfl), (Nat.le_of_ble_eq_true rfl)⟩) (kR_V kNL_blind (kNL_give hX) (va_recv hKc hPc (ci := 2) (q0 := 0) rfl rfl) hPc hKc) rfl rfl hl.1 rfl (lv_room (Nat.le_of_ble_eq_true rfl)) dX9_act_16 ⟨(Nat.le_of_ble_eq_true rfl), (Nat.le_of_ble_eq_true rfl)⟩).run (fun r_7 hw => ?_)
    have hw_8 := hw
    refine lv_if_ne (tgt := 33) hx hb dX9_act_19 kc_t_19_14 (fun c_9 => ?_) (fun c_9 => ?_)
    · have ff_10 := kNzr hw_8 c_9
      refine lv_iconst (v := (-1)) hx hb dX9_act_33 kc_i_m1 ?_
      have hP9 := hP
      have hD9 := hD
      have hK9 := hK
      rw [hQ]
      exact W.iret (v := (-1)) hx hb hr (fun t ht hW => ⟨⟨(-1), (t0, t1, t2, t3, ka), rfl, ⟨by simp [kActA, kActK, ff_5, ff_10], by simp [kActN, kActK, ff_5, ff_10]⟩,  by rw [ht]; exact hP9, va_K.moved hW.alike hK9, hD9⟩, hS.F ht⟩) hS.2.2 dX9_act_34
    · have ff_11 := kZr hw_8 c_9
      refine lv_iload hx hb dX9_act_22 (lv_at hl 4 rfl) ?_
      refine lv_iconst (v := 1) hx hb dX9_act_24 kc_i_1 ?_
      refine lv_bipush (v := 50) hx hb dX9_act_25 kc_b_50 ?_
      have hPc := hP.sb (ws2 := []) [] rfl
      have hKc := hK.sb (tys2 := []) [] rfl
      refine vp_callSi (va_runS (As := [.int p3, .int 1, .int 50]) (rest := []) ⟨hx, hb, hml, hown, hts⟩ (s_isIn9 l dC dI p3 1 50) (va_cwS 3 hts (kG (List.forall_mem_cons.mpr ⟨(List.mem_cons_of_mem _ (List.mem_append_left _ (List.mem_of_getElem? (i := 10) rfl))), (List.forall_mem_cons.mpr ⟨(List.mem_cons_of_mem _ (List.mem_append_left _ (List.mem_of_getElem? (i := 9) rfl))), (List.forall_mem_cons.mpr ⟨(List.mem_cons_of_mem _ (List.mem_append_left _ (List.mem_of_getElem? (i := 8) rfl))), (fun _ h => absurd h List.not_mem_nil)⟩)⟩)⟩) (kGS _ _ _) (fun _ h => List.mem_cons_of_mem _ (List.mem_append_right _ (List.mem_append_right _ (List.mem_append_right _ (List.mem_append_right _ (List.mem_append_left _ h)))))) gw_s_isIn9) rfl rfl rfl hd_X9_isIn ⟨(Nat.le_of_ble_eq_true rfl), (Nat.le_of_ble_eq_true rfl)⟩) (kR_S kT_blind kT_give hPc hKc) rfl rfl hl.1 rfl (lv_room (Nat.le_of_ble_eq_true rfl)) dX9_act_27 ⟨(Nat.le_of_ble_eq_true rfl), (Nat.le_of_ble_eq_true rfl)⟩).run (fun r_12 hw => ?_)
      have hw_13 := hw
      refine lv_if_ne (tgt := 35) hx hb dX9_act_30 kc_t_30_5 (fun c_14 => ?_) (fun c_14 => ?_)
      · have ff_15 := kNzr hw_13 c_14
        refine lv_iload_n hx hb dX9_act_35 rfl (lv_at hl 2 rfl) ?_
        refine lv_if_ne (tgt := 53) hx hb dX9_act_36 kc_t_36_17 (fun c_16 => ?_) (fun c_16 => ?_)
        · refine lv_iconst (v := 0) hx hb dX9_act_53 kc_i_0 ?_
          refine lv_istore hx hb dX9_act_54 hl kc_l_5_8 (kTo [(5, .int 0), (0, .ref jX), (1, .int (nI (j_6))), (2, .int p1), (3, .int p2), (4, .int p3)]) (fun ls hl => ?_)
          refine lv_iload_n hx hb dX9_act_56 rfl (lv_at hl 3 rfl) ?_
          refine lv_iconst (v := 1) hx hb dX9_act_57 kc_i_1 ?_
          refine lv_icmp_ne (tgt := 72) hx hb dX9_act_58 kc_t_58_14 (fun c_17 => ?_) (fun c_17 => ?_)
          · refine lv_iconst (v := 0) hx hb dX9_act_72 kc_i_0 ?_
            refine lv_istore hx hb dX9_act_73 hl kc_l_6_8 (kTo [(6, .int 0), (5, .int 0), (0, .ref jX), (1, .int (nI (j_6))), (2, .int p1), (3, .int p2), (4, .int p3)]) (fun ls hl => ?_)
            refine lv_iload_n hx hb dX9_act_75 rfl (lv_at hl 4 rfl) ?_
            refine lv_iconst (v := 2) hx hb dX9_act_76 kc_i_2 ?_
            refine lv_icmp_ne (tgt := 100) hx hb dX9_act_77 kc_t_77_23 (fun c_18 => ?_) (fun c_18 => ?_)
            · refine lv_iconst (v := 0) hx hb dX9_act_100 kc_i_0 ?_
              refine lv_istore hx hb dX9_act_101 hl kc_l_7_8 (kTo [(7, .int 0), (6, .int 0), (5, .int 0), (0, .ref jX), (1, .int (nI (j_6))), (2, .int p1), (3, .int p2), (4, .int p3)]) (fun ls hl => ?_)
              refine lv_iload hx hb dX9_act_103 (lv_at hl 2 rfl) ?_
              refine lv_if_ne (tgt := 118) hx hb dX9_act_105 kc_t_105_13 (fun c_19 => absurd (by decide) c_19) (fun c_19 => ?_)
              refine lv_iload hx hb dX9_act_108 (lv_at hl 1 rfl) ?_
              refine lv_if_ne (tgt := 118) hx hb dX9_act_110 kc_t_110_8 (fun c_20 => absurd (by decide) c_20) (fun c_20 => ?_)
              refine lv_iload hx hb dX9_act_113 (lv_at hl 0 rfl) ?_
              refine lv_if_eq (tgt := 133) hx hb dX9_act_115 kc_t_115_18 (fun c_21 => ?_) (fun c_21 => absurd (by decide) c_21)
              refine lv_iconst (v := (-1)) hx hb dX9_act_133 kc_i_m1 ?_
              have hP9 := hP
              have hD9 := hD
              have hK9 := hK
              rw [hQ]
              exact W.iret (v := (-1)) hx hb hr (fun t ht hW => ⟨⟨(-1), (t0, t1, t2, t3, ka), rfl, ⟨by simp [kActA, kActK, ff_5, ff_11, ff_15, c_16, c_17, c_18], by simp [kActN, kActK, ff_5, ff_11, ff_15, c_16, c_17, c_18]⟩,  by rw [ht]; exact hP9, va_K.moved hW.alike hK9, hD9⟩, hS.F ht⟩) hS.2.2 dX9_act_134
            · subst c_18
              refine lv_aload_n hx hb dX9_act_80 rfl (lv_at hl 2 rfl) ?_
              refine va_get (D := (dC, dI)) (ci := 9) (v := .ref hF) (C := RX9) (T := TX9) (N := 10) hx hb hts (fun _ h => List.mem_cons_of_mem _ (List.mem_append_right _ (List.mem_append_left _ h))) hown hK hP 0 rfl rfl 5 kc_l_5_10 (hts (.fieldLink RX9 47 "NotEnded" "folk" "LNotEnded$Folk;") (List.mem_cons_of_mem _ (List.mem_append_left _ (List.mem_of_getElem? (i := 0) rfl)))) (fun _ h9 => h9) rfl dX9_act_81 ?_
              refine lv_iload_n hx hb dX9_act_84 rfl (lv_at hl 5 rfl) ?_
              have hPc := hP.sb (ws2 := [(hF, .inr (2, [.ref f0, .ref f1, .ref f2, .ref f3, .ref f4, .int (nI (sv)), .int (nI (ks)), .int (nI (kw))])), (f0, .inl (z0, 10, .inl g0)), (f1, .inl (z1, 10, .inl g1)), (f2, .inl (z2, 10, .inl g2)), (f3, .inl (z3, 10, .inl g3)), (f4, .inl (z4, 4, .inl g4))]) [1, 2, 3, 4, 5, 6] rfl
              have hKc := hK.sb (tys2 := [(z0, .int), (z1, .int), (z2, .int), (z3, .int), (z4, .int)]) [0, 1, 2, 3, 4] rfl
              refine vp_callSi (va_runV (As := [.int p2]) (rest := []) ⟨hx, hb, hml, hown, hts⟩ (s_has2x l dC dI hF f0 f1 f2 f3 f4 z0 z1 z2 z3 z4 g0 g1 g2 g3 g4 (nI (sv)) ks kw hks hkw p2) (cwV 1 hts (kG (List.forall_mem_cons.mpr ⟨(List.mem_cons_of_mem _ (List.mem_append_left _ (List.mem_of_getElem? (i := 4) rfl))), (List.forall_mem_cons.mpr ⟨(List.mem_cons_of_mem _ (List.mem_append_left _ (List.mem_of_getElem? (i := 3) rfl))), (List.forall_mem_cons.mpr ⟨(List.mem_cons_of_mem _ (List.mem_append_left _ (List.mem_of_getElem? (i := 2) rfl))), (List.forall_mem_cons.mpr ⟨(List.mem_cons_of_mem _ (List.mem_append_left _ (List.mem_of_getElem? (i := 1) rfl))), (fun _ h => absurd h List.not_mem_nil)⟩)⟩)⟩)⟩) (kGV _ _ _ _) (fun _ h => List.mem_cons_of_mem _ (List.mem_append_right _ (List.mem_append_right _ (List.mem_append_left _ h)))) gw_s_has2x) rfl rfl rfl ⟨rfl, hd_X2_has⟩ ⟨(Nat.le_of_ble_eq_true rfl), (Nat.le_of_ble_eq_true rfl)⟩) (kR_V kT_blind kT_give (va_recv hKc hPc (ci := 2) (q0 := 0) rfl rfl) hPc hKc) rfl rfl hl.1 rfl (lv_room (Nat.le_of_ble_eq_true rfl)) dX9_act_85 ⟨(Nat.le_of_ble_eq_true rfl), (Nat.le_of_ble_eq_true rfl)⟩).run (fun r_22 hw => ?_)
              obtain ⟨hw_23, hw_23_x⟩ := hw
              refine lv_if_eq (tgt := 100) hx hb dX9_act_88 kc_t_88_12 (fun c_24 => ?_) (fun c_24 => ?_)
              · have ff_25 := kZr hw_23_x c_24
                refine lv_iconst (v := 0) hx hb dX9_act_100 kc_i_0 ?_
                refine lv_istore hx hb dX9_act_101 hl kc_l_7_8 (kTo [(7, .int 0), (6, .int 0), (5, .int 0), (0, .ref jX), (1, .int (nI (j_6))), (2, .int 2), (3, .int p2), (4, .int p3)]) (fun ls hl => ?_)
                refine lv_iload hx hb dX9_act_103 (lv_at hl 2 rfl) ?_
                refine lv_if_ne (tgt := 118) hx hb dX9_act_105 kc_t_105_13 (fun c_26 => absurd (by decide) c_26) (fun c_26 => ?_)
                refine lv_iload hx hb dX9_act_108 (lv_at hl 1 rfl) ?_
                refine lv_if_ne (tgt := 118) hx hb dX9_act_110 kc_t_110_8 (fun c_27 => absurd (by decide) c_27) (fun c_27 => ?_)
                refine lv_iload hx hb dX9_act_113 (lv_at hl 0 rfl) ?_
                refine lv_if_eq (tgt := 133) hx hb dX9_act_115 kc_t_115_18 (fun c_28 => ?_) (fun c_28 => absurd (by decide) c_28)
                refine lv_iconst (v := (-1)) hx hb dX9_act_133 kc_i_m1 ?_
                have hP9 := hP
                have hD9 := hD
                have hK9 := hK
                rw [hQ]
                exact W.iret (v := (-1)) hx hb hr (fun t ht hW => ⟨⟨(-1), (t0, t1, t2, t3, ka), rfl, ⟨by simp [kActA, kActK, ff_5, ff_11, ff_15, c_16, c_17, ff_25], by simp [kActN, kActK, ff_5, ff_11, ff_15, c_16, c_17, ff_25]⟩,  by rw [ht]; exact hP9, va_K.moved hW.alike hK9, hD9⟩, hS.F ht⟩) hS.2.2 dX9_act_134
              · have ff_29 := kNzr hw_23_x c_24
                obtain ⟨j_30, hj_30, ej_30⟩ := hw_23 c_24
                subst ej_30
                refine lv_iload_n hx hb dX9_act_91 rfl (lv_at hl 5 rfl) ?_
                refine lv_iload_n hx hb dX9_act_92 rfl (lv_at hl 3 rfl) ?_
                refine lv_icmp_eq (tgt := 100) hx hb dX9_act_93 kc_t_93_7 (fun c_31 => ?_) (fun c_31 => ?_)
                · have bd_33 : j_30 < 2147483648 := by omega
                  have bd_34 : j_6 < 2147483648 := by omega
                  have hn_32 := keq (a := j_30) (b := j_6) bd_33 bd_34 c_31
                  refine lv_iconst (v := 0) hx hb dX9_act_100 kc_i_0 ?_
                  refine lv_istore hx hb dX9_act_101 hl kc_l_7_8 (kTo [(7, .int 0), (6, .int 0), (5, .int 0), (0, .ref jX), (1, .int (nI (j_6))), (2, .int 2), (3, .int (nI (j_30))), (4, .int p3)]) (fun ls hl => ?_)
                  refine lv_iload hx hb dX9_act_103 (lv_at hl 2 rfl) ?_
                  refine lv_if_ne (tgt := 118) hx hb dX9_act_105 kc_t_105_13 (fun c_35 => absurd (by decide) c_35) (fun c_35 => ?_)
                  refine lv_iload hx hb dX9_act_108 (lv_at hl 1 rfl) ?_
                  refine lv_if_ne (tgt := 118) hx hb dX9_act_110 kc_t_110_8 (fun c_36 => absurd (by decide) c_36) (fun c_36 => ?_)
                  refine lv_iload hx hb dX9_act_113 (lv_at hl 0 rfl) ?_
                  refine lv_if_eq (tgt := 133) hx hb dX9_act_115 kc_t_115_18 (fun c_37 => ?_) (fun c_37 => absurd (by decide) c_37)
                  refine lv_iconst (v := (-1)) hx hb dX9_act_133 kc_i_m1 ?_
                  have hP9 := hP
                  have hD9 := hD
                  have hK9 := hK
                  rw [hQ]
                  exact W.iret (v := (-1)) hx hb hr (fun t ht hW => ⟨⟨(-1), (t0, t1, t2, t3, ka), rfl, ⟨by simp [kActA, kActK, ff_5, ff_11, ff_15, c_16, c_17, ff_29, hn_32, c_31], by simp [kActN, kActK, ff_5, ff_11, ff_15, c_16, c_17, ff_29, hn_32, c_31]⟩,  by rw [ht]; exact hP9, va_K.moved hW.alike hK9, hD9⟩, hS.F ht⟩) hS.2.2 dX9_act_134
                · have bd_39 : j_30 < 2147483648 := by omega
                  have bd_40 : j_6 < 2147483648 := by omega
                  have hn_38 := kneq (a := j_30) (b := j_6) bd_39 bd_40 c_31
                  refine lv_iconst (v := 1) hx hb dX9_act_96 kc_i_1 ?_
                  refine lv_goto (tgt := 101) hx hb dX9_act_97 kc_t_97_4 ?_
                  refine lv_istore hx hb dX9_act_101 hl kc_l_7_8 (kTo [(7, .int 1), (6, .int 0), (5, .int 0), (0, .ref jX), (1, .int (nI (j_6))), (2, .int 2), (3, .int (nI (j_30))), (4, .int p3)]) (fun ls hl => ?_)
                  refine lv_iload hx hb dX9_act_103 (lv_at hl 2 rfl) ?_
                  refine lv_if_ne (tgt := 118) hx hb dX9_act_105 kc_t_105_13 (fun c_41 => absurd (by decide) c_41) (fun c_41 => ?_)
                  refine lv_iload hx hb dX9_act_108 (lv_at hl 1 rfl) ?_
                  refine lv_if_ne (tgt := 118) hx hb dX9_act_110 kc_t_110_8 (fun c_42 => absurd (by decide) c_42) (fun c_42 => ?_)
                  refine lv_iload hx hb dX9_act_113 (lv_at hl 0 rfl) ?_
                  refine lv_if_eq (tgt := 133) hx hb dX9_act_115 kc_t_115_18 (fun c_43 => absurd c_43 (by decide)) (fun c_43 => ?_)
                  refine lv_aload_n hx hb dX9_act_118 rfl (lv_at hl 3 rfl) ?_
                  refine va_get (D := (dC, dI)) (ci := 9) (v := .ref jA) (C := RX9) (T := TX9) (N := 10) hx hb hts (fun _ h => List.mem_cons_of_mem _ (List.mem_append_right _ (List.mem_append_left _ h))) hown hK hP 0 rfl rfl 8 kc_l_8_10 (hts (.fieldLink RX9 70 "NotEnded" "acts" "LNotEnded$Acts;") (List.mem_cons_of_mem _ (List.mem_append_left _ (List.mem_of_getElem? (i := 11) rfl)))) (fun _ h9 => h9) rfl dX9_act_119 ?_
                  refine lv_iload_n hx hb dX9_act_122 rfl (lv_at hl 4 rfl) ?_
                  refine lv_iload_n hx hb dX9_act_123 rfl (lv_at hl 5 rfl) ?_
                  refine lv_iload_n hx hb dX9_act_124 rfl (lv_at hl 6 rfl) ?_
                  refine lv_iload hx hb dX9_act_125 (lv_at hl 7 rfl) ?_
                  have hCu := kCut (wc := [(jA, .inr (0, [.ref i0, .ref i1, .ref i2, .ref i3, .int (nI (ka))])), (i0, .inl (x0, 6, .inl t0)), (i1, .inl (x1, 6, .inl t1)), (i2, .inl (x2, 6, .inl t2)), (i3, .inl (x3, 6, .inl t3))]) hP hD hS hA [7, 8, 9, 10, 11] rfl kc_nd_559 rfl
                  have hPc := hCu.1
                  have hDc := hCu.2.1
                  have hFc := hCu.2.2
                  have hKc := hK.sb (tys2 := [(x0, .int), (x1, .int), (x2, .int), (x3, .int)]) [5, 6, 7, 8] rfl
                  refine va_calli (va_runV (As := [.int (nI (j_6)), .int 2, .int (nI (j_30)), .int p3]) (rest := []) ⟨hx, hb, hml, hown, hts⟩ (s_add0x l dC dI jA i0 i1 i2 i3 x0 x1 x2 x3 t0 t1 t2 t3 ka hka (nI (j_6)) 2 (nI (j_30)) p3 s.heap.size) (cwV 4 hts (kG (List.forall_mem_cons.mpr ⟨(List.mem_cons_of_mem _ (List.mem_append_left _ (List.mem_of_getElem? (i := 15) rfl))), (List.forall_mem_cons.mpr ⟨(List.mem_cons_of_mem _ (List.mem_append_left _ (List.mem_of_getElem? (i := 14) rfl))), (List.forall_mem_cons.mpr ⟨(List.mem_cons_of_mem _ (List.mem_append_left _ (List.mem_of_getElem? (i := 13) rfl))), (List.forall_mem_cons.mpr ⟨(List.mem_cons_of_mem _ (List.mem_append_left _ (List.mem_of_getElem? (i := 12) rfl))), (fun _ h => absurd h List.not_mem_nil)⟩)⟩)⟩)⟩) (kGV _ _ _ _) (fun _ h => List.mem_cons_of_mem _ (List.mem_append_right _ (List.mem_append_right _ (List.mem_append_right _ (List.mem_append_right _ (List.mem_append_right _ (List.mem_append_left _ h))))))) gw_s_add0x) rfl rfl rfl ⟨rfl, hd_X0_add⟩ ⟨(Nat.le_of_ble_eq_true rfl), (Nat.le_of_ble_eq_true rfl)⟩) (kW_V kT_blind kT_give (va_recv hKc hPc (ci := 0) (q0 := 0) rfl rfl) hPc hKc hDc) rfl rfl hl.1 rfl (lv_room (Nat.le_of_ble_eq_true rfl)) dX9_act_127 ⟨(Nat.le_of_ble_eq_true rfl), (Nat.le_of_ble_eq_true rfl)⟩) hS (fun q _ h => hFc q h) hFc (fun r_44 => kU5 (fun n0_45 n1_46 n2_47 n3_48 ka1_49 t H_50 locs ht hvm hw hB hz1 hk1 hS => ?_))
                  try dsimp only at hw
                  have hPD : kPD dC dI A [(jX, .inr (9, [.ref jT, .ref jR, .ref jK, .ref jL, .ref jU, .ref hF, .ref jC, .ref hN, .ref jA, .ref sd])), (hF, .inr (2, [.ref f0, .ref f1, .ref f2, .ref f3, .ref f4, .int (nI (sv)), .int (nI (ks)), .int (nI (kw))])), (f0, .inl (z0, 10, .inl g0)), (f1, .inl (z1, 10, .inl g1)), (f2, .inl (z2, 10, .inl g2)), (f3, .inl (z3, 10, .inl g3)), (f4, .inl (z4, 4, .inl g4)), (jA, .inr (0, [.ref i0, .ref i1, .ref i2, .ref i3, .int (nI (ka1_49))])), (i0, .inl (x0, 6, .inl n0_45)), (i1, .inl (x1, 6, .inl n1_46)), (i2, .inl (x2, 6, .inl n2_47)), (i3, .inl (x3, 6, .inl n3_48))] H_50 := kJoinX hP hD [7, 8, 9, 10, 11] rfl hk1 hFc hB.1 ht hB.2.2 rfl [none, none, none, none, none, none, none, some 0, some 1, some 2, some 3, some 4] rfl rfl
                  have hP := hPD.1
                  have hD := hPD.2
                  have hw_51 := hw
                  refine lv_goto (tgt := 134) hx hb dX9_act_130 kc_t_130_4 ?_
                  have hP9 := hP
                  have hD9 := hD
                  have hK9 := hK
                  rw [hQ]
                  exact W.iret (v := r_44) hx hb hr (fun t ht hW => ⟨⟨r_44, (n0_45, n1_46, n2_47, n3_48, ka1_49), rfl, ⟨by (have k9 : ¬ kActK 2 (nI (j_30)) (nI (j_6)) ks = 0 := by simp [kActK, ff_5, ff_11, ff_15, c_16, c_17, ff_29, hn_38, c_31]); unfold kActA; rw [if_neg ff_5, if_neg (not_not_intro ff_11), if_neg ff_15, if_neg k9]; exact hw_51.1, by (have k9 : ¬ kActK 2 (nI (j_30)) (nI (j_6)) ks = 0 := by simp [kActK, ff_5, ff_11, ff_15, c_16, c_17, ff_29, hn_38, c_31]); unfold kActN; rw [if_neg ff_5, if_neg (not_not_intro ff_11), if_neg ff_15, if_neg k9]; exact hw_51.2⟩,  by rw [ht]; exact hP9, va_K.moved hW.alike hK9, hD9⟩, hS.F ht⟩) hS.2.2 dX9_act_134
          · subst c_17
            refine lv_iload_n hx hb dX9_act_61 rfl (lv_at hl 4 rfl) ?_
            have hPc := hP.sb (ws2 := []) [] rfl
            have hKc := hK.sb (tys2 := []) [] rfl
            refine vp_callSi (va_runS (As := [.int p2]) (rest := []) ⟨hx, hb, hml, hown, hts⟩ (s_isHouse9x l dC dI p2) (va_cwS 1 hts (kG (List.forall_mem_cons.mpr ⟨(List.mem_cons_of_mem _ (List.mem_append_left _ (List.mem_of_getElem? (i := 17) rfl))), (List.forall_mem_cons.mpr ⟨(List.mem_cons_of_mem _ (List.mem_append_left _ (List.mem_of_getElem? (i := 16) rfl))), (List.forall_mem_cons.mpr ⟨(List.mem_cons_of_mem _ (List.mem_append_left _ (List.mem_of_getElem? (i := 8) rfl))), (fun _ h => absurd h List.not_mem_nil)⟩)⟩)⟩) (kGS _ _ _) (fun _ h => List.mem_cons_of_mem _ (List.mem_append_right _ (List.mem_append_right _ (List.mem_append_right _ (List.mem_append_right _ (List.mem_append_right _ (List.mem_append_right _ h))))))) gw_s_isHouse9x) rfl rfl rfl hd_X9_isHouse ⟨(Nat.le_of_ble_eq_true rfl), (Nat.le_of_ble_eq_true rfl)⟩) (kR_S kT_blind kT_give hPc hKc) rfl rfl hl.1 rfl (lv_room (Nat.le_of_ble_eq_true rfl)) dX9_act_62 ⟨(Nat.le_of_ble_eq_true rfl), (Nat.le_of_ble_eq_true rfl)⟩).run (fun r_52 hw => ?_)
            have hw_53 := hw
            refine lv_if_eq (tgt := 72) hx hb dX9_act_65 kc_t_65_7 (fun c_54 => ?_) (fun c_54 => ?_)
            · have ff_55 := kZr hw_53 c_54
              refine lv_iconst (v := 0) hx hb dX9_act_72 kc_i_0 ?_
              refine lv_istore hx hb dX9_act_73 hl kc_l_6_8 (kTo [(6, .int 0), (5, .int 0), (0, .ref jX), (1, .int (nI (j_6))), (2, .int 1), (3, .int p2), (4, .int p3)]) (fun ls hl => ?_)
              refine lv_iload_n hx hb dX9_act_75 rfl (lv_at hl 4 rfl) ?_
              refine lv_iconst (v := 2) hx hb dX9_act_76 kc_i_2 ?_
              refine lv_icmp_ne (tgt := 100) hx hb dX9_act_77 kc_t_77_23 (fun c_56 => ?_) (fun c_56 => absurd c_56 (by decide))
              refine lv_iconst (v := 0) hx hb dX9_act_100 kc_i_0 ?_
              refine lv_istore hx hb dX9_act_101 hl kc_l_7_8 (kTo [(7, .int 0), (6, .int 0), (5, .int 0), (0, .ref jX), (1, .int (nI (j_6))), (2, .int 1), (3, .int p2), (4, .int p3)]) (fun ls hl => ?_)
              refine lv_iload hx hb dX9_act_103 (lv_at hl 2 rfl) ?_
              refine lv_if_ne (tgt := 118) hx hb dX9_act_105 kc_t_105_13 (fun c_57 => absurd (by decide) c_57) (fun c_57 => ?_)
              refine lv_iload hx hb dX9_act_108 (lv_at hl 1 rfl) ?_
              refine lv_if_ne (tgt := 118) hx hb dX9_act_110 kc_t_110_8 (fun c_58 => absurd (by decide) c_58) (fun c_58 => ?_)
              refine lv_iload hx hb dX9_act_113 (lv_at hl 0 rfl) ?_
              refine lv_if_eq (tgt := 133) hx hb dX9_act_115 kc_t_115_18 (fun c_59 => ?_) (fun c_59 => absurd (by decide) c_59)
              refine lv_iconst (v := (-1)) hx hb dX9_act_133 kc_i_m1 ?_
              have hP9 := hP
              have hD9 := hD
              have hK9 := hK
              rw [hQ]
              exact W.iret (v := (-1)) hx hb hr (fun t ht hW => ⟨⟨(-1), (t0, t1, t2, t3, ka), rfl, ⟨by simp [kActA, kActK, ff_5, ff_11, ff_15, c_16, ff_55], by simp [kActN, kActK, ff_5, ff_11, ff_15, c_16, ff_55]⟩,  by rw [ht]; exact hP9, va_K.moved hW.alike hK9, hD9⟩, hS.F ht⟩) hS.2.2 dX9_act_134
            · have ff_60 := kNzr hw_53 c_54
              refine lv_iconst (v := 1) hx hb dX9_act_68 kc_i_1 ?_
              refine lv_goto (tgt := 73) hx hb dX9_act_69 kc_t_69_4 ?_
              refine lv_istore hx hb dX9_act_73 hl kc_l_6_8 (kTo [(6, .int 1), (5, .int 0), (0, .ref jX), (1, .int (nI (j_6))), (2, .int 1), (3, .int p2), (4, .int p3)]) (fun ls hl => ?_)
              refine lv_iload_n hx hb dX9_act_75 rfl (lv_at hl 4 rfl) ?_
              refine lv_iconst (v := 2) hx hb dX9_act_76 kc_i_2 ?_
              refine lv_icmp_ne (tgt := 100) hx hb dX9_act_77 kc_t_77_23 (fun c_61 => ?_) (fun c_61 => absurd c_61 (by decide))
              refine lv_iconst (v := 0) hx hb dX9_act_100 kc_i_0 ?_
              refine lv_istore hx hb dX9_act_101 hl kc_l_7_8 (kTo [(7, .int 0), (6, .int 1), (5, .int 0), (0, .ref jX), (1, .int (nI (j_6))), (2, .int 1), (3, .int p2), (4, .int p3)]) (fun ls hl => ?_)
              refine lv_iload hx hb dX9_act_103 (lv_at hl 2 rfl) ?_
              refine lv_if_ne (tgt := 118) hx hb dX9_act_105 kc_t_105_13 (fun c_62 => absurd (by decide) c_62) (fun c_62 => ?_)
              refine lv_iload hx hb dX9_act_108 (lv_at hl 1 rfl) ?_
              refine lv_if_ne (tgt := 118) hx hb dX9_act_110 kc_t_110_8 (fun c_63 => ?_) (fun c_63 => absurd c_63 (by decide))
              refine lv_aload_n hx hb dX9_act_118 rfl (lv_at hl 3 rfl) ?_
              refine va_get (D := (dC, dI)) (ci := 9) (v := .ref jA) (C := RX9) (T := TX9) (N := 10) hx hb hts (fun _ h => List.mem_cons_of_mem _ (List.mem_append_right _ (List.mem_append_left _ h))) hown hK hP 0 rfl rfl 8 kc_l_8_10 (hts (.fieldLink RX9 70 "NotEnded" "acts" "LNotEnded$Acts;") (List.mem_cons_of_mem _ (List.mem_append_left _ (List.mem_of_getElem? (i := 11) rfl)))) (fun _ h9 => h9) rfl dX9_act_119 ?_
              refine lv_iload_n hx hb dX9_act_122 rfl (lv_at hl 4 rfl) ?_
              refine lv_iload_n hx hb dX9_act_123 rfl (lv_at hl 5 rfl) ?_
              refine lv_iload_n hx hb dX9_act_124 rfl (lv_at hl 6 rfl) ?_
              refine lv_iload hx hb dX9_act_125 (lv_at hl 7 rfl) ?_
              have hCu := kCut (wc := [(jA, .inr (0, [.ref i0, .ref i1, .ref i2, .ref i3, .int (nI (ka))])), (i0, .inl (x0, 6, .inl t0)), (i1, .inl (x1, 6, .inl t1)), (i2, .inl (x2, 6, .inl t2)), (i3, .inl (x3, 6, .inl t3))]) hP hD hS hA [7, 8, 9, 10, 11] rfl kc_nd_559 rfl
              have hPc := hCu.1
              have hDc := hCu.2.1
              have hFc := hCu.2.2
              have hKc := hK.sb (tys2 := [(x0, .int), (x1, .int), (x2, .int), (x3, .int)]) [5, 6, 7, 8] rfl
              refine va_calli (va_runV (As := [.int (nI (j_6)), .int 1, .int p2, .int p3]) (rest := []) ⟨hx, hb, hml, hown, hts⟩ (s_add0x l dC dI jA i0 i1 i2 i3 x0 x1 x2 x3 t0 t1 t2 t3 ka hka (nI (j_6)) 1 p2 p3 s.heap.size) (cwV 4 hts (kG (List.forall_mem_cons.mpr ⟨(List.mem_cons_of_mem _ (List.mem_append_left _ (List.mem_of_getElem? (i := 15) rfl))), (List.forall_mem_cons.mpr ⟨(List.mem_cons_of_mem _ (List.mem_append_left _ (List.mem_of_getElem? (i := 14) rfl))), (List.forall_mem_cons.mpr ⟨(List.mem_cons_of_mem _ (List.mem_append_left _ (List.mem_of_getElem? (i := 13) rfl))), (List.forall_mem_cons.mpr ⟨(List.mem_cons_of_mem _ (List.mem_append_left _ (List.mem_of_getElem? (i := 12) rfl))), (fun _ h => absurd h List.not_mem_nil)⟩)⟩)⟩)⟩) (kGV _ _ _ _) (fun _ h => List.mem_cons_of_mem _ (List.mem_append_right _ (List.mem_append_right _ (List.mem_append_right _ (List.mem_append_right _ (List.mem_append_right _ (List.mem_append_left _ h))))))) gw_s_add0x) rfl rfl rfl ⟨rfl, hd_X0_add⟩ ⟨(Nat.le_of_ble_eq_true rfl), (Nat.le_of_ble_eq_true rfl)⟩) (kW_V kT_blind kT_give (va_recv hKc hPc (ci := 0) (q0 := 0) rfl rfl) hPc hKc hDc) rfl rfl hl.1 rfl (lv_room (Nat.le_of_ble_eq_true rfl)) dX9_act_127 ⟨(Nat.le_of_ble_eq_true rfl), (Nat.le_of_ble_eq_true rfl)⟩) hS (fun q _ h => hFc q h) hFc (fun r_64 => kU5 (fun n0_65 n1_66 n2_67 n3_68 ka1_69 t H_70 locs ht hvm hw hB hz1 hk1 hS => ?_))
              try dsimp only at hw
              have hPD : kPD dC dI A [(jX, .inr (9, [.ref jT, .ref jR, .ref jK, .ref jL, .ref jU, .ref hF, .ref jC, .ref hN, .ref jA, .ref sd])), (hF, .inr (2, [.ref f0, .ref f1, .ref f2, .ref f3, .ref f4, .int (nI (sv)), .int (nI (ks)), .int (nI (kw))])), (f0, .inl (z0, 10, .inl g0)), (f1, .inl (z1, 10, .inl g1)), (f2, .inl (z2, 10, .inl g2)), (f3, .inl (z3, 10, .inl g3)), (f4, .inl (z4, 4, .inl g4)), (jA, .inr (0, [.ref i0, .ref i1, .ref i2, .ref i3, .int (nI (ka1_69))])), (i0, .inl (x0, 6, .inl n0_65)), (i1, .inl (x1, 6, .inl n1_66)), (i2, .inl (x2, 6, .inl n2_67)), (i3, .inl (x3, 6, .inl n3_68))] H_70 := kJoinX hP hD [7, 8, 9, 10, 11] rfl hk1 hFc hB.1 ht hB.2.2 rfl [none, none, none, none, none, none, none, some 0, some 1, some 2, some 3, some 4] rfl rfl
              have hP := hPD.1
              have hD := hPD.2
              have hw_71 := hw
              refine lv_goto (tgt := 134) hx hb dX9_act_130 kc_t_130_4 ?_
              have hP9 := hP
              have hD9 := hD
              have hK9 := hK
              rw [hQ]
              exact W.iret (v := r_64) hx hb hr (fun t ht hW => ⟨⟨r_64, (n0_65, n1_66, n2_67, n3_68, ka1_69), rfl, ⟨by (have k9 : ¬ kActK 1 p2 (nI (j_6)) ks = 0 := by simp [kActK, ff_5, ff_11, ff_15, c_16, ff_60]); unfold kActA; rw [if_neg ff_5, if_neg (not_not_intro ff_11), if_neg ff_15, if_neg k9]; exact hw_71.1, by (have k9 : ¬ kActK 1 p2 (nI (j_6)) ks = 0 := by simp [kActK, ff_5, ff_11, ff_15, c_16, ff_60]); unfold kActN; rw [if_neg ff_5, if_neg (not_not_intro ff_11), if_neg ff_15, if_neg k9]; exact hw_71.2⟩,  by rw [ht]; exact hP9, va_K.moved hW.alike hK9, hD9⟩, hS.F ht⟩) hS.2.2 dX9_act_134
        · subst c_16
          refine lv_iload_n hx hb dX9_act_39 rfl (lv_at hl 3 rfl) ?_
          refine lv_iconst (v := 0) hx hb dX9_act_40 kc_i_0 ?_
          refine lv_bipush (v := 99) hx hb dX9_act_41 kc_b_99 ?_
          have hPc := hP.sb (ws2 := []) [] rfl
          have hKc := hK.sb (tys2 := []) [] rfl
          refine vp_callSi (va_runS (As := [.int p2, .int 0, .int 99]) (rest := []) ⟨hx, hb, hml, hown, hts⟩ (s_isIn9 l dC dI p2 0 99) (va_cwS 3 hts (kG (List.forall_mem_cons.mpr ⟨(List.mem_cons_of_mem _ (List.mem_append_left _ (List.mem_of_getElem? (i := 10) rfl))), (List.forall_mem_cons.mpr ⟨(List.mem_cons_of_mem _ (List.mem_append_left _ (List.mem_of_getElem? (i := 9) rfl))), (List.forall_mem_cons.mpr ⟨(List.mem_cons_of_mem _ (List.mem_append_left _ (List.mem_of_getElem? (i := 8) rfl))), (fun _ h => absurd h List.not_mem_nil)⟩)⟩)⟩) (kGS _ _ _) (fun _ h => List.mem_cons_of_mem _ (List.mem_append_right _ (List.mem_append_right _ (List.mem_append_right _ (List.mem_append_right _ (List.mem_append_left _ h)))))) gw_s_isIn9) rfl rfl rfl hd_X9_isIn ⟨(Nat.le_of_ble_eq_true rfl), (Nat.le_of_ble_eq_true rfl)⟩) (kR_S kT_blind kT_give hPc hKc) rfl rfl hl.1 rfl (lv_room (Nat.le_of_ble_eq_true rfl)) dX9_act_43 ⟨(Nat.le_of_ble_eq_true rfl), (Nat.le_of_ble_eq_true rfl)⟩).run (fun r_72 hw => ?_)
          have hw_73 := hw
          refine lv_if_eq (tgt := 53) hx hb dX9_act_46 kc_t_46_7 (fun c_74 => ?_) (fun c_74 => ?_)
          · have ff_75 := kZr hw_73 c_74
            refine lv_iconst (v := 0) hx hb dX9_act_53 kc_i_0 ?_
            refine lv_istore hx hb dX9_act_54 hl kc_l_5_8 (kTo [(5, .int 0), (0, .ref jX), (1, .int (nI (j_6))), (2, .int 0), (3, .int p2), (4, .int p3)]) (fun ls hl => ?_)
            refine lv_iload_n hx hb dX9_act_56 rfl (lv_at hl 3 rfl) ?_
            refine lv_iconst (v := 1) hx hb dX9_act_57 kc_i_1 ?_
            refine lv_icmp_ne (tgt := 72) hx hb dX9_act_58 kc_t_58_14 (fun c_76 => ?_) (fun c_76 => absurd c_76 (by decide))
            refine lv_iconst (v := 0) hx hb dX9_act_72 kc_i_0 ?_
            refine lv_istore hx hb dX9_act_73 hl kc_l_6_8 (kTo [(6, .int 0), (5, .int 0), (0, .ref jX), (1, .int (nI (j_6))), (2, .int 0), (3, .int p2), (4, .int p3)]) (fun ls hl => ?_)
            refine lv_iload_n hx hb dX9_act_75 rfl (lv_at hl 4 rfl) ?_
            refine lv_iconst (v := 2) hx hb dX9_act_76 kc_i_2 ?_
            refine lv_icmp_ne (tgt := 100) hx hb dX9_act_77 kc_t_77_23 (fun c_77 => ?_) (fun c_77 => absurd c_77 (by decide))
            refine lv_iconst (v := 0) hx hb dX9_act_100 kc_i_0 ?_
            refine lv_istore hx hb dX9_act_101 hl kc_l_7_8 (kTo [(7, .int 0), (6, .int 0), (5, .int 0), (0, .ref jX), (1, .int (nI (j_6))), (2, .int 0), (3, .int p2), (4, .int p3)]) (fun ls hl => ?_)
            refine lv_iload hx hb dX9_act_103 (lv_at hl 2 rfl) ?_
            refine lv_if_ne (tgt := 118) hx hb dX9_act_105 kc_t_105_13 (fun c_78 => absurd (by decide) c_78) (fun c_78 => ?_)
            refine lv_iload hx hb dX9_act_108 (lv_at hl 1 rfl) ?_
            refine lv_if_ne (tgt := 118) hx hb dX9_act_110 kc_t_110_8 (fun c_79 => absurd (by decide) c_79) (fun c_79 => ?_)
            refine lv_iload hx hb dX9_act_113 (lv_at hl 0 rfl) ?_
            refine lv_if_eq (tgt := 133) hx hb dX9_act_115 kc_t_115_18 (fun c_80 => ?_) (fun c_80 => absurd (by decide) c_80)
            refine lv_iconst (v := (-1)) hx hb dX9_act_133 kc_i_m1 ?_
            have hP9 := hP
            have hD9 := hD
            have hK9 := hK
            rw [hQ]
            exact W.iret (v := (-1)) hx hb hr (fun t ht hW => ⟨⟨(-1), (t0, t1, t2, t3, ka), rfl, ⟨by simp [kActA, kActK, ff_5, ff_11, ff_15, ff_75], by simp [kActN, kActK, ff_5, ff_11, ff_15, ff_75]⟩,  by rw [ht]; exact hP9, va_K.moved hW.alike hK9, hD9⟩, hS.F ht⟩) hS.2.2 dX9_act_134
          · have ff_81 := kNzr hw_73 c_74
            refine lv_iconst (v := 1) hx hb dX9_act_49 kc_i_1 ?_
            refine lv_goto (tgt := 54) hx hb dX9_act_50 kc_t_50_4 ?_
            refine lv_istore hx hb dX9_act_54 hl kc_l_5_8 (kTo [(5, .int 1), (0, .ref jX), (1, .int (nI (j_6))), (2, .int 0), (3, .int p2), (4, .int p3)]) (fun ls hl => ?_)
            refine lv_iload_n hx hb dX9_act_56 rfl (lv_at hl 3 rfl) ?_
            refine lv_iconst (v := 1) hx hb dX9_act_57 kc_i_1 ?_
            refine lv_icmp_ne (tgt := 72) hx hb dX9_act_58 kc_t_58_14 (fun c_82 => ?_) (fun c_82 => absurd c_82 (by decide))
            refine lv_iconst (v := 0) hx hb dX9_act_72 kc_i_0 ?_
            refine lv_istore hx hb dX9_act_73 hl kc_l_6_8 (kTo [(6, .int 0), (5, .int 1), (0, .ref jX), (1, .int (nI (j_6))), (2, .int 0), (3, .int p2), (4, .int p3)]) (fun ls hl => ?_)
            refine lv_iload_n hx hb dX9_act_75 rfl (lv_at hl 4 rfl) ?_
            refine lv_iconst (v := 2) hx hb dX9_act_76 kc_i_2 ?_
            refine lv_icmp_ne (tgt := 100) hx hb dX9_act_77 kc_t_77_23 (fun c_83 => ?_) (fun c_83 => absurd c_83 (by decide))
            refine lv_iconst (v := 0) hx hb dX9_act_100 kc_i_0 ?_
            refine lv_istore hx hb dX9_act_101 hl kc_l_7_8 (kTo [(7, .int 0), (6, .int 0), (5, .int 1), (0, .ref jX), (1, .int (nI (j_6))), (2, .int 0), (3, .int p2), (4, .int p3)]) (fun ls hl => ?_)
            refine lv_iload hx hb dX9_act_103 (lv_at hl 2 rfl) ?_
            refine lv_if_ne (tgt := 118) hx hb dX9_act_105 kc_t_105_13 (fun c_84 => ?_) (fun c_84 => absurd c_84 (by decide))
            refine lv_aload_n hx hb dX9_act_118 rfl (lv_at hl 3 rfl) ?_
            refine va_get (D := (dC, dI)) (ci := 9) (v := .ref jA) (C := RX9) (T := TX9) (N := 10) hx hb hts (fun _ h => List.mem_cons_of_mem _ (List.mem_append_right _ (List.mem_append_left _ h))) hown hK hP 0 rfl rfl 8 kc_l_8_10 (hts (.fieldLink RX9 70 "NotEnded" "acts" "LNotEnded$Acts;") (List.mem_cons_of_mem _ (List.mem_append_left _ (List.mem_of_getElem? (i := 11) rfl)))) (fun _ h9 => h9) rfl dX9_act_119 ?_
            refine lv_iload_n hx hb dX9_act_122 rfl (lv_at hl 4 rfl) ?_
            refine lv_iload_n hx hb dX9_act_123 rfl (lv_at hl 5 rfl) ?_
            refine lv_iload_n hx hb dX9_act_124 rfl (lv_at hl 6 rfl) ?_
            refine lv_iload hx hb dX9_act_125 (lv_at hl 7 rfl) ?_
            have hCu := kCut (wc := [(jA, .inr (0, [.ref i0, .ref i1, .ref i2, .ref i3, .int (nI (ka))])), (i0, .inl (x0, 6, .inl t0)), (i1, .inl (x1, 6, .inl t1)), (i2, .inl (x2, 6, .inl t2)), (i3, .inl (x3, 6, .inl t3))]) hP hD hS hA [7, 8, 9, 10, 11] rfl kc_nd_559 rfl
            have hPc := hCu.1
            have hDc := hCu.2.1
            have hFc := hCu.2.2
            have hKc := hK.sb (tys2 := [(x0, .int), (x1, .int), (x2, .int), (x3, .int)]) [5, 6, 7, 8] rfl
            refine va_calli (va_runV (As := [.int (nI (j_6)), .int 0, .int p2, .int p3]) (rest := []) ⟨hx, hb, hml, hown, hts⟩ (s_add0x l dC dI jA i0 i1 i2 i3 x0 x1 x2 x3 t0 t1 t2 t3 ka hka (nI (j_6)) 0 p2 p3 s.heap.size) (cwV 4 hts (kG (List.forall_mem_cons.mpr ⟨(List.mem_cons_of_mem _ (List.mem_append_left _ (List.mem_of_getElem? (i := 15) rfl))), (List.forall_mem_cons.mpr ⟨(List.mem_cons_of_mem _ (List.mem_append_left _ (List.mem_of_getElem? (i := 14) rfl))), (List.forall_mem_cons.mpr ⟨(List.mem_cons_of_mem _ (List.mem_append_left _ (List.mem_of_getElem? (i := 13) rfl))), (List.forall_mem_cons.mpr ⟨(List.mem_cons_of_mem _ (List.mem_append_left _ (List.mem_of_getElem? (i := 12) rfl))), (fun _ h => absurd h List.not_mem_nil)⟩)⟩)⟩)⟩) (kGV _ _ _ _) (fun _ h => List.mem_cons_of_mem _ (List.mem_append_right _ (List.mem_append_right _ (List.mem_append_right _ (List.mem_append_right _ (List.mem_append_right _ (List.mem_append_left _ h))))))) gw_s_add0x) rfl rfl rfl ⟨rfl, hd_X0_add⟩ ⟨(Nat.le_of_ble_eq_true rfl), (Nat.le_of_ble_eq_true rfl)⟩) (kW_V kT_blind kT_give (va_recv hKc hPc (ci := 0) (q0 := 0) rfl rfl) hPc hKc hDc) rfl rfl hl.1 rfl (lv_room (Nat.le_of_ble_eq_true rfl)) dX9_act_127 ⟨(Nat.le_of_ble_eq_true rfl), (Nat.le_of_ble_eq_true rfl)⟩) hS (fun q _ h => hFc q h) hFc (fun r_85 => kU5 (fun n0_86 n1_87 n2_88 n3_89 ka1_90 t H_91 locs ht hvm hw hB hz1 hk1 hS => ?_))
            try dsimp only at hw
            have hPD : kPD dC dI A [(jX, .inr (9, [.ref jT, .ref jR, .ref jK, .ref jL, .ref jU, .ref hF, .ref jC, .ref hN, .ref jA, .ref sd])), (hF, .inr (2, [.ref f0, .ref f1, .ref f2, .ref f3, .ref f4, .int (nI (sv)), .int (nI (ks)), .int (nI (kw))])), (f0, .inl (z0, 10, .inl g0)), (f1, .inl (z1, 10, .inl g1)), (f2, .inl (z2, 10, .inl g2)), (f3, .inl (z3, 10, .inl g3)), (f4, .inl (z4, 4, .inl g4)), (jA, .inr (0, [.ref i0, .ref i1, .ref i2, .ref i3, .int (nI (ka1_90))])), (i0, .inl (x0, 6, .inl n0_86)), (i1, .inl (x1, 6, .inl n1_87)), (i2, .inl (x2, 6, .inl n2_88)), (i3, .inl (x3, 6, .inl n3_89))] H_91 := kJoinX hP hD [7, 8, 9, 10, 11] rfl hk1 hFc hB.1 ht hB.2.2 rfl [none, none, none, none, none, none, none, some 0, some 1, some 2, some 3, some 4] rfl rfl
            have hP := hPD.1
            have hD := hPD.2
            have hw_92 := hw
            refine lv_goto (tgt := 134) hx hb dX9_act_130 kc_t_130_4 ?_
            have hP9 := hP
            have hD9 := hD
            have hK9 := hK
            rw [hQ]
            exact W.iret (v := r_85) hx hb hr (fun t ht hW => ⟨⟨r_85, (n0_86, n1_87, n2_88, n3_89, ka1_90), rfl, ⟨by (have k9 : ¬ kActK 0 p2 (nI (j_6)) ks = 0 := by simp [kActK, ff_5, ff_11, ff_15, ff_81]); unfold kActA; rw [if_neg ff_5, if_neg (not_not_intro ff_11), if_neg ff_15, if_neg k9]; exact hw_92.1, by (have k9 : ¬ kActK 0 p2 (nI (j_6)) ks = 0 := by simp [kActK, ff_5, ff_11, ff_15, ff_81]); unfold kActN; rw [if_neg ff_5, if_neg (not_not_intro ff_11), if_neg ff_15, if_neg k9]; exact hw_92.2⟩,  by rw [ht]; exact hP9, va_K.moved hW.alike hK9, hD9⟩, hS.F ht⟩) hS.2.2 dX9_act_134
      · have ff_93 := kZr hw_13 c_14
        refine lv_iconst (v := (-1)) hx hb dX9_act_33 kc_i_m1 ?_
        have hP9 := hP
        have hD9 := hD
        have hK9 := hK
        rw [hQ]
        exact W.iret (v := (-1)) hx hb hr (fun t ht hW => ⟨⟨(-1), (t0, t1, t2, t3, ka), rfl, ⟨by simp [kActA, kActK, ff_5, ff_11, ff_93], by simp [kActN, kActK, ff_5, ff_11, ff_93]⟩,  by rw [ht]; exact hP9, va_K.moved hW.alike hK9, hD9⟩, hS.F ht⟩) hS.2.2 dX9_act_34

theorem dX9_isSort_0 : decode cX9_isSort 0 = .ok (.iload_n 0, 1) := kDs0 kf_26 (by decide +kernel)
theorem dX9_isSort_1 : decode cX9_isSort 1 = .ok (.ifCond .eq 8, 3) := kDs4 kf_153 (by decide +kernel)
theorem dX9_isSort_9 : decode cX9_isSort 9 = .ok (.iconst 1, 1) := kDs0 kf_4 (by decide +kernel)
theorem dX9_isSort_10 : decode cX9_isSort 10 = .ok (.goto 4, 3) := kDs4 kf_167 (by decide +kernel)
theorem dX9_isSort_14 : decode cX9_isSort 14 = .ok (.ireturn, 1) := kDs0 kf_172 (by decide +kernel)
theorem dX9_isSort_4 : decode cX9_isSort 4 = .ok (.iload_n 0, 1) := kDs0 kf_26 (by decide +kernel)
theorem dX9_isSort_5 : decode cX9_isSort 5 = .ok (.iconst 1, 1) := kDs0 kf_4 (by decide +kernel)
theorem dX9_isSort_6 : decode cX9_isSort 6 = .ok (.if_icmp .ne 7, 3) := kDs4 kf_160 (by decide +kernel)
theorem dX9_isSort_13 : decode cX9_isSort 13 = .ok (.iconst 0, 1) := kDs0 kf_3 (by decide +kernel)
def w_s_isSort9 : List Cond := .code yX9_isSort cX9_isSort 1 (some .boolean) :: ([])
theorem gw_s_isSort9 : (w_s_isSort9).all goodWord = true := kGc rfl kGn
theorem hd_X9_isSort : yX9_isSort.cls ≠ "java/lang/invoke/MethodHandle" ∧ yX9_isSort.cls ≠ "java/lang/invoke/VarHandle" ∧ (parseMethodDescriptor yX9_isSort.desc).map (fun d => d.parameters.length) = some 1 := by decide +kernel
set_option maxHeartbeats 4000000 in
set_option maxRecDepth 100000 in
theorem s_isSort9 (l : Launch) (dC : Nat → ClassId) (dI : Nat → Nat → Nat) (p0 : Int32) : Met l yX9_isSort w_s_isSort9 ({ frames := 1, cells := 0, slots := 0, locals := 60 }) (kR dC dI [.int p0] [] [] kT) (vp_Si (fun r : Int32 => r = kSort p0)) 0 0 (fun _ => False) := by
  refine Met.ofW (cc := cX9_isSort) (maxL := 1) (ret := (some .boolean)) (by decide) rfl ?_
  intro p e s m args below meth c s₁ B hml hv
  obtain ⟨rfl, hP, hK, hX⟩ := hv
  have hx := B.exec
  have hb := B.bytes
  have hr := B.returns
  have hts := atoms_spec (ws := w_s_isSort9) B.pre
  have hown : s.vm.findClass RX9 = some m.cls := findClass_of_methodNamed B.named
  have hlocks := B.notSynchronized
  have hP : va_P (dC, dI) vwCl [] s.heap := hP
  have hl := lv_entry ([.int p0]) (n := 1) (Nat.le_of_ble_eq_true rfl)
  rw [lg_entry_eq]
  generalize (lg_sl ([.int p0]) ++ List.replicate (1 - (lg_sl ([.int p0])).length) Slot.unset).toArray = ls at hl ⊢
  have hl : lv_has ls 1 [(0, .int p0)] := hl
  refine kQ (fun Q hQ => ?_)
  refine lv_iload_n hx hb dX9_isSort_0 rfl (lv_at hl 0 rfl) ?_
  refine lv_if_eq (tgt := 9) hx hb dX9_isSort_1 kc_t_1_8 (fun c_1 => ?_) (fun c_1 => ?_)
  · refine lv_iconst (v := 1) hx hb dX9_isSort_9 kc_i_1 ?_
    refine lv_goto (tgt := 14) hx hb dX9_isSort_10 kc_t_10_4 ?_
    rw [hQ]
    exact W.zret (v := 1) hx hb hr rfl (fun t ht hW => ⟨1, rfl, (by simp [kSort, c_1]), ht⟩) (fun _ h => nomatch h) dX9_isSort_14
  · refine lv_iload_n hx hb dX9_isSort_4 rfl (lv_at hl 0 rfl) ?_
    refine lv_iconst (v := 1) hx hb dX9_isSort_5 kc_i_1 ?_
    refine lv_icmp_ne (tgt := 13) hx hb dX9_isSort_6 kc_t_6_7 (fun c_2 => ?_) (fun c_2 => ?_)
    · refine lv_iconst (v := 0) hx hb dX9_isSort_13 kc_i_0 ?_
      rw [hQ]
      exact W.zret (v := 0) hx hb hr rfl (fun t ht hW => ⟨0, rfl, (by simp [kSort, c_1, c_2]), ht⟩) (fun _ h => nomatch h) dX9_isSort_14
    · refine lv_iconst (v := 1) hx hb dX9_isSort_9 kc_i_1 ?_
      refine lv_goto (tgt := 14) hx hb dX9_isSort_10 kc_t_10_4 ?_
      rw [hQ]
      exact W.zret (v := 1) hx hb hr rfl (fun t ht hW => ⟨1, rfl, (by simp [kSort, c_1, c_2]), ht⟩) (fun _ h => nomatch h) dX9_isSort_14

theorem dX9_feed_0 : decode cX9_feed 0 = .ok (.iload_n 1, 1) := kDs0 kf_27 (by decide +kernel)
theorem dX9_feed_1 : decode cX9_feed 1 = .ok (.invokestatic 84, 3) := kDs2 kf_184 (by decide +kernel)
theorem dX9_feed_4 : decode cX9_feed 4 = .ok (.iload_n 2, 1) := kDs0 kf_28 (by decide +kernel)
theorem dX9_feed_5 : decode cX9_feed 5 = .ok (.invokestatic 84, 3) := kDs2 kf_184 (by decide +kernel)
theorem dX9_feed_8 : decode cX9_feed 8 = .ok (.iadd, 1) := kDs0 kf_96 (by decide +kernel)
theorem dX9_feed_9 : decode cX9_feed 9 = .ok (.iload_n 3, 1) := kDs0 kf_29 (by decide +kernel)
theorem dX9_feed_10 : decode cX9_feed 10 = .ok (.invokestatic 84, 3) := kDs2 kf_184 (by decide +kernel)
theorem dX9_feed_13 : decode cX9_feed 13 = .ok (.iadd, 1) := kDs0 kf_96 (by decide +kernel)
theorem dX9_feed_14 : decode cX9_feed 14 = .ok (.iload 4, 2) := kDs1 kf_21 (by decide +kernel)
theorem dX9_feed_16 : decode cX9_feed 16 = .ok (.invokestatic 84, 3) := kDs2 kf_184 (by decide +kernel)
theorem dX9_feed_19 : decode cX9_feed 19 = .ok (.iadd, 1) := kDs0 kf_96 (by decide +kernel)
theorem dX9_feed_20 : decode cX9_feed 20 = .ok (.iload 5, 2) := kDs1 kf_21 (by decide +kernel)
theorem dX9_feed_22 : decode cX9_feed 22 = .ok (.invokestatic 84, 3) := kDs2 kf_184 (by decide +kernel)
theorem dX9_feed_25 : decode cX9_feed 25 = .ok (.iadd, 1) := kDs0 kf_96 (by decide +kernel)
theorem dX9_feed_26 : decode cX9_feed 26 = .ok (.istore 6, 2) := kDs1 kf_54 (by decide +kernel)
theorem dX9_feed_28 : decode cX9_feed 28 = .ok (.aload_n 0, 1) := kDs0 kf_42 (by decide +kernel)
theorem dX9_feed_29 : decode cX9_feed 29 = .ok (.getfield 12, 3) := kDs2 kf_180 (by decide +kernel)
theorem dX9_feed_32 : decode cX9_feed 32 = .ok (.invokevirtual 88, 3) := kDs2 kf_182 (by decide +kernel)
theorem dX9_feed_35 : decode cX9_feed 35 = .ok (.iload 6, 2) := kDs1 kf_21 (by decide +kernel)
theorem dX9_feed_37 : decode cX9_feed 37 = .ok (.iadd, 1) := kDs0 kf_96 (by decide +kernel)
theorem dX9_feed_38 : decode cX9_feed 38 = .ok (.bipush 120, 2) := kDs3 kf_16 (by decide +kernel)
theorem dX9_feed_40 : decode cX9_feed 40 = .ok (.if_icmp .le 5, 3) := kDs4 kf_164 (by decide +kernel)
theorem dX9_feed_45 : decode cX9_feed 45 = .ok (.aload_n 0, 1) := kDs0 kf_42 (by decide +kernel)
theorem dX9_feed_46 : decode cX9_feed 46 = .ok (.getfield 12, 3) := kDs2 kf_180 (by decide +kernel)
theorem dX9_feed_49 : decode cX9_feed 49 = .ok (.iload_n 1, 1) := kDs0 kf_27 (by decide +kernel)
theorem dX9_feed_50 : decode cX9_feed 50 = .ok (.invokevirtual 92, 3) := kDs2 kf_182 (by decide +kernel)
theorem dX9_feed_53 : decode cX9_feed 53 = .ok (.aload_n 0, 1) := kDs0 kf_42 (by decide +kernel)
theorem dX9_feed_54 : decode cX9_feed 54 = .ok (.getfield 12, 3) := kDs2 kf_180 (by decide +kernel)
theorem dX9_feed_57 : decode cX9_feed 57 = .ok (.iload_n 2, 1) := kDs0 kf_28 (by decide +kernel)
theorem dX9_feed_58 : decode cX9_feed 58 = .ok (.invokevirtual 92, 3) := kDs2 kf_182 (by decide +kernel)
theorem dX9_feed_61 : decode cX9_feed 61 = .ok (.aload_n 0, 1) := kDs0 kf_42 (by decide +kernel)
theorem dX9_feed_62 : decode cX9_feed 62 = .ok (.getfield 12, 3) := kDs2 kf_180 (by decide +kernel)
theorem dX9_feed_65 : decode cX9_feed 65 = .ok (.iload_n 3, 1) := kDs0 kf_29 (by decide +kernel)
theorem dX9_feed_66 : decode cX9_feed 66 = .ok (.invokevirtual 92, 3) := kDs2 kf_182 (by decide +kernel)
theorem dX9_feed_69 : decode cX9_feed 69 = .ok (.aload_n 0, 1) := kDs0 kf_42 (by decide +kernel)
theorem dX9_feed_70 : decode cX9_feed 70 = .ok (.getfield 12, 3) := kDs2 kf_180 (by decide +kernel)
theorem dX9_feed_73 : decode cX9_feed 73 = .ok (.iload 4, 2) := kDs1 kf_21 (by decide +kernel)
theorem dX9_feed_75 : decode cX9_feed 75 = .ok (.invokevirtual 92, 3) := kDs2 kf_182 (by decide +kernel)
theorem dX9_feed_78 : decode cX9_feed 78 = .ok (.aload_n 0, 1) := kDs0 kf_42 (by decide +kernel)
theorem dX9_feed_79 : decode cX9_feed 79 = .ok (.getfield 12, 3) := kDs2 kf_180 (by decide +kernel)
theorem dX9_feed_82 : decode cX9_feed 82 = .ok (.iload 5, 2) := kDs1 kf_21 (by decide +kernel)
theorem dX9_feed_84 : decode cX9_feed 84 = .ok (.invokevirtual 92, 3) := kDs2 kf_182 (by decide +kernel)
theorem dX9_feed_87 : decode cX9_feed 87 = .ok (.aload_n 0, 1) := kDs0 kf_42 (by decide +kernel)
theorem dX9_feed_88 : decode cX9_feed 88 = .ok (.getfield 12, 3) := kDs2 kf_180 (by decide +kernel)
theorem dX9_feed_91 : decode cX9_feed 91 = .ok (.invokevirtual 88, 3) := kDs2 kf_182 (by decide +kernel)
theorem dX9_feed_94 : decode cX9_feed 94 = .ok (.ireturn, 1) := kDs0 kf_172 (by decide +kernel)
theorem dX9_feed_43 : decode cX9_feed 43 = .ok (.iconst (-1), 1) := kDs0 kf_2 (by decide +kernel)
theorem dX9_feed_44 : decode cX9_feed 44 = .ok (.ireturn, 1) := kDs0 kf_172 (by decide +kernel)
def w_s_feed9 : List Cond := .code yX9_feed cX9_feed 7 (some .int) :: ([.initialized RX8, .static yX8_bytesIn, .methodLink RX9 84 yX8_bytesIn, .fieldLink RX9 12 "NotEnded" "tape" "LNotEnded$Tape;", .selects RX8 yX8_length yX8_length, .instanceMethod yX8_length, .methodLink RX9 88 yX8_length, .selects RX8 yX8_append yX8_append, .instanceMethod yX8_append, .methodLink RX9 92 yX8_append] ++ (w_s_bytes8x ++ (wsX90 ++ (w_s_length8 ++ (w_s_append8x)))))
theorem gw_s_feed9 : (w_s_feed9).all goodWord = true := kGc rfl (kGa (by decide +kernel) (kGa gw_s_bytes8x (kGa gw_wsX90 (kGa gw_s_length8 gw_s_append8x))))
theorem hd_X9_feed : yX9_feed.cls ≠ "java/lang/invoke/MethodHandle" ∧ yX9_feed.cls ≠ "java/lang/invoke/VarHandle" ∧ (parseMethodDescriptor yX9_feed.desc).map (fun d => d.parameters.length) = some 5 := by decide +kernel
set_option maxHeartbeats 4000000 in
set_option maxRecDepth 100000 in
theorem s_feed9 (l : Launch) (dC : Nat → ClassId) (dI : Nat → Nat → Nat) (jX : Nat) (jT : Nat) (jR : Nat) (jL : Nat) (jU : Nat) (hN : Nat) (jA : Nat) (sd : Nat) (hF : Nat) (jC : Nat) (jK : Nat) (t0 : Nat) (cC : ClassId) (gT : Nat → Int32) (kt : Nat) (hkt : kt ≤ 120) (bt : Nat → Nat) (hbt : ∀ j : Nat, gT j = nI (bt j)) (hb8 : ∀ j : Nat, bt j < 256) (p0 : Int32) (p1 : Int32) (p2 : Int32) (p3 : Int32) (p4 : Int32) (sz : Nat) : Met l yX9_feed w_s_feed9 ({ frames := 3, cells := 0, slots := 0, locals := 180 }) (kW dC dI [.ref jX, .int p0, .int p1, .int p2, .int p3, .int p4] [(jX, .inr (9, [.ref jT, .ref jR, .ref jK, .ref jL, .ref jU, .ref hF, .ref jC, .ref hN, .ref jA, .ref sd])), (jT, .inr (8, [.ref t0, .int (nI (kt))])), (t0, .inl (cC, 120, .inl gT))] [(cC, .char)] kT sz) (va_Qi (fun (r : Int32) (u : (Nat → Int32) × Nat × (Nat → Nat)) => match u with | (gU, ku, tU) => (kFed p0 p1 p2 p3 p4 bt kt = (tU, ku) ∧ r = kFeA p0 p1 p2 p3 p4 kt ku ∧ (∀ j : Nat, gU j = nI (tU j)) ∧ (∀ j : Nat, tU j < 256) ∧ ku ≤ 120)) (fun (u : (Nat → Int32) × Nat × (Nat → Nat)) => match u with | (gU, ku, tU) => fun t : State => kB dC dI [(jX, .inr (9, [.ref jT, .ref jR, .ref jK, .ref jL, .ref jU, .ref hF, .ref jC, .ref hN, .ref jA, .ref sd])), (jT, .inr (8, [.ref t0, .int (nI (ku))])), (t0, .inl (cC, 120, .inl gU))] [(cC, .char)] (va_A [(jX, .inr (9, [.ref jT, .ref jR, .ref jK, .ref jL, .ref jU, .ref hF, .ref jC, .ref hN, .ref jA, .ref sd])), (jT, .inr (8, [.ref t0, .int (nI (kt))])), (t0, .inl (cC, 120, .inl gT))] sz) t) (va_A [(jX, .inr (9, [.ref jT, .ref jR, .ref jK, .ref jL, .ref jU, .ref hF, .ref jC, .ref hN, .ref jA, .ref sd])), (jT, .inr (8, [.ref t0, .int (nI (kt))])), (t0, .inl (cC, 120, .inl gT))] sz)) 0 0 (va_A [(jX, .inr (9, [.ref jT, .ref jR, .ref jK, .ref jL, .ref jU, .ref hF, .ref jC, .ref hN, .ref jA, .ref sd])), (jT, .inr (8, [.ref t0, .int (nI (kt))])), (t0, .inl (cC, 120, .inl gT))] sz) := by
  refine Met.ofW (cc := cX9_feed) (maxL := 7) (ret := (some .int)) (by decide) rfl ?_
  intro p e s m args below meth c s₁ B hml hv
  obtain ⟨rfl, hsz, hP, hK, hD0, hX⟩ := hv
  have hx := B.exec
  have hb := B.bytes
  have hr := B.returns
  have hts := atoms_spec (ws := w_s_feed9) B.pre
  have hown : s.vm.findClass RX9 = some m.cls := findClass_of_methodNamed B.named
  have hlocks := B.notSynchronized
  subst hsz
  have hD := hD0.self (sz := s.heap.size)
  generalize hAe : va_A [(jX, .inr (9, [.ref jT, .ref jR, .ref jK, .ref jL, .ref jU, .ref hF, .ref jC, .ref hN, .ref jA, .ref sd])), (jT, .inr (8, [.ref t0, .int (nI (kt))])), (t0, .inl (cC, 120, .inl gT))] s.heap.size = A at hD ⊢
  have hA : ∀ q : Nat, s.heap.size ≤ q → A q := fun q h => by rw [← hAe]; exact Or.inr h
  have hS : va_S A s.heap s.heap [] := va_S.rf
  have hP : va_P (dC, dI) vwCl [(jX, .inr (9, [.ref jT, .ref jR, .ref jK, .ref jL, .ref jU, .ref hF, .ref jC, .ref hN, .ref jA, .ref sd])), (jT, .inr (8, [.ref t0, .int (nI (kt))])), (t0, .inl (cC, 120, .inl gT))] s.heap := hP
  have hl := lv_entry ([.ref jX, .int p0, .int p1, .int p2, .int p3, .int p4]) (n := 7) (Nat.le_of_ble_eq_true rfl)
  rw [lg_entry_eq]
  generalize (lg_sl ([.ref jX, .int p0, .int p1, .int p2, .int p3, .int p4]) ++ List.replicate (7 - (lg_sl ([.ref jX, .int p0, .int p1, .int p2, .int p3, .int p4])).length) Slot.unset).toArray = ls at hl ⊢
  have hl : lv_has ls 7 [(0, .ref jX), (1, .int p0), (2, .int p1), (3, .int p2), (4, .int p3), (5, .int p4)] := hl
  refine kQ (fun Q hQ => ?_)
  have hq0 := kCnt_le p0
  have hq1 := kCnt_le p1
  have hq2 := kCnt_le p2
  have hq3 := kCnt_le p3
  have hq4 := kCnt_le p4
  refine lv_iload_n hx hb dX9_feed_0 rfl (lv_at hl 1 rfl) ?_
  have hPc := hP.sb (ws2 := []) [] rfl
  have hKc := hK.sb (tys2 := []) [] rfl
  refine vp_callSi (va_runS (As := [.int p0]) (rest := []) ⟨hx, hb, hml, hown, hts⟩ (s_bytes8x l dC dI p0) (va_cwS 1 hts (kG (List.forall_mem_cons.mpr ⟨(List.mem_cons_of_mem _ (List.mem_append_left _ (List.mem_of_getElem? (i := 2) rfl))), (List.forall_mem_cons.mpr ⟨(List.mem_cons_of_mem _ (List.mem_append_left _ (List.mem_of_getElem? (i := 1) rfl))), (List.forall_mem_cons.mpr ⟨(List.mem_cons_of_mem _ (List.mem_append_left _ (List.mem_of_getElem? (i := 0) rfl))), (fun _ h => absurd h List.not_mem_nil)⟩)⟩)⟩) (kGS _ _ _) (fun _ h => List.mem_cons_of_mem _ (List.mem_append_right _ (List.mem_append_left _ h))) gw_s_bytes8x) rfl rfl rfl hd_X8_bytesIn ⟨(Nat.le_of_ble_eq_true rfl), (Nat.le_of_ble_eq_true rfl)⟩) (kR_S kT_blind kT_give hPc hKc) rfl rfl hl.1 rfl (lv_room (Nat.le_of_ble_eq_true rfl)) dX9_feed_1 ⟨(Nat.le_of_ble_eq_true rfl), (Nat.le_of_ble_eq_true rfl)⟩).run (fun r_1 hw => ?_)
  obtain rfl : r_1 = nI (kCnt p0) := hw
  refine lv_iload_n hx hb dX9_feed_4 rfl (lv_at hl 2 rfl) ?_
  have hPc := hP.sb (ws2 := []) [] rfl
  have hKc := hK.sb (tys2 := []) [] rfl
  refine vp_callSi (va_runS (As := [.int p1]) (rest := [.int (nI (kCnt p0))]) ⟨hx, hb, hml, hown, hts⟩ (s_bytes8x l dC dI p1) (va_cwS 1 hts (kG (List.forall_mem_cons.mpr ⟨(List.mem_cons_of_mem _ (List.mem_append_left _ (List.mem_of_getElem? (i := 2) rfl))), (List.forall_mem_cons.mpr ⟨(List.mem_cons_of_mem _ (List.mem_append_left _ (List.mem_of_getElem? (i := 1) rfl))), (List.forall_mem_cons.mpr ⟨(List.mem_cons_of_mem _ (List.mem_append_left _ (List.mem_of_getElem? (i := 0) rfl))), (fun _ h => absurd h List.not_mem_nil)⟩)⟩)⟩) (kGS _ _ _) (fun _ h => List.mem_cons_of_mem _ (List.mem_append_right _ (List.mem_append_left _ h))) gw_s_bytes8x) rfl rfl rfl hd_X8_bytesIn ⟨(Nat.le_of_ble_eq_true rfl), (Nat.le_of_ble_eq_true rfl)⟩) (kR_S kT_blind kT_give hPc hKc) rfl rfl hl.1 rfl (lv_room (Nat.le_of_ble_eq_true rfl)) dX9_feed_5 ⟨(Nat.le_of_ble_eq_true rfl), (Nat.le_of_ble_eq_true rfl)⟩).run (fun r_2 hw => ?_)
  obtain rfl : r_2 = nI (kCnt p1) := hw
  refine lv_iadd hx hb dX9_feed_8 ?_
  refine lv_topi (fun y_3 ey_3 => ?_)
  obtain rfl : y_3 = nI (kCnt p0 + kCnt p1) := ey_3.trans (nI_add (kCnt p0) (kCnt p1))
  refine lv_iload_n hx hb dX9_feed_9 rfl (lv_at hl 3 rfl) ?_
  have hPc := hP.sb (ws2 := []) [] rfl
  have hKc := hK.sb (tys2 := []) [] rfl
  refine vp_callSi (va_runS (As := [.int p2]) (rest := [.int (nI (kCnt p0 + kCnt p1))]) ⟨hx, hb, hml, hown, hts⟩ (s_bytes8x l dC dI p2) (va_cwS 1 hts (kG (List.forall_mem_cons.mpr ⟨(List.mem_cons_of_mem _ (List.mem_append_left _ (List.mem_of_getElem? (i := 2) rfl))), (List.forall_mem_cons.mpr ⟨(List.mem_cons_of_mem _ (List.mem_append_left _ (List.mem_of_getElem? (i := 1) rfl))), (List.forall_mem_cons.mpr ⟨(List.mem_cons_of_mem _ (List.mem_append_left _ (List.mem_of_getElem? (i := 0) rfl))), (fun _ h => absurd h List.not_mem_nil)⟩)⟩)⟩) (kGS _ _ _) (fun _ h => List.mem_cons_of_mem _ (List.mem_append_right _ (List.mem_append_left _ h))) gw_s_bytes8x) rfl rfl rfl hd_X8_bytesIn ⟨(Nat.le_of_ble_eq_true rfl), (Nat.le_of_ble_eq_true rfl)⟩) (kR_S kT_blind kT_give hPc hKc) rfl rfl hl.1 rfl (lv_room (Nat.le_of_ble_eq_true rfl)) dX9_feed_10 ⟨(Nat.le_of_ble_eq_true rfl), (Nat.le_of_ble_eq_true rfl)⟩).run (fun r_4 hw => ?_)
  obtain rfl : r_4 = nI (kCnt p2) := hw
  refine lv_iadd hx hb dX9_feed_13 ?_
  refine lv_topi (fun y_5 ey_5 => ?_)
  obtain rfl : y_5 = nI (kCnt p0 + kCnt p1 + kCnt p2) := ey_5.trans (nI_add (kCnt p0 + kCnt p1) (kCnt p2))
  refine lv_iload hx hb dX9_feed_14 (lv_at hl 4 rfl) ?_
  have hPc := hP.sb (ws2 := []) [] rfl
  have hKc := hK.sb (tys2 := []) [] rfl
  refine vp_callSi (va_runS (As := [.int p3]) (rest := [.int (nI (kCnt p0 + kCnt p1 + kCnt p2))]) ⟨hx, hb, hml, hown, hts⟩ (s_bytes8x l dC dI p3) (va_cwS 1 hts (kG (List.forall_mem_cons.mpr ⟨(List.mem_cons_of_mem _ (List.mem_append_left _ (List.mem_of_getElem? (i := 2) rfl))), (List.forall_mem_cons.mpr ⟨(List.mem_cons_of_mem _ (List.mem_append_left _ (List.mem_of_getElem? (i := 1) rfl))), (List.forall_mem_cons.mpr ⟨(List.mem_cons_of_mem _ (List.mem_append_left _ (List.mem_of_getElem? (i := 0) rfl))), (fun _ h => absurd h List.not_mem_nil)⟩)⟩)⟩) (kGS _ _ _) (fun _ h => List.mem_cons_of_mem _ (List.mem_append_right _ (List.mem_append_left _ h))) gw_s_bytes8x) rfl rfl rfl hd_X8_bytesIn ⟨(Nat.le_of_ble_eq_true rfl), (Nat.le_of_ble_eq_true rfl)⟩) (kR_S kT_blind kT_give hPc hKc) rfl rfl hl.1 rfl (lv_room (Nat.le_of_ble_eq_true rfl)) dX9_feed_16 ⟨(Nat.le_of_ble_eq_true rfl), (Nat.le_of_ble_eq_true rfl)⟩).run (fun r_6 hw => ?_)
  obtain rfl : r_6 = nI (kCnt p3) := hw
  refine lv_iadd hx hb dX9_feed_19 ?_
  refine lv_topi (fun y_7 ey_7 => ?_)
  obtain rfl : y_7 = nI (kCnt p0 + kCnt p1 + kCnt p2 + kCnt p3) := ey_7.trans (nI_add (kCnt p0 + kCnt p1 + kCnt p2) (kCnt p3))
  refine lv_iload hx hb dX9_feed_20 (lv_at hl 5 rfl) ?_
  have hPc := hP.sb (ws2 := []) [] rfl
  have hKc := hK.sb (tys2 := []) [] rfl
  refine vp_callSi (va_runS (As := [.int p4]) (rest := [.int (nI (kCnt p0 + kCnt p1 + kCnt p2 + kCnt p3))]) ⟨hx, hb, hml, hown, hts⟩ (s_bytes8x l dC dI p4) (va_cwS 1 hts (kG (List.forall_mem_cons.mpr ⟨(List.mem_cons_of_mem _ (List.mem_append_left _ (List.mem_of_getElem? (i := 2) rfl))), (List.forall_mem_cons.mpr ⟨(List.mem_cons_of_mem _ (List.mem_append_left _ (List.mem_of_getElem? (i := 1) rfl))), (List.forall_mem_cons.mpr ⟨(List.mem_cons_of_mem _ (List.mem_append_left _ (List.mem_of_getElem? (i := 0) rfl))), (fun _ h => absurd h List.not_mem_nil)⟩)⟩)⟩) (kGS _ _ _) (fun _ h => List.mem_cons_of_mem _ (List.mem_append_right _ (List.mem_append_left _ h))) gw_s_bytes8x) rfl rfl rfl hd_X8_bytesIn ⟨(Nat.le_of_ble_eq_true rfl), (Nat.le_of_ble_eq_true rfl)⟩) (kR_S kT_blind kT_give hPc hKc) rfl rfl hl.1 rfl (lv_room (Nat.le_of_ble_eq_true rfl)) dX9_feed_22 ⟨(Nat.le_of_ble_eq_true rfl), (Nat.le_of_ble_eq_true rfl)⟩).run (fun r_8 hw => ?_)
  obtain rfl : r_8 = nI (kCnt p4) := hw
  refine lv_iadd hx hb dX9_feed_25 ?_
  refine lv_topi (fun y_9 ey_9 => ?_)
  obtain rfl : y_9 = nI (kCnt p0 + kCnt p1 + kCnt p2 + kCnt p3 + kCnt p4) := ey_9.trans (nI_add (kCnt p0 + kCnt p1 + kCnt p2 + kCnt p3) (kCnt p4))
  refine lv_istore hx hb dX9_feed_26 hl kc_l_6_7 (kTo [(6, .int (nI (kCnt p0 + kCnt p1 + kCnt p2 + kCnt p3 + kCnt p4))), (0, .ref jX), (1, .int p0), (2, .int p1), (3, .int p2), (4, .int p3), (5, .int p4)]) (fun ls hl => ?_)
  refine lv_aload_n hx hb dX9_feed_28 rfl (lv_at hl 1 rfl) ?_
  refine va_get (D := (dC, dI)) (ci := 9) (v := .ref jT) (C := RX9) (T := TX9) (N := 10) hx hb hts (fun _ h => List.mem_cons_of_mem _ (List.mem_append_right _ (List.mem_append_right _ (List.mem_append_left _ h)))) hown hK hP 0 rfl rfl 0 kc_l_0_10 (hts (.fieldLink RX9 12 "NotEnded" "tape" "LNotEnded$Tape;") (List.mem_cons_of_mem _ (List.mem_append_left _ (List.mem_of_getElem? (i := 3) rfl)))) (fun _ h9 => h9) rfl dX9_feed_29 ?_
  have hPc := hP.sb (ws2 := [(jT, .inr (8, [.ref t0, .int (nI (kt))])), (t0, .inl (cC, 120, .inl gT))]) [1, 2] rfl
  have hKc := hK.sb (tys2 := [(cC, .char)]) [0] rfl
  refine vp_callSi (va_runV (As := []) (rest := []) ⟨hx, hb, hml, hown, hts⟩ (s_length8 l dC dI jT t0 cC gT kt hkt (kHgT hbt hb8)) (cwV 0 hts (kG (List.forall_mem_cons.mpr ⟨(List.mem_cons_of_mem _ (List.mem_append_left _ (List.mem_of_getElem? (i := 6) rfl))), (List.forall_mem_cons.mpr ⟨(List.mem_cons_of_mem _ (List.mem_append_left _ (List.mem_of_getElem? (i := 5) rfl))), (List.forall_mem_cons.mpr ⟨(List.mem_cons_of_mem _ (List.mem_append_left _ (List.mem_of_getElem? (i := 4) rfl))), (List.forall_mem_cons.mpr ⟨(List.mem_cons_of_mem _ (List.mem_append_left _ (List.mem_of_getElem? (i := 0) rfl))), (fun _ h => absurd h List.not_mem_nil)⟩)⟩)⟩)⟩) (kGV _ _ _ _) (fun _ h => List.mem_cons_of_mem _ (List.mem_append_right _ (List.mem_append_right _ (List.mem_append_right _ (List.mem_append_left _ h))))) gw_s_length8) rfl rfl rfl ⟨rfl, hd_X8_length⟩ ⟨(Nat.le_of_ble_eq_true rfl), (Nat.le_of_ble_eq_true rfl)⟩) (kR_V kT_blind kT_give (va_recv hKc hPc (ci := 8) (q0 := 0) rfl rfl) hPc hKc) rfl rfl hl.1 rfl (lv_room (Nat.le_of_ble_eq_true rfl)) dX9_feed_32 ⟨(Nat.le_of_ble_eq_true rfl), (Nat.le_of_ble_eq_true rfl)⟩).run (fun r_10 hw => ?_)
  obtain rfl : r_10 = nI (kt) := hw
  refine lv_iload hx hb dX9_feed_35 (lv_at hl 0 rfl) ?_
  refine lv_iadd hx hb dX9_feed_37 ?_
  refine lv_topi (fun y_11 ey_11 => ?_)
  obtain rfl : y_11 = nI (kt + (kCnt p0 + kCnt p1 + kCnt p2 + kCnt p3 + kCnt p4)) := ey_11.trans (nI_add (kt) (kCnt p0 + kCnt p1 + kCnt p2 + kCnt p3 + kCnt p4))
  refine lv_bipush (v := 120) hx hb dX9_feed_38 kc_b_120 ?_
  refine lv_icmp_le (tgt := 45) hx hb dX9_feed_40 kc_t_40_5 (fun c_12 => ?_) (fun c_12 => ?_)
  · have bd_14 : kt + (kCnt p0 + kCnt p1 + kCnt p2 + kCnt p3 + kCnt p4) < 2147483648 := by omega
    have hn_13 := kle (a := kt + (kCnt p0 + kCnt p1 + kCnt p2 + kCnt p3 + kCnt p4)) (b := 120) bd_14 kc_31_120 c_12
    refine lv_aload_n hx hb dX9_feed_45 rfl (lv_at hl 1 rfl) ?_
    refine va_get (D := (dC, dI)) (ci := 9) (v := .ref jT) (C := RX9) (T := TX9) (N := 10) hx hb hts (fun _ h => List.mem_cons_of_mem _ (List.mem_append_right _ (List.mem_append_right _ (List.mem_append_left _ h)))) hown hK hP 0 rfl rfl 0 kc_l_0_10 (hts (.fieldLink RX9 12 "NotEnded" "tape" "LNotEnded$Tape;") (List.mem_cons_of_mem _ (List.mem_append_left _ (List.mem_of_getElem? (i := 3) rfl)))) (fun _ h9 => h9) rfl dX9_feed_46 ?_
    refine lv_iload_n hx hb dX9_feed_49 rfl (lv_at hl 2 rfl) ?_
    have bd_15 : kt + kCnt p0 ≤ 120 := by omega
    have hCu := kCut (wc := [(jT, .inr (8, [.ref t0, .int (nI (kt))])), (t0, .inl (cC, 120, .inl gT))]) hP hD hS hA [1, 2] rfl kc_nd_570 rfl
    have hPc := hCu.1
    have hDc := hCu.2.1
    have hFc := hCu.2.2
    have hKc := hK.sb (tys2 := [(cC, .char)]) [0] rfl
    refine va_callv (va_runV (As := [.int p0]) (rest := []) ⟨hx, hb, hml, hown, hts⟩ (s_append8x l dC dI jT t0 cC gT kt hkt bt hbt hb8 p0 bd_15 s.heap.size) (cwV 1 hts (kG (List.forall_mem_cons.mpr ⟨(List.mem_cons_of_mem _ (List.mem_append_left _ (List.mem_of_getElem? (i := 9) rfl))), (List.forall_mem_cons.mpr ⟨(List.mem_cons_of_mem _ (List.mem_append_left _ (List.mem_of_getElem? (i := 8) rfl))), (List.forall_mem_cons.mpr ⟨(List.mem_cons_of_mem _ (List.mem_append_left _ (List.mem_of_getElem? (i := 7) rfl))), (List.forall_mem_cons.mpr ⟨(List.mem_cons_of_mem _ (List.mem_append_left _ (List.mem_of_getElem? (i := 0) rfl))), (fun _ h => absurd h List.not_mem_nil)⟩)⟩)⟩)⟩) (kGV _ _ _ _) (fun _ h => List.mem_cons_of_mem _ (List.mem_append_right _ (List.mem_append_right _ (List.mem_append_right _ (List.mem_append_right _ h))))) gw_s_append8x) rfl rfl rfl ⟨rfl, hd_X8_append⟩ ⟨(Nat.le_of_ble_eq_true rfl), (Nat.le_of_ble_eq_true rfl)⟩) (kW_V kT_blind kT_give (va_recv hKc hPc (ci := 8) (q0 := 0) rfl rfl) hPc hKc hDc) rfl rfl hl.1 rfl (lv_room (Nat.le_of_ble_eq_true rfl)) dX9_feed_50 ⟨(Nat.le_of_ble_eq_true rfl), (Nat.le_of_ble_eq_true rfl)⟩) hS (fun q _ h => hFc q h) hFc (kU3 (fun gU_16 ku_17 tU_18 t H_19 locs ht hvm hw hB hz1 hk1 hS => ?_))
    try dsimp only at hw
    have hPD : kPD dC dI A [(jX, .inr (9, [.ref jT, .ref jR, .ref jK, .ref jL, .ref jU, .ref hF, .ref jC, .ref hN, .ref jA, .ref sd])), (jT, .inr (8, [.ref t0, .int (nI (ku_17))])), (t0, .inl (cC, 120, .inl gU_16))] H_19 := kJoinX hP hD [1, 2] rfl hk1 hFc hB.1 ht hB.2.2 rfl [none, some 0, some 1] rfl rfl
    have hP := hPD.1
    have hD := hPD.2
    have hw_20 := hw
    have hw_20_0 := hw_20.1
    have hw_20_1 := hw_20.2.1
    have hw_20_2 := hw_20.2.2.1
    have hw_20_3 := hw_20.2.2.2
    refine lv_aload_n hx hb dX9_feed_53 rfl (lv_at hl 1 rfl) ?_
    refine va_get (D := (dC, dI)) (ci := 9) (v := .ref jT) (C := RX9) (T := TX9) (N := 10) hx hb hts (fun _ h => List.mem_cons_of_mem _ (List.mem_append_right _ (List.mem_append_right _ (List.mem_append_left _ h)))) hown hK hP 0 rfl rfl 0 kc_l_0_10 (hts (.fieldLink RX9 12 "NotEnded" "tape" "LNotEnded$Tape;") (List.mem_cons_of_mem _ (List.mem_append_left _ (List.mem_of_getElem? (i := 3) rfl)))) (fun _ h9 => h9) rfl dX9_feed_54 ?_
    refine lv_iload_n hx hb dX9_feed_57 rfl (lv_at hl 3 rfl) ?_
    have bd_21 : ku_17 ≤ 120 := by omega
    have bd_22 : ku_17 + kCnt p1 ≤ 120 := by omega
    have hCu := kCut (wc := [(jT, .inr (8, [.ref t0, .int (nI (ku_17))])), (t0, .inl (cC, 120, .inl gU_16))]) hP hD hS hA [1, 2] rfl kc_nd_570 rfl
    have hPc := hCu.1
    have hDc := hCu.2.1
    have hFc := hCu.2.2
    have hKc := hK.sb (tys2 := [(cC, .char)]) [0] rfl
    refine va_callv (va_runV (As := [.int p1]) (rest := []) ⟨hx, hb, hml, hown, hts⟩ (s_append8x l dC dI jT t0 cC gU_16 ku_17 bd_21 tU_18 hw_20_1 hw_20_2 p1 bd_22 H_19.size) (cwV 1 hts (kG (List.forall_mem_cons.mpr ⟨(List.mem_cons_of_mem _ (List.mem_append_left _ (List.mem_of_getElem? (i := 9) rfl))), (List.forall_mem_cons.mpr ⟨(List.mem_cons_of_mem _ (List.mem_append_left _ (List.mem_of_getElem? (i := 8) rfl))), (List.forall_mem_cons.mpr ⟨(List.mem_cons_of_mem _ (List.mem_append_left _ (List.mem_of_getElem? (i := 7) rfl))), (List.forall_mem_cons.mpr ⟨(List.mem_cons_of_mem _ (List.mem_append_left _ (List.mem_of_getElem? (i := 0) rfl))), (fun _ h => absurd h List.not_mem_nil)⟩)⟩)⟩)⟩) (kGV _ _ _ _) (fun _ h => List.mem_cons_of_mem _ (List.mem_append_right _ (List.mem_append_right _ (List.mem_append_right _ (List.mem_append_right _ h))))) gw_s_append8x) rfl rfl rfl ⟨rfl, hd_X8_append⟩ ⟨(Nat.le_of_ble_eq_true rfl), (Nat.le_of_ble_eq_true rfl)⟩) (kW_V kT_blind kT_give (va_recv hKc hPc (ci := 8) (q0 := 0) rfl rfl) hPc hKc hDc) rfl rfl hl.1 rfl (lv_room (Nat.le_of_ble_eq_true rfl)) dX9_feed_58 ⟨(Nat.le_of_ble_eq_true rfl), (Nat.le_of_ble_eq_true rfl)⟩) hS (fun q _ h => hFc q h) hFc (kU3 (fun gU_23 ku_24 tU_25 t H_26 locs ht hvm hw hB hz1 hk1 hS => ?_))
    try dsimp only at hw
    have hPD : kPD dC dI A [(jX, .inr (9, [.ref jT, .ref jR, .ref jK, .ref jL, .ref jU, .ref hF, .ref jC, .ref hN, .ref jA, .ref sd])), (jT, .inr (8, [.ref t0, .int (nI (ku_24))])), (t0, .inl (cC, 120, .inl gU_23))] H_26 := kJoinX hP hD [1, 2] rfl hk1 hFc hB.1 ht hB.2.2 rfl [none, some 0, some 1] rfl rfl
    have hP := hPD.1
    have hD := hPD.2
    have hw_27 := hw
    have hw_27_0 := hw_27.1
    have hw_27_1 := hw_27.2.1
    have hw_27_2 := hw_27.2.2.1
    have hw_27_3 := hw_27.2.2.2
    refine lv_aload_n hx hb dX9_feed_61 rfl (lv_at hl 1 rfl) ?_
    refine va_get (D := (dC, dI)) (ci := 9) (v := .ref jT) (C := RX9) (T := TX9) (N := 10) hx hb hts (fun _ h => List.mem_cons_of_mem _ (List.mem_append_right _ (List.mem_append_right _ (List.mem_append_left _ h)))) hown hK hP 0 rfl rfl 0 kc_l_0_10 (hts (.fieldLink RX9 12 "NotEnded" "tape" "LNotEnded$Tape;") (List.mem_cons_of_mem _ (List.mem_append_left _ (List.mem_of_getElem? (i := 3) rfl)))) (fun _ h9 => h9) rfl dX9_feed_62 ?_
    refine lv_iload_n hx hb dX9_feed_65 rfl (lv_at hl 4 rfl) ?_
    have bd_28 : ku_24 ≤ 120 := by omega
    have bd_29 : ku_24 + kCnt p2 ≤ 120 := by omega
    have hCu := kCut (wc := [(jT, .inr (8, [.ref t0, .int (nI (ku_24))])), (t0, .inl (cC, 120, .inl gU_23))]) hP hD hS hA [1, 2] rfl kc_nd_570 rfl
    have hPc := hCu.1
    have hDc := hCu.2.1
    have hFc := hCu.2.2
    have hKc := hK.sb (tys2 := [(cC, .char)]) [0] rfl
    refine va_callv (va_runV (As := [.int p2]) (rest := []) ⟨hx, hb, hml, hown, hts⟩ (s_append8x l dC dI jT t0 cC gU_23 ku_24 bd_28 tU_25 hw_27_1 hw_27_2 p2 bd_29 H_26.size) (cwV 1 hts (kG (List.forall_mem_cons.mpr ⟨(List.mem_cons_of_mem _ (List.mem_append_left _ (List.mem_of_getElem? (i := 9) rfl))), (List.forall_mem_cons.mpr ⟨(List.mem_cons_of_mem _ (List.mem_append_left _ (List.mem_of_getElem? (i := 8) rfl))), (List.forall_mem_cons.mpr ⟨(List.mem_cons_of_mem _ (List.mem_append_left _ (List.mem_of_getElem? (i := 7) rfl))), (List.forall_mem_cons.mpr ⟨(List.mem_cons_of_mem _ (List.mem_append_left _ (List.mem_of_getElem? (i := 0) rfl))), (fun _ h => absurd h List.not_mem_nil)⟩)⟩)⟩)⟩) (kGV _ _ _ _) (fun _ h => List.mem_cons_of_mem _ (List.mem_append_right _ (List.mem_append_right _ (List.mem_append_right _ (List.mem_append_right _ h))))) gw_s_append8x) rfl rfl rfl ⟨rfl, hd_X8_append⟩ ⟨(Nat.le_of_ble_eq_true rfl), (Nat.le_of_ble_eq_true rfl)⟩) (kW_V kT_blind kT_give (va_recv hKc hPc (ci := 8) (q0 := 0) rfl rfl) hPc hKc hDc) rfl rfl hl.1 rfl (lv_room (Nat.le_of_ble_eq_true rfl)) dX9_feed_66 ⟨(Nat.le_of_ble_eq_true rfl), (Nat.le_of_ble_eq_true rfl)⟩) hS (fun q _ h => hFc q h) hFc (kU3 (fun gU_30 ku_31 tU_32 t H_33 locs ht hvm hw hB hz1 hk1 hS => ?_))
    try dsimp only at hw
    have hPD : kPD dC dI A [(jX, .inr (9, [.ref jT, .ref jR, .ref jK, .ref jL, .ref jU, .ref hF, .ref jC, .ref hN, .ref jA, .ref sd])), (jT, .inr (8, [.ref t0, .int (nI (ku_31))])), (t0, .inl (cC, 120, .inl gU_30))] H_33 := kJoinX hP hD [1, 2] rfl hk1 hFc hB.1 ht hB.2.2 rfl [none, some 0, some 1] rfl rfl
    have hP := hPD.1
    have hD := hPD.2
    have hw_34 := hw
    have hw_34_0 := hw_34.1
    have hw_34_1 := hw_34.2.1
    have hw_34_2 := hw_34.2.2.1
    have hw_34_3 := hw_34.2.2.2
    refine lv_aload_n hx hb dX9_feed_69 rfl (lv_at hl 1 rfl) ?_
    refine va_get (D := (dC, dI)) (ci := 9) (v := .ref jT) (C := RX9) (T := TX9) (N := 10) hx hb hts (fun _ h => List.mem_cons_of_mem _ (List.mem_append_right _ (List.mem_append_right _ (List.mem_append_left _ h)))) hown hK hP 0 rfl rfl 0 kc_l_0_10 (hts (.fieldLink RX9 12 "NotEnded" "tape" "LNotEnded$Tape;") (List.mem_cons_of_mem _ (List.mem_append_left _ (List.mem_of_getElem? (i := 3) rfl)))) (fun _ h9 => h9) rfl dX9_feed_70 ?_
    refine lv_iload hx hb dX9_feed_73 (lv_at hl 5 rfl) ?_
    have bd_35 : ku_31 ≤ 120 := by omega
    have bd_36 : ku_31 + kCnt p3 ≤ 120 := by omega
    have hCu := kCut (wc := [(jT, .inr (8, [.ref t0, .int (nI (ku_31))])), (t0, .inl (cC, 120, .inl gU_30))]) hP hD hS hA [1, 2] rfl kc_nd_570 rfl
    have hPc := hCu.1
    have hDc := hCu.2.1
    have hFc := hCu.2.2
    have hKc := hK.sb (tys2 := [(cC, .char)]) [0] rfl
    refine va_callv (va_runV (As := [.int p3]) (rest := []) ⟨hx, hb, hml, hown, hts⟩ (s_append8x l dC dI jT t0 cC gU_30 ku_31 bd_35 tU_32 hw_34_1 hw_34_2 p3 bd_36 H_33.size) (cwV 1 hts (kG (List.forall_mem_cons.mpr ⟨(List.mem_cons_of_mem _ (List.mem_append_left _ (List.mem_of_getElem? (i := 9) rfl))), (List.forall_mem_cons.mpr ⟨(List.mem_cons_of_mem _ (List.mem_append_left _ (List.mem_of_getElem? (i := 8) rfl))), (List.forall_mem_cons.mpr ⟨(List.mem_cons_of_mem _ (List.mem_append_left _ (List.mem_of_getElem? (i := 7) rfl))), (List.forall_mem_cons.mpr ⟨(List.mem_cons_of_mem _ (List.mem_append_left _ (List.mem_of_getElem? (i := 0) rfl))), (fun _ h => absurd h List.not_mem_nil)⟩)⟩)⟩)⟩) (kGV _ _ _ _) (fun _ h => List.mem_cons_of_mem _ (List.mem_append_right _ (List.mem_append_right _ (List.mem_append_right _ (List.mem_append_right _ h))))) gw_s_append8x) rfl rfl rfl ⟨rfl, hd_X8_append⟩ ⟨(Nat.le_of_ble_eq_true rfl), (Nat.le_of_ble_eq_true rfl)⟩) (kW_V kT_blind kT_give (va_recv hKc hPc (ci := 8) (q0 := 0) rfl rfl) hPc hKc hDc) rfl rfl hl.1 rfl (lv_room (Nat.le_of_ble_eq_true rfl)) dX9_feed_75 ⟨(Nat.le_of_ble_eq_true rfl), (Nat.le_of_ble_eq_true rfl)⟩) hS (fun q _ h => hFc q h) hFc (kU3 (fun gU_37 ku_38 tU_39 t H_40 locs ht hvm hw hB hz1 hk1 hS => ?_))
    try dsimp only at hw
    have hPD : kPD dC dI A [(jX, .inr (9, [.ref jT, .ref jR, .ref jK, .ref jL, .ref jU, .ref hF, .ref jC, .ref hN, .ref jA, .ref sd])), (jT, .inr (8, [.ref t0, .int (nI (ku_38))])), (t0, .inl (cC, 120, .inl gU_37))] H_40 := kJoinX hP hD [1, 2] rfl hk1 hFc hB.1 ht hB.2.2 rfl [none, some 0, some 1] rfl rfl
    have hP := hPD.1
    have hD := hPD.2
    have hw_41 := hw
    have hw_41_0 := hw_41.1
    have hw_41_1 := hw_41.2.1
    have hw_41_2 := hw_41.2.2.1
    have hw_41_3 := hw_41.2.2.2
    refine lv_aload_n hx hb dX9_feed_78 rfl (lv_at hl 1 rfl) ?_
    refine va_get (D := (dC, dI)) (ci := 9) (v := .ref jT) (C := RX9) (T := TX9) (N := 10) hx hb hts (fun _ h => List.mem_cons_of_mem _ (List.mem_append_right _ (List.mem_append_right _ (List.mem_append_left _ h)))) hown hK hP 0 rfl rfl 0 kc_l_0_10 (hts (.fieldLink RX9 12 "NotEnded" "tape" "LNotEnded$Tape;") (List.mem_cons_of_mem _ (List.mem_append_left _ (List.mem_of_getElem? (i := 3) rfl)))) (fun _ h9 => h9) rfl dX9_feed_79 ?_
    refine lv_iload hx hb dX9_feed_82 (lv_at hl 6 rfl) ?_
    have bd_42 : ku_38 ≤ 120 := by omega
    have bd_43 : ku_38 + kCnt p4 ≤ 120 := by omega
    have hCu := kCut (wc := [(jT, .inr (8, [.ref t0, .int (nI (ku_38))])), (t0, .inl (cC, 120, .inl gU_37))]) hP hD hS hA [1, 2] rfl kc_nd_570 rfl
    have hPc := hCu.1
    have hDc := hCu.2.1
    have hFc := hCu.2.2
    have hKc := hK.sb (tys2 := [(cC, .char)]) [0] rfl
    refine va_callv (va_runV (As := [.int p4]) (rest := []) ⟨hx, hb, hml, hown, hts⟩ (s_append8x l dC dI jT t0 cC gU_37 ku_38 bd_42 tU_39 hw_41_1 hw_41_2 p4 bd_43 H_40.size) (cwV 1 hts (kG (List.forall_mem_cons.mpr ⟨(List.mem_cons_of_mem _ (List.mem_append_left _ (List.mem_of_getElem? (i := 9) rfl))), (List.forall_mem_cons.mpr ⟨(List.mem_cons_of_mem _ (List.mem_append_left _ (List.mem_of_getElem? (i := 8) rfl))), (List.forall_mem_cons.mpr ⟨(List.mem_cons_of_mem _ (List.mem_append_left _ (List.mem_of_getElem? (i := 7) rfl))), (List.forall_mem_cons.mpr ⟨(List.mem_cons_of_mem _ (List.mem_append_left _ (List.mem_of_getElem? (i := 0) rfl))), (fun _ h => absurd h List.not_mem_nil)⟩)⟩)⟩)⟩) (kGV _ _ _ _) (fun _ h => List.mem_cons_of_mem _ (List.mem_append_right _ (List.mem_append_right _ (List.mem_append_right _ (List.mem_append_right _ h))))) gw_s_append8x) rfl rfl rfl ⟨rfl, hd_X8_append⟩ ⟨(Nat.le_of_ble_eq_true rfl), (Nat.le_of_ble_eq_true rfl)⟩) (kW_V kT_blind kT_give (va_recv hKc hPc (ci := 8) (q0 := 0) rfl rfl) hPc hKc hDc) rfl rfl hl.1 rfl (lv_room (Nat.le_of_ble_eq_true rfl)) dX9_feed_84 ⟨(Nat.le_of_ble_eq_true rfl), (Nat.le_of_ble_eq_true rfl)⟩) hS (fun q _ h => hFc q h) hFc (kU3 (fun gU_44 ku_45 tU_46 t H_47 locs ht hvm hw hB hz1 hk1 hS => ?_))
    try dsimp only at hw
    have hPD : kPD dC dI A [(jX, .inr (9, [.ref jT, .ref jR, .ref jK, .ref jL, .ref jU, .ref hF, .ref jC, .ref hN, .ref jA, .ref sd])), (jT, .inr (8, [.ref t0, .int (nI (ku_45))])), (t0, .inl (cC, 120, .inl gU_44))] H_47 := kJoinX hP hD [1, 2] rfl hk1 hFc hB.1 ht hB.2.2 rfl [none, some 0, some 1] rfl rfl
    have hP := hPD.1
    have hD := hPD.2
    have hw_48 := hw
    have hw_48_0 := hw_48.1
    have hw_48_1 := hw_48.2.1
    have hw_48_2 := hw_48.2.2.1
    have hw_48_3 := hw_48.2.2.2
    refine lv_aload_n hx hb dX9_feed_87 rfl (lv_at hl 1 rfl) ?_
    refine va_get (D := (dC, dI)) (ci := 9) (v := .ref jT) (C := RX9) (T := TX9) (N := 10) hx hb hts (fun _ h => List.mem_cons_of_mem _ (List.mem_append_right _ (List.mem_append_right _ (List.mem_append_left _ h)))) hown hK hP 0 rfl rfl 0 kc_l_0_10 (hts (.fieldLink RX9 12 "NotEnded" "tape" "LNotEnded$Tape;") (List.mem_cons_of_mem _ (List.mem_append_left _ (List.mem_of_getElem? (i := 3) rfl)))) (fun _ h9 => h9) rfl dX9_feed_88 ?_
    have bd_49 : ku_45 ≤ 120 := by omega
    have hPc := hP.sb (ws2 := [(jT, .inr (8, [.ref t0, .int (nI (ku_45))])), (t0, .inl (cC, 120, .inl gU_44))]) [1, 2] rfl
    have hKc := hK.sb (tys2 := [(cC, .char)]) [0] rfl
    refine vp_callSi (va_runV (As := []) (rest := []) ⟨hx, hb, hml, hown, hts⟩ (s_length8 l dC dI jT t0 cC gU_44 ku_45 bd_49 (kHgT hw_48_1 hw_48_2)) (cwV 0 hts (kG (List.forall_mem_cons.mpr ⟨(List.mem_cons_of_mem _ (List.mem_append_left _ (List.mem_of_getElem? (i := 6) rfl))), (List.forall_mem_cons.mpr ⟨(List.mem_cons_of_mem _ (List.mem_append_left _ (List.mem_of_getElem? (i := 5) rfl))), (List.forall_mem_cons.mpr ⟨(List.mem_cons_of_mem _ (List.mem_append_left _ (List.mem_of_getElem? (i := 4) rfl))), (List.forall_mem_cons.mpr ⟨(List.mem_cons_of_mem _ (List.mem_append_left _ (List.mem_of_getElem? (i := 0) rfl))), (fun _ h => absurd h List.not_mem_nil)⟩)⟩)⟩)⟩) (kGV _ _ _ _) (fun _ h => List.mem_cons_of_mem _ (List.mem_append_right _ (List.mem_append_right _ (List.mem_append_right _ (List.mem_append_left _ h))))) gw_s_length8) rfl rfl rfl ⟨rfl, hd_X8_length⟩ ⟨(Nat.le_of_ble_eq_true rfl), (Nat.le_of_ble_eq_true rfl)⟩) (kR_V kT_blind kT_give (va_recv hKc hPc (ci := 8) (q0 := 0) rfl rfl) hPc hKc) rfl rfl hl.1 rfl (lv_room (Nat.le_of_ble_eq_true rfl)) dX9_feed_91 ⟨(Nat.le_of_ble_eq_true rfl), (Nat.le_of_ble_eq_true rfl)⟩).run (fun r_50 hw => ?_)
    obtain rfl : r_50 = nI (ku_45) := hw
    have hP9 := hP
    have hD9 := hD
    have hK9 := hK
    rw [hQ]
    exact W.iret (v := nI (ku_45)) hx hb hr (fun t ht hW => ⟨⟨nI (ku_45), (gU_44, ku_45, tU_46), rfl, ⟨by unfold kFed; rw [if_neg (by omega), hw_20_0, hw_27_0, hw_34_0, hw_41_0, hw_48_0], by unfold kFeA; rw [if_neg (by omega)], hw_48_1, hw_48_2, by omega⟩,  by rw [ht]; exact hP9, va_K.moved hW.alike hK9, hD9⟩, hS.F ht⟩) hS.2.2 dX9_feed_94
  · have bd_52 : kt + (kCnt p0 + kCnt p1 + kCnt p2 + kCnt p3 + kCnt p4) < 2147483648 := by omega
    have hn_51 := knle (a := kt + (kCnt p0 + kCnt p1 + kCnt p2 + kCnt p3 + kCnt p4)) (b := 120) bd_52 kc_31_120 c_12
    refine lv_iconst (v := (-1)) hx hb dX9_feed_43 kc_i_m1 ?_
    have hP9 := hP
    have hD9 := hD
    have hK9 := hK
    rw [hQ]
    exact W.iret (v := (-1)) hx hb hr (fun t ht hW => ⟨⟨(-1), (gT, kt, bt), rfl, ⟨by unfold kFed; rw [if_pos (by omega)], by unfold kFeA; rw [if_pos (by omega)], hbt, hb8, by omega⟩,  by rw [ht]; exact hP9, va_K.moved hW.alike hK9, hD9⟩, hS.F ht⟩) hS.2.2 dX9_feed_44

theorem dX9_end_0 : decode cX9_end 0 = .ok (.iload_n 1, 1) := kDs0 kf_27 (by decide +kernel)
theorem dX9_end_1 : decode cX9_end 1 = .ok (.ifCond .lt 14, 3) := kDs4 kf_155 (by decide +kernel)
theorem dX9_end_15 : decode cX9_end 15 = .ok (.iconst 0, 1) := kDs0 kf_3 (by decide +kernel)
theorem dX9_end_16 : decode cX9_end 16 = .ok (.ireturn, 1) := kDs0 kf_172 (by decide +kernel)
theorem dX9_end_4 : decode cX9_end 4 = .ok (.iload_n 1, 1) := kDs0 kf_27 (by decide +kernel)
theorem dX9_end_5 : decode cX9_end 5 = .ok (.aload_n 0, 1) := kDs0 kf_42 (by decide +kernel)
theorem dX9_end_6 : decode cX9_end 6 = .ok (.getfield 12, 3) := kDs2 kf_180 (by decide +kernel)
theorem dX9_end_9 : decode cX9_end 9 = .ok (.invokevirtual 88, 3) := kDs2 kf_182 (by decide +kernel)
theorem dX9_end_12 : decode cX9_end 12 = .ok (.if_icmp .le 5, 3) := kDs4 kf_164 (by decide +kernel)
theorem dX9_end_17 : decode cX9_end 17 = .ok (.aload_n 0, 1) := kDs0 kf_42 (by decide +kernel)
theorem dX9_end_18 : decode cX9_end 18 = .ok (.getfield 12, 3) := kDs2 kf_180 (by decide +kernel)
theorem dX9_end_21 : decode cX9_end 21 = .ok (.iload_n 1, 1) := kDs0 kf_27 (by decide +kernel)
theorem dX9_end_22 : decode cX9_end 22 = .ok (.invokevirtual 95, 3) := kDs2 kf_182 (by decide +kernel)
theorem dX9_end_25 : decode cX9_end 25 = .ok (.iconst 1, 1) := kDs0 kf_4 (by decide +kernel)
theorem dX9_end_26 : decode cX9_end 26 = .ok (.ireturn, 1) := kDs0 kf_172 (by decide +kernel)
def w_s_end9 : List Cond := .code yX9_end cX9_end 2 (some .boolean) :: ([.fieldLink RX9 12 "NotEnded" "tape" "LNotEnded$Tape;", .initialized RX8, .selects RX8 yX8_length yX8_length, .instanceMethod yX8_length, .methodLink RX9 88 yX8_length, .selects RX8 yX8_cutTo yX8_cutTo, .instanceMethod yX8_cutTo, .methodLink RX9 95 yX8_cutTo] ++ (wsX90 ++ (w_s_length8 ++ (w_s_cutTo8))))
theorem gw_s_end9 : (w_s_end9).all goodWord = true := kGc rfl (kGa (by decide +kernel) (kGa gw_wsX90 (kGa gw_s_length8 gw_s_cutTo8)))
theorem hd_X9_end : yX9_end.cls ≠ "java/lang/invoke/MethodHandle" ∧ yX9_end.cls ≠ "java/lang/invoke/VarHandle" ∧ (parseMethodDescriptor yX9_end.desc).map (fun d => d.parameters.length) = some 1 := by decide +kernel
set_option maxHeartbeats 4000000 in
set_option maxRecDepth 100000 in
theorem s_end9 (l : Launch) (dC : Nat → ClassId) (dI : Nat → Nat → Nat) (jX : Nat) (jT : Nat) (jR : Nat) (jL : Nat) (jU : Nat) (hN : Nat) (jA : Nat) (sd : Nat) (hF : Nat) (jC : Nat) (jK : Nat) (t0 : Nat) (cC : ClassId) (gT : Nat → Int32) (kt : Nat) (hkt : kt ≤ 120) (hgT : ∀ j : Nat, narrow .char (.int (gT j)) = .int (gT j)) (p0 : Int32) (sz : Nat) : Met l yX9_end w_s_end9 ({ frames := 4, cells := 0, slots := 0, locals := 240 }) (kW dC dI [.ref jX, .int p0] [(jX, .inr (9, [.ref jT, .ref jR, .ref jK, .ref jL, .ref jU, .ref hF, .ref jC, .ref hN, .ref jA, .ref sd])), (jT, .inr (8, [.ref t0, .int (nI (kt))])), (t0, .inl (cC, 120, .inl gT))] [(cC, .char)] kNL sz) (va_Qi (fun (r : Int32) (ku : Nat) => (r = kEnA p0 kt ∧ ku = kEnK p0 kt ∧ ku ≤ 120)) (fun (ku : Nat) => fun t : State => kB dC dI [(jX, .inr (9, [.ref jT, .ref jR, .ref jK, .ref jL, .ref jU, .ref hF, .ref jC, .ref hN, .ref jA, .ref sd])), (jT, .inr (8, [.ref t0, .int (nI (ku))])), (t0, .inl (cC, 120, .inl gT))] [(cC, .char)] (va_A [(jX, .inr (9, [.ref jT, .ref jR, .ref jK, .ref jL, .ref jU, .ref hF, .ref jC, .ref hN, .ref jA, .ref sd])), (jT, .inr (8, [.ref t0, .int (nI (kt))])), (t0, .inl (cC, 120, .inl gT))] sz) t) (va_A [(jX, .inr (9, [.ref jT, .ref jR, .ref jK, .ref jL, .ref jU, .ref hF, .ref jC, .ref hN, .ref jA, .ref sd])), (jT, .inr (8, [.ref t0, .int (nI (kt))])), (t0, .inl (cC, 120, .inl gT))] sz)) 0 0 (va_A [(jX, .inr (9, [.ref jT, .ref jR, .ref jK, .ref jL, .ref jU, .ref hF, .ref jC, .ref hN, .ref jA, .ref sd])), (jT, .inr (8, [.ref t0, .int (nI (kt))])), (t0, .inl (cC, 120, .inl gT))] sz) := by
  refine Met.ofW (cc := cX9_end) (maxL := 2) (ret := (some .boolean)) (by decide) rfl ?_
  intro p e s m args below meth c s₁ B hml hv
  obtain ⟨rfl, hsz, hP, hK, hD0, hX⟩ := hv
  have hx := B.exec
  have hb := B.bytes
  have hr := B.returns
  have hts := atoms_spec (ws := w_s_end9) B.pre
  have hown : s.vm.findClass RX9 = some m.cls := findClass_of_methodNamed B.named
  have hlocks := B.notSynchronized
  subst hsz
  have hD := hD0.self (sz := s.heap.size)
  generalize hAe : va_A [(jX, .inr (9, [.ref jT, .ref jR, .ref jK, .ref jL, .ref jU, .ref hF, .ref jC, .ref hN, .ref jA, .ref sd])), (jT, .inr (8, [.ref t0, .int (nI (kt))])), (t0, .inl (cC, 120, .inl gT))] s.heap.size = A at hD ⊢
  have hA : ∀ q : Nat, s.heap.size ≤ q → A q := fun q h => by rw [← hAe]; exact Or.inr h
  have hS : va_S A s.heap s.heap [] := va_S.rf
  have hP : va_P (dC, dI) vwCl [(jX, .inr (9, [.ref jT, .ref jR, .ref jK, .ref jL, .ref jU, .ref hF, .ref jC, .ref hN, .ref jA, .ref sd])), (jT, .inr (8, [.ref t0, .int (nI (kt))])), (t0, .inl (cC, 120, .inl gT))] s.heap := hP
  have hl := lv_entry ([.ref jX, .int p0]) (n := 2) (Nat.le_of_ble_eq_true rfl)
  rw [lg_entry_eq]
  generalize (lg_sl ([.ref jX, .int p0]) ++ List.replicate (2 - (lg_sl ([.ref jX, .int p0])).length) Slot.unset).toArray = ls at hl ⊢
  have hl : lv_has ls 2 [(0, .ref jX), (1, .int p0)] := hl
  refine kQ (fun Q hQ => ?_)
  refine lv_iload_n hx hb dX9_end_0 rfl (lv_at hl 1 rfl) ?_
  refine lv_if_lt (tgt := 15) hx hb dX9_end_1 kc_t_1_14 (fun c_1 => ?_) (fun c_1 => ?_)
  · refine lv_iconst (v := 0) hx hb dX9_end_15 kc_i_0 ?_
    have hP9 := hP
    have hD9 := hD
    have hK9 := hK
    rw [hQ]
    exact W.zret (v := 0) hx hb hr rfl (fun t ht hW => ⟨⟨0, kt, rfl, ⟨by unfold kEnA; rw [if_pos c_1], by unfold kEnK; rw [if_pos c_1], by omega⟩,  by rw [ht]; exact hP9, va_K.moved hW.alike hK9, hD9⟩, hS.F ht⟩) hS.2.2 dX9_end_16
  · obtain ⟨j_2, hj_2, ej_2⟩ := nI_of c_1
    subst ej_2
    refine lv_iload_n hx hb dX9_end_4 rfl (lv_at hl 1 rfl) ?_
    refine lv_aload_n hx hb dX9_end_5 rfl (lv_at hl 0 rfl) ?_
    refine va_get (D := (dC, dI)) (ci := 9) (v := .ref jT) (C := RX9) (T := TX9) (N := 10) hx hb hts (fun _ h => List.mem_cons_of_mem _ (List.mem_append_right _ (List.mem_append_left _ h))) hown hK hP 0 rfl rfl 0 kc_l_0_10 (hts (.fieldLink RX9 12 "NotEnded" "tape" "LNotEnded$Tape;") (List.mem_cons_of_mem _ (List.mem_append_left _ (List.mem_of_getElem? (i := 0) rfl)))) (fun _ h9 => h9) rfl dX9_end_6 ?_
    have hPc := hP.sb (ws2 := [(jT, .inr (8, [.ref t0, .int (nI (kt))])), (t0, .inl (cC, 120, .inl gT))]) [1, 2] rfl
    have hKc := hK.sb (tys2 := [(cC, .char)]) [0] rfl
    refine vp_callSi (va_runV (As := []) (rest := [.int (nI (j_2))]) ⟨hx, hb, hml, hown, hts⟩ (s_length8 l dC dI jT t0 cC gT kt hkt hgT) (cwV 0 hts (kG (List.forall_mem_cons.mpr ⟨(List.mem_cons_of_mem _ (List.mem_append_left _ (List.mem_of_getElem? (i := 4) rfl))), (List.forall_mem_cons.mpr ⟨(List.mem_cons_of_mem _ (List.mem_append_left _ (List.mem_of_getElem? (i := 3) rfl))), (List.forall_mem_cons.mpr ⟨(List.mem_cons_of_mem _ (List.mem_append_left _ (List.mem_of_getElem? (i := 2) rfl))), (List.forall_mem_cons.mpr ⟨(List.mem_cons_of_mem _ (List.mem_append_left _ (List.mem_of_getElem? (i := 1) rfl))), (fun _ h => absurd h List.not_mem_nil)⟩)⟩)⟩)⟩) (kGV _ _ _ _) (fun _ h => List.mem_cons_of_mem _ (List.mem_append_right _ (List.mem_append_right _ (List.mem_append_left _ h)))) gw_s_length8) rfl rfl rfl ⟨rfl, hd_X8_length⟩ ⟨(Nat.le_of_ble_eq_true rfl), (Nat.le_of_ble_eq_true rfl)⟩) (kR_V kT_blind kT_give (va_recv hKc hPc (ci := 8) (q0 := 0) rfl rfl) hPc hKc) rfl rfl hl.1 rfl (lv_room (Nat.le_of_ble_eq_true rfl)) dX9_end_9 ⟨(Nat.le_of_ble_eq_true rfl), (Nat.le_of_ble_eq_true rfl)⟩).run (fun r_3 hw => ?_)
    obtain rfl : r_3 = nI (kt) := hw
    refine lv_icmp_le (tgt := 17) hx hb dX9_end_12 kc_t_12_5 (fun c_4 => ?_) (fun c_4 => ?_)
    · have bd_6 : j_2 < 2147483648 := by omega
      have bd_7 : kt < 2147483648 := by omega
      have hn_5 := kle (a := j_2) (b := kt) bd_6 bd_7 c_4
      refine lv_aload_n hx hb dX9_end_17 rfl (lv_at hl 0 rfl) ?_
      refine va_get (D := (dC, dI)) (ci := 9) (v := .ref jT) (C := RX9) (T := TX9) (N := 10) hx hb hts (fun _ h => List.mem_cons_of_mem _ (List.mem_append_right _ (List.mem_append_left _ h))) hown hK hP 0 rfl rfl 0 kc_l_0_10 (hts (.fieldLink RX9 12 "NotEnded" "tape" "LNotEnded$Tape;") (List.mem_cons_of_mem _ (List.mem_append_left _ (List.mem_of_getElem? (i := 0) rfl)))) (fun _ h9 => h9) rfl dX9_end_18 ?_
      refine lv_iload_n hx hb dX9_end_21 rfl (lv_at hl 1 rfl) ?_
      have bd_8 : j_2 ≤ kt := by omega
      have hCu := kCut (wc := [(jT, .inr (8, [.ref t0, .int (nI (kt))])), (t0, .inl (cC, 120, .inl gT))]) hP hD hS hA [1, 2] rfl kc_nd_570 rfl
      have hPc := hCu.1
      have hDc := hCu.2.1
      have hFc := hCu.2.2
      have hKc := hK.sb (tys2 := [(cC, .char)]) [0] rfl
      refine va_callv (va_runV (As := [.int (nI (j_2))]) (rest := []) ⟨hx, hb, hml, hown, hts⟩ (s_cutTo8 l dC dI jT t0 cC gT kt hkt hgT j_2 bd_8 s.heap.size) (cwV 1 hts (kG (List.forall_mem_cons.mpr ⟨(List.mem_cons_of_mem _ (List.mem_append_left _ (List.mem_of_getElem? (i := 7) rfl))), (List.forall_mem_cons.mpr ⟨(List.mem_cons_of_mem _ (List.mem_append_left _ (List.mem_of_getElem? (i := 6) rfl))), (List.forall_mem_cons.mpr ⟨(List.mem_cons_of_mem _ (List.mem_append_left _ (List.mem_of_getElem? (i := 5) rfl))), (List.forall_mem_cons.mpr ⟨(List.mem_cons_of_mem _ (List.mem_append_left _ (List.mem_of_getElem? (i := 1) rfl))), (fun _ h => absurd h List.not_mem_nil)⟩)⟩)⟩)⟩) (kGV _ _ _ _) (fun _ h => List.mem_cons_of_mem _ (List.mem_append_right _ (List.mem_append_right _ (List.mem_append_right _ h)))) gw_s_cutTo8) rfl rfl rfl ⟨rfl, hd_X8_cutTo⟩ ⟨(Nat.le_of_ble_eq_true rfl), (Nat.le_of_ble_eq_true rfl)⟩) (kW_V kNL_blind (kNL_give hX) (va_recv hKc hPc (ci := 8) (q0 := 0) rfl rfl) hPc hKc hDc) rfl rfl hl.1 rfl (lv_room (Nat.le_of_ble_eq_true rfl)) dX9_end_22 ⟨(Nat.le_of_ble_eq_true rfl), (Nat.le_of_ble_eq_true rfl)⟩) hS (fun q _ h => hFc q h) hFc (fun ku_9 t H_10 locs ht hvm hw hB hz1 hk1 hS => ?_)
      try dsimp only at hw
      have hPD : kPD dC dI A [(jX, .inr (9, [.ref jT, .ref jR, .ref jK, .ref jL, .ref jU, .ref hF, .ref jC, .ref hN, .ref jA, .ref sd])), (jT, .inr (8, [.ref t0, .int (nI (ku_9))])), (t0, .inl (cC, 120, .inl gT))] H_10 := kJoinX hP hD [1, 2] rfl hk1 hFc hB.1 ht hB.2.2 rfl [none, some 0, some 1] rfl rfl
      have hP := hPD.1
      have hD := hPD.2
      have hw_11 := hw
      refine lv_iconst (v := 1) hx hb dX9_end_25 kc_i_1 ?_
      have hP9 := hP
      have hD9 := hD
      have hK9 := hK
      rw [hQ]
      exact W.zret (v := 1) hx hb hr rfl (fun t ht hW => ⟨⟨1, ku_9, rfl, ⟨by unfold kEnA; rw [if_neg c_1, if_neg (Int32.not_lt.mpr c_4)], by unfold kEnK; rw [if_neg c_1, if_neg (Int32.not_lt.mpr c_4), nI_clamp (by omega)]; assumption, by omega⟩,  by rw [ht]; exact hP9, va_K.moved hW.alike hK9, hD9⟩, hS.F ht⟩) hS.2.2 dX9_end_26
    · have bd_13 : j_2 < 2147483648 := by omega
      have bd_14 : kt < 2147483648 := by omega
      have hn_12 := knle (a := j_2) (b := kt) bd_13 bd_14 c_4
      refine lv_iconst (v := 0) hx hb dX9_end_15 kc_i_0 ?_
      have hP9 := hP
      have hD9 := hD
      have hK9 := hK
      rw [hQ]
      exact W.zret (v := 0) hx hb hr rfl (fun t ht hW => ⟨⟨0, kt, rfl, ⟨by unfold kEnA; rw [if_neg c_1, if_pos (Int32.not_le.mp c_4)], by unfold kEnK; rw [if_neg c_1, if_pos (Int32.not_le.mp c_4)], by omega⟩,  by rw [ht]; exact hP9, va_K.moved hW.alike hK9, hD9⟩, hS.F ht⟩) hS.2.2 dX9_end_16

theorem dX9_fault_0 : decode cX9_fault 0 = .ok (.iload_n 1, 1) := kDs0 kf_27 (by decide +kernel)
theorem dX9_fault_1 : decode cX9_fault 1 = .ok (.invokestatic 98, 3) := kDs2 kf_184 (by decide +kernel)
theorem dX9_fault_4 : decode cX9_fault 4 = .ok (.ifCond .eq 14, 3) := kDs4 kf_153 (by decide +kernel)
theorem dX9_fault_18 : decode cX9_fault 18 = .ok (.bipush (-2), 2) := kDs3 kf_16 (by decide +kernel)
theorem dX9_fault_20 : decode cX9_fault 20 = .ok (.ireturn, 1) := kDs0 kf_172 (by decide +kernel)
theorem dX9_fault_7 : decode cX9_fault 7 = .ok (.aload_n 0, 1) := kDs0 kf_42 (by decide +kernel)
theorem dX9_fault_8 : decode cX9_fault 8 = .ok (.getfield 21, 3) := kDs2 kf_180 (by decide +kernel)
theorem dX9_fault_11 : decode cX9_fault 11 = .ok (.iload_n 1, 1) := kDs0 kf_27 (by decide +kernel)
theorem dX9_fault_12 : decode cX9_fault 12 = .ok (.invokevirtual 102, 3) := kDs2 kf_182 (by decide +kernel)
theorem dX9_fault_15 : decode cX9_fault 15 = .ok (.goto 5, 3) := kDs4 kf_167 (by decide +kernel)
def w_s_fault9 : List Cond := .code yX9_fault cX9_fault 2 (some .int) :: ([.initialized RX9, .static yX9_isSort, .methodLink RX9 98 yX9_isSort, .fieldLink RX9 21 "NotEnded" "reader" "LNotEnded$Reader;", .initialized RX4, .selects RX4 yX4_read yX4_read, .instanceMethod yX4_read, .methodLink RX9 102 yX4_read] ++ (w_s_isSort9 ++ (wsX90 ++ (w_s_read4x_0 ++ (w_s_read4x_1)))))
theorem gw_s_fault9 : (w_s_fault9).all goodWord = true := kGc rfl (kGa (by decide +kernel) (kGa gw_s_isSort9 (kGa gw_wsX90 (kGa gw_s_read4x_0 gw_s_read4x_1))))
theorem hd_X9_fault : yX9_fault.cls ≠ "java/lang/invoke/MethodHandle" ∧ yX9_fault.cls ≠ "java/lang/invoke/VarHandle" ∧ (parseMethodDescriptor yX9_fault.desc).map (fun d => d.parameters.length) = some 1 := by decide +kernel
set_option maxHeartbeats 4000000 in
set_option maxRecDepth 100000 in
theorem s_fault9 (l : Launch) (dC : Nat → ClassId) (dI : Nat → Nat → Nat) (jX : Nat) (jT : Nat) (jR : Nat) (jL : Nat) (jU : Nat) (hN : Nat) (jA : Nat) (sd : Nat) (hF : Nat) (jC : Nat) (jK : Nat) (ad : Nat → Nat) (bA : Nat) (nA : Nat) (xA : Nat → Int32) (hnA : nA ≤ 8) (bB : Nat) (nB : Nat) (xB : Nat → Int32) (hnB : nB ≤ 8) (bE : Nat) (nE : Nat) (xE : Nat → Int32) (hnE : nE ≤ 8) (bG : Nat) (nG : Nat) (xG : Nat → Int32) (hnG : nG ≤ 8) (hzA : kIx xA nA (nI 0) = nA) (hzB : kIx xB nB (nI 0) = nB) (hzE : kIx xE nE (nI 0) = nE) (hzG : kIx xG nG (nI 0) = nG) (gnA : ∀ k : Nat, ∃ v : Nat, v < 128 ∧ xA k = nI v) (gnB : ∀ k : Nat, ∃ v : Nat, v < 128 ∧ xB k = nI v) (gnE : ∀ k : Nat, ∃ v : Nat, v < 128 ∧ xE k = nI v) (gnG : ∀ k : Nat, ∃ v : Nat, v < 128 ∧ xG k = nI v) (t0 : Nat) (cC : ClassId) (gT : Nat → Int32) (kt : Nat) (hkt : kt ≤ 120) (bt : Nat → Nat) (hbt : ∀ j : Nat, gT j = nI (bt j)) (hb8 : ∀ j : Nat, bt j < 256) (r1 : Nat) (r2 : Nat) (c1 : ClassId) (c2 : ClassId) (s1 : Nat → Int32) (s2 : Nat → Int32) (wr : Nat) (fi : Nat) (hwr : wr ≤ 120) (hfi : fi ≤ 124) (pl : Int32) (v6 : Value) (v7 : Value) (p0 : Int32) (sz : Nat) : Met l yX9_fault w_s_fault9 ({ frames := 50, cells := 0, slots := 0, locals := 3000 }) (kW dC dI [.ref jX, .int p0] [(jX, .inr (9, [.ref jT, .ref jR, .ref jK, .ref jL, .ref jU, .ref hF, .ref jC, .ref hN, .ref jA, .ref sd])), (jR, .inr (4, [.ref jT, .ref r1, .ref r2, .int (nI (wr)), .int (nI (fi)), .int pl, v6, v7])), (r1, .inl (c1, 120, .inl s1)), (r2, .inl (c2, 124, .inl s2)), (jT, .inr (8, [.ref t0, .int (nI (kt))])), (t0, .inl (cC, 120, .inl gT))] [(c1, .int), (c2, .int), (cC, .char)] (kTxt ad bA nA xA bB nB xB bE nE xE bG nG xG (va_A [(jX, .inr (9, [.ref jT, .ref jR, .ref jK, .ref jL, .ref jU, .ref hF, .ref jC, .ref hN, .ref jA, .ref sd])), (jR, .inr (4, [.ref jT, .ref r1, .ref r2, .int (nI (wr)), .int (nI (fi)), .int pl, v6, v7])), (r1, .inl (c1, 120, .inl s1)), (r2, .inl (c2, 124, .inl s2)), (jT, .inr (8, [.ref t0, .int (nI (kt))])), (t0, .inl (cC, 120, .inl gT))] sz)) sz) (va_Qi (fun (r : Int32) (u : (Nat → Int32) × (Nat → Int32) × Int32 × Nat × Nat × Value × Value) => match u with | (S1, S2, Pl, Wr, Fi, V6, V7) => (r = kFtA p0 (kRead bt kt xA nA xB nB).1 (kRead bt kt xA nA xB nB).2.1 (kRead bt kt xE nE xG nG).1 (kRead bt kt xE nE xG nG).2.1 ∧ Wr ≤ 120 ∧ Fi ≤ 124)) (fun (u : (Nat → Int32) × (Nat → Int32) × Int32 × Nat × Nat × Value × Value) => match u with | (S1, S2, Pl, Wr, Fi, V6, V7) => fun t : State => kB dC dI [(jX, .inr (9, [.ref jT, .ref jR, .ref jK, .ref jL, .ref jU, .ref hF, .ref jC, .ref hN, .ref jA, .ref sd])), (jR, .inr (4, [.ref jT, .ref r1, .ref r2, .int (nI (Wr)), .int (nI (Fi)), .int Pl, V6, V7])), (r1, .inl (c1, 120, .inl S1)), (r2, .inl (c2, 124, .inl S2)), (jT, .inr (8, [.ref t0, .int (nI (kt))])), (t0, .inl (cC, 120, .inl gT))] [(c1, .int), (c2, .int), (cC, .char)] (va_A [(jX, .inr (9, [.ref jT, .ref jR, .ref jK, .ref jL, .ref jU, .ref hF, .ref jC, .ref hN, .ref jA, .ref sd])), (jR, .inr (4, [.ref jT, .ref r1, .ref r2, .int (nI (wr)), .int (nI (fi)), .int pl, v6, v7])), (r1, .inl (c1, 120, .inl s1)), (r2, .inl (c2, 124, .inl s2)), (jT, .inr (8, [.ref t0, .int (nI (kt))])), (t0, .inl (cC, 120, .inl gT))] sz) t) (va_A [(jX, .inr (9, [.ref jT, .ref jR, .ref jK, .ref jL, .ref jU, .ref hF, .ref jC, .ref hN, .ref jA, .ref sd])), (jR, .inr (4, [.ref jT, .ref r1, .ref r2, .int (nI (wr)), .int (nI (fi)), .int pl, v6, v7])), (r1, .inl (c1, 120, .inl s1)), (r2, .inl (c2, 124, .inl s2)), (jT, .inr (8, [.ref t0, .int (nI (kt))])), (t0, .inl (cC, 120, .inl gT))] sz)) 0 0 (va_A [(jX, .inr (9, [.ref jT, .ref jR, .ref jK, .ref jL, .ref jU, .ref hF, .ref jC, .ref hN, .ref jA, .ref sd])), (jR, .inr (4, [.ref jT, .ref r1, .ref r2, .int (nI (wr)), .int (nI (fi)), .int pl, v6, v7])), (r1, .inl (c1, 120, .inl s1)), (r2, .inl (c2, 124, .inl s2)), (jT, .inr (8, [.ref t0, .int (nI (kt))])), (t0, .inl (cC, 120, .inl gT))] sz) := by
  refine Met.ofW (cc := cX9_fault) (maxL := 2) (ret := (some .int)) (by decide) rfl ?_
  intro p e s m args below meth c s₁ B hml hv
  obtain ⟨rfl, hsz, hP, hK, hD0, hX⟩ := hv
  have hx := B.exec
  have hb := B.bytes
  have hr := B.returns
  have hts := atoms_spec (ws := w_s_fault9) B.pre
  have hown : s.vm.findClass RX9 = some m.cls := findClass_of_methodNamed B.named
  have hlocks := B.notSynchronized
  subst hsz
  have hD := hD0.self (sz := s.heap.size)
  generalize hAe : va_A [(jX, .inr (9, [.ref jT, .ref jR, .ref jK, .ref jL, .ref jU, .ref hF, .ref jC, .ref hN, .ref jA, .ref sd])), (jR, .inr (4, [.ref jT, .ref r1, .ref r2, .int (nI (wr)), .int (nI (fi)), .int pl, v6, v7])), (r1, .inl (c1, 120, .inl s1)), (r2, .inl (c2, 124, .inl s2)), (jT, .inr (8, [.ref t0, .int (nI (kt))])), (t0, .inl (cC, 120, .inl gT))] s.heap.size = A at hD hX ⊢
  have hA : ∀ q : Nat, s.heap.size ≤ q → A q := fun q h => by rw [← hAe]; exact Or.inr h
  have hS : va_S A s.heap s.heap [] := va_S.rf
  have hP : va_P (dC, dI) vwCl [(jX, .inr (9, [.ref jT, .ref jR, .ref jK, .ref jL, .ref jU, .ref hF, .ref jC, .ref hN, .ref jA, .ref sd])), (jR, .inr (4, [.ref jT, .ref r1, .ref r2, .int (nI (wr)), .int (nI (fi)), .int pl, v6, v7])), (r1, .inl (c1, 120, .inl s1)), (r2, .inl (c2, 124, .inl s2)), (jT, .inr (8, [.ref t0, .int (nI (kt))])), (t0, .inl (cC, 120, .inl gT))] s.heap := hP
  have hl := lv_entry ([.ref jX, .int p0]) (n := 2) (Nat.le_of_ble_eq_true rfl)
  rw [lg_entry_eq]
  generalize (lg_sl ([.ref jX, .int p0]) ++ List.replicate (2 - (lg_sl ([.ref jX, .int p0])).length) Slot.unset).toArray = ls at hl ⊢
  have hl : lv_has ls 2 [(0, .ref jX), (1, .int p0)] := hl
  refine kQ (fun Q hQ => ?_)
  refine lv_iload_n hx hb dX9_fault_0 rfl (lv_at hl 1 rfl) ?_
  have hPc := hP.sb (ws2 := []) [] rfl
  have hKc := hK.sb (tys2 := []) [] rfl
  refine vp_callSi (va_runS (As := [.int p0]) (rest := []) ⟨hx, hb, hml, hown, hts⟩ (s_isSort9 l dC dI p0) (va_cwS 1 hts (kG (List.forall_mem_cons.mpr ⟨(List.mem_cons_of_mem _ (List.mem_append_left _ (List.mem_of_getElem? (i := 2) rfl))), (List.forall_mem_cons.mpr ⟨(List.mem_cons_of_mem _ (List.mem_append_left _ (List.mem_of_getElem? (i := 1) rfl))), (List.forall_mem_cons.mpr ⟨(List.mem_cons_of_mem _ (List.mem_append_left _ (List.mem_of_getElem? (i := 0) rfl))), (fun _ h => absurd h List.not_mem_nil)⟩)⟩)⟩) (kGS _ _ _) (fun _ h => List.mem_cons_of_mem _ (List.mem_append_right _ (List.mem_append_left _ h))) gw_s_isSort9) rfl rfl rfl hd_X9_isSort ⟨(Nat.le_of_ble_eq_true rfl), (Nat.le_of_ble_eq_true rfl)⟩) (kR_S kT_blind kT_give hPc hKc) rfl rfl hl.1 rfl (lv_room (Nat.le_of_ble_eq_true rfl)) dX9_fault_1 ⟨(Nat.le_of_ble_eq_true rfl), (Nat.le_of_ble_eq_true rfl)⟩).run (fun r_1 hw => ?_)
  have hw_2 := hw
  refine lv_if_eq (tgt := 18) hx hb dX9_fault_4 kc_t_4_14 (fun c_3 => ?_) (fun c_3 => ?_)
  · refine lv_bipush (v := (-2)) hx hb dX9_fault_18 kc_b_m2 ?_
    have hP9 := hP
    have hD9 := hD
    have hK9 := hK
    rw [hQ]
    exact W.iret (v := (-2)) hx hb hr (fun t ht hW => ⟨⟨(-2), (s1, s2, pl, wr, fi, (v6 : Value), (v7 : Value)), rfl, ⟨by rw [kFtA_z (hw_2.symm.trans c_3)], by omega, by omega⟩,  by rw [ht]; exact hP9, va_K.moved hW.alike hK9, hD9⟩, hS.F ht⟩) hS.2.2 dX9_fault_20
  · rcases kSort_or (fun z => c_3 (hw_2.trans z)) with rfl | rfl
    · refine lv_aload_n hx hb dX9_fault_7 rfl (lv_at hl 0 rfl) ?_
      refine va_get (D := (dC, dI)) (ci := 9) (v := .ref jR) (C := RX9) (T := TX9) (N := 10) hx hb hts (fun _ h => List.mem_cons_of_mem _ (List.mem_append_right _ (List.mem_append_right _ (List.mem_append_left _ h)))) hown hK hP 0 rfl rfl 1 kc_l_1_10 (hts (.fieldLink RX9 21 "NotEnded" "reader" "LNotEnded$Reader;") (List.mem_cons_of_mem _ (List.mem_append_left _ (List.mem_of_getElem? (i := 3) rfl)))) (fun _ h9 => h9) rfl dX9_fault_8 ?_
      refine lv_iload_n hx hb dX9_fault_11 rfl (lv_at hl 1 rfl) ?_
      have hCu := kCut (wc := [(jR, .inr (4, [.ref jT, .ref r1, .ref r2, .int (nI (wr)), .int (nI (fi)), .int pl, v6, v7])), (r1, .inl (c1, 120, .inl s1)), (r2, .inl (c2, 124, .inl s2)), (jT, .inr (8, [.ref t0, .int (nI (kt))])), (t0, .inl (cC, 120, .inl gT))]) hP hD hS hA [1, 2, 3, 4, 5] rfl kc_nd_574 rfl
      have hPc := hCu.1
      have hDc := hCu.2.1
      have hFc := hCu.2.2
      have hKc := hK.sb (tys2 := [(c1, .int), (c2, .int), (cC, .char)]) [0, 1, 2] rfl
      refine va_calli (va_runV (As := [.int 0]) (rest := []) ⟨hx, hb, hml, hown, hts⟩ (s_read4x_0 l dC dI ad jT t0 cC gT kt hkt (kHgT hbt hb8) bt hbt hb8 jR r1 r2 c1 c2 s1 s2 wr fi hwr hfi pl (v6 : Value) (v7 : Value) bA nA xA hnA bB nB xB hnB gnA hzA gnB hzB s.heap.size) (cwV 1 hts (kG (List.forall_mem_cons.mpr ⟨(List.mem_cons_of_mem _ (List.mem_append_left _ (List.mem_of_getElem? (i := 7) rfl))), (List.forall_mem_cons.mpr ⟨(List.mem_cons_of_mem _ (List.mem_append_left _ (List.mem_of_getElem? (i := 6) rfl))), (List.forall_mem_cons.mpr ⟨(List.mem_cons_of_mem _ (List.mem_append_left _ (List.mem_of_getElem? (i := 5) rfl))), (List.forall_mem_cons.mpr ⟨(List.mem_cons_of_mem _ (List.mem_append_left _ (List.mem_of_getElem? (i := 4) rfl))), (fun _ h => absurd h List.not_mem_nil)⟩)⟩)⟩)⟩) (kGV _ _ _ _) (fun _ h => List.mem_cons_of_mem _ (List.mem_append_right _ (List.mem_append_right _ (List.mem_append_right _ (List.mem_append_left _ h))))) gw_s_read4x_0) rfl rfl rfl ⟨rfl, hd_X4_read⟩ ⟨(Nat.le_of_ble_eq_true rfl), (Nat.le_of_ble_eq_true rfl)⟩) (kW_V kRd_blind (kRd_give hX.1 hS hFc) (va_recv hKc hPc (ci := 4) (q0 := 0) rfl rfl) hPc hKc hDc) rfl rfl hl.1 rfl (lv_room (Nat.le_of_ble_eq_true rfl)) dX9_fault_12 ⟨(Nat.le_of_ble_eq_true rfl), (Nat.le_of_ble_eq_true rfl)⟩) hS (fun q _ h => hFc q h) hFc (fun r_4 => kU10 (fun S1_5 S2_6 Wr_7 Fi_8 Pn_9 V6_10 V7_11 xo_12 xl_13 xc_14 t H_15 locs ht hvm hw hB hz1 hk1 hS => ?_))
      try dsimp only at hw
      have hPD : kPD dC dI A [(jX, .inr (9, [.ref jT, .ref jR, .ref jK, .ref jL, .ref jU, .ref hF, .ref jC, .ref hN, .ref jA, .ref sd])), (jR, .inr (4, [.ref jT, .ref r1, .ref r2, .int (nI (Wr_7)), .int (nI (Fi_8)), .int (nI (Pn_9)), V6_10, V7_11])), (r1, .inl (c1, 120, .inl S1_5)), (r2, .inl (c2, 124, .inl S2_6)), (jT, .inr (8, [.ref t0, .int (nI (kt))])), (t0, .inl (cC, 120, .inl gT))] H_15 := kJoinX hP hD [1, 2, 3, 4, 5] rfl hk1 hFc hB.1 ht hB.2.2 rfl [none, some 0, some 1, some 2, some 3, some 4] rfl rfl
      have hP := hPD.1
      have hD := hPD.2
      have hw_16 := hw
      have hw_16_0 := hw_16.2.2.1
      have hw_16_1 := hw_16.2.2.2.1
      have hw_16_2 := hw_16.2.2.2.2.1
      refine lv_goto (tgt := 20) hx hb dX9_fault_15 kc_t_15_5 ?_
      have hP9 := hP
      have hD9 := hD
      have hK9 := hK
      rw [hQ]
      exact W.iret (v := r_4) hx hb hr (fun t ht hW => ⟨⟨r_4, (S1_5, S2_6, (nI (Pn_9)), Wr_7, Fi_8, (V6_10 : Value), (V7_11 : Value)), rfl, ⟨by rw [hw_16.2.1]; unfold kFtA; rw [if_pos rfl]; rw [hw_16.1], hw_16.2.2.1, hw_16.2.2.2.1⟩,  by rw [ht]; exact hP9, va_K.moved hW.alike hK9, hD9⟩, hS.F ht⟩) hS.2.2 dX9_fault_20
    · refine lv_aload_n hx hb dX9_fault_7 rfl (lv_at hl 0 rfl) ?_
      refine va_get (D := (dC, dI)) (ci := 9) (v := .ref jR) (C := RX9) (T := TX9) (N := 10) hx hb hts (fun _ h => List.mem_cons_of_mem _ (List.mem_append_right _ (List.mem_append_right _ (List.mem_append_left _ h)))) hown hK hP 0 rfl rfl 1 kc_l_1_10 (hts (.fieldLink RX9 21 "NotEnded" "reader" "LNotEnded$Reader;") (List.mem_cons_of_mem _ (List.mem_append_left _ (List.mem_of_getElem? (i := 3) rfl)))) (fun _ h9 => h9) rfl dX9_fault_8 ?_
      refine lv_iload_n hx hb dX9_fault_11 rfl (lv_at hl 1 rfl) ?_
      have hCu := kCut (wc := [(jR, .inr (4, [.ref jT, .ref r1, .ref r2, .int (nI (wr)), .int (nI (fi)), .int pl, v6, v7])), (r1, .inl (c1, 120, .inl s1)), (r2, .inl (c2, 124, .inl s2)), (jT, .inr (8, [.ref t0, .int (nI (kt))])), (t0, .inl (cC, 120, .inl gT))]) hP hD hS hA [1, 2, 3, 4, 5] rfl kc_nd_574 rfl
      have hPc := hCu.1
      have hDc := hCu.2.1
      have hFc := hCu.2.2
      have hKc := hK.sb (tys2 := [(c1, .int), (c2, .int), (cC, .char)]) [0, 1, 2] rfl
      refine va_calli (va_runV (As := [.int 1]) (rest := []) ⟨hx, hb, hml, hown, hts⟩ (s_read4x_1 l dC dI ad jT t0 cC gT kt hkt (kHgT hbt hb8) bt hbt hb8 jR r1 r2 c1 c2 s1 s2 wr fi hwr hfi pl (v6 : Value) (v7 : Value) bE nE xE hnE bG nG xG hnG gnE hzE gnG hzG s.heap.size) (cwV 1 hts (kG (List.forall_mem_cons.mpr ⟨(List.mem_cons_of_mem _ (List.mem_append_left _ (List.mem_of_getElem? (i := 7) rfl))), (List.forall_mem_cons.mpr ⟨(List.mem_cons_of_mem _ (List.mem_append_left _ (List.mem_of_getElem? (i := 6) rfl))), (List.forall_mem_cons.mpr ⟨(List.mem_cons_of_mem _ (List.mem_append_left _ (List.mem_of_getElem? (i := 5) rfl))), (List.forall_mem_cons.mpr ⟨(List.mem_cons_of_mem _ (List.mem_append_left _ (List.mem_of_getElem? (i := 4) rfl))), (fun _ h => absurd h List.not_mem_nil)⟩)⟩)⟩)⟩) (kGV _ _ _ _) (fun _ h => List.mem_cons_of_mem _ (List.mem_append_right _ (List.mem_append_right _ (List.mem_append_right _ (List.mem_append_right _ h))))) gw_s_read4x_1) rfl rfl rfl ⟨rfl, hd_X4_read⟩ ⟨(Nat.le_of_ble_eq_true rfl), (Nat.le_of_ble_eq_true rfl)⟩) (kW_V kRd_blind (kRd_give hX.2.1 hS hFc) (va_recv hKc hPc (ci := 4) (q0 := 0) rfl rfl) hPc hKc hDc) rfl rfl hl.1 rfl (lv_room (Nat.le_of_ble_eq_true rfl)) dX9_fault_12 ⟨(Nat.le_of_ble_eq_true rfl), (Nat.le_of_ble_eq_true rfl)⟩) hS (fun q _ h => hFc q h) hFc (fun r_17 => kU10 (fun S1_18 S2_19 Wr_20 Fi_21 Pn_22 V6_23 V7_24 xo_25 xl_26 xc_27 t H_28 locs ht hvm hw hB hz1 hk1 hS => ?_))
      try dsimp only at hw
      have hPD : kPD dC dI A [(jX, .inr (9, [.ref jT, .ref jR, .ref jK, .ref jL, .ref jU, .ref hF, .ref jC, .ref hN, .ref jA, .ref sd])), (jR, .inr (4, [.ref jT, .ref r1, .ref r2, .int (nI (Wr_20)), .int (nI (Fi_21)), .int (nI (Pn_22)), V6_23, V7_24])), (r1, .inl (c1, 120, .inl S1_18)), (r2, .inl (c2, 124, .inl S2_19)), (jT, .inr (8, [.ref t0, .int (nI (kt))])), (t0, .inl (cC, 120, .inl gT))] H_28 := kJoinX hP hD [1, 2, 3, 4, 5] rfl hk1 hFc hB.1 ht hB.2.2 rfl [none, some 0, some 1, some 2, some 3, some 4] rfl rfl
      have hP := hPD.1
      have hD := hPD.2
      have hw_29 := hw
      have hw_29_0 := hw_29.2.2.1
      have hw_29_1 := hw_29.2.2.2.1
      have hw_29_2 := hw_29.2.2.2.2.1
      refine lv_goto (tgt := 20) hx hb dX9_fault_15 kc_t_15_5 ?_
      have hP9 := hP
      have hD9 := hD
      have hK9 := hK
      rw [hQ]
      exact W.iret (v := r_17) hx hb hr (fun t ht hW => ⟨⟨r_17, (S1_18, S2_19, (nI (Pn_22)), Wr_20, Fi_21, (V6_23 : Value), (V7_24 : Value)), rfl, ⟨by rw [hw_29.2.1]; unfold kFtA; rw [if_neg (by decide), if_pos rfl]; rw [hw_29.1], hw_29.2.2.1, hw_29.2.2.2.1⟩,  by rw [ht]; exact hP9, va_K.moved hW.alike hK9, hD9⟩, hS.F ht⟩) hS.2.2 dX9_fault_20

theorem dX9_text_0 : decode cX9_text 0 = .ok (.iload_n 1, 1) := kDs0 kf_27 (by decide +kernel)
theorem dX9_text_1 : decode cX9_text 1 = .ok (.invokestatic 98, 3) := kDs2 kf_184 (by decide +kernel)
theorem dX9_text_4 : decode cX9_text 4 = .ok (.ifCond .ne 5, 3) := kDs4 kf_154 (by decide +kernel)
theorem dX9_text_9 : decode cX9_text 9 = .ok (.iload_n 1, 1) := kDs0 kf_27 (by decide +kernel)
theorem dX9_text_10 : decode cX9_text 10 = .ok (.ifCond .ne 10, 3) := kDs4 kf_154 (by decide +kernel)
theorem dX9_text_13 : decode cX9_text 13 = .ok (.aload_n 0, 1) := kDs0 kf_42 (by decide +kernel)
theorem dX9_text_14 : decode cX9_text 14 = .ok (.getfield 37, 3) := kDs2 kf_180 (by decide +kernel)
theorem dX9_text_17 : decode cX9_text 17 = .ok (.goto 7, 3) := kDs4 kf_167 (by decide +kernel)
theorem dX9_text_24 : decode cX9_text 24 = .ok (.astore_n 2, 1) := kDs0 kf_77 (by decide +kernel)
theorem dX9_text_25 : decode cX9_text 25 = .ok (.aload_n 2, 1) := kDs0 kf_44 (by decide +kernel)
theorem dX9_text_26 : decode cX9_text 26 = .ok (.invokevirtual 105, 3) := kDs2 kf_182 (by decide +kernel)
theorem dX9_text_29 : decode cX9_text 29 = .ok (.ifCond .ne 15, 3) := kDs4 kf_154 (by decide +kernel)
theorem dX9_text_44 : decode cX9_text 44 = .ok (.iconst (-1), 1) := kDs0 kf_2 (by decide +kernel)
theorem dX9_text_45 : decode cX9_text 45 = .ok (.ireturn, 1) := kDs0 kf_172 (by decide +kernel)
theorem dX9_text_32 : decode cX9_text 32 = .ok (.aload_n 0, 1) := kDs0 kf_42 (by decide +kernel)
theorem dX9_text_33 : decode cX9_text 33 = .ok (.getfield 21, 3) := kDs2 kf_180 (by decide +kernel)
theorem dX9_text_36 : decode cX9_text 36 = .ok (.iload_n 1, 1) := kDs0 kf_27 (by decide +kernel)
theorem dX9_text_37 : decode cX9_text 37 = .ok (.invokevirtual 102, 3) := kDs2 kf_182 (by decide +kernel)
theorem dX9_text_40 : decode cX9_text 40 = .ok (.iconst (-1), 1) := kDs0 kf_2 (by decide +kernel)
theorem dX9_text_41 : decode cX9_text 41 = .ok (.if_icmp .eq 5, 3) := kDs4 kf_159 (by decide +kernel)
theorem dX9_text_46 : decode cX9_text 46 = .ok (.aload_n 0, 1) := kDs0 kf_42 (by decide +kernel)
theorem dX9_text_47 : decode cX9_text 47 = .ok (.getfield 12, 3) := kDs2 kf_180 (by decide +kernel)
theorem dX9_text_50 : decode cX9_text 50 = .ok (.iconst 0, 1) := kDs0 kf_3 (by decide +kernel)
theorem dX9_text_51 : decode cX9_text 51 = .ok (.invokevirtual 95, 3) := kDs2 kf_182 (by decide +kernel)
theorem dX9_text_54 : decode cX9_text 54 = .ok (.aload_n 2, 1) := kDs0 kf_44 (by decide +kernel)
theorem dX9_text_55 : decode cX9_text 55 = .ok (.aload_n 0, 1) := kDs0 kf_42 (by decide +kernel)
theorem dX9_text_56 : decode cX9_text 56 = .ok (.getfield 21, 3) := kDs2 kf_180 (by decide +kernel)
theorem dX9_text_59 : decode cX9_text 59 = .ok (.invokevirtual 109, 3) := kDs2 kf_182 (by decide +kernel)
theorem dX9_text_62 : decode cX9_text 62 = .ok (.invokevirtual 113, 3) := kDs2 kf_182 (by decide +kernel)
theorem dX9_text_65 : decode cX9_text 65 = .ok (.ireturn, 1) := kDs0 kf_172 (by decide +kernel)
theorem dX9_text_20 : decode cX9_text 20 = .ok (.aload_n 0, 1) := kDs0 kf_42 (by decide +kernel)
theorem dX9_text_21 : decode cX9_text 21 = .ok (.getfield 41, 3) := kDs2 kf_180 (by decide +kernel)
theorem dX9_text_7 : decode cX9_text 7 = .ok (.iconst (-1), 1) := kDs0 kf_2 (by decide +kernel)
theorem dX9_text_8 : decode cX9_text 8 = .ok (.ireturn, 1) := kDs0 kf_172 (by decide +kernel)
def w_s_text9 : List Cond := .code yX9_text cX9_text 3 (some .int) :: ([.initialized RX9, .static yX9_isSort, .methodLink RX9 98 yX9_isSort, .fieldLink RX9 37 "NotEnded" "laws" "LNotEnded$Shelf;", .initialized RX7, .selects RX7 yX7_isFull yX7_isFull, .instanceMethod yX7_isFull, .methodLink RX9 105 yX7_isFull, .fieldLink RX9 21 "NotEnded" "reader" "LNotEnded$Reader;", .initialized RX4, .selects RX4 yX4_read yX4_read, .instanceMethod yX4_read, .methodLink RX9 102 yX4_read, .fieldLink RX9 12 "NotEnded" "tape" "LNotEnded$Tape;", .initialized RX8, .selects RX8 yX8_cutTo yX8_cutTo, .instanceMethod yX8_cutTo, .methodLink RX9 95 yX8_cutTo, .selects RX4 yX4_rule yX4_rule, .instanceMethod yX4_rule, .methodLink RX9 109 yX4_rule, .selects RX7 yX7_put yX7_put, .instanceMethod yX7_put, .methodLink RX9 113 yX7_put, .fieldLink RX9 41 "NotEnded" "turnings" "LNotEnded$Shelf;"] ++ (w_s_isSort9 ++ (wsX90 ++ (w_s_isFull7 ++ (w_s_read4x_0 ++ (w_s_cutTo8 ++ (w_s_rule4 ++ (w_s_put7x ++ (w_s_read4x_1)))))))))
theorem gw_s_text9 : (w_s_text9).all goodWord = true := kGc rfl (kGa (by decide +kernel) (kGa gw_s_isSort9 (kGa gw_wsX90 (kGa gw_s_isFull7 (kGa gw_s_read4x_0 (kGa gw_s_cutTo8 (kGa gw_s_rule4 (kGa gw_s_put7x gw_s_read4x_1))))))))
theorem hd_X9_text : yX9_text.cls ≠ "java/lang/invoke/MethodHandle" ∧ yX9_text.cls ≠ "java/lang/invoke/VarHandle" ∧ (parseMethodDescriptor yX9_text.desc).map (fun d => d.parameters.length) = some 1 := by decide +kernel
set_option maxHeartbeats 4000000 in
set_option maxRecDepth 100000 in
theorem s_text9 (l : Launch) (dC : Nat → ClassId) (dI : Nat → Nat → Nat) (jX : Nat) (jT : Nat) (jR : Nat) (jL : Nat) (jU : Nat) (hN : Nat) (jA : Nat) (sd : Nat) (hF : Nat) (jC : Nat) (jK : Nat) (ad : Nat → Nat) (bA : Nat) (nA : Nat) (xA : Nat → Int32) (hnA : nA ≤ 8) (bB : Nat) (nB : Nat) (xB : Nat → Int32) (hnB : nB ≤ 8) (bE : Nat) (nE : Nat) (xE : Nat → Int32) (hnE : nE ≤ 8) (bG : Nat) (nG : Nat) (xG : Nat → Int32) (hnG : nG ≤ 8) (hzA : kIx xA nA (nI 0) = nA) (hzB : kIx xB nB (nI 0) = nB) (hzE : kIx xE nE (nI 0) = nE) (hzG : kIx xG nG (nI 0) = nG) (gnA : ∀ k : Nat, ∃ v : Nat, v < 128 ∧ xA k = nI v) (gnB : ∀ k : Nat, ∃ v : Nat, v < 128 ∧ xB k = nI v) (gnE : ∀ k : Nat, ∃ v : Nat, v < 128 ∧ xE k = nI v) (gnG : ∀ k : Nat, ∃ v : Nat, v < 128 ∧ xG k = nI v) (t0 : Nat) (cC : ClassId) (gT : Nat → Int32) (kt : Nat) (hkt : kt ≤ 120) (bt : Nat → Nat) (hbt : ∀ j : Nat, gT j = nI (bt j)) (hb8 : ∀ j : Nat, bt j < 256) (r1 : Nat) (r2 : Nat) (c1 : ClassId) (c2 : ClassId) (s1 : Nat → Int32) (s2 : Nat → Int32) (wr : Nat) (fi : Nat) (hwr : wr ≤ 120) (hfi : fi ≤ 124) (pl : Int32) (v6 : Value) (v7 : Value) (rL : Nat) (cL : ClassId) (gL : Nat → Option Nat) (kl : Nat) (hkl : kl ≤ 6) (yL : Nat → List kTr) (rU : Nat) (cU : ClassId) (gU : Nat → Option Nat) (ku : Nat) (hku : ku ≤ 8) (yU : Nat → List kTr) (p0 : Int32) (sz : Nat) : Met l yX9_text w_s_text9 ({ frames := 50, cells := 3, slots := 402, locals := 3000 }) (kW dC dI [.ref jX, .int p0] [(jX, .inr (9, [.ref jT, .ref jR, .ref jK, .ref jL, .ref jU, .ref hF, .ref jC, .ref hN, .ref jA, .ref sd])), (jR, .inr (4, [.ref jT, .ref r1, .ref r2, .int (nI (wr)), .int (nI (fi)), .int pl, v6, v7])), (r1, .inl (c1, 120, .inl s1)), (r2, .inl (c2, 124, .inl s2)), (jT, .inr (8, [.ref t0, .int (nI (kt))])), (t0, .inl (cC, 120, .inl gT)), (jL, .inr (7, [.ref rL, .int (nI (kl))])), (rL, .inl (cL, 6, .inr (.inr (.inr (.inr gL))))), (jU, .inr (7, [.ref rU, .int (nI (ku))])), (rU, .inl (cU, 8, .inr (.inr (.inr (.inr gU)))))] [(c1, .int), (c2, .int), (cC, .char), (cL, .object RX6), (cU, .object RX6)] (kTxt ad bA nA xA bB nB xB bE nE xE bG nG xG (va_A [(jX, .inr (9, [.ref jT, .ref jR, .ref jK, .ref jL, .ref jU, .ref hF, .ref jC, .ref hN, .ref jA, .ref sd])), (jR, .inr (4, [.ref jT, .ref r1, .ref r2, .int (nI (wr)), .int (nI (fi)), .int pl, v6, v7])), (r1, .inl (c1, 120, .inl s1)), (r2, .inl (c2, 124, .inl s2)), (jT, .inr (8, [.ref t0, .int (nI (kt))])), (t0, .inl (cC, 120, .inl gT)), (jL, .inr (7, [.ref rL, .int (nI (kl))])), (rL, .inl (cL, 6, .inr (.inr (.inr (.inr gL))))), (jU, .inr (7, [.ref rU, .int (nI (ku))])), (rU, .inl (cU, 8, .inr (.inr (.inr (.inr gU)))))] sz)) sz) (va_Qi (fun (r : Int32) (u : (Nat → Int32) × (Nat → Int32) × (Nat → Option Nat) × (Nat → Option Nat) × Int32 × Nat × Nat × Nat × Nat × Nat × Value × Value) => match u with | (S1, S2, gL1, gU1, Pl, Wr, Fi, kt1, kl1, ku1, V6, V7) => (r = kTcA (kTc p0 (kRead bt kt xA nA xB nB).1 (kRead bt kt xE nE xG nG).1 kl ku) kl ku ∧ kt1 = kTcT (kTc p0 (kRead bt kt xA nA xB nB).1 (kRead bt kt xE nE xG nG).1 kl ku) kt ∧ kl1 = kTcL (kTc p0 (kRead bt kt xA nA xB nB).1 (kRead bt kt xE nE xG nG).1 kl ku) kl ∧ ku1 = kTcU (kTc p0 (kRead bt kt xA nA xB nB).1 (kRead bt kt xE nE xG nG).1 kl ku) ku ∧ Wr ≤ 120 ∧ Fi ≤ 124 ∧ kt1 ≤ 120 ∧ kl1 ≤ 6 ∧ ku1 ≤ 8)) (fun (u : (Nat → Int32) × (Nat → Int32) × (Nat → Option Nat) × (Nat → Option Nat) × Int32 × Nat × Nat × Nat × Nat × Nat × Value × Value) => match u with | (S1, S2, gL1, gU1, Pl, Wr, Fi, kt1, kl1, ku1, V6, V7) => fun t : State => kB dC dI [(jX, .inr (9, [.ref jT, .ref jR, .ref jK, .ref jL, .ref jU, .ref hF, .ref jC, .ref hN, .ref jA, .ref sd])), (jR, .inr (4, [.ref jT, .ref r1, .ref r2, .int (nI (Wr)), .int (nI (Fi)), .int Pl, V6, V7])), (r1, .inl (c1, 120, .inl S1)), (r2, .inl (c2, 124, .inl S2)), (jT, .inr (8, [.ref t0, .int (nI (kt1))])), (t0, .inl (cC, 120, .inl gT)), (jL, .inr (7, [.ref rL, .int (nI (kl1))])), (rL, .inl (cL, 6, .inr (.inr (.inr (.inr gL1))))), (jU, .inr (7, [.ref rU, .int (nI (ku1))])), (rU, .inl (cU, 8, .inr (.inr (.inr (.inr gU1)))))] [(c1, .int), (c2, .int), (cC, .char), (cL, .object RX6), (cU, .object RX6)] (va_A [(jX, .inr (9, [.ref jT, .ref jR, .ref jK, .ref jL, .ref jU, .ref hF, .ref jC, .ref hN, .ref jA, .ref sd])), (jR, .inr (4, [.ref jT, .ref r1, .ref r2, .int (nI (wr)), .int (nI (fi)), .int pl, v6, v7])), (r1, .inl (c1, 120, .inl s1)), (r2, .inl (c2, 124, .inl s2)), (jT, .inr (8, [.ref t0, .int (nI (kt))])), (t0, .inl (cC, 120, .inl gT)), (jL, .inr (7, [.ref rL, .int (nI (kl))])), (rL, .inl (cL, 6, .inr (.inr (.inr (.inr gL))))), (jU, .inr (7, [.ref rU, .int (nI (ku))])), (rU, .inl (cU, 8, .inr (.inr (.inr (.inr gU)))))] sz) t ∧ (kShN dC dI kl gL kl1 gL1 (kReadT bt kt xA nA xB nB) nB sz t ∧ kShN dC dI ku gU ku1 gU1 (kReadT bt kt xE nE xG nG) nG sz t)) (va_A [(jX, .inr (9, [.ref jT, .ref jR, .ref jK, .ref jL, .ref jU, .ref hF, .ref jC, .ref hN, .ref jA, .ref sd])), (jR, .inr (4, [.ref jT, .ref r1, .ref r2, .int (nI (wr)), .int (nI (fi)), .int pl, v6, v7])), (r1, .inl (c1, 120, .inl s1)), (r2, .inl (c2, 124, .inl s2)), (jT, .inr (8, [.ref t0, .int (nI (kt))])), (t0, .inl (cC, 120, .inl gT)), (jL, .inr (7, [.ref rL, .int (nI (kl))])), (rL, .inl (cL, 6, .inr (.inr (.inr (.inr gL))))), (jU, .inr (7, [.ref rU, .int (nI (ku))])), (rU, .inl (cU, 8, .inr (.inr (.inr (.inr gU)))))] sz)) 3 402 (va_A [(jX, .inr (9, [.ref jT, .ref jR, .ref jK, .ref jL, .ref jU, .ref hF, .ref jC, .ref hN, .ref jA, .ref sd])), (jR, .inr (4, [.ref jT, .ref r1, .ref r2, .int (nI (wr)), .int (nI (fi)), .int pl, v6, v7])), (r1, .inl (c1, 120, .inl s1)), (r2, .inl (c2, 124, .inl s2)), (jT, .inr (8, [.ref t0, .int (nI (kt))])), (t0, .inl (cC, 120, .inl gT)), (jL, .inr (7, [.ref rL, .int (nI (kl))])), (rL, .inl (cL, 6, .inr (.inr (.inr (.inr gL))))), (jU, .inr (7, [.ref rU, .int (nI (ku))])), (rU, .inl (cU, 8, .inr (.inr (.inr (.inr gU)))))] sz) := by
  refine Met.ofW (cc := cX9_text) (maxL := 3) (ret := (some .int)) (by decide) rfl ?_
  intro p e s m args below meth c s₁ B hml hv
  obtain ⟨rfl, hsz, hP, hK, hD0, hX⟩ := hv
  have hx := B.exec
  have hb := B.bytes
  have hr := B.returns
  have hts := atoms_spec (ws := w_s_text9) B.pre
  have hown : s.vm.findClass RX9 = some m.cls := findClass_of_methodNamed B.named
  have hlocks := B.notSynchronized
  subst hsz
  have hD := hD0.self (sz := s.heap.size)
  generalize hAe : va_A [(jX, .inr (9, [.ref jT, .ref jR, .ref jK, .ref jL, .ref jU, .ref hF, .ref jC, .ref hN, .ref jA, .ref sd])), (jR, .inr (4, [.ref jT, .ref r1, .ref r2, .int (nI (wr)), .int (nI (fi)), .int pl, v6, v7])), (r1, .inl (c1, 120, .inl s1)), (r2, .inl (c2, 124, .inl s2)), (jT, .inr (8, [.ref t0, .int (nI (kt))])), (t0, .inl (cC, 120, .inl gT)), (jL, .inr (7, [.ref rL, .int (nI (kl))])), (rL, .inl (cL, 6, .inr (.inr (.inr (.inr gL))))), (jU, .inr (7, [.ref rU, .int (nI (ku))])), (rU, .inl (cU, 8, .inr (.inr (.inr (.inr gU)))))] s.heap.size = A at hD hX ⊢
  have hA : ∀ q : Nat, s.heap.size ≤ q → A q := fun q h => by rw [← hAe]; exact Or.inr h
  have hS : va_S A s.heap s.heap [] := va_S.rf
  have hP : va_P (dC, dI) vwCl [(jX, .inr (9, [.ref jT, .ref jR, .ref jK, .ref jL, .ref jU, .ref hF, .ref jC, .ref hN, .ref jA, .ref sd])), (jR, .inr (4, [.ref jT, .ref r1, .ref r2, .int (nI (wr)), .int (nI (fi)), .int pl, v6, v7])), (r1, .inl (c1, 120, .inl s1)), (r2, .inl (c2, 124, .inl s2)), (jT, .inr (8, [.ref t0, .int (nI (kt))])), (t0, .inl (cC, 120, .inl gT)), (jL, .inr (7, [.ref rL, .int (nI (kl))])), (rL, .inl (cL, 6, .inr (.inr (.inr (.inr gL))))), (jU, .inr (7, [.ref rU, .int (nI (ku))])), (rU, .inl (cU, 8, .inr (.inr (.inr (.inr gU)))))] s.heap := hP
  have hl := lv_entry ([.ref jX, .int p0]) (n := 3) (Nat.le_of_ble_eq_true rfl)
  rw [lg_entry_eq]
  generalize (lg_sl ([.ref jX, .int p0]) ++ List.replicate (3 - (lg_sl ([.ref jX, .int p0])).length) Slot.unset).toArray = ls at hl ⊢
  have hl : lv_has ls 3 [(0, .ref jX), (1, .int p0)] := hl
  refine kQ (fun Q hQ => ?_)
  refine lv_iload_n hx hb dX9_text_0 rfl (lv_at hl 1 rfl) ?_
  have hPc := hP.sb (ws2 := []) [] rfl
  have hKc := hK.sb (tys2 := []) [] rfl
  refine vp_callSi (va_runS (As := [.int p0]) (rest := []) ⟨hx, hb, hml, hown, hts⟩ (s_isSort9 l dC dI p0) (va_cwS 1 hts (kG (List.forall_mem_cons.mpr ⟨(List.mem_cons_of_mem _ (List.mem_append_left _ (List.mem_of_getElem? (i := 2) rfl))), (List.forall_mem_cons.mpr ⟨(List.mem_cons_of_mem _ (List.mem_append_left _ (List.mem_of_getElem? (i := 1) rfl))), (List.forall_mem_cons.mpr ⟨(List.mem_cons_of_mem _ (List.mem_append_left _ (List.mem_of_getElem? (i := 0) rfl))), (fun _ h => absurd h List.not_mem_nil)⟩)⟩)⟩) (kGS _ _ _) (fun _ h => List.mem_cons_of_mem _ (List.mem_append_right _ (List.mem_append_left _ h))) gw_s_isSort9) rfl rfl rfl hd_X9_isSort ⟨(Nat.le_of_ble_eq_true rfl), (Nat.le_of_ble_eq_true rfl)⟩) (kR_S kT_blind kT_give hPc hKc) rfl rfl hl.1 rfl (lv_room (Nat.le_of_ble_eq_true rfl)) dX9_text_1 ⟨(Nat.le_of_ble_eq_true rfl), (Nat.le_of_ble_eq_true rfl)⟩).run (fun r_1 hw => ?_)
  have hw_2 := hw
  refine lv_if_ne (tgt := 9) hx hb dX9_text_4 kc_t_4_5 (fun c_3 => ?_) (fun c_3 => ?_)
  · rcases kSort_or (fun z => c_3 (hw_2.trans z)) with rfl | rfl
    · refine lv_iload_n hx hb dX9_text_9 rfl (lv_at hl 1 rfl) ?_
      refine lv_if_ne (tgt := 20) hx hb dX9_text_10 kc_t_10_10 (fun c_4 => absurd (by decide) c_4) (fun c_4 => ?_)
      refine lv_aload_n hx hb dX9_text_13 rfl (lv_at hl 0 rfl) ?_
      refine va_get (D := (dC, dI)) (ci := 9) (v := .ref jL) (C := RX9) (T := TX9) (N := 10) hx hb hts (fun _ h => List.mem_cons_of_mem _ (List.mem_append_right _ (List.mem_append_right _ (List.mem_append_left _ h)))) hown hK hP 0 rfl rfl 3 kc_l_3_10 (hts (.fieldLink RX9 37 "NotEnded" "laws" "LNotEnded$Shelf;") (List.mem_cons_of_mem _ (List.mem_append_left _ (List.mem_of_getElem? (i := 3) rfl)))) (fun _ h9 => h9) rfl dX9_text_14 ?_
      refine lv_goto (tgt := 24) hx hb dX9_text_17 kc_t_17_7 ?_
      refine lv_astore_n hx hb dX9_text_24 rfl hl kc_l_2_3 (kTo [(2, .ref jL), (0, .ref jX), (1, .int 0)]) (fun ls hl => ?_)
      refine lv_aload_n hx hb dX9_text_25 rfl (lv_at hl 0 rfl) ?_
      have hPc := hP.sb (ws2 := [(jL, .inr (7, [.ref rL, .int (nI (kl))])), (rL, .inl (cL, 6, .inr (.inr (.inr (.inr gL)))))]) [6, 7] rfl
      have hKc := hK.sb (tys2 := [(cL, .object RX6)]) [3] rfl
      refine vp_callSi (va_runV (As := []) (rest := []) ⟨hx, hb, hml, hown, hts⟩ (s_isFull7 l dC dI jL rL cL gL kl 6 (Nat.le_of_ble_eq_true rfl) hkl) (cwV 0 hts (kG (List.forall_mem_cons.mpr ⟨(List.mem_cons_of_mem _ (List.mem_append_left _ (List.mem_of_getElem? (i := 7) rfl))), (List.forall_mem_cons.mpr ⟨(List.mem_cons_of_mem _ (List.mem_append_left _ (List.mem_of_getElem? (i := 6) rfl))), (List.forall_mem_cons.mpr ⟨(List.mem_cons_of_mem _ (List.mem_append_left _ (List.mem_of_getElem? (i := 5) rfl))), (List.forall_mem_cons.mpr ⟨(List.mem_cons_of_mem _ (List.mem_append_left _ (List.mem_of_getElem? (i := 4) rfl))), (fun _ h => absurd h List.not_mem_nil)⟩)⟩)⟩)⟩) (kGV _ _ _ _) (fun _ h => List.mem_cons_of_mem _ (List.mem_append_right _ (List.mem_append_right _ (List.mem_append_right _ (List.mem_append_left _ h))))) gw_s_isFull7) rfl rfl rfl ⟨rfl, hd_X7_isFull⟩ ⟨(Nat.le_of_ble_eq_true rfl), (Nat.le_of_ble_eq_true rfl)⟩) (kR_V kT_blind kT_give (va_recv hKc hPc (ci := 7) (q0 := 0) rfl rfl) hPc hKc) rfl rfl hl.1 rfl (lv_room (Nat.le_of_ble_eq_true rfl)) dX9_text_26 ⟨(Nat.le_of_ble_eq_true rfl), (Nat.le_of_ble_eq_true rfl)⟩).run (fun r_5 hw => ?_)
      have hw_6 := hw
      refine lv_if_ne (tgt := 44) hx hb dX9_text_29 kc_t_29_15 (fun c_7 => ?_) (fun c_7 => ?_)
      · have hge8 : 6 ≤ kl := kFullN hw_6 c_7
        refine lv_iconst (v := (-1)) hx hb dX9_text_44 kc_i_m1 ?_
        have hc9 : kTc 0 (kRead bt kt xA nA xB nB).1 (kRead bt kt xE nE xG nG).1 kl ku = 0 := (by unfold kTc; rw [if_pos rfl, if_neg (by omega)])
        have hP9 := hP
        have hD9 := hD
        have hK9 := hK
        refine W.widen (k := 3) (n := 402) (Nat.le_of_ble_eq_true rfl) (Nat.le_of_ble_eq_true rfl) ?_
        rw [hQ]
        exact W.iret (v := (-1)) hx hb hr (fun t ht hW => ⟨⟨(-1), (s1, s2, gL, gU, pl, wr, fi, kt, kl, ku, (v6 : Value), (v7 : Value)), rfl, ⟨by rw [hc9]; exact rfl, by rw [hc9]; exact rfl, by rw [hc9]; exact rfl, by rw [hc9]; exact rfl, by omega, by omega, by omega, by omega, by omega⟩, ⟨by rw [ht]; exact hP9, va_K.moved hW.alike hK9, hD9⟩, ⟨Or.inl ⟨rfl, rfl⟩, Or.inl ⟨rfl, rfl⟩⟩⟩, hS.F ht⟩) hS.2.2 dX9_text_45
      · have hlt8 : kl < 6 := kFull hw_6 c_7
        refine lv_aload_n hx hb dX9_text_32 rfl (lv_at hl 1 rfl) ?_
        refine va_get (D := (dC, dI)) (ci := 9) (v := .ref jR) (C := RX9) (T := TX9) (N := 10) hx hb hts (fun _ h => List.mem_cons_of_mem _ (List.mem_append_right _ (List.mem_append_right _ (List.mem_append_left _ h)))) hown hK hP 0 rfl rfl 1 kc_l_1_10 (hts (.fieldLink RX9 21 "NotEnded" "reader" "LNotEnded$Reader;") (List.mem_cons_of_mem _ (List.mem_append_left _ (List.mem_of_getElem? (i := 8) rfl)))) (fun _ h9 => h9) rfl dX9_text_33 ?_
        refine lv_iload_n hx hb dX9_text_36 rfl (lv_at hl 2 rfl) ?_
        have hCu := kCut (wc := [(jR, .inr (4, [.ref jT, .ref r1, .ref r2, .int (nI (wr)), .int (nI (fi)), .int pl, v6, v7])), (r1, .inl (c1, 120, .inl s1)), (r2, .inl (c2, 124, .inl s2)), (jT, .inr (8, [.ref t0, .int (nI (kt))])), (t0, .inl (cC, 120, .inl gT))]) hP hD hS hA [1, 2, 3, 4, 5] rfl kc_nd_574 rfl
        have hPc := hCu.1
        have hDc := hCu.2.1
        have hFc := hCu.2.2
        have hKc := hK.sb (tys2 := [(c1, .int), (c2, .int), (cC, .char)]) [0, 1, 2] rfl
        refine va_calli (va_runV (As := [.int 0]) (rest := []) ⟨hx, hb, hml, hown, hts⟩ (s_read4x_0 l dC dI ad jT t0 cC gT kt hkt (kHgT hbt hb8) bt hbt hb8 jR r1 r2 c1 c2 s1 s2 wr fi hwr hfi pl (v6 : Value) (v7 : Value) bA nA xA hnA bB nB xB hnB gnA hzA gnB hzB s.heap.size) (cwV 1 hts (kG (List.forall_mem_cons.mpr ⟨(List.mem_cons_of_mem _ (List.mem_append_left _ (List.mem_of_getElem? (i := 12) rfl))), (List.forall_mem_cons.mpr ⟨(List.mem_cons_of_mem _ (List.mem_append_left _ (List.mem_of_getElem? (i := 11) rfl))), (List.forall_mem_cons.mpr ⟨(List.mem_cons_of_mem _ (List.mem_append_left _ (List.mem_of_getElem? (i := 10) rfl))), (List.forall_mem_cons.mpr ⟨(List.mem_cons_of_mem _ (List.mem_append_left _ (List.mem_of_getElem? (i := 9) rfl))), (fun _ h => absurd h List.not_mem_nil)⟩)⟩)⟩)⟩) (kGV _ _ _ _) (fun _ h => List.mem_cons_of_mem _ (List.mem_append_right _ (List.mem_append_right _ (List.mem_append_right _ (List.mem_append_right _ (List.mem_append_left _ h)))))) gw_s_read4x_0) rfl rfl rfl ⟨rfl, hd_X4_read⟩ ⟨(Nat.le_of_ble_eq_true rfl), (Nat.le_of_ble_eq_true rfl)⟩) (kW_V kRd_blind (kRd_give hX.1 hS hFc) (va_recv hKc hPc (ci := 4) (q0 := 0) rfl rfl) hPc hKc hDc) rfl rfl hl.1 rfl (lv_room (Nat.le_of_ble_eq_true rfl)) dX9_text_37 ⟨(Nat.le_of_ble_eq_true rfl), (Nat.le_of_ble_eq_true rfl)⟩) hS (fun q _ h => hFc q h) hFc (fun r_8 => kU10 (fun S1_9 S2_10 Wr_11 Fi_12 Pn_13 V6_14 V7_15 xo_16 xl_17 xc_18 t H_19 locs ht hvm hw hB hz1 hk1 hS => ?_))
        try dsimp only at hw
        have hPD : kPD dC dI A [(jX, .inr (9, [.ref jT, .ref jR, .ref jK, .ref jL, .ref jU, .ref hF, .ref jC, .ref hN, .ref jA, .ref sd])), (jR, .inr (4, [.ref jT, .ref r1, .ref r2, .int (nI (Wr_11)), .int (nI (Fi_12)), .int (nI (Pn_13)), V6_14, V7_15])), (r1, .inl (c1, 120, .inl S1_9)), (r2, .inl (c2, 124, .inl S2_10)), (jT, .inr (8, [.ref t0, .int (nI (kt))])), (t0, .inl (cC, 120, .inl gT)), (jL, .inr (7, [.ref rL, .int (nI (kl))])), (rL, .inl (cL, 6, .inr (.inr (.inr (.inr gL))))), (jU, .inr (7, [.ref rU, .int (nI (ku))])), (rU, .inl (cU, 8, .inr (.inr (.inr (.inr gU)))))] H_19 := kJoinX hP hD [1, 2, 3, 4, 5] rfl hk1 hFc hB.1 ht hB.2.2 rfl [none, some 0, some 1, some 2, some 3, some 4, none, none, none, none] rfl rfl
        have hP := hPD.1
        have hD := hPD.2
        have hw_20 := hw
        have hw_20_0 := hw_20.2.2.1
        have hw_20_1 := hw_20.2.2.2.1
        have hw_20_2 := hw_20.2.2.2.2.1
        refine lv_iconst (v := (-1)) hx hb dX9_text_40 kc_i_m1 ?_
        refine lv_icmp_eq (tgt := 46) hx hb dX9_text_41 kc_t_41_5 (fun c_21 => ?_) (fun c_21 => ?_)
        · refine lv_aload_n hx hb dX9_text_46 rfl (lv_at hl 1 rfl) ?_
          refine va_get (D := (dC, dI)) (ci := 9) (v := .ref jT) (C := RX9) (T := TX9) (N := 10) hx hb hts (fun _ h => List.mem_cons_of_mem _ (List.mem_append_right _ (List.mem_append_right _ (List.mem_append_left _ h)))) hown hK hP 0 rfl rfl 0 kc_l_0_10 (hts (.fieldLink RX9 12 "NotEnded" "tape" "LNotEnded$Tape;") (List.mem_cons_of_mem _ (List.mem_append_left _ (List.mem_of_getElem? (i := 13) rfl)))) (fun _ h9 => h9) rfl dX9_text_47 ?_
          refine lv_iconst (v := 0) hx hb dX9_text_50 kc_i_0 ?_
          have bd_22 : 0 ≤ kt := by omega
          have hCu := kCut (wc := [(jT, .inr (8, [.ref t0, .int (nI (kt))])), (t0, .inl (cC, 120, .inl gT))]) hP hD hS hA [4, 5] rfl kc_nd_579 rfl
          have hPc := hCu.1
          have hDc := hCu.2.1
          have hFc := hCu.2.2
          have hKc := hK.sb (tys2 := [(cC, .char)]) [2] rfl
          refine va_callv (va_runV (As := [.int 0]) (rest := []) ⟨hx, hb, hml, hown, hts⟩ (s_cutTo8 l dC dI jT t0 cC gT kt hkt (kHgT hbt hb8) 0 bd_22 H_19.size) (cwV 1 hts (kG (List.forall_mem_cons.mpr ⟨(List.mem_cons_of_mem _ (List.mem_append_left _ (List.mem_of_getElem? (i := 17) rfl))), (List.forall_mem_cons.mpr ⟨(List.mem_cons_of_mem _ (List.mem_append_left _ (List.mem_of_getElem? (i := 16) rfl))), (List.forall_mem_cons.mpr ⟨(List.mem_cons_of_mem _ (List.mem_append_left _ (List.mem_of_getElem? (i := 15) rfl))), (List.forall_mem_cons.mpr ⟨(List.mem_cons_of_mem _ (List.mem_append_left _ (List.mem_of_getElem? (i := 14) rfl))), (fun _ h => absurd h List.not_mem_nil)⟩)⟩)⟩)⟩) (kGV _ _ _ _) (fun _ h => List.mem_cons_of_mem _ (List.mem_append_right _ (List.mem_append_right _ (List.mem_append_right _ (List.mem_append_right _ (List.mem_append_right _ (List.mem_append_left _ h))))))) gw_s_cutTo8) rfl rfl rfl ⟨rfl, hd_X8_cutTo⟩ ⟨(Nat.le_of_ble_eq_true rfl), (Nat.le_of_ble_eq_true rfl)⟩) (kW_V kNL_blind (kNL_give hX.2.2.1) (va_recv hKc hPc (ci := 8) (q0 := 0) rfl rfl) hPc hKc hDc) rfl rfl hl.1 rfl (lv_room (Nat.le_of_ble_eq_true rfl)) dX9_text_51 ⟨(Nat.le_of_ble_eq_true rfl), (Nat.le_of_ble_eq_true rfl)⟩) hS (fun q _ h => hFc q h) hFc (fun ku_23 t H_24 locs ht hvm hw hB hz1 hk1 hS => ?_)
          try dsimp only at hw
          have hPD : kPD dC dI A [(jX, .inr (9, [.ref jT, .ref jR, .ref jK, .ref jL, .ref jU, .ref hF, .ref jC, .ref hN, .ref jA, .ref sd])), (jR, .inr (4, [.ref jT, .ref r1, .ref r2, .int (nI (Wr_11)), .int (nI (Fi_12)), .int (nI (Pn_13)), V6_14, V7_15])), (r1, .inl (c1, 120, .inl S1_9)), (r2, .inl (c2, 124, .inl S2_10)), (jT, .inr (8, [.ref t0, .int (nI (ku_23))])), (t0, .inl (cC, 120, .inl gT)), (jL, .inr (7, [.ref rL, .int (nI (kl))])), (rL, .inl (cL, 6, .inr (.inr (.inr (.inr gL))))), (jU, .inr (7, [.ref rU, .int (nI (ku))])), (rU, .inl (cU, 8, .inr (.inr (.inr (.inr gU)))))] H_24 := kJoinX hP hD [4, 5] rfl hk1 hFc hB.1 ht hB.2.2 rfl [none, none, none, none, some 0, some 1, none, none, none, none] rfl rfl
          have hP := hPD.1
          have hD := hPD.2
          have hw_25 := hw
          refine lv_aload_n hx hb dX9_text_54 rfl (lv_at hl 0 rfl) ?_
          refine lv_aload_n hx hb dX9_text_55 rfl (lv_at hl 1 rfl) ?_
          refine va_get (D := (dC, dI)) (ci := 9) (v := .ref jR) (C := RX9) (T := TX9) (N := 10) hx hb hts (fun _ h => List.mem_cons_of_mem _ (List.mem_append_right _ (List.mem_append_right _ (List.mem_append_left _ h)))) hown hK hP 0 rfl rfl 1 kc_l_1_10 (hts (.fieldLink RX9 21 "NotEnded" "reader" "LNotEnded$Reader;") (List.mem_cons_of_mem _ (List.mem_append_left _ (List.mem_of_getElem? (i := 8) rfl)))) (fun _ h9 => h9) rfl dX9_text_56 ?_
          have bd_26 : ku_23 ≤ 120 := by omega
          have bd_27 : Wr_11 ≤ 120 := by omega
          have bd_28 : Fi_12 ≤ 124 := by omega
          have hCu := kCut (wc := [(jR, .inr (4, [.ref jT, .ref r1, .ref r2, .int (nI (Wr_11)), .int (nI (Fi_12)), .int (nI (Pn_13)), V6_14, V7_15])), (r1, .inl (c1, 120, .inl S1_9)), (r2, .inl (c2, 124, .inl S2_10)), (jT, .inr (8, [.ref t0, .int (nI (ku_23))])), (t0, .inl (cC, 120, .inl gT))]) hP hD hS hA [1, 2, 3, 4, 5] rfl kc_nd_574 rfl
          have hPc := hCu.1
          have hDc := hCu.2.1
          have hFc := hCu.2.2
          have hKc := hK.sb (tys2 := [(c1, .int), (c2, .int), (cC, .char)]) [0, 1, 2] rfl
          refine va_callr (va_runV (As := []) (rest := [.ref jL]) ⟨hx, hb, hml, hown, hts⟩ (s_rule4 l dC dI jT t0 cC gT ku_23 bd_26 (kHgT hbt hb8) jR r1 r2 c1 c2 S1_9 S2_10 Wr_11 Fi_12 (nI (Pn_13)) bd_27 bd_28 (V6_14 : Value) (V7_15 : Value) H_24.size) (cwV 0 hts (kG (List.forall_mem_cons.mpr ⟨(List.mem_cons_of_mem _ (List.mem_append_left _ (List.mem_of_getElem? (i := 20) rfl))), (List.forall_mem_cons.mpr ⟨(List.mem_cons_of_mem _ (List.mem_append_left _ (List.mem_of_getElem? (i := 19) rfl))), (List.forall_mem_cons.mpr ⟨(List.mem_cons_of_mem _ (List.mem_append_left _ (List.mem_of_getElem? (i := 18) rfl))), (List.forall_mem_cons.mpr ⟨(List.mem_cons_of_mem _ (List.mem_append_left _ (List.mem_of_getElem? (i := 9) rfl))), (fun _ h => absurd h List.not_mem_nil)⟩)⟩)⟩)⟩) (kGV _ _ _ _) (fun _ h => List.mem_cons_of_mem _ (List.mem_append_right _ (List.mem_append_right _ (List.mem_append_right _ (List.mem_append_right _ (List.mem_append_right _ (List.mem_append_right _ (List.mem_append_left _ h)))))))) gw_s_rule4) rfl rfl rfl ⟨rfl, hd_X4_rule⟩ ⟨(Nat.le_of_ble_eq_true rfl), (Nat.le_of_ble_eq_true rfl)⟩) (kW_V kCl_blind (kCl_give hX.2.2.2) (va_recv hKc hPc (ci := 4) (q0 := 0) rfl rfl) hPc hKc hDc) rfl rfl hl.1 rfl (lv_room (Nat.le_of_ble_eq_true rfl)) dX9_text_59 ⟨(Nat.le_of_ble_eq_true rfl), (Nat.le_of_ble_eq_true rfl)⟩) hS (fun q _ h => hFc q h) hFc (kU8 (fun sA_30 cl_31 cS_32 cc_33 nS_34 nC_35 gS_36 gC_37 r_29 t H1 locs ht hvm hw hB hz1 hk1 hS => ?_))
          obtain ⟨hP1, hK1, hD1⟩ := hB
          rw [ht] at hP1
          try dsimp only at hw
          have hPD : kPD dC dI A [(jX, .inr (9, [.ref jT, .ref jR, .ref jK, .ref jL, .ref jU, .ref hF, .ref jC, .ref hN, .ref jA, .ref sd])), (jL, .inr (7, [.ref rL, .int (nI (kl))])), (rL, .inl (cL, 6, .inr (.inr (.inr (.inr gL))))), (jU, .inr (7, [.ref rU, .int (nI (ku))])), (rU, .inl (cU, 8, .inr (.inr (.inr (.inr gU))))), (jR, .inr (4, [.ref jT, .ref r1, .ref r2, .int (nI (Wr_11)), .int (nI (Fi_12)), .int (nI (Pn_13)), (V6_14 : Value), (V7_15 : Value)])), (r1, .inl (c1, 120, .inl S1_9)), (r2, .inl (c2, 124, .inl S2_10)), (jT, .inr (8, [.ref t0, .int (nI (ku_23))])), (t0, .inl (cC, 120, .inl gT)), (r_29, .inr (6, [.ref sA_30, .ref cl_31])), (sA_30, .inl (cS_32, nS_34, .inl gS_36)), (cl_31, .inl (cc_33, nC_35, .inl gC_37))] H1 := kJoin hP hD [1, 2, 3, 4, 5] [0, 6, 7, 8, 9] rfl rfl (by decide) (by decide) hk1 hFc hP1 hD1 rfl
          have hP := hPD.1
          have hD := hPD.2
          have hK1 := va_K.moved hvm.symm hK1
          have hK := hK.app hK1
          have hK : va_K (dC, dI) vwCl [(c1, .int), (c2, .int), (cC, .char), (cL, .object RX6), (cU, .object RX6), (c1, .int), (c2, .int), (cC, .char), (cS_32, .int), (cc_33, .int)] s := hK
          generalize H1 = H at hP hS ⊢
          refine W.widen (k := 3) (n := 402) (Nat.le_of_ble_eq_true rfl) (Nat.le_of_ble_eq_true rfl) ?_
          have hw_38 := hw
          have hw_38_0 := hw_38.1
          have hw_38_1 := hw_38.2.1
          have ho9 : xo_16 = true := kFt_t (p := Pn_13) (by omega) (hw_20.2.1.symm.trans c_21)
          have hr9 := hw_20.2.2.2.2.2 ho9
          have hk9 := hw_20.1
          rw [ho9] at hk9
          have bd_39 : kl < 6 := by omega
          have hCu := kCut (wc := [(jL, .inr (7, [.ref rL, .int (nI (kl))])), (rL, .inl (cL, 6, .inr (.inr (.inr (.inr gL))))), (r_29, .inr (6, [.ref sA_30, .ref cl_31]))]) hP hD hS hA [1, 2, 10] rfl kc_nd_580 rfl
          have hPc := hCu.1
          have hDc := hCu.2.1
          have hFc := hCu.2.2
          have hKc := hK.sb (tys2 := [(cL, .object RX6)]) [3] rfl
          refine va_calli (va_runV (As := [.ref r_29]) (rest := []) ⟨hx, hb, hml, hown, hts⟩ (s_put7x l dC dI jL rL cL gL kl 6 (Nat.le_of_ble_eq_true rfl) bd_39 r_29 sA_30 cl_31 H.size) (cwV 1 hts (kG (List.forall_mem_cons.mpr ⟨(List.mem_cons_of_mem _ (List.mem_append_left _ (List.mem_of_getElem? (i := 23) rfl))), (List.forall_mem_cons.mpr ⟨(List.mem_cons_of_mem _ (List.mem_append_left _ (List.mem_of_getElem? (i := 22) rfl))), (List.forall_mem_cons.mpr ⟨(List.mem_cons_of_mem _ (List.mem_append_left _ (List.mem_of_getElem? (i := 21) rfl))), (List.forall_mem_cons.mpr ⟨(List.mem_cons_of_mem _ (List.mem_append_left _ (List.mem_of_getElem? (i := 4) rfl))), (fun _ h => absurd h List.not_mem_nil)⟩)⟩)⟩)⟩) (kGV _ _ _ _) (fun _ h => List.mem_cons_of_mem _ (List.mem_append_right _ (List.mem_append_right _ (List.mem_append_right _ (List.mem_append_right _ (List.mem_append_right _ (List.mem_append_right _ (List.mem_append_right _ (List.mem_append_left _ h))))))))) gw_s_put7x) rfl rfl rfl ⟨rfl, hd_X7_put⟩ ⟨(Nat.le_of_ble_eq_true rfl), (Nat.le_of_ble_eq_true rfl)⟩) (kW_V kT_blind kT_give (va_recv hKc hPc (ci := 7) (q0 := 0) rfl rfl) hPc hKc hDc) rfl rfl hl.1 rfl (lv_room (Nat.le_of_ble_eq_true rfl)) dX9_text_62 ⟨(Nat.le_of_ble_eq_true rfl), (Nat.le_of_ble_eq_true rfl)⟩) hS (fun q _ h => hFc q h) hFc (fun r_40 => kU2 (fun gH1_41 kh1_42 t H_43 locs ht hvm hw hB hz1 hk1 hS => ?_))
          try dsimp only at hw
          have hPD : kPD dC dI A [(jX, .inr (9, [.ref jT, .ref jR, .ref jK, .ref jL, .ref jU, .ref hF, .ref jC, .ref hN, .ref jA, .ref sd])), (jL, .inr (7, [.ref rL, .int (nI (kh1_42))])), (rL, .inl (cL, 6, .inr (.inr (.inr (.inr gH1_41))))), (jU, .inr (7, [.ref rU, .int (nI (ku))])), (rU, .inl (cU, 8, .inr (.inr (.inr (.inr gU))))), (jR, .inr (4, [.ref jT, .ref r1, .ref r2, .int (nI (Wr_11)), .int (nI (Fi_12)), .int (nI (Pn_13)), (V6_14 : Value), (V7_15 : Value)])), (r1, .inl (c1, 120, .inl S1_9)), (r2, .inl (c2, 124, .inl S2_10)), (jT, .inr (8, [.ref t0, .int (nI (ku_23))])), (t0, .inl (cC, 120, .inl gT)), (r_29, .inr (6, [.ref sA_30, .ref cl_31])), (sA_30, .inl (cS_32, nS_34, .inl gS_36)), (cl_31, .inl (cc_33, nC_35, .inl gC_37))] H_43 := kJoinX hP hD [1, 2, 10] rfl hk1 hFc hB.1 ht hB.2.2 rfl [none, some 0, some 1, none, none, none, none, none, none, none, some 2, none, none] rfl rfl
          have hP := hPD.1
          have hD := hPD.2
          have hw_44 := hw
          have hw_44_1 := hw_44.2.1
          have hc9 : kTc 0 (kRead bt kt xA nA xB nB).1 (kRead bt kt xE nE xG nG).1 kl ku = 1 := (by unfold kTc; rw [if_pos rfl, if_pos (by omega), hw_20.1]; rw [kFt_t (p := Pn_13) (by omega) (hw_20.2.1.symm.trans c_21)]; rfl)
          have hPD : kPD dC dI A [(jX, .inr (9, [.ref jT, .ref jR, .ref jK, .ref jL, .ref jU, .ref hF, .ref jC, .ref hN, .ref jA, .ref sd])), (jR, .inr (4, [.ref jT, .ref r1, .ref r2, .int (nI (Wr_11)), .int (nI (Fi_12)), .int (nI (Pn_13)), (V6_14 : Value), (V7_15 : Value)])), (r1, .inl (c1, 120, .inl S1_9)), (r2, .inl (c2, 124, .inl S2_10)), (jT, .inr (8, [.ref t0, .int (nI (ku_23))])), (t0, .inl (cC, 120, .inl gT)), (jL, .inr (7, [.ref rL, .int (nI (kh1_42))])), (rL, .inl (cL, 6, .inr (.inr (.inr (.inr gH1_41))))), (jU, .inr (7, [.ref rU, .int (nI (ku))])), (rU, .inl (cU, 8, .inr (.inr (.inr (.inr gU)))))] H_43 := ⟨hP.sub [0, 5, 6, 7, 8, 9, 1, 2, 3, 4] rfl, hD.sub [0, 5, 6, 7, 8, 9, 1, 2, 3, 4] kc_nd_581 rfl⟩
          have hP9 := hPD.1
          have hD9 := hPD.2
          have hK9 := hK.sb (tys2 := [(c1, .int), (c2, .int), (cC, .char), (cL, .object RX6), (cU, .object RX6)]) [0, 1, 2, 3, 4] rfl
          refine W.widen (k := 3) (n := 402) (Nat.le_of_ble_eq_true rfl) (Nat.le_of_ble_eq_true rfl) ?_
          rw [hQ]
          exact W.iret (v := r_40) hx hb hr (fun t ht hW => ⟨⟨r_40, (S1_9, S2_10, gH1_41, gU, (nI (Pn_13)), Wr_11, Fi_12, ku_23, kh1_42, ku, ((V6_14 : Value) : Value), ((V7_15 : Value) : Value)), rfl, ⟨by rw [hc9]; exact hw_44.1, by rw [hc9]; exact hw_25, by rw [hc9]; exact hw_44.2.1, by rw [hc9]; exact rfl, by omega, by omega, by omega, by omega, by omega⟩, ⟨by rw [ht]; exact hP9, va_K.moved hW.alike hK9, hD9⟩, ⟨(Or.inr ⟨hw_44.2.1, r_29, sA_30, cl_31, cS_32, cc_33, nS_34, nC_35, gS_36, gC_37, hw_44.2.2, (kRu_of hnB hnA hk9 (hw_38.1.trans hr9.1) (hw_38.2.1.trans hr9.2.2.1) (fun j hj => (hw_38.2.2.1 j (by omega)).trans (congrFun hr9.2.1 j)) (fun j hj => (hw_38.2.2.2 j (by omega)).trans (congrFun hr9.2.2.2 j))), by omega, by omega, va_K.moved hW.alike (hK.sub [8, 9] rfl), by rw [ht]; exact hP.sub [10, 11, 12] rfl, (kFresh hD hAe 10 rfl [0, 5, 6, 7, 8, 9, 1, 2, 3, 4] rfl (by decide)), (kFresh hD hAe 11 rfl [0, 5, 6, 7, 8, 9, 1, 2, 3, 4] rfl (by decide)), (kFresh hD hAe 12 rfl [0, 5, 6, 7, 8, 9, 1, 2, 3, 4] rfl (by decide))⟩), Or.inl ⟨rfl, rfl⟩⟩⟩, hS.F ht⟩) hS.2.2 dX9_text_65
        · refine lv_iconst (v := (-1)) hx hb dX9_text_44 kc_i_m1 ?_
          have hc9 : kTc 0 (kRead bt kt xA nA xB nB).1 (kRead bt kt xE nE xG nG).1 kl ku = 0 := (by unfold kTc; rw [if_pos rfl, if_pos (by omega), hw_20.1]; rw [kFt_f (fun z => c_21 (hw_20.2.1.trans z))]; rfl)
          have hP9 := hP
          have hD9 := hD
          have hK9 := hK
          refine W.widen (k := 3) (n := 402) (Nat.le_of_ble_eq_true rfl) (Nat.le_of_ble_eq_true rfl) ?_
          rw [hQ]
          exact W.iret (v := (-1)) hx hb hr (fun t ht hW => ⟨⟨(-1), (S1_9, S2_10, gL, gU, (nI (Pn_13)), Wr_11, Fi_12, kt, kl, ku, (V6_14 : Value), (V7_15 : Value)), rfl, ⟨by rw [hc9]; exact rfl, by rw [hc9]; exact rfl, by rw [hc9]; exact rfl, by rw [hc9]; exact rfl, by omega, by omega, by omega, by omega, by omega⟩, ⟨by rw [ht]; exact hP9, va_K.moved hW.alike hK9, hD9⟩, ⟨Or.inl ⟨rfl, rfl⟩, Or.inl ⟨rfl, rfl⟩⟩⟩, hS.F ht⟩) hS.2.2 dX9_text_45
    · refine lv_iload_n hx hb dX9_text_9 rfl (lv_at hl 1 rfl) ?_
      refine lv_if_ne (tgt := 20) hx hb dX9_text_10 kc_t_10_10 (fun c_45 => ?_) (fun c_45 => absurd c_45 (by decide))
      refine lv_aload_n hx hb dX9_text_20 rfl (lv_at hl 0 rfl) ?_
      refine va_get (D := (dC, dI)) (ci := 9) (v := .ref jU) (C := RX9) (T := TX9) (N := 10) hx hb hts (fun _ h => List.mem_cons_of_mem _ (List.mem_append_right _ (List.mem_append_right _ (List.mem_append_left _ h)))) hown hK hP 0 rfl rfl 4 kc_l_4_10 (hts (.fieldLink RX9 41 "NotEnded" "turnings" "LNotEnded$Shelf;") (List.mem_cons_of_mem _ (List.mem_append_left _ (List.mem_of_getElem? (i := 24) rfl)))) (fun _ h9 => h9) rfl dX9_text_21 ?_
      refine lv_astore_n hx hb dX9_text_24 rfl hl kc_l_2_3 (kTo [(2, .ref jU), (0, .ref jX), (1, .int 1)]) (fun ls hl => ?_)
      refine lv_aload_n hx hb dX9_text_25 rfl (lv_at hl 0 rfl) ?_
      have hPc := hP.sb (ws2 := [(jU, .inr (7, [.ref rU, .int (nI (ku))])), (rU, .inl (cU, 8, .inr (.inr (.inr (.inr gU)))))]) [8, 9] rfl
      have hKc := hK.sb (tys2 := [(cU, .object RX6)]) [4] rfl
      refine vp_callSi (va_runV (As := []) (rest := []) ⟨hx, hb, hml, hown, hts⟩ (s_isFull7 l dC dI jU rU cU gU ku 8 (Nat.le_of_ble_eq_true rfl) hku) (cwV 0 hts (kG (List.forall_mem_cons.mpr ⟨(List.mem_cons_of_mem _ (List.mem_append_left _ (List.mem_of_getElem? (i := 7) rfl))), (List.forall_mem_cons.mpr ⟨(List.mem_cons_of_mem _ (List.mem_append_left _ (List.mem_of_getElem? (i := 6) rfl))), (List.forall_mem_cons.mpr ⟨(List.mem_cons_of_mem _ (List.mem_append_left _ (List.mem_of_getElem? (i := 5) rfl))), (List.forall_mem_cons.mpr ⟨(List.mem_cons_of_mem _ (List.mem_append_left _ (List.mem_of_getElem? (i := 4) rfl))), (fun _ h => absurd h List.not_mem_nil)⟩)⟩)⟩)⟩) (kGV _ _ _ _) (fun _ h => List.mem_cons_of_mem _ (List.mem_append_right _ (List.mem_append_right _ (List.mem_append_right _ (List.mem_append_left _ h))))) gw_s_isFull7) rfl rfl rfl ⟨rfl, hd_X7_isFull⟩ ⟨(Nat.le_of_ble_eq_true rfl), (Nat.le_of_ble_eq_true rfl)⟩) (kR_V kT_blind kT_give (va_recv hKc hPc (ci := 7) (q0 := 0) rfl rfl) hPc hKc) rfl rfl hl.1 rfl (lv_room (Nat.le_of_ble_eq_true rfl)) dX9_text_26 ⟨(Nat.le_of_ble_eq_true rfl), (Nat.le_of_ble_eq_true rfl)⟩).run (fun r_46 hw => ?_)
      have hw_47 := hw
      refine lv_if_ne (tgt := 44) hx hb dX9_text_29 kc_t_29_15 (fun c_48 => ?_) (fun c_48 => ?_)
      · have hge8 : 8 ≤ ku := kFullN hw_47 c_48
        refine lv_iconst (v := (-1)) hx hb dX9_text_44 kc_i_m1 ?_
        have hc9 : kTc 1 (kRead bt kt xA nA xB nB).1 (kRead bt kt xE nE xG nG).1 kl ku = 0 := (by unfold kTc; rw [if_neg (by decide), if_pos rfl, if_neg (by omega)])
        have hP9 := hP
        have hD9 := hD
        have hK9 := hK
        refine W.widen (k := 3) (n := 402) (Nat.le_of_ble_eq_true rfl) (Nat.le_of_ble_eq_true rfl) ?_
        rw [hQ]
        exact W.iret (v := (-1)) hx hb hr (fun t ht hW => ⟨⟨(-1), (s1, s2, gL, gU, pl, wr, fi, kt, kl, ku, (v6 : Value), (v7 : Value)), rfl, ⟨by rw [hc9]; exact rfl, by rw [hc9]; exact rfl, by rw [hc9]; exact rfl, by rw [hc9]; exact rfl, by omega, by omega, by omega, by omega, by omega⟩, ⟨by rw [ht]; exact hP9, va_K.moved hW.alike hK9, hD9⟩, ⟨Or.inl ⟨rfl, rfl⟩, Or.inl ⟨rfl, rfl⟩⟩⟩, hS.F ht⟩) hS.2.2 dX9_text_45
      · have hlt8 : ku < 8 := kFull hw_47 c_48
        refine lv_aload_n hx hb dX9_text_32 rfl (lv_at hl 1 rfl) ?_
        refine va_get (D := (dC, dI)) (ci := 9) (v := .ref jR) (C := RX9) (T := TX9) (N := 10) hx hb hts (fun _ h => List.mem_cons_of_mem _ (List.mem_append_right _ (List.mem_append_right _ (List.mem_append_left _ h)))) hown hK hP 0 rfl rfl 1 kc_l_1_10 (hts (.fieldLink RX9 21 "NotEnded" "reader" "LNotEnded$Reader;") (List.mem_cons_of_mem _ (List.mem_append_left _ (List.mem_of_getElem? (i := 8) rfl)))) (fun _ h9 => h9) rfl dX9_text_33 ?_
        refine lv_iload_n hx hb dX9_text_36 rfl (lv_at hl 2 rfl) ?_
        have hCu := kCut (wc := [(jR, .inr (4, [.ref jT, .ref r1, .ref r2, .int (nI (wr)), .int (nI (fi)), .int pl, v6, v7])), (r1, .inl (c1, 120, .inl s1)), (r2, .inl (c2, 124, .inl s2)), (jT, .inr (8, [.ref t0, .int (nI (kt))])), (t0, .inl (cC, 120, .inl gT))]) hP hD hS hA [1, 2, 3, 4, 5] rfl kc_nd_574 rfl
        have hPc := hCu.1
        have hDc := hCu.2.1
        have hFc := hCu.2.2
        have hKc := hK.sb (tys2 := [(c1, .int), (c2, .int), (cC, .char)]) [0, 1, 2] rfl
        refine va_calli (va_runV (As := [.int 1]) (rest := []) ⟨hx, hb, hml, hown, hts⟩ (s_read4x_1 l dC dI ad jT t0 cC gT kt hkt (kHgT hbt hb8) bt hbt hb8 jR r1 r2 c1 c2 s1 s2 wr fi hwr hfi pl (v6 : Value) (v7 : Value) bE nE xE hnE bG nG xG hnG gnE hzE gnG hzG s.heap.size) (cwV 1 hts (kG (List.forall_mem_cons.mpr ⟨(List.mem_cons_of_mem _ (List.mem_append_left _ (List.mem_of_getElem? (i := 12) rfl))), (List.forall_mem_cons.mpr ⟨(List.mem_cons_of_mem _ (List.mem_append_left _ (List.mem_of_getElem? (i := 11) rfl))), (List.forall_mem_cons.mpr ⟨(List.mem_cons_of_mem _ (List.mem_append_left _ (List.mem_of_getElem? (i := 10) rfl))), (List.forall_mem_cons.mpr ⟨(List.mem_cons_of_mem _ (List.mem_append_left _ (List.mem_of_getElem? (i := 9) rfl))), (fun _ h => absurd h List.not_mem_nil)⟩)⟩)⟩)⟩) (kGV _ _ _ _) (fun _ h => List.mem_cons_of_mem _ (List.mem_append_right _ (List.mem_append_right _ (List.mem_append_right _ (List.mem_append_right _ (List.mem_append_right _ (List.mem_append_right _ (List.mem_append_right _ (List.mem_append_right _ h))))))))) gw_s_read4x_1) rfl rfl rfl ⟨rfl, hd_X4_read⟩ ⟨(Nat.le_of_ble_eq_true rfl), (Nat.le_of_ble_eq_true rfl)⟩) (kW_V kRd_blind (kRd_give hX.2.1 hS hFc) (va_recv hKc hPc (ci := 4) (q0 := 0) rfl rfl) hPc hKc hDc) rfl rfl hl.1 rfl (lv_room (Nat.le_of_ble_eq_true rfl)) dX9_text_37 ⟨(Nat.le_of_ble_eq_true rfl), (Nat.le_of_ble_eq_true rfl)⟩) hS (fun q _ h => hFc q h) hFc (fun r_49 => kU10 (fun S1_50 S2_51 Wr_52 Fi_53 Pn_54 V6_55 V7_56 xo_57 xl_58 xc_59 t H_60 locs ht hvm hw hB hz1 hk1 hS => ?_))
        try dsimp only at hw
        have hPD : kPD dC dI A [(jX, .inr (9, [.ref jT, .ref jR, .ref jK, .ref jL, .ref jU, .ref hF, .ref jC, .ref hN, .ref jA, .ref sd])), (jR, .inr (4, [.ref jT, .ref r1, .ref r2, .int (nI (Wr_52)), .int (nI (Fi_53)), .int (nI (Pn_54)), V6_55, V7_56])), (r1, .inl (c1, 120, .inl S1_50)), (r2, .inl (c2, 124, .inl S2_51)), (jT, .inr (8, [.ref t0, .int (nI (kt))])), (t0, .inl (cC, 120, .inl gT)), (jL, .inr (7, [.ref rL, .int (nI (kl))])), (rL, .inl (cL, 6, .inr (.inr (.inr (.inr gL))))), (jU, .inr (7, [.ref rU, .int (nI (ku))])), (rU, .inl (cU, 8, .inr (.inr (.inr (.inr gU)))))] H_60 := kJoinX hP hD [1, 2, 3, 4, 5] rfl hk1 hFc hB.1 ht hB.2.2 rfl [none, some 0, some 1, some 2, some 3, some 4, none, none, none, none] rfl rfl
        have hP := hPD.1
        have hD := hPD.2
        have hw_61 := hw
        have hw_61_0 := hw_61.2.2.1
        have hw_61_1 := hw_61.2.2.2.1
        have hw_61_2 := hw_61.2.2.2.2.1
        refine lv_iconst (v := (-1)) hx hb dX9_text_40 kc_i_m1 ?_
        refine lv_icmp_eq (tgt := 46) hx hb dX9_text_41 kc_t_41_5 (fun c_62 => ?_) (fun c_62 => ?_)
        · refine lv_aload_n hx hb dX9_text_46 rfl (lv_at hl 1 rfl) ?_
          refine va_get (D := (dC, dI)) (ci := 9) (v := .ref jT) (C := RX9) (T := TX9) (N := 10) hx hb hts (fun _ h => List.mem_cons_of_mem _ (List.mem_append_right _ (List.mem_append_right _ (List.mem_append_left _ h)))) hown hK hP 0 rfl rfl 0 kc_l_0_10 (hts (.fieldLink RX9 12 "NotEnded" "tape" "LNotEnded$Tape;") (List.mem_cons_of_mem _ (List.mem_append_left _ (List.mem_of_getElem? (i := 13) rfl)))) (fun _ h9 => h9) rfl dX9_text_47 ?_
          refine lv_iconst (v := 0) hx hb dX9_text_50 kc_i_0 ?_
          have bd_63 : 0 ≤ kt := by omega
          have hCu := kCut (wc := [(jT, .inr (8, [.ref t0, .int (nI (kt))])), (t0, .inl (cC, 120, .inl gT))]) hP hD hS hA [4, 5] rfl kc_nd_579 rfl
          have hPc := hCu.1
          have hDc := hCu.2.1
          have hFc := hCu.2.2
          have hKc := hK.sb (tys2 := [(cC, .char)]) [2] rfl
          refine va_callv (va_runV (As := [.int 0]) (rest := []) ⟨hx, hb, hml, hown, hts⟩ (s_cutTo8 l dC dI jT t0 cC gT kt hkt (kHgT hbt hb8) 0 bd_63 H_60.size) (cwV 1 hts (kG (List.forall_mem_cons.mpr ⟨(List.mem_cons_of_mem _ (List.mem_append_left _ (List.mem_of_getElem? (i := 17) rfl))), (List.forall_mem_cons.mpr ⟨(List.mem_cons_of_mem _ (List.mem_append_left _ (List.mem_of_getElem? (i := 16) rfl))), (List.forall_mem_cons.mpr ⟨(List.mem_cons_of_mem _ (List.mem_append_left _ (List.mem_of_getElem? (i := 15) rfl))), (List.forall_mem_cons.mpr ⟨(List.mem_cons_of_mem _ (List.mem_append_left _ (List.mem_of_getElem? (i := 14) rfl))), (fun _ h => absurd h List.not_mem_nil)⟩)⟩)⟩)⟩) (kGV _ _ _ _) (fun _ h => List.mem_cons_of_mem _ (List.mem_append_right _ (List.mem_append_right _ (List.mem_append_right _ (List.mem_append_right _ (List.mem_append_right _ (List.mem_append_left _ h))))))) gw_s_cutTo8) rfl rfl rfl ⟨rfl, hd_X8_cutTo⟩ ⟨(Nat.le_of_ble_eq_true rfl), (Nat.le_of_ble_eq_true rfl)⟩) (kW_V kNL_blind (kNL_give hX.2.2.1) (va_recv hKc hPc (ci := 8) (q0 := 0) rfl rfl) hPc hKc hDc) rfl rfl hl.1 rfl (lv_room (Nat.le_of_ble_eq_true rfl)) dX9_text_51 ⟨(Nat.le_of_ble_eq_true rfl), (Nat.le_of_ble_eq_true rfl)⟩) hS (fun q _ h => hFc q h) hFc (fun ku_64 t H_65 locs ht hvm hw hB hz1 hk1 hS => ?_)
          try dsimp only at hw
          have hPD : kPD dC dI A [(jX, .inr (9, [.ref jT, .ref jR, .ref jK, .ref jL, .ref jU, .ref hF, .ref jC, .ref hN, .ref jA, .ref sd])), (jR, .inr (4, [.ref jT, .ref r1, .ref r2, .int (nI (Wr_52)), .int (nI (Fi_53)), .int (nI (Pn_54)), V6_55, V7_56])), (r1, .inl (c1, 120, .inl S1_50)), (r2, .inl (c2, 124, .inl S2_51)), (jT, .inr (8, [.ref t0, .int (nI (ku_64))])), (t0, .inl (cC, 120, .inl gT)), (jL, .inr (7, [.ref rL, .int (nI (kl))])), (rL, .inl (cL, 6, .inr (.inr (.inr (.inr gL))))), (jU, .inr (7, [.ref rU, .int (nI (ku))])), (rU, .inl (cU, 8, .inr (.inr (.inr (.inr gU)))))] H_65 := kJoinX hP hD [4, 5] rfl hk1 hFc hB.1 ht hB.2.2 rfl [none, none, none, none, some 0, some 1, none, none, none, none] rfl rfl
          have hP := hPD.1
          have hD := hPD.2
          have hw_66 := hw
          refine lv_aload_n hx hb dX9_text_54 rfl (lv_at hl 0 rfl) ?_
          refine lv_aload_n hx hb dX9_text_55 rfl (lv_at hl 1 rfl) ?_
          refine va_get (D := (dC, dI)) (ci := 9) (v := .ref jR) (C := RX9) (T := TX9) (N := 10) hx hb hts (fun _ h => List.mem_cons_of_mem _ (List.mem_append_right _ (List.mem_append_right _ (List.mem_append_left _ h)))) hown hK hP 0 rfl rfl 1 kc_l_1_10 (hts (.fieldLink RX9 21 "NotEnded" "reader" "LNotEnded$Reader;") (List.mem_cons_of_mem _ (List.mem_append_left _ (List.mem_of_getElem? (i := 8) rfl)))) (fun _ h9 => h9) rfl dX9_text_56 ?_
          have bd_67 : ku_64 ≤ 120 := by omega
          have bd_68 : Wr_52 ≤ 120 := by omega
          have bd_69 : Fi_53 ≤ 124 := by omega
          have hCu := kCut (wc := [(jR, .inr (4, [.ref jT, .ref r1, .ref r2, .int (nI (Wr_52)), .int (nI (Fi_53)), .int (nI (Pn_54)), V6_55, V7_56])), (r1, .inl (c1, 120, .inl S1_50)), (r2, .inl (c2, 124, .inl S2_51)), (jT, .inr (8, [.ref t0, .int (nI (ku_64))])), (t0, .inl (cC, 120, .inl gT))]) hP hD hS hA [1, 2, 3, 4, 5] rfl kc_nd_574 rfl
          have hPc := hCu.1
          have hDc := hCu.2.1
          have hFc := hCu.2.2
          have hKc := hK.sb (tys2 := [(c1, .int), (c2, .int), (cC, .char)]) [0, 1, 2] rfl
          refine va_callr (va_runV (As := []) (rest := [.ref jU]) ⟨hx, hb, hml, hown, hts⟩ (s_rule4 l dC dI jT t0 cC gT ku_64 bd_67 (kHgT hbt hb8) jR r1 r2 c1 c2 S1_50 S2_51 Wr_52 Fi_53 (nI (Pn_54)) bd_68 bd_69 (V6_55 : Value) (V7_56 : Value) H_65.size) (cwV 0 hts (kG (List.forall_mem_cons.mpr ⟨(List.mem_cons_of_mem _ (List.mem_append_left _ (List.mem_of_getElem? (i := 20) rfl))), (List.forall_mem_cons.mpr ⟨(List.mem_cons_of_mem _ (List.mem_append_left _ (List.mem_of_getElem? (i := 19) rfl))), (List.forall_mem_cons.mpr ⟨(List.mem_cons_of_mem _ (List.mem_append_left _ (List.mem_of_getElem? (i := 18) rfl))), (List.forall_mem_cons.mpr ⟨(List.mem_cons_of_mem _ (List.mem_append_left _ (List.mem_of_getElem? (i := 9) rfl))), (fun _ h => absurd h List.not_mem_nil)⟩)⟩)⟩)⟩) (kGV _ _ _ _) (fun _ h => List.mem_cons_of_mem _ (List.mem_append_right _ (List.mem_append_right _ (List.mem_append_right _ (List.mem_append_right _ (List.mem_append_right _ (List.mem_append_right _ (List.mem_append_left _ h)))))))) gw_s_rule4) rfl rfl rfl ⟨rfl, hd_X4_rule⟩ ⟨(Nat.le_of_ble_eq_true rfl), (Nat.le_of_ble_eq_true rfl)⟩) (kW_V kCl_blind (kCl_give hX.2.2.2) (va_recv hKc hPc (ci := 4) (q0 := 0) rfl rfl) hPc hKc hDc) rfl rfl hl.1 rfl (lv_room (Nat.le_of_ble_eq_true rfl)) dX9_text_59 ⟨(Nat.le_of_ble_eq_true rfl), (Nat.le_of_ble_eq_true rfl)⟩) hS (fun q _ h => hFc q h) hFc (kU8 (fun sA_71 cl_72 cS_73 cc_74 nS_75 nC_76 gS_77 gC_78 r_70 t H1 locs ht hvm hw hB hz1 hk1 hS => ?_))
          obtain ⟨hP1, hK1, hD1⟩ := hB
          rw [ht] at hP1
          try dsimp only at hw
          have hPD : kPD dC dI A [(jX, .inr (9, [.ref jT, .ref jR, .ref jK, .ref jL, .ref jU, .ref hF, .ref jC, .ref hN, .ref jA, .ref sd])), (jL, .inr (7, [.ref rL, .int (nI (kl))])), (rL, .inl (cL, 6, .inr (.inr (.inr (.inr gL))))), (jU, .inr (7, [.ref rU, .int (nI (ku))])), (rU, .inl (cU, 8, .inr (.inr (.inr (.inr gU))))), (jR, .inr (4, [.ref jT, .ref r1, .ref r2, .int (nI (Wr_52)), .int (nI (Fi_53)), .int (nI (Pn_54)), (V6_55 : Value), (V7_56 : Value)])), (r1, .inl (c1, 120, .inl S1_50)), (r2, .inl (c2, 124, .inl S2_51)), (jT, .inr (8, [.ref t0, .int (nI (ku_64))])), (t0, .inl (cC, 120, .inl gT)), (r_70, .inr (6, [.ref sA_71, .ref cl_72])), (sA_71, .inl (cS_73, nS_75, .inl gS_77)), (cl_72, .inl (cc_74, nC_76, .inl gC_78))] H1 := kJoin hP hD [1, 2, 3, 4, 5] [0, 6, 7, 8, 9] rfl rfl (by decide) (by decide) hk1 hFc hP1 hD1 rfl
          have hP := hPD.1
          have hD := hPD.2
          have hK1 := va_K.moved hvm.symm hK1
          have hK := hK.app hK1
          have hK : va_K (dC, dI) vwCl [(c1, .int), (c2, .int), (cC, .char), (cL, .object RX6), (cU, .object RX6), (c1, .int), (c2, .int), (cC, .char), (cS_73, .int), (cc_74, .int)] s := hK
          generalize H1 = H at hP hS ⊢
          refine W.widen (k := 3) (n := 402) (Nat.le_of_ble_eq_true rfl) (Nat.le_of_ble_eq_true rfl) ?_
          have hw_79 := hw
          have hw_79_0 := hw_79.1
          have hw_79_1 := hw_79.2.1
          have ho9 : xo_57 = true := kFt_t (p := Pn_54) (by omega) (hw_61.2.1.symm.trans c_62)
          have hr9 := hw_61.2.2.2.2.2 ho9
          have hk9 := hw_61.1
          rw [ho9] at hk9
          have bd_80 : ku < 8 := by omega
          have hCu := kCut (wc := [(jU, .inr (7, [.ref rU, .int (nI (ku))])), (rU, .inl (cU, 8, .inr (.inr (.inr (.inr gU))))), (r_70, .inr (6, [.ref sA_71, .ref cl_72]))]) hP hD hS hA [3, 4, 10] rfl kc_nd_582 rfl
          have hPc := hCu.1
          have hDc := hCu.2.1
          have hFc := hCu.2.2
          have hKc := hK.sb (tys2 := [(cU, .object RX6)]) [4] rfl
          refine va_calli (va_runV (As := [.ref r_70]) (rest := []) ⟨hx, hb, hml, hown, hts⟩ (s_put7x l dC dI jU rU cU gU ku 8 (Nat.le_of_ble_eq_true rfl) bd_80 r_70 sA_71 cl_72 H.size) (cwV 1 hts (kG (List.forall_mem_cons.mpr ⟨(List.mem_cons_of_mem _ (List.mem_append_left _ (List.mem_of_getElem? (i := 23) rfl))), (List.forall_mem_cons.mpr ⟨(List.mem_cons_of_mem _ (List.mem_append_left _ (List.mem_of_getElem? (i := 22) rfl))), (List.forall_mem_cons.mpr ⟨(List.mem_cons_of_mem _ (List.mem_append_left _ (List.mem_of_getElem? (i := 21) rfl))), (List.forall_mem_cons.mpr ⟨(List.mem_cons_of_mem _ (List.mem_append_left _ (List.mem_of_getElem? (i := 4) rfl))), (fun _ h => absurd h List.not_mem_nil)⟩)⟩)⟩)⟩) (kGV _ _ _ _) (fun _ h => List.mem_cons_of_mem _ (List.mem_append_right _ (List.mem_append_right _ (List.mem_append_right _ (List.mem_append_right _ (List.mem_append_right _ (List.mem_append_right _ (List.mem_append_right _ (List.mem_append_left _ h))))))))) gw_s_put7x) rfl rfl rfl ⟨rfl, hd_X7_put⟩ ⟨(Nat.le_of_ble_eq_true rfl), (Nat.le_of_ble_eq_true rfl)⟩) (kW_V kT_blind kT_give (va_recv hKc hPc (ci := 7) (q0 := 0) rfl rfl) hPc hKc hDc) rfl rfl hl.1 rfl (lv_room (Nat.le_of_ble_eq_true rfl)) dX9_text_62 ⟨(Nat.le_of_ble_eq_true rfl), (Nat.le_of_ble_eq_true rfl)⟩) hS (fun q _ h => hFc q h) hFc (fun r_81 => kU2 (fun gH1_82 kh1_83 t H_84 locs ht hvm hw hB hz1 hk1 hS => ?_))
          try dsimp only at hw
          have hPD : kPD dC dI A [(jX, .inr (9, [.ref jT, .ref jR, .ref jK, .ref jL, .ref jU, .ref hF, .ref jC, .ref hN, .ref jA, .ref sd])), (jL, .inr (7, [.ref rL, .int (nI (kl))])), (rL, .inl (cL, 6, .inr (.inr (.inr (.inr gL))))), (jU, .inr (7, [.ref rU, .int (nI (kh1_83))])), (rU, .inl (cU, 8, .inr (.inr (.inr (.inr gH1_82))))), (jR, .inr (4, [.ref jT, .ref r1, .ref r2, .int (nI (Wr_52)), .int (nI (Fi_53)), .int (nI (Pn_54)), (V6_55 : Value), (V7_56 : Value)])), (r1, .inl (c1, 120, .inl S1_50)), (r2, .inl (c2, 124, .inl S2_51)), (jT, .inr (8, [.ref t0, .int (nI (ku_64))])), (t0, .inl (cC, 120, .inl gT)), (r_70, .inr (6, [.ref sA_71, .ref cl_72])), (sA_71, .inl (cS_73, nS_75, .inl gS_77)), (cl_72, .inl (cc_74, nC_76, .inl gC_78))] H_84 := kJoinX hP hD [3, 4, 10] rfl hk1 hFc hB.1 ht hB.2.2 rfl [none, none, none, some 0, some 1, none, none, none, none, none, some 2, none, none] rfl rfl
          have hP := hPD.1
          have hD := hPD.2
          have hw_85 := hw
          have hw_85_1 := hw_85.2.1
          have hc9 : kTc 1 (kRead bt kt xA nA xB nB).1 (kRead bt kt xE nE xG nG).1 kl ku = 2 := (by unfold kTc; rw [if_neg (by decide), if_pos rfl, if_pos (by omega), hw_61.1]; rw [kFt_t (p := Pn_54) (by omega) (hw_61.2.1.symm.trans c_62)]; rfl)
          have hPD : kPD dC dI A [(jX, .inr (9, [.ref jT, .ref jR, .ref jK, .ref jL, .ref jU, .ref hF, .ref jC, .ref hN, .ref jA, .ref sd])), (jR, .inr (4, [.ref jT, .ref r1, .ref r2, .int (nI (Wr_52)), .int (nI (Fi_53)), .int (nI (Pn_54)), (V6_55 : Value), (V7_56 : Value)])), (r1, .inl (c1, 120, .inl S1_50)), (r2, .inl (c2, 124, .inl S2_51)), (jT, .inr (8, [.ref t0, .int (nI (ku_64))])), (t0, .inl (cC, 120, .inl gT)), (jL, .inr (7, [.ref rL, .int (nI (kl))])), (rL, .inl (cL, 6, .inr (.inr (.inr (.inr gL))))), (jU, .inr (7, [.ref rU, .int (nI (kh1_83))])), (rU, .inl (cU, 8, .inr (.inr (.inr (.inr gH1_82)))))] H_84 := ⟨hP.sub [0, 5, 6, 7, 8, 9, 1, 2, 3, 4] rfl, hD.sub [0, 5, 6, 7, 8, 9, 1, 2, 3, 4] kc_nd_581 rfl⟩
          have hP9 := hPD.1
          have hD9 := hPD.2
          have hK9 := hK.sb (tys2 := [(c1, .int), (c2, .int), (cC, .char), (cL, .object RX6), (cU, .object RX6)]) [0, 1, 2, 3, 4] rfl
          refine W.widen (k := 3) (n := 402) (Nat.le_of_ble_eq_true rfl) (Nat.le_of_ble_eq_true rfl) ?_
          rw [hQ]
          exact W.iret (v := r_81) hx hb hr (fun t ht hW => ⟨⟨r_81, (S1_50, S2_51, gL, gH1_82, (nI (Pn_54)), Wr_52, Fi_53, ku_64, kl, kh1_83, ((V6_55 : Value) : Value), ((V7_56 : Value) : Value)), rfl, ⟨by rw [hc9]; exact hw_85.1, by rw [hc9]; exact hw_66, by rw [hc9]; exact rfl, by rw [hc9]; exact hw_85.2.1, by omega, by omega, by omega, by omega, by omega⟩, ⟨by rw [ht]; exact hP9, va_K.moved hW.alike hK9, hD9⟩, ⟨Or.inl ⟨rfl, rfl⟩, (Or.inr ⟨hw_85.2.1, r_70, sA_71, cl_72, cS_73, cc_74, nS_75, nC_76, gS_77, gC_78, hw_85.2.2, (kRu_of hnG hnE hk9 (hw_79.1.trans hr9.1) (hw_79.2.1.trans hr9.2.2.1) (fun j hj => (hw_79.2.2.1 j (by omega)).trans (congrFun hr9.2.1 j)) (fun j hj => (hw_79.2.2.2 j (by omega)).trans (congrFun hr9.2.2.2 j))), by omega, by omega, va_K.moved hW.alike (hK.sub [8, 9] rfl), by rw [ht]; exact hP.sub [10, 11, 12] rfl, (kFresh hD hAe 10 rfl [0, 5, 6, 7, 8, 9, 1, 2, 3, 4] rfl (by decide)), (kFresh hD hAe 11 rfl [0, 5, 6, 7, 8, 9, 1, 2, 3, 4] rfl (by decide)), (kFresh hD hAe 12 rfl [0, 5, 6, 7, 8, 9, 1, 2, 3, 4] rfl (by decide))⟩)⟩⟩, hS.F ht⟩) hS.2.2 dX9_text_65
        · refine lv_iconst (v := (-1)) hx hb dX9_text_44 kc_i_m1 ?_
          have hc9 : kTc 1 (kRead bt kt xA nA xB nB).1 (kRead bt kt xE nE xG nG).1 kl ku = 0 := (by unfold kTc; rw [if_neg (by decide), if_pos rfl, if_pos (by omega), hw_61.1]; rw [kFt_f (fun z => c_62 (hw_61.2.1.trans z))]; rfl)
          have hP9 := hP
          have hD9 := hD
          have hK9 := hK
          refine W.widen (k := 3) (n := 402) (Nat.le_of_ble_eq_true rfl) (Nat.le_of_ble_eq_true rfl) ?_
          rw [hQ]
          exact W.iret (v := (-1)) hx hb hr (fun t ht hW => ⟨⟨(-1), (S1_50, S2_51, gL, gU, (nI (Pn_54)), Wr_52, Fi_53, kt, kl, ku, (V6_55 : Value), (V7_56 : Value)), rfl, ⟨by rw [hc9]; exact rfl, by rw [hc9]; exact rfl, by rw [hc9]; exact rfl, by rw [hc9]; exact rfl, by omega, by omega, by omega, by omega, by omega⟩, ⟨by rw [ht]; exact hP9, va_K.moved hW.alike hK9, hD9⟩, ⟨Or.inl ⟨rfl, rfl⟩, Or.inl ⟨rfl, rfl⟩⟩⟩, hS.F ht⟩) hS.2.2 dX9_text_45
  · refine lv_iconst (v := (-1)) hx hb dX9_text_7 kc_i_m1 ?_
    have hc9 : kTc p0 (kRead bt kt xA nA xB nB).1 (kRead bt kt xE nE xG nG).1 kl ku = 0 := kTc_z (hw_2.symm.trans c_3)
    have hP9 := hP
    have hD9 := hD
    have hK9 := hK
    refine W.widen (k := 3) (n := 402) (Nat.le_of_ble_eq_true rfl) (Nat.le_of_ble_eq_true rfl) ?_
    rw [hQ]
    exact W.iret (v := (-1)) hx hb hr (fun t ht hW => ⟨⟨(-1), (s1, s2, gL, gU, pl, wr, fi, kt, kl, ku, (v6 : Value), (v7 : Value)), rfl, ⟨by rw [hc9]; exact rfl, by rw [hc9]; exact rfl, by rw [hc9]; exact rfl, by rw [hc9]; exact rfl, by omega, by omega, by omega, by omega, by omega⟩, ⟨by rw [ht]; exact hP9, va_K.moved hW.alike hK9, hD9⟩, ⟨Or.inl ⟨rfl, rfl⟩, Or.inl ⟨rfl, rfl⟩⟩⟩, hS.F ht⟩) hS.2.2 dX9_text_8

theorem dX9_count_0 : decode cX9_count 0 = .ok (.iload_n 1, 1) := kDs0 kf_27 (by decide +kernel)
theorem dX9_count_1 : decode cX9_count 1 = .ok (.tableswitch 99 0 6 #[43, 51, 59, 67, 75, 83, 91], 43) := by decide +kernel
theorem dX9_count_44 : decode cX9_count 44 = .ok (.aload_n 0, 1) := kDs0 kf_42 (by decide +kernel)
theorem dX9_count_45 : decode cX9_count 45 = .ok (.getfield 37, 3) := kDs2 kf_180 (by decide +kernel)
theorem dX9_count_48 : decode cX9_count 48 = .ok (.invokevirtual 204, 3) := kDs2 kf_182 (by decide +kernel)
theorem dX9_count_51 : decode cX9_count 51 = .ok (.ireturn, 1) := kDs0 kf_172 (by decide +kernel)
theorem dX9_count_52 : decode cX9_count 52 = .ok (.aload_n 0, 1) := kDs0 kf_42 (by decide +kernel)
theorem dX9_count_53 : decode cX9_count 53 = .ok (.getfield 41, 3) := kDs2 kf_180 (by decide +kernel)
theorem dX9_count_56 : decode cX9_count 56 = .ok (.invokevirtual 204, 3) := kDs2 kf_182 (by decide +kernel)
theorem dX9_count_59 : decode cX9_count 59 = .ok (.ireturn, 1) := kDs0 kf_172 (by decide +kernel)
theorem dX9_count_60 : decode cX9_count 60 = .ok (.aload_n 0, 1) := kDs0 kf_42 (by decide +kernel)
theorem dX9_count_61 : decode cX9_count 61 = .ok (.getfield 47, 3) := kDs2 kf_180 (by decide +kernel)
theorem dX9_count_64 : decode cX9_count 64 = .ok (.invokevirtual 238, 3) := kDs2 kf_182 (by decide +kernel)
theorem dX9_count_67 : decode cX9_count 67 = .ok (.ireturn, 1) := kDs0 kf_172 (by decide +kernel)
theorem dX9_count_68 : decode cX9_count 68 = .ok (.aload_n 0, 1) := kDs0 kf_42 (by decide +kernel)
theorem dX9_count_69 : decode cX9_count 69 = .ok (.getfield 47, 3) := kDs2 kf_180 (by decide +kernel)
theorem dX9_count_72 : decode cX9_count 72 = .ok (.invokevirtual 255, 3) := kDs2 kf_182 (by decide +kernel)
theorem dX9_count_75 : decode cX9_count 75 = .ok (.ireturn, 1) := kDs0 kf_172 (by decide +kernel)
theorem dX9_count_76 : decode cX9_count 76 = .ok (.aload_n 0, 1) := kDs0 kf_42 (by decide +kernel)
theorem dX9_count_77 : decode cX9_count 77 = .ok (.getfield 63, 3) := kDs2 kf_180 (by decide +kernel)
theorem dX9_count_80 : decode cX9_count 80 = .ok (.invokevirtual 258, 3) := kDs2 kf_182 (by decide +kernel)
theorem dX9_count_83 : decode cX9_count 83 = .ok (.ireturn, 1) := kDs0 kf_172 (by decide +kernel)
theorem dX9_count_84 : decode cX9_count 84 = .ok (.aload_n 0, 1) := kDs0 kf_42 (by decide +kernel)
theorem dX9_count_85 : decode cX9_count 85 = .ok (.getfield 70, 3) := kDs2 kf_180 (by decide +kernel)
theorem dX9_count_88 : decode cX9_count 88 = .ok (.invokevirtual 259, 3) := kDs2 kf_182 (by decide +kernel)
theorem dX9_count_91 : decode cX9_count 91 = .ok (.ireturn, 1) := kDs0 kf_172 (by decide +kernel)
theorem dX9_count_92 : decode cX9_count 92 = .ok (.aload_n 0, 1) := kDs0 kf_42 (by decide +kernel)
theorem dX9_count_93 : decode cX9_count 93 = .ok (.getfield 12, 3) := kDs2 kf_180 (by decide +kernel)
theorem dX9_count_96 : decode cX9_count 96 = .ok (.invokevirtual 88, 3) := kDs2 kf_182 (by decide +kernel)
theorem dX9_count_99 : decode cX9_count 99 = .ok (.ireturn, 1) := kDs0 kf_172 (by decide +kernel)
theorem dX9_count_100 : decode cX9_count 100 = .ok (.iconst (-1), 1) := kDs0 kf_2 (by decide +kernel)
theorem dX9_count_101 : decode cX9_count 101 = .ok (.ireturn, 1) := kDs0 kf_172 (by decide +kernel)
def w_s_count9 : List Cond := .code yX9_count cX9_count 2 (some .int) :: ([.fieldLink RX9 37 "NotEnded" "laws" "LNotEnded$Shelf;", .initialized RX7, .selects RX7 yX7_size yX7_size, .instanceMethod yX7_size, .methodLink RX9 204 yX7_size, .fieldLink RX9 41 "NotEnded" "turnings" "LNotEnded$Shelf;", .fieldLink RX9 47 "NotEnded" "folk" "LNotEnded$Folk;", .initialized RX2, .selects RX2 yX2_size yX2_size, .instanceMethod yX2_size, .methodLink RX9 238 yX2_size, .selects RX2 yX2_words yX2_words, .instanceMethod yX2_words, .methodLink RX9 255 yX2_words, .fieldLink RX9 63 "NotEnded" "notebook" "LNotEnded$Notebook;", .initialized RX3, .selects RX3 yX3_size yX3_size, .instanceMethod yX3_size, .methodLink RX9 258 yX3_size, .fieldLink RX9 70 "NotEnded" "acts" "LNotEnded$Acts;", .initialized RX0, .selects RX0 yX0_size yX0_size, .instanceMethod yX0_size, .methodLink RX9 259 yX0_size, .fieldLink RX9 12 "NotEnded" "tape" "LNotEnded$Tape;", .initialized RX8, .selects RX8 yX8_length yX8_length, .instanceMethod yX8_length, .methodLink RX9 88 yX8_length] ++ (wsX90 ++ (w_s_size7 ++ (w_s_size2 ++ (w_s_words2 ++ (w_s_size3 ++ (w_s_size0 ++ (w_s_length8))))))))
theorem gw_s_count9 : (w_s_count9).all goodWord = true := kGc rfl (kGa (by decide +kernel) (kGa gw_wsX90 (kGa gw_s_size7 (kGa gw_s_size2 (kGa gw_s_words2 (kGa gw_s_size3 (kGa gw_s_size0 gw_s_length8)))))))
theorem hd_X9_count : yX9_count.cls ≠ "java/lang/invoke/MethodHandle" ∧ yX9_count.cls ≠ "java/lang/invoke/VarHandle" ∧ (parseMethodDescriptor yX9_count.desc).map (fun d => d.parameters.length) = some 1 := by decide +kernel
set_option maxHeartbeats 4000000 in
set_option maxRecDepth 100000 in
theorem s_count9 (l : Launch) (dC : Nat → ClassId) (dI : Nat → Nat → Nat) (jX : Nat) (jT : Nat) (jR : Nat) (jL : Nat) (jU : Nat) (hN : Nat) (jA : Nat) (sd : Nat) (hF : Nat) (jC : Nat) (jK : Nat) (tz0 : Nat) (cC : ClassId) (gT : Nat → Int32) (kt : Nat) (hkt : kt ≤ 120) (hgT : ∀ j : Nat, narrow .char (.int (gT j)) = .int (gT j)) (rL : Nat) (cL : ClassId) (gL : Nat → Option Nat) (kl : Nat) (hkl : kl ≤ 6) (yL : Nat → List kTr) (rU : Nat) (cU : ClassId) (gU : Nat → Option Nat) (ku : Nat) (hku : ku ≤ 8) (yU : Nat → List kTr) (f0 : Nat) (f1 : Nat) (f2 : Nat) (f3 : Nat) (f4 : Nat) (z0 : ClassId) (z1 : ClassId) (z2 : ClassId) (z3 : ClassId) (z4 : ClassId) (g0 : Nat → Int32) (g1 : Nat → Int32) (g2 : Nat → Int32) (g3 : Nat → Int32) (g4 : Nat → Int32) (ks : Nat) (kw : Nat) (hks : ks ≤ 10) (hkw : kw ≤ 4) (sv : Nat) (hsv : sv < 1024) (o0 : Nat) (o1 : Nat) (o2 : Nat) (o3 : Nat) (o4 : Nat) (y0 : ClassId) (y1 : ClassId) (y2 : ClassId) (y3 : ClassId) (y4 : ClassId) (q0 : Nat → Int32) (q1 : Nat → Int32) (q2 : Nat → Int32) (q3 : Nat → Int32) (q4 : Nat → Int32) (kn : Nat) (hkn : kn ≤ 20) (i0 : Nat) (i1 : Nat) (i2 : Nat) (i3 : Nat) (x0 : ClassId) (x1 : ClassId) (x2 : ClassId) (x3 : ClassId) (t0 : Nat → Int32) (t1 : Nat → Int32) (t2 : Nat → Int32) (t3 : Nat → Int32) (ka : Nat) (hka : ka ≤ 6) (p0 : Int32) : Met l yX9_count w_s_count9 ({ frames := 2, cells := 0, slots := 0, locals := 120 }) (kR dC dI [.ref jX, .int p0] [(jX, .inr (9, [.ref jT, .ref jR, .ref jK, .ref jL, .ref jU, .ref hF, .ref jC, .ref hN, .ref jA, .ref sd])), (jT, .inr (8, [.ref tz0, .int (nI (kt))])), (tz0, .inl (cC, 120, .inl gT)), (jL, .inr (7, [.ref rL, .int (nI (kl))])), (rL, .inl (cL, 6, .inr (.inr (.inr (.inr gL))))), (jU, .inr (7, [.ref rU, .int (nI (ku))])), (rU, .inl (cU, 8, .inr (.inr (.inr (.inr gU))))), (hF, .inr (2, [.ref f0, .ref f1, .ref f2, .ref f3, .ref f4, .int (nI (sv)), .int (nI (ks)), .int (nI (kw))])), (f0, .inl (z0, 10, .inl g0)), (f1, .inl (z1, 10, .inl g1)), (f2, .inl (z2, 10, .inl g2)), (f3, .inl (z3, 10, .inl g3)), (f4, .inl (z4, 4, .inl g4)), (hN, .inr (3, [.ref o0, .ref o1, .ref o2, .ref o3, .ref o4, .int (nI (kn))])), (o0, .inl (y0, 20, .inl q0)), (o1, .inl (y1, 20, .inl q1)), (o2, .inl (y2, 20, .inl q2)), (o3, .inl (y3, 20, .inl q3)), (o4, .inl (y4, 20, .inl q4)), (jA, .inr (0, [.ref i0, .ref i1, .ref i2, .ref i3, .int (nI (ka))])), (i0, .inl (x0, 6, .inl t0)), (i1, .inl (x1, 6, .inl t1)), (i2, .inl (x2, 6, .inl t2)), (i3, .inl (x3, 6, .inl t3))] [(cC, .char), (cL, .object RX6), (cU, .object RX6), (z0, .int), (z1, .int), (z2, .int), (z3, .int), (z4, .int), (y0, .int), (y1, .int), (y2, .int), (y3, .int), (y4, .int), (x0, .int), (x1, .int), (x2, .int), (x3, .int)] kT) (vp_Si (fun r : Int32 => r = kCtA p0 kl ku ks kw kn ka kt)) 0 0 (fun _ => False) := by
  refine Met.ofW (cc := cX9_count) (maxL := 2) (ret := (some .int)) (by decide) rfl ?_
  intro p e s m args below meth c s₁ B hml hv
  obtain ⟨rfl, hP, hK, hX⟩ := hv
  have hx := B.exec
  have hb := B.bytes
  have hr := B.returns
  have hts := atoms_spec (ws := w_s_count9) B.pre
  have hown : s.vm.findClass RX9 = some m.cls := findClass_of_methodNamed B.named
  have hlocks := B.notSynchronized
  have hP : va_P (dC, dI) vwCl [(jX, .inr (9, [.ref jT, .ref jR, .ref jK, .ref jL, .ref jU, .ref hF, .ref jC, .ref hN, .ref jA, .ref sd])), (jT, .inr (8, [.ref tz0, .int (nI (kt))])), (tz0, .inl (cC, 120, .inl gT)), (jL, .inr (7, [.ref rL, .int (nI (kl))])), (rL, .inl (cL, 6, .inr (.inr (.inr (.inr gL))))), (jU, .inr (7, [.ref rU, .int (nI (ku))])), (rU, .inl (cU, 8, .inr (.inr (.inr (.inr gU))))), (hF, .inr (2, [.ref f0, .ref f1, .ref f2, .ref f3, .ref f4, .int (nI (sv)), .int (nI (ks)), .int (nI (kw))])), (f0, .inl (z0, 10, .inl g0)), (f1, .inl (z1, 10, .inl g1)), (f2, .inl (z2, 10, .inl g2)), (f3, .inl (z3, 10, .inl g3)), (f4, .inl (z4, 4, .inl g4)), (hN, .inr (3, [.ref o0, .ref o1, .ref o2, .ref o3, .ref o4, .int (nI (kn))])), (o0, .inl (y0, 20, .inl q0)), (o1, .inl (y1, 20, .inl q1)), (o2, .inl (y2, 20, .inl q2)), (o3, .inl (y3, 20, .inl q3)), (o4, .inl (y4, 20, .inl q4)), (jA, .inr (0, [.ref i0, .ref i1, .ref i2, .ref i3, .int (nI (ka))])), (i0, .inl (x0, 6, .inl t0)), (i1, .inl (x1, 6, .inl t1)), (i2, .inl (x2, 6, .inl t2)), (i3, .inl (x3, 6, .inl t3))] s.heap := hP
  have hl := lv_entry ([.ref jX, .int p0]) (n := 2) (Nat.le_of_ble_eq_true rfl)
  rw [lg_entry_eq]
  generalize (lg_sl ([.ref jX, .int p0]) ++ List.replicate (2 - (lg_sl ([.ref jX, .int p0])).length) Slot.unset).toArray = ls at hl ⊢
  have hl : lv_has ls 2 [(0, .ref jX), (1, .int p0)] := hl
  refine kQ (fun Q hQ => ?_)
  refine lv_iload_n hx hb dX9_count_0 rfl (lv_at hl 1 rfl) ?_
  rcases kSw7 p0 with rfl | rfl | rfl | rfl | rfl | rfl | rfl | h_1
  · refine lv_tableIn (tgt := 44) hx hb dX9_count_1 (by decide) (by decide) rfl (by decide) ?_
    refine lv_aload_n hx hb dX9_count_44 rfl (lv_at hl 0 rfl) ?_
    refine va_get (D := (dC, dI)) (ci := 9) (v := .ref jL) (C := RX9) (T := TX9) (N := 10) hx hb hts (fun _ h => List.mem_cons_of_mem _ (List.mem_append_right _ (List.mem_append_left _ h))) hown hK hP 0 rfl rfl 3 kc_l_3_10 (hts (.fieldLink RX9 37 "NotEnded" "laws" "LNotEnded$Shelf;") (List.mem_cons_of_mem _ (List.mem_append_left _ (List.mem_of_getElem? (i := 0) rfl)))) (fun _ h9 => h9) rfl dX9_count_45 ?_
    have hPc := hP.sb (ws2 := [(jL, .inr (7, [.ref rL, .int (nI (kl))])), (rL, .inl (cL, 6, .inr (.inr (.inr (.inr gL)))))]) [3, 4] rfl
    have hKc := hK.sb (tys2 := [(cL, .object RX6)]) [1] rfl
    refine vp_callSi (va_runV (As := []) (rest := []) ⟨hx, hb, hml, hown, hts⟩ (s_size7 l dC dI jL rL cL gL kl 6 (Nat.le_of_ble_eq_true rfl) hkl) (cwV 0 hts (kG (List.forall_mem_cons.mpr ⟨(List.mem_cons_of_mem _ (List.mem_append_left _ (List.mem_of_getElem? (i := 4) rfl))), (List.forall_mem_cons.mpr ⟨(List.mem_cons_of_mem _ (List.mem_append_left _ (List.mem_of_getElem? (i := 3) rfl))), (List.forall_mem_cons.mpr ⟨(List.mem_cons_of_mem _ (List.mem_append_left _ (List.mem_of_getElem? (i := 2) rfl))), (List.forall_mem_cons.mpr ⟨(List.mem_cons_of_mem _ (List.mem_append_left _ (List.mem_of_getElem? (i := 1) rfl))), (fun _ h => absurd h List.not_mem_nil)⟩)⟩)⟩)⟩) (kGV _ _ _ _) (fun _ h => List.mem_cons_of_mem _ (List.mem_append_right _ (List.mem_append_right _ (List.mem_append_left _ h)))) gw_s_size7) rfl rfl rfl ⟨rfl, hd_X7_size⟩ ⟨(Nat.le_of_ble_eq_true rfl), (Nat.le_of_ble_eq_true rfl)⟩) (kR_V kT_blind kT_give (va_recv hKc hPc (ci := 7) (q0 := 0) rfl rfl) hPc hKc) rfl rfl hl.1 rfl (lv_room (Nat.le_of_ble_eq_true rfl)) dX9_count_48 ⟨(Nat.le_of_ble_eq_true rfl), (Nat.le_of_ble_eq_true rfl)⟩).run (fun r_2 hw => ?_)
    obtain rfl : r_2 = nI (kl) := hw
    rw [hQ]
    exact W.iret (v := nI (kl)) hx hb hr (fun t ht hW => ⟨nI (kl), rfl, rfl, ht⟩) (fun _ h => nomatch h) dX9_count_51
  · refine lv_tableIn (tgt := 52) hx hb dX9_count_1 (by decide) (by decide) rfl (by decide) ?_
    refine lv_aload_n hx hb dX9_count_52 rfl (lv_at hl 0 rfl) ?_
    refine va_get (D := (dC, dI)) (ci := 9) (v := .ref jU) (C := RX9) (T := TX9) (N := 10) hx hb hts (fun _ h => List.mem_cons_of_mem _ (List.mem_append_right _ (List.mem_append_left _ h))) hown hK hP 0 rfl rfl 4 kc_l_4_10 (hts (.fieldLink RX9 41 "NotEnded" "turnings" "LNotEnded$Shelf;") (List.mem_cons_of_mem _ (List.mem_append_left _ (List.mem_of_getElem? (i := 5) rfl)))) (fun _ h9 => h9) rfl dX9_count_53 ?_
    have hPc := hP.sb (ws2 := [(jU, .inr (7, [.ref rU, .int (nI (ku))])), (rU, .inl (cU, 8, .inr (.inr (.inr (.inr gU)))))]) [5, 6] rfl
    have hKc := hK.sb (tys2 := [(cU, .object RX6)]) [2] rfl
    refine vp_callSi (va_runV (As := []) (rest := []) ⟨hx, hb, hml, hown, hts⟩ (s_size7 l dC dI jU rU cU gU ku 8 (Nat.le_of_ble_eq_true rfl) hku) (cwV 0 hts (kG (List.forall_mem_cons.mpr ⟨(List.mem_cons_of_mem _ (List.mem_append_left _ (List.mem_of_getElem? (i := 4) rfl))), (List.forall_mem_cons.mpr ⟨(List.mem_cons_of_mem _ (List.mem_append_left _ (List.mem_of_getElem? (i := 3) rfl))), (List.forall_mem_cons.mpr ⟨(List.mem_cons_of_mem _ (List.mem_append_left _ (List.mem_of_getElem? (i := 2) rfl))), (List.forall_mem_cons.mpr ⟨(List.mem_cons_of_mem _ (List.mem_append_left _ (List.mem_of_getElem? (i := 1) rfl))), (fun _ h => absurd h List.not_mem_nil)⟩)⟩)⟩)⟩) (kGV _ _ _ _) (fun _ h => List.mem_cons_of_mem _ (List.mem_append_right _ (List.mem_append_right _ (List.mem_append_left _ h)))) gw_s_size7) rfl rfl rfl ⟨rfl, hd_X7_size⟩ ⟨(Nat.le_of_ble_eq_true rfl), (Nat.le_of_ble_eq_true rfl)⟩) (kR_V kT_blind kT_give (va_recv hKc hPc (ci := 7) (q0 := 0) rfl rfl) hPc hKc) rfl rfl hl.1 rfl (lv_room (Nat.le_of_ble_eq_true rfl)) dX9_count_56 ⟨(Nat.le_of_ble_eq_true rfl), (Nat.le_of_ble_eq_true rfl)⟩).run (fun r_3 hw => ?_)
    obtain rfl : r_3 = nI (ku) := hw
    rw [hQ]
    exact W.iret (v := nI (ku)) hx hb hr (fun t ht hW => ⟨nI (ku), rfl, rfl, ht⟩) (fun _ h => nomatch h) dX9_count_59
  · refine lv_tableIn (tgt := 60) hx hb dX9_count_1 (by decide) (by decide) rfl (by decide) ?_
    refine lv_aload_n hx hb dX9_count_60 rfl (lv_at hl 0 rfl) ?_
    refine va_get (D := (dC, dI)) (ci := 9) (v := .ref hF) (C := RX9) (T := TX9) (N := 10) hx hb hts (fun _ h => List.mem_cons_of_mem _ (List.mem_append_right _ (List.mem_append_left _ h))) hown hK hP 0 rfl rfl 5 kc_l_5_10 (hts (.fieldLink RX9 47 "NotEnded" "folk" "LNotEnded$Folk;") (List.mem_cons_of_mem _ (List.mem_append_left _ (List.mem_of_getElem? (i := 6) rfl)))) (fun _ h9 => h9) rfl dX9_count_61 ?_
    have hPc := hP.sb (ws2 := [(hF, .inr (2, [.ref f0, .ref f1, .ref f2, .ref f3, .ref f4, .int (nI (sv)), .int (nI (ks)), .int (nI (kw))])), (f0, .inl (z0, 10, .inl g0)), (f1, .inl (z1, 10, .inl g1)), (f2, .inl (z2, 10, .inl g2)), (f3, .inl (z3, 10, .inl g3)), (f4, .inl (z4, 4, .inl g4))]) [7, 8, 9, 10, 11, 12] rfl
    have hKc := hK.sb (tys2 := [(z0, .int), (z1, .int), (z2, .int), (z3, .int), (z4, .int)]) [3, 4, 5, 6, 7] rfl
    refine vp_callSi (va_runV (As := []) (rest := []) ⟨hx, hb, hml, hown, hts⟩ (s_size2 l dC dI hF f0 f1 f2 f3 f4 z0 z1 z2 z3 z4 g0 g1 g2 g3 g4 (nI (sv)) ks kw hks hkw) (cwV 0 hts (kG (List.forall_mem_cons.mpr ⟨(List.mem_cons_of_mem _ (List.mem_append_left _ (List.mem_of_getElem? (i := 10) rfl))), (List.forall_mem_cons.mpr ⟨(List.mem_cons_of_mem _ (List.mem_append_left _ (List.mem_of_getElem? (i := 9) rfl))), (List.forall_mem_cons.mpr ⟨(List.mem_cons_of_mem _ (List.mem_append_left _ (List.mem_of_getElem? (i := 8) rfl))), (List.forall_mem_cons.mpr ⟨(List.mem_cons_of_mem _ (List.mem_append_left _ (List.mem_of_getElem? (i := 7) rfl))), (fun _ h => absurd h List.not_mem_nil)⟩)⟩)⟩)⟩) (kGV _ _ _ _) (fun _ h => List.mem_cons_of_mem _ (List.mem_append_right _ (List.mem_append_right _ (List.mem_append_right _ (List.mem_append_left _ h))))) gw_s_size2) rfl rfl rfl ⟨rfl, hd_X2_size⟩ ⟨(Nat.le_of_ble_eq_true rfl), (Nat.le_of_ble_eq_true rfl)⟩) (kR_V kT_blind kT_give (va_recv hKc hPc (ci := 2) (q0 := 0) rfl rfl) hPc hKc) rfl rfl hl.1 rfl (lv_room (Nat.le_of_ble_eq_true rfl)) dX9_count_64 ⟨(Nat.le_of_ble_eq_true rfl), (Nat.le_of_ble_eq_true rfl)⟩).run (fun r_4 hw => ?_)
    obtain rfl : r_4 = nI (ks) := hw
    rw [hQ]
    exact W.iret (v := nI (ks)) hx hb hr (fun t ht hW => ⟨nI (ks), rfl, rfl, ht⟩) (fun _ h => nomatch h) dX9_count_67
  · refine lv_tableIn (tgt := 68) hx hb dX9_count_1 (by decide) (by decide) rfl (by decide) ?_
    refine lv_aload_n hx hb dX9_count_68 rfl (lv_at hl 0 rfl) ?_
    refine va_get (D := (dC, dI)) (ci := 9) (v := .ref hF) (C := RX9) (T := TX9) (N := 10) hx hb hts (fun _ h => List.mem_cons_of_mem _ (List.mem_append_right _ (List.mem_append_left _ h))) hown hK hP 0 rfl rfl 5 kc_l_5_10 (hts (.fieldLink RX9 47 "NotEnded" "folk" "LNotEnded$Folk;") (List.mem_cons_of_mem _ (List.mem_append_left _ (List.mem_of_getElem? (i := 6) rfl)))) (fun _ h9 => h9) rfl dX9_count_69 ?_
    have hPc := hP.sb (ws2 := [(hF, .inr (2, [.ref f0, .ref f1, .ref f2, .ref f3, .ref f4, .int (nI (sv)), .int (nI (ks)), .int (nI (kw))])), (f0, .inl (z0, 10, .inl g0)), (f1, .inl (z1, 10, .inl g1)), (f2, .inl (z2, 10, .inl g2)), (f3, .inl (z3, 10, .inl g3)), (f4, .inl (z4, 4, .inl g4))]) [7, 8, 9, 10, 11, 12] rfl
    have hKc := hK.sb (tys2 := [(z0, .int), (z1, .int), (z2, .int), (z3, .int), (z4, .int)]) [3, 4, 5, 6, 7] rfl
    refine vp_callSi (va_runV (As := []) (rest := []) ⟨hx, hb, hml, hown, hts⟩ (s_words2 l dC dI hF f0 f1 f2 f3 f4 z0 z1 z2 z3 z4 g0 g1 g2 g3 g4 (nI (sv)) ks kw hks hkw) (cwV 0 hts (kG (List.forall_mem_cons.mpr ⟨(List.mem_cons_of_mem _ (List.mem_append_left _ (List.mem_of_getElem? (i := 13) rfl))), (List.forall_mem_cons.mpr ⟨(List.mem_cons_of_mem _ (List.mem_append_left _ (List.mem_of_getElem? (i := 12) rfl))), (List.forall_mem_cons.mpr ⟨(List.mem_cons_of_mem _ (List.mem_append_left _ (List.mem_of_getElem? (i := 11) rfl))), (List.forall_mem_cons.mpr ⟨(List.mem_cons_of_mem _ (List.mem_append_left _ (List.mem_of_getElem? (i := 7) rfl))), (fun _ h => absurd h List.not_mem_nil)⟩)⟩)⟩)⟩) (kGV _ _ _ _) (fun _ h => List.mem_cons_of_mem _ (List.mem_append_right _ (List.mem_append_right _ (List.mem_append_right _ (List.mem_append_right _ (List.mem_append_left _ h)))))) gw_s_words2) rfl rfl rfl ⟨rfl, hd_X2_words⟩ ⟨(Nat.le_of_ble_eq_true rfl), (Nat.le_of_ble_eq_true rfl)⟩) (kR_V kT_blind kT_give (va_recv hKc hPc (ci := 2) (q0 := 0) rfl rfl) hPc hKc) rfl rfl hl.1 rfl (lv_room (Nat.le_of_ble_eq_true rfl)) dX9_count_72 ⟨(Nat.le_of_ble_eq_true rfl), (Nat.le_of_ble_eq_true rfl)⟩).run (fun r_5 hw => ?_)
    obtain rfl : r_5 = nI (kw) := hw
    rw [hQ]
    exact W.iret (v := nI (kw)) hx hb hr (fun t ht hW => ⟨nI (kw), rfl, rfl, ht⟩) (fun _ h => nomatch h) dX9_count_75
  · refine lv_tableIn (tgt := 76) hx hb dX9_count_1 (by decide) (by decide) rfl (by decide) ?_
    refine lv_aload_n hx hb dX9_count_76 rfl (lv_at hl 0 rfl) ?_
    refine va_get (D := (dC, dI)) (ci := 9) (v := .ref hN) (C := RX9) (T := TX9) (N := 10) hx hb hts (fun _ h => List.mem_cons_of_mem _ (List.mem_append_right _ (List.mem_append_left _ h))) hown hK hP 0 rfl rfl 7 kc_l_7_10 (hts (.fieldLink RX9 63 "NotEnded" "notebook" "LNotEnded$Notebook;") (List.mem_cons_of_mem _ (List.mem_append_left _ (List.mem_of_getElem? (i := 14) rfl)))) (fun _ h9 => h9) rfl dX9_count_77 ?_
    have hPc := hP.sb (ws2 := [(hN, .inr (3, [.ref o0, .ref o1, .ref o2, .ref o3, .ref o4, .int (nI (kn))])), (o0, .inl (y0, 20, .inl q0)), (o1, .inl (y1, 20, .inl q1)), (o2, .inl (y2, 20, .inl q2)), (o3, .inl (y3, 20, .inl q3)), (o4, .inl (y4, 20, .inl q4))]) [13, 14, 15, 16, 17, 18] rfl
    have hKc := hK.sb (tys2 := [(y0, .int), (y1, .int), (y2, .int), (y3, .int), (y4, .int)]) [8, 9, 10, 11, 12] rfl
    refine vp_callSi (va_runV (As := []) (rest := []) ⟨hx, hb, hml, hown, hts⟩ (s_size3 l dC dI hN o0 o1 o2 o3 o4 y0 y1 y2 y3 y4 q0 q1 q2 q3 q4 kn hkn) (cwV 0 hts (kG (List.forall_mem_cons.mpr ⟨(List.mem_cons_of_mem _ (List.mem_append_left _ (List.mem_of_getElem? (i := 18) rfl))), (List.forall_mem_cons.mpr ⟨(List.mem_cons_of_mem _ (List.mem_append_left _ (List.mem_of_getElem? (i := 17) rfl))), (List.forall_mem_cons.mpr ⟨(List.mem_cons_of_mem _ (List.mem_append_left _ (List.mem_of_getElem? (i := 16) rfl))), (List.forall_mem_cons.mpr ⟨(List.mem_cons_of_mem _ (List.mem_append_left _ (List.mem_of_getElem? (i := 15) rfl))), (fun _ h => absurd h List.not_mem_nil)⟩)⟩)⟩)⟩) (kGV _ _ _ _) (fun _ h => List.mem_cons_of_mem _ (List.mem_append_right _ (List.mem_append_right _ (List.mem_append_right _ (List.mem_append_right _ (List.mem_append_right _ (List.mem_append_left _ h))))))) gw_s_size3) rfl rfl rfl ⟨rfl, hd_X3_size⟩ ⟨(Nat.le_of_ble_eq_true rfl), (Nat.le_of_ble_eq_true rfl)⟩) (kR_V kT_blind kT_give (va_recv hKc hPc (ci := 3) (q0 := 0) rfl rfl) hPc hKc) rfl rfl hl.1 rfl (lv_room (Nat.le_of_ble_eq_true rfl)) dX9_count_80 ⟨(Nat.le_of_ble_eq_true rfl), (Nat.le_of_ble_eq_true rfl)⟩).run (fun r_6 hw => ?_)
    obtain rfl : r_6 = nI (kn) := hw
    rw [hQ]
    exact W.iret (v := nI (kn)) hx hb hr (fun t ht hW => ⟨nI (kn), rfl, rfl, ht⟩) (fun _ h => nomatch h) dX9_count_83
  · refine lv_tableIn (tgt := 84) hx hb dX9_count_1 (by decide) (by decide) rfl (by decide) ?_
    refine lv_aload_n hx hb dX9_count_84 rfl (lv_at hl 0 rfl) ?_
    refine va_get (D := (dC, dI)) (ci := 9) (v := .ref jA) (C := RX9) (T := TX9) (N := 10) hx hb hts (fun _ h => List.mem_cons_of_mem _ (List.mem_append_right _ (List.mem_append_left _ h))) hown hK hP 0 rfl rfl 8 kc_l_8_10 (hts (.fieldLink RX9 70 "NotEnded" "acts" "LNotEnded$Acts;") (List.mem_cons_of_mem _ (List.mem_append_left _ (List.mem_of_getElem? (i := 19) rfl)))) (fun _ h9 => h9) rfl dX9_count_85 ?_
    have hPc := hP.sb (ws2 := [(jA, .inr (0, [.ref i0, .ref i1, .ref i2, .ref i3, .int (nI (ka))])), (i0, .inl (x0, 6, .inl t0)), (i1, .inl (x1, 6, .inl t1)), (i2, .inl (x2, 6, .inl t2)), (i3, .inl (x3, 6, .inl t3))]) [19, 20, 21, 22, 23] rfl
    have hKc := hK.sb (tys2 := [(x0, .int), (x1, .int), (x2, .int), (x3, .int)]) [13, 14, 15, 16] rfl
    refine vp_callSi (va_runV (As := []) (rest := []) ⟨hx, hb, hml, hown, hts⟩ (s_size0 l dC dI jA i0 i1 i2 i3 x0 x1 x2 x3 t0 t1 t2 t3 ka hka) (cwV 0 hts (kG (List.forall_mem_cons.mpr ⟨(List.mem_cons_of_mem _ (List.mem_append_left _ (List.mem_of_getElem? (i := 23) rfl))), (List.forall_mem_cons.mpr ⟨(List.mem_cons_of_mem _ (List.mem_append_left _ (List.mem_of_getElem? (i := 22) rfl))), (List.forall_mem_cons.mpr ⟨(List.mem_cons_of_mem _ (List.mem_append_left _ (List.mem_of_getElem? (i := 21) rfl))), (List.forall_mem_cons.mpr ⟨(List.mem_cons_of_mem _ (List.mem_append_left _ (List.mem_of_getElem? (i := 20) rfl))), (fun _ h => absurd h List.not_mem_nil)⟩)⟩)⟩)⟩) (kGV _ _ _ _) (fun _ h => List.mem_cons_of_mem _ (List.mem_append_right _ (List.mem_append_right _ (List.mem_append_right _ (List.mem_append_right _ (List.mem_append_right _ (List.mem_append_right _ (List.mem_append_left _ h)))))))) gw_s_size0) rfl rfl rfl ⟨rfl, hd_X0_size⟩ ⟨(Nat.le_of_ble_eq_true rfl), (Nat.le_of_ble_eq_true rfl)⟩) (kR_V kT_blind kT_give (va_recv hKc hPc (ci := 0) (q0 := 0) rfl rfl) hPc hKc) rfl rfl hl.1 rfl (lv_room (Nat.le_of_ble_eq_true rfl)) dX9_count_88 ⟨(Nat.le_of_ble_eq_true rfl), (Nat.le_of_ble_eq_true rfl)⟩).run (fun r_7 hw => ?_)
    obtain rfl : r_7 = nI (ka) := hw
    rw [hQ]
    exact W.iret (v := nI (ka)) hx hb hr (fun t ht hW => ⟨nI (ka), rfl, rfl, ht⟩) (fun _ h => nomatch h) dX9_count_91
  · refine lv_tableIn (tgt := 92) hx hb dX9_count_1 (by decide) (by decide) rfl (by decide) ?_
    refine lv_aload_n hx hb dX9_count_92 rfl (lv_at hl 0 rfl) ?_
    refine va_get (D := (dC, dI)) (ci := 9) (v := .ref jT) (C := RX9) (T := TX9) (N := 10) hx hb hts (fun _ h => List.mem_cons_of_mem _ (List.mem_append_right _ (List.mem_append_left _ h))) hown hK hP 0 rfl rfl 0 kc_l_0_10 (hts (.fieldLink RX9 12 "NotEnded" "tape" "LNotEnded$Tape;") (List.mem_cons_of_mem _ (List.mem_append_left _ (List.mem_of_getElem? (i := 24) rfl)))) (fun _ h9 => h9) rfl dX9_count_93 ?_
    have hPc := hP.sb (ws2 := [(jT, .inr (8, [.ref tz0, .int (nI (kt))])), (tz0, .inl (cC, 120, .inl gT))]) [1, 2] rfl
    have hKc := hK.sb (tys2 := [(cC, .char)]) [0] rfl
    refine vp_callSi (va_runV (As := []) (rest := []) ⟨hx, hb, hml, hown, hts⟩ (s_length8 l dC dI jT tz0 cC gT kt hkt hgT) (cwV 0 hts (kG (List.forall_mem_cons.mpr ⟨(List.mem_cons_of_mem _ (List.mem_append_left _ (List.mem_of_getElem? (i := 28) rfl))), (List.forall_mem_cons.mpr ⟨(List.mem_cons_of_mem _ (List.mem_append_left _ (List.mem_of_getElem? (i := 27) rfl))), (List.forall_mem_cons.mpr ⟨(List.mem_cons_of_mem _ (List.mem_append_left _ (List.mem_of_getElem? (i := 26) rfl))), (List.forall_mem_cons.mpr ⟨(List.mem_cons_of_mem _ (List.mem_append_left _ (List.mem_of_getElem? (i := 25) rfl))), (fun _ h => absurd h List.not_mem_nil)⟩)⟩)⟩)⟩) (kGV _ _ _ _) (fun _ h => List.mem_cons_of_mem _ (List.mem_append_right _ (List.mem_append_right _ (List.mem_append_right _ (List.mem_append_right _ (List.mem_append_right _ (List.mem_append_right _ (List.mem_append_right _ h)))))))) gw_s_length8) rfl rfl rfl ⟨rfl, hd_X8_length⟩ ⟨(Nat.le_of_ble_eq_true rfl), (Nat.le_of_ble_eq_true rfl)⟩) (kR_V kT_blind kT_give (va_recv hKc hPc (ci := 8) (q0 := 0) rfl rfl) hPc hKc) rfl rfl hl.1 rfl (lv_room (Nat.le_of_ble_eq_true rfl)) dX9_count_96 ⟨(Nat.le_of_ble_eq_true rfl), (Nat.le_of_ble_eq_true rfl)⟩).run (fun r_8 hw => ?_)
    obtain rfl : r_8 = nI (kt) := hw
    rw [hQ]
    exact W.iret (v := nI (kt)) hx hb hr (fun t ht hW => ⟨nI (kt), rfl, rfl, ht⟩) (fun _ h => nomatch h) dX9_count_99
  · refine lv_tableOut (tgt := 100) hx hb dX9_count_1 h_1 (by decide) ?_
    refine lv_iconst (v := (-1)) hx hb dX9_count_100 kc_i_m1 ?_
    rw [hQ]
    exact W.iret (v := (-1)) hx hb hr (fun t ht hW => ⟨(-1), rfl, (kCtA_d h_1).symm, ht⟩) (fun _ h => nomatch h) dX9_count_101

theorem dX9_say_0 : decode cX9_say 0 = .ok (.aload_n 0, 1) := kDs0 kf_42 (by decide +kernel)
theorem dX9_say_1 : decode cX9_say 1 = .ok (.getfield 47, 3) := kDs2 kf_180 (by decide +kernel)
theorem dX9_say_4 : decode cX9_say 4 = .ok (.iload_n 1, 1) := kDs0 kf_27 (by decide +kernel)
theorem dX9_say_5 : decode cX9_say 5 = .ok (.invokevirtual 128, 3) := kDs2 kf_182 (by decide +kernel)
theorem dX9_say_8 : decode cX9_say 8 = .ok (.ifCond .eq 19, 3) := kDs4 kf_153 (by decide +kernel)
theorem dX9_say_27 : decode cX9_say 27 = .ok (.iconst 0, 1) := kDs0 kf_3 (by decide +kernel)
theorem dX9_say_28 : decode cX9_say 28 = .ok (.ireturn, 1) := kDs0 kf_172 (by decide +kernel)
theorem dX9_say_11 : decode cX9_say 11 = .ok (.iload_n 2, 1) := kDs0 kf_28 (by decide +kernel)
theorem dX9_say_12 : decode cX9_say 12 = .ok (.iconst (-1), 1) := kDs0 kf_2 (by decide +kernel)
theorem dX9_say_13 : decode cX9_say 13 = .ok (.if_icmp .eq 16, 3) := kDs4 kf_159 (by decide +kernel)
theorem dX9_say_29 : decode cX9_say 29 = .ok (.aload_n 0, 1) := kDs0 kf_42 (by decide +kernel)
theorem dX9_say_30 : decode cX9_say 30 = .ok (.getfield 74, 3) := kDs2 kf_180 (by decide +kernel)
theorem dX9_say_33 : decode cX9_say 33 = .ok (.iload_n 1, 1) := kDs0 kf_27 (by decide +kernel)
theorem dX9_say_34 : decode cX9_say 34 = .ok (.iload_n 2, 1) := kDs0 kf_28 (by decide +kernel)
theorem dX9_say_35 : decode cX9_say 35 = .ok (.iastore, 1) := kDs0 kf_79 (by decide +kernel)
theorem dX9_say_36 : decode cX9_say 36 = .ok (.iconst 1, 1) := kDs0 kf_4 (by decide +kernel)
theorem dX9_say_37 : decode cX9_say 37 = .ok (.ireturn, 1) := kDs0 kf_172 (by decide +kernel)
theorem dX9_say_16 : decode cX9_say 16 = .ok (.aload_n 0, 1) := kDs0 kf_42 (by decide +kernel)
theorem dX9_say_17 : decode cX9_say 17 = .ok (.getfield 41, 3) := kDs2 kf_180 (by decide +kernel)
theorem dX9_say_20 : decode cX9_say 20 = .ok (.iload_n 2, 1) := kDs0 kf_28 (by decide +kernel)
theorem dX9_say_21 : decode cX9_say 21 = .ok (.invokevirtual 138, 3) := kDs2 kf_182 (by decide +kernel)
theorem dX9_say_24 : decode cX9_say 24 = .ok (.ifnonnull 5, 3) := kDs4 kf_199 (by decide +kernel)
def w_s_say9 : List Cond := .code yX9_say cX9_say 3 (some .boolean) :: ([.fieldLink RX9 47 "NotEnded" "folk" "LNotEnded$Folk;", .initialized RX2, .selects RX2 yX2_has yX2_has, .instanceMethod yX2_has, .methodLink RX9 128 yX2_has, .fieldLink RX9 74 "NotEnded" "said" "[I", .fieldLink RX9 41 "NotEnded" "turnings" "LNotEnded$Shelf;", .initialized RX7, .selects RX7 yX7_at yX7_at, .instanceMethod yX7_at, .methodLink RX9 138 yX7_at] ++ (wsX90 ++ (w_s_has2x ++ (w_s_at7x))))
theorem gw_s_say9 : (w_s_say9).all goodWord = true := kGc rfl (kGa (by decide +kernel) (kGa gw_wsX90 (kGa gw_s_has2x gw_s_at7x)))
theorem hd_X9_say : yX9_say.cls ≠ "java/lang/invoke/MethodHandle" ∧ yX9_say.cls ≠ "java/lang/invoke/VarHandle" ∧ (parseMethodDescriptor yX9_say.desc).map (fun d => d.parameters.length) = some 2 := by decide +kernel
set_option maxHeartbeats 4000000 in
set_option maxRecDepth 100000 in
theorem s_say9 (l : Launch) (dC : Nat → ClassId) (dI : Nat → Nat → Nat) (jX : Nat) (jT : Nat) (jR : Nat) (jL : Nat) (jU : Nat) (hN : Nat) (jA : Nat) (sd : Nat) (hF : Nat) (jC : Nat) (jK : Nat) (f0 : Nat) (f1 : Nat) (f2 : Nat) (f3 : Nat) (f4 : Nat) (z0 : ClassId) (z1 : ClassId) (z2 : ClassId) (z3 : ClassId) (z4 : ClassId) (g0 : Nat → Int32) (g1 : Nat → Int32) (g2 : Nat → Int32) (g3 : Nat → Int32) (g4 : Nat → Int32) (ks : Nat) (kw : Nat) (hks : ks ≤ 10) (hkw : kw ≤ 4) (sv : Nat) (hsv : sv < 1024) (rL : Nat) (cL : ClassId) (gL : Nat → Option Nat) (kl : Nat) (hkl : kl ≤ 6) (yL : Nat → List kTr) (rU : Nat) (cU : ClassId) (gU : Nat → Option Nat) (ku : Nat) (hku : ku ≤ 8) (yU : Nat → List kTr) (cD : ClassId) (gD : Nat → Int32) (p0 : Int32) (p1 : Int32) (sz : Nat) : Met l yX9_say w_s_say9 ({ frames := 3, cells := 0, slots := 0, locals := 180 }) (kW dC dI [.ref jX, .int p0, .int p1] [(jX, .inr (9, [.ref jT, .ref jR, .ref jK, .ref jL, .ref jU, .ref hF, .ref jC, .ref hN, .ref jA, .ref sd])), (hF, .inr (2, [.ref f0, .ref f1, .ref f2, .ref f3, .ref f4, .int (nI (sv)), .int (nI (ks)), .int (nI (kw))])), (f0, .inl (z0, 10, .inl g0)), (f1, .inl (z1, 10, .inl g1)), (f2, .inl (z2, 10, .inl g2)), (f3, .inl (z3, 10, .inl g3)), (f4, .inl (z4, 4, .inl g4)), (jU, .inr (7, [.ref rU, .int (nI (ku))])), (rU, .inl (cU, 8, .inr (.inr (.inr (.inr gU))))), (sd, .inl (cD, 10, .inl gD))] [(z0, .int), (z1, .int), (z2, .int), (z3, .int), (z4, .int), (cU, .object RX6), (cD, .int)] (kPub dC dI kl gL yL ku gU yU (va_A [(jX, .inr (9, [.ref jT, .ref jR, .ref jK, .ref jL, .ref jU, .ref hF, .ref jC, .ref hN, .ref jA, .ref sd])), (hF, .inr (2, [.ref f0, .ref f1, .ref f2, .ref f3, .ref f4, .int (nI (sv)), .int (nI (ks)), .int (nI (kw))])), (f0, .inl (z0, 10, .inl g0)), (f1, .inl (z1, 10, .inl g1)), (f2, .inl (z2, 10, .inl g2)), (f3, .inl (z3, 10, .inl g3)), (f4, .inl (z4, 4, .inl g4)), (jU, .inr (7, [.ref rU, .int (nI (ku))])), (rU, .inl (cU, 8, .inr (.inr (.inr (.inr gU))))), (sd, .inl (cD, 10, .inl gD))] sz)) sz) (va_Qi (fun (r : Int32) (gD1 : (Nat → Int32)) => (r = kSayA p0 p1 ks ku ∧ gD1 = kSayF p0 p1 ks ku gD)) (fun (gD1 : (Nat → Int32)) => fun t : State => kB dC dI [(jX, .inr (9, [.ref jT, .ref jR, .ref jK, .ref jL, .ref jU, .ref hF, .ref jC, .ref hN, .ref jA, .ref sd])), (hF, .inr (2, [.ref f0, .ref f1, .ref f2, .ref f3, .ref f4, .int (nI (sv)), .int (nI (ks)), .int (nI (kw))])), (f0, .inl (z0, 10, .inl g0)), (f1, .inl (z1, 10, .inl g1)), (f2, .inl (z2, 10, .inl g2)), (f3, .inl (z3, 10, .inl g3)), (f4, .inl (z4, 4, .inl g4)), (jU, .inr (7, [.ref rU, .int (nI (ku))])), (rU, .inl (cU, 8, .inr (.inr (.inr (.inr gU))))), (sd, .inl (cD, 10, .inl gD1))] [(z0, .int), (z1, .int), (z2, .int), (z3, .int), (z4, .int), (cU, .object RX6), (cD, .int)] (va_A [(jX, .inr (9, [.ref jT, .ref jR, .ref jK, .ref jL, .ref jU, .ref hF, .ref jC, .ref hN, .ref jA, .ref sd])), (hF, .inr (2, [.ref f0, .ref f1, .ref f2, .ref f3, .ref f4, .int (nI (sv)), .int (nI (ks)), .int (nI (kw))])), (f0, .inl (z0, 10, .inl g0)), (f1, .inl (z1, 10, .inl g1)), (f2, .inl (z2, 10, .inl g2)), (f3, .inl (z3, 10, .inl g3)), (f4, .inl (z4, 4, .inl g4)), (jU, .inr (7, [.ref rU, .int (nI (ku))])), (rU, .inl (cU, 8, .inr (.inr (.inr (.inr gU))))), (sd, .inl (cD, 10, .inl gD))] sz) t) (va_A [(jX, .inr (9, [.ref jT, .ref jR, .ref jK, .ref jL, .ref jU, .ref hF, .ref jC, .ref hN, .ref jA, .ref sd])), (hF, .inr (2, [.ref f0, .ref f1, .ref f2, .ref f3, .ref f4, .int (nI (sv)), .int (nI (ks)), .int (nI (kw))])), (f0, .inl (z0, 10, .inl g0)), (f1, .inl (z1, 10, .inl g1)), (f2, .inl (z2, 10, .inl g2)), (f3, .inl (z3, 10, .inl g3)), (f4, .inl (z4, 4, .inl g4)), (jU, .inr (7, [.ref rU, .int (nI (ku))])), (rU, .inl (cU, 8, .inr (.inr (.inr (.inr gU))))), (sd, .inl (cD, 10, .inl gD))] sz)) 0 0 (va_A [(jX, .inr (9, [.ref jT, .ref jR, .ref jK, .ref jL, .ref jU, .ref hF, .ref jC, .ref hN, .ref jA, .ref sd])), (hF, .inr (2, [.ref f0, .ref f1, .ref f2, .ref f3, .ref f4, .int (nI (sv)), .int (nI (ks)), .int (nI (kw))])), (f0, .inl (z0, 10, .inl g0)), (f1, .inl (z1, 10, .inl g1)), (f2, .inl (z2, 10, .inl g2)), (f3, .inl (z3, 10, .inl g3)), (f4, .inl (z4, 4, .inl g4)), (jU, .inr (7, [.ref rU, .int (nI (ku))])), (rU, .inl (cU, 8, .inr (.inr (.inr (.inr gU))))), (sd, .inl (cD, 10, .inl gD))] sz) := by
  refine Met.ofW (cc := cX9_say) (maxL := 3) (ret := (some .boolean)) (by decide) rfl ?_
  intro p e s m args below meth c s₁ B hml hv
  obtain ⟨rfl, hsz, hP, hK, hD0, hX⟩ := hv
  have hx := B.exec
  have hb := B.bytes
  have hr := B.returns
  have hts := atoms_spec (ws := w_s_say9) B.pre
  have hown : s.vm.findClass RX9 = some m.cls := findClass_of_methodNamed B.named
  have hlocks := B.notSynchronized
  subst hsz
  have hD := hD0.self (sz := s.heap.size)
  generalize hAe : va_A [(jX, .inr (9, [.ref jT, .ref jR, .ref jK, .ref jL, .ref jU, .ref hF, .ref jC, .ref hN, .ref jA, .ref sd])), (hF, .inr (2, [.ref f0, .ref f1, .ref f2, .ref f3, .ref f4, .int (nI (sv)), .int (nI (ks)), .int (nI (kw))])), (f0, .inl (z0, 10, .inl g0)), (f1, .inl (z1, 10, .inl g1)), (f2, .inl (z2, 10, .inl g2)), (f3, .inl (z3, 10, .inl g3)), (f4, .inl (z4, 4, .inl g4)), (jU, .inr (7, [.ref rU, .int (nI (ku))])), (rU, .inl (cU, 8, .inr (.inr (.inr (.inr gU))))), (sd, .inl (cD, 10, .inl gD))] s.heap.size = A at hD hX ⊢
  have hA : ∀ q : Nat, s.heap.size ≤ q → A q := fun q h => by rw [← hAe]; exact Or.inr h
  have hS : va_S A s.heap s.heap [] := va_S.rf
  have hP : va_P (dC, dI) vwCl [(jX, .inr (9, [.ref jT, .ref jR, .ref jK, .ref jL, .ref jU, .ref hF, .ref jC, .ref hN, .ref jA, .ref sd])), (hF, .inr (2, [.ref f0, .ref f1, .ref f2, .ref f3, .ref f4, .int (nI (sv)), .int (nI (ks)), .int (nI (kw))])), (f0, .inl (z0, 10, .inl g0)), (f1, .inl (z1, 10, .inl g1)), (f2, .inl (z2, 10, .inl g2)), (f3, .inl (z3, 10, .inl g3)), (f4, .inl (z4, 4, .inl g4)), (jU, .inr (7, [.ref rU, .int (nI (ku))])), (rU, .inl (cU, 8, .inr (.inr (.inr (.inr gU))))), (sd, .inl (cD, 10, .inl gD))] s.heap := hP
  have hl := lv_entry ([.ref jX, .int p0, .int p1]) (n := 3) (Nat.le_of_ble_eq_true rfl)
  rw [lg_entry_eq]
  generalize (lg_sl ([.ref jX, .int p0, .int p1]) ++ List.replicate (3 - (lg_sl ([.ref jX, .int p0, .int p1])).length) Slot.unset).toArray = ls at hl ⊢
  have hl : lv_has ls 3 [(0, .ref jX), (1, .int p0), (2, .int p1)] := hl
  refine kQ (fun Q hQ => ?_)
  refine lv_aload_n hx hb dX9_say_0 rfl (lv_at hl 0 rfl) ?_
  refine va_get (D := (dC, dI)) (ci := 9) (v := .ref hF) (C := RX9) (T := TX9) (N := 10) hx hb hts (fun _ h => List.mem_cons_of_mem _ (List.mem_append_right _ (List.mem_append_left _ h))) hown hK hP 0 rfl rfl 5 kc_l_5_10 (hts (.fieldLink RX9 47 "NotEnded" "folk" "LNotEnded$Folk;") (List.mem_cons_of_mem _ (List.mem_append_left _ (List.mem_of_getElem? (i := 0) rfl)))) (fun _ h9 => h9) rfl dX9_say_1 ?_
  refine lv_iload_n hx hb dX9_say_4 rfl (lv_at hl 1 rfl) ?_
  have hPc := hP.sb (ws2 := [(hF, .inr (2, [.ref f0, .ref f1, .ref f2, .ref f3, .ref f4, .int (nI (sv)), .int (nI (ks)), .int (nI (kw))])), (f0, .inl (z0, 10, .inl g0)), (f1, .inl (z1, 10, .inl g1)), (f2, .inl (z2, 10, .inl g2)), (f3, .inl (z3, 10, .inl g3)), (f4, .inl (z4, 4, .inl g4))]) [1, 2, 3, 4, 5, 6] rfl
  have hKc := hK.sb (tys2 := [(z0, .int), (z1, .int), (z2, .int), (z3, .int), (z4, .int)]) [0, 1, 2, 3, 4] rfl
  refine vp_callSi (va_runV (As := [.int p0]) (rest := []) ⟨hx, hb, hml, hown, hts⟩ (s_has2x l dC dI hF f0 f1 f2 f3 f4 z0 z1 z2 z3 z4 g0 g1 g2 g3 g4 (nI (sv)) ks kw hks hkw p0) (cwV 1 hts (kG (List.forall_mem_cons.mpr ⟨(List.mem_cons_of_mem _ (List.mem_append_left _ (List.mem_of_getElem? (i := 4) rfl))), (List.forall_mem_cons.mpr ⟨(List.mem_cons_of_mem _ (List.mem_append_left _ (List.mem_of_getElem? (i := 3) rfl))), (List.forall_mem_cons.mpr ⟨(List.mem_cons_of_mem _ (List.mem_append_left _ (List.mem_of_getElem? (i := 2) rfl))), (List.forall_mem_cons.mpr ⟨(List.mem_cons_of_mem _ (List.mem_append_left _ (List.mem_of_getElem? (i := 1) rfl))), (fun _ h => absurd h List.not_mem_nil)⟩)⟩)⟩)⟩) (kGV _ _ _ _) (fun _ h => List.mem_cons_of_mem _ (List.mem_append_right _ (List.mem_append_right _ (List.mem_append_left _ h)))) gw_s_has2x) rfl rfl rfl ⟨rfl, hd_X2_has⟩ ⟨(Nat.le_of_ble_eq_true rfl), (Nat.le_of_ble_eq_true rfl)⟩) (kR_V kT_blind kT_give (va_recv hKc hPc (ci := 2) (q0 := 0) rfl rfl) hPc hKc) rfl rfl hl.1 rfl (lv_room (Nat.le_of_ble_eq_true rfl)) dX9_say_5 ⟨(Nat.le_of_ble_eq_true rfl), (Nat.le_of_ble_eq_true rfl)⟩).run (fun r_1 hw => ?_)
  obtain ⟨hw_2, hw_2_x⟩ := hw
  refine lv_if_eq (tgt := 27) hx hb dX9_say_8 kc_t_8_19 (fun c_3 => ?_) (fun c_3 => ?_)
  · have ff_4 := kZr hw_2_x c_3
    refine lv_iconst (v := 0) hx hb dX9_say_27 kc_i_0 ?_
    have hP9 := hP
    have hD9 := hD
    have hK9 := hK
    rw [hQ]
    exact W.zret (v := 0) hx hb hr rfl (fun t ht hW => ⟨⟨0, gD, rfl, ⟨(by unfold kSayA; rw [if_pos ff_4]), by unfold kSayF; rw [if_pos ff_4]⟩,  by rw [ht]; exact hP9, va_K.moved hW.alike hK9, hD9⟩, hS.F ht⟩) hS.2.2 dX9_say_28
  · have ff_5 := kNzr hw_2_x c_3
    obtain ⟨j_6, hj_6, ej_6⟩ := hw_2 c_3
    subst ej_6
    refine lv_iload_n hx hb dX9_say_11 rfl (lv_at hl 2 rfl) ?_
    refine lv_iconst (v := (-1)) hx hb dX9_say_12 kc_i_m1 ?_
    refine lv_icmp_eq (tgt := 29) hx hb dX9_say_13 kc_t_13_16 (fun c_7 => ?_) (fun c_7 => ?_)
    · refine lv_aload_n hx hb dX9_say_29 rfl (lv_at hl 0 rfl) ?_
      refine va_get (D := (dC, dI)) (ci := 9) (v := .ref sd) (C := RX9) (T := TX9) (N := 10) hx hb hts (fun _ h => List.mem_cons_of_mem _ (List.mem_append_right _ (List.mem_append_left _ h))) hown hK hP 0 rfl rfl 9 kc_l_9_10 (hts (.fieldLink RX9 74 "NotEnded" "said" "[I") (List.mem_cons_of_mem _ (List.mem_append_left _ (List.mem_of_getElem? (i := 5) rfl)))) (fun _ h9 => h9) rfl dX9_say_30 ?_
      refine lv_iload_n hx hb dX9_say_33 rfl (lv_at hl 1 rfl) ?_
      refine lv_iload_n hx hb dX9_say_34 rfl (lv_at hl 2 rfl) ?_
      have bd_9 : j_6 < 10 := by omega
      refine va_iast hx hb hK hP hD hS 9 6 rfl rfl (vp_in_nI (n := j_6) (N := 10) bd_9 kc_31_10) dX9_say_35 (fun H locs hP hD hS => ?_)
      obtain ⟨f_8, ef_8⟩ : ∃ gg9 : Nat → Int32, gg9 = upd gD (Int32.toNatClampNeg (nI (j_6))) p1 := ⟨_, rfl⟩
      have hPD : kPD dC dI A [(jX, .inr (9, [.ref jT, .ref jR, .ref jK, .ref jL, .ref jU, .ref hF, .ref jC, .ref hN, .ref jA, .ref sd])), (hF, .inr (2, [.ref f0, .ref f1, .ref f2, .ref f3, .ref f4, .int (nI (sv)), .int (nI (ks)), .int (nI (kw))])), (f0, .inl (z0, 10, .inl g0)), (f1, .inl (z1, 10, .inl g1)), (f2, .inl (z2, 10, .inl g2)), (f3, .inl (z3, 10, .inl g3)), (f4, .inl (z4, 4, .inl g4)), (jU, .inr (7, [.ref rU, .int (nI (ku))])), (rU, .inl (cU, 8, .inr (.inr (.inr (.inr gU))))), (sd, .inl (cD, 10, .inl f_8))] H := by rw [ef_8]; exact ⟨hP, hD⟩
      have hP := hPD.1
      have hD := hPD.2
      refine lv_iconst (v := 1) hx hb dX9_say_36 kc_i_1 ?_
      have hP9 := hP
      have hD9 := hD
      have hK9 := hK
      rw [hQ]
      exact W.zret (v := 1) hx hb hr rfl (fun t ht hW => ⟨⟨1, f_8, rfl, ⟨(by unfold kSayA; rw [if_neg ff_5, if_pos c_7]), by unfold kSayF; rw [if_neg ff_5, if_pos c_7, ef_8]⟩,  by rw [ht]; exact hP9, va_K.moved hW.alike hK9, hD9⟩, hS.F ht⟩) hS.2.2 dX9_say_37
    · refine lv_aload_n hx hb dX9_say_16 rfl (lv_at hl 0 rfl) ?_
      refine va_get (D := (dC, dI)) (ci := 9) (v := .ref jU) (C := RX9) (T := TX9) (N := 10) hx hb hts (fun _ h => List.mem_cons_of_mem _ (List.mem_append_right _ (List.mem_append_left _ h))) hown hK hP 0 rfl rfl 4 kc_l_4_10 (hts (.fieldLink RX9 41 "NotEnded" "turnings" "LNotEnded$Shelf;") (List.mem_cons_of_mem _ (List.mem_append_left _ (List.mem_of_getElem? (i := 6) rfl)))) (fun _ h9 => h9) rfl dX9_say_17 ?_
      refine lv_iload_n hx hb dX9_say_20 rfl (lv_at hl 2 rfl) ?_
      have hPc := hP.sb (ws2 := [(jU, .inr (7, [.ref rU, .int (nI (ku))])), (rU, .inl (cU, 8, .inr (.inr (.inr (.inr gU)))))]) [7, 8] rfl
      have hKc := hK.sb (tys2 := [(cU, .object RX6)]) [5] rfl
      refine va_csq (va_runV (As := [.int p1]) (rest := []) ⟨hx, hb, hml, hown, hts⟩ (s_at7x l dC dI jU rU cU gU ku 8 (Nat.le_of_ble_eq_true rfl) hku p1) (cwV 1 hts (kG (List.forall_mem_cons.mpr ⟨(List.mem_cons_of_mem _ (List.mem_append_left _ (List.mem_of_getElem? (i := 10) rfl))), (List.forall_mem_cons.mpr ⟨(List.mem_cons_of_mem _ (List.mem_append_left _ (List.mem_of_getElem? (i := 9) rfl))), (List.forall_mem_cons.mpr ⟨(List.mem_cons_of_mem _ (List.mem_append_left _ (List.mem_of_getElem? (i := 8) rfl))), (List.forall_mem_cons.mpr ⟨(List.mem_cons_of_mem _ (List.mem_append_left _ (List.mem_of_getElem? (i := 7) rfl))), (fun _ h => absurd h List.not_mem_nil)⟩)⟩)⟩)⟩) (kGV _ _ _ _) (fun _ h => List.mem_cons_of_mem _ (List.mem_append_right _ (List.mem_append_right _ (List.mem_append_right _ h)))) gw_s_at7x) rfl rfl rfl ⟨rfl, hd_X7_at⟩ ⟨(Nat.le_of_ble_eq_true rfl), (Nat.le_of_ble_eq_true rfl)⟩) (kR_V kT_blind kT_give (va_recv hKc hPc (ci := 7) (q0 := 0) rfl rfl) hPc hKc) rfl rfl hl.1 rfl (lv_room (Nat.le_of_ble_eq_true rfl)) dX9_say_21 ⟨(Nat.le_of_ble_eq_true rfl), (Nat.le_of_ble_eq_true rfl)⟩).run (fun r_10 hw => ?_)
      have hq9 := hw
      replace hw := kAtW hq9
      rcases r_10 with _ | ru_20
      · refine W.eq (g2 := F0 m 24 ls [.null]) rfl ?_
        refine lv_ifnonnullN hx hb dX9_say_24 ?_
        refine lv_iconst (v := 0) hx hb dX9_say_27 kc_i_0 ?_
        have hP9 := hP
        have hD9 := hD
        have hK9 := hK
        rw [hQ]
        exact W.zret (v := 0) hx hb hr rfl (fun t ht hW => ⟨⟨0, gD, rfl, ⟨(by unfold kSayA; rw [if_neg ff_5, if_neg c_7]; rcases hq9 with z | ⟨_, j, hj, z⟩; exact z.2.symm; exfalso; obtain ⟨ru, e⟩ := kSh_some hX.1.2 (j := j) hj; rw [← z] at e; cases e), by unfold kSayF; rw [if_neg ff_5, if_neg c_7, if_pos (by rcases hq9 with z | ⟨_, j, hj, z⟩; exact z.2; exfalso; obtain ⟨ru, e⟩ := kSh_some hX.1.2 (j := j) hj; rw [← z] at e; cases e)]⟩,  by rw [ht]; exact hP9, va_K.moved hW.alike hK9, hD9⟩, hS.F ht⟩) hS.2.2 dX9_say_28
      · obtain ⟨sA_11, cl_12, cS_13, cc_14, nS_15, nC_16, gS_17, gC_18, hR_19_1, hR_19_2, hR_19_K, hR_19⟩ := kSh_get hX.1.2 hw
        have hK := hK.app hR_19_K
        have hK : va_K (dC, dI) vwCl [(z0, .int), (z1, .int), (z2, .int), (z3, .int), (z4, .int), (cU, .object RX6), (cD, .int), (cS_13, .int), (cc_14, .int)] s := hK
        refine W.eq (g2 := F0 m 24 ls [.ref ru_20]) rfl ?_
        refine lv_ifnonnull (tgt := 29) hx hb dX9_say_24 kc_t_24_5 ?_
        refine lv_aload_n hx hb dX9_say_29 rfl (lv_at hl 0 rfl) ?_
        refine va_get (D := (dC, dI)) (ci := 9) (v := .ref sd) (C := RX9) (T := TX9) (N := 10) hx hb hts (fun _ h => List.mem_cons_of_mem _ (List.mem_append_right _ (List.mem_append_left _ h))) hown hK hP 0 rfl rfl 9 kc_l_9_10 (hts (.fieldLink RX9 74 "NotEnded" "said" "[I") (List.mem_cons_of_mem _ (List.mem_append_left _ (List.mem_of_getElem? (i := 5) rfl)))) (fun _ h9 => h9) rfl dX9_say_30 ?_
        refine lv_iload_n hx hb dX9_say_33 rfl (lv_at hl 1 rfl) ?_
        refine lv_iload_n hx hb dX9_say_34 rfl (lv_at hl 2 rfl) ?_
        have bd_22 : j_6 < 10 := by omega
        refine va_iast hx hb hK hP hD hS 9 6 rfl rfl (vp_in_nI (n := j_6) (N := 10) bd_22 kc_31_10) dX9_say_35 (fun H locs hP hD hS => ?_)
        obtain ⟨f_21, ef_21⟩ : ∃ gg9 : Nat → Int32, gg9 = upd gD (Int32.toNatClampNeg (nI (j_6))) p1 := ⟨_, rfl⟩
        have hPD : kPD dC dI A [(jX, .inr (9, [.ref jT, .ref jR, .ref jK, .ref jL, .ref jU, .ref hF, .ref jC, .ref hN, .ref jA, .ref sd])), (hF, .inr (2, [.ref f0, .ref f1, .ref f2, .ref f3, .ref f4, .int (nI (sv)), .int (nI (ks)), .int (nI (kw))])), (f0, .inl (z0, 10, .inl g0)), (f1, .inl (z1, 10, .inl g1)), (f2, .inl (z2, 10, .inl g2)), (f3, .inl (z3, 10, .inl g3)), (f4, .inl (z4, 4, .inl g4)), (jU, .inr (7, [.ref rU, .int (nI (ku))])), (rU, .inl (cU, 8, .inr (.inr (.inr (.inr gU))))), (sd, .inl (cD, 10, .inl f_21))] H := by rw [ef_21]; exact ⟨hP, hD⟩
        have hP := hPD.1
        have hD := hPD.2
        refine lv_iconst (v := 1) hx hb dX9_say_36 kc_i_1 ?_
        have hP9 := hP
        have hD9 := hD
        have hK9 := hK.sb (tys2 := [(z0, .int), (z1, .int), (z2, .int), (z3, .int), (z4, .int), (cU, .object RX6), (cD, .int)]) [0, 1, 2, 3, 4, 5, 6] rfl
        rw [hQ]
        exact W.zret (v := 1) hx hb hr rfl (fun t ht hW => ⟨⟨1, f_21, rfl, ⟨(by unfold kSayA; rw [if_neg ff_5, if_neg c_7]; rcases hq9 with z | z; cases z.1; exact z.1.symm), by unfold kSayF; rw [if_neg ff_5, if_neg c_7, if_neg (by rcases hq9 with z | z; cases z.1; rw [z.1]; decide), ef_21]⟩,  by rw [ht]; exact hP9, va_K.moved hW.alike hK9, hD9⟩, hS.F ht⟩) hS.2.2 dX9_say_37

section VXA
/-- where a method has thrown q: the class by its name, the cell, what was written, the world -/
def vx_T (XC : String → State → State → Prop) (st : State) (q : Addr) (t : State) (mc ms : Nat) (free : Addr → Prop) : Prop :=
  ∃ (E : String) (ce : Cell) (L : List Loc), XC E st t ∧ t.heap[q]? = some ce ∧ ce.vm = .none ∧ st.vm.findClass E = some ce.cls ∧ st.WarmedH t.vm ∧ st.sameButNew ({ t with vm := st.vm } : State) L mc ms ∧ ∀ z ∈ L, free z.base
def vx_Q (Qc : Array Value → State → Outcome → State → Prop) (XC : String → State → State → Prop) (mc ms : Nat) (free : Addr → Prop) : Array Value → State → Outcome → State → Prop := fun a st o t =>
  (Qc a st o t ∧ ∃ L, FrameEnd st o t L mc ms ∧ ∀ q ∈ L, free q.base) ∨ ∃ q, o = .threw q ∧ vx_T XC st q t mc ms free
/-- a callee that returns or throws -/
def vx_Met (l : Launch) (y : MethodName) (ws : List Cond) (rm : Room) (Pc : Array Value → State → Prop) (Qc : Array Value → State → Outcome → State → Prop) (XC : String → State → State → Prop) (mc ms : Nat) (free : Addr → Prop) : Prop :=
  MetFree l y (headSpec ws rm) Pc (fun _ _ _ _ _ => True) (vx_Q Qc XC mc ms free)
def vx_Post (XC : String → State → State → Prop) (mc ms : Nat) (free : Addr → Prop) : Pt → Array Value → Addr → Pt → Prop := fun A a q B =>
  ∃ (g : JFrame) (mk : MethodId) (t : State) (L : List Loc) (E : String) (ce : Cell), B.U.heap = t.heap ∧ B.U.vm = t.vm ∧ XC E (A.U.calling g mk a) t ∧ t.heap[q]? = some ce ∧ ce.vm = .none ∧ A.U.vm.findClass E = some ce.cls ∧ B.locs = A.locs ++ L ∧ (∀ z ∈ L, free z.base) ∧ B.cells = A.cells + mc ∧ B.slots = A.slots + ms
def vx_Back (l : Launch) (R : Room) (p : Program) (e : Env) (below : List Frame) (s : State) (sargs : Array Value) (y : MethodName) (len W9 : Nat)
    (Pre : Pt → Array Value → Prop) (Post : Pt → Array Value → Option Value → Pt → Prop) (PostX : Pt → Array Value → Addr → Pt → Prop) : Prop :=
  ∀ (m : MethodId) (meth : Method) (c : Code) (A : Pt) (g : JFrame) (ig : Instr) (mk : MethodId) (a : Array Value),
    Stand p l e R s m sargs below meth c A.U A.locs A.cells A.slots → g.method = m → g.locals.size = c.maxLocals → decode c.code g.pc = .ok (ig, len) →
    2 * g.monitorRoom + (g.stack.map fun v => v.category).sum ≤ W9 → A.U.methodNamed? y = some mk → Pre A a →
    (∃ (v : Option Value) (B : Pt), Stand p l e R s m sargs below meth c B.U B.locs B.cells B.slots ∧ Post A a v B ∧
      Steps p.tables e below (doInvoke e (A.U.setTop g) [] mk a).1 (B.U.setTop { g with pc := g.pc + len, stack := v.toList ++ g.stack })) ∨
    (∃ (q : Addr) (B : Pt), Stand p l e R s m sargs below meth c B.U B.locs B.cells B.slots ∧ PostX A a q B ∧
      Steps p.tables e below (doInvoke e (A.U.setTop g) [] mk a).1 ((B.U.setTop g).pushFrame (.throwing q)))
section Payer
variable {l : Launch} {R : Room} {p : Program} {e : Env} {below : List Frame} {s : State} {sargs : Array Value} {y : MethodName} {len W9 : Nat}
theorem vx_back {ws : List Cond} {rm : Room} {Pc : Array Value → State → Prop} {Qc : Array Value → State → Outcome → State → Prop} {XC : String → State → State → Prop} {mc ms : Nat} {free : Addr → Prop} {bytes : ByteArray} {maxL : Nat} {ret : Option FieldType}
    (hM : vx_Met l y ws rm Pc Qc XC mc ms free) (hblind : FrameBlind Pc) (hrc : rm.cells = mc) (hrs : rm.slots = ms)
    (hframes : rm.frames + 1 ≤ R.frames) (hlocals : W9 + (maxL + 11) + rm.locals ≤ R.locals)
    (hws : ∀ w ∈ ws, ∀ a' U, s.WarmedH U.vm → w.before a' U = true) (hcode : Cond.code y bytes maxL ret ∈ ws) (hinit : ∀ a' U, s.WarmedH U.vm → (Cond.initialized y.cls).before a' U = true) :
    vx_Back l R p e below s sargs y len W9 (PreOf R mc ms Pc) (PostOf Qc mc ms free) (vx_Post XC mc ms free) := by
  intro m meth c A g ig mk a X hg hsize hdg hW hn hp
  have h1 : (headSpec ws rm).pre.before a A.U = true := atoms_intro fun w hw => hws w hw _ _ X.warmed
  have h2 : (Cond.code y bytes maxL ret).before a A.U = true := hws _ hcode _ _ X.warmed
  have h3 : (Cond.initialized y.cls).before a A.U = true := hinit _ _ X.warmed
  have h4 : A.cells + (headSpec ws rm).room.cells ≤ R.cells := by rw [show (headSpec ws rm).room.cells = mc from hrc]; exact hp.1
  have h5 : A.slots + (headSpec ws rm).room.slots ≤ R.slots := by rw [show (headSpec ws rm).room.slots = ms from hrs]; exact hp.2.1
  have hPc : Pc a (A.U.calling g mk a) := hblind _ _ _ _ hp.2.2
  obtain ⟨U, Ls, c0, s0⟩ := A
  dsimp only [Pt.U, Pt.locs, Pt.cells, Pt.slots] at h1 h2 h3 h4 h5 X hn hPc ⊢
  obtain ⟨methY, cY, hmY, hcY, -, hlY, -, -, -, -⟩ := Cond.code_spec hn h2
  obtain ⟨kY, hkY, -⟩ := className_of_methodNamed hn
  have hinitY : kY.init = .initialized := Cond.initialized_spec (findClass_of_methodNamed hn) hkY h3
  have h : At U g.method c below := by rw [hg]; exact X.here
  have hlocals9 : W9 + (maxL + 11) + (headSpec ws rm).room.locals ≤ R.locals := hlocals
  have happ : (headSpec ws rm).appliesLoose y e.platform (U.calling g mk a) = true :=
    Spec.appliesLoose_calling (g := g) h hdg hn hkY hinitY
      (X.room_calling (g := g) (R' := (headSpec ws rm).room) hsize hmY hcY hframes (by rw [hlY]; omega) h4 h5) h1
  obtain ⟨mid, hmid⟩ := h.above
  have hfr : (U.setTop g).frames = (.java g :: mid) ++ below := by rw [State.frames_setTop' g h.top, hmid]; rfl
  obtain ⟨o, s₂, hsteps, -, hend, hq⟩ := Steps.callFree hM p X.admits X.cas X.clock (acts := []) hfr happ hPc trivial
  have hq' : vx_Q Qc XC mc ms free a (U.calling g mk a) o s₂ := hq
  rw [State.frames_setTop' g h.top] at hend
  obtain ⟨g₀, hg0⟩ := Option.isSome_iff_exists.mp h.top
  obtain ⟨r, hr⟩ := State.topJava?_eq_some.mp hg0
  have hr' : (({ U with heap := s₂.heap, slotsUsed := s₂.slotsUsed } : State).setVm s₂.vm).frames = .java g₀ :: r := hr
  rcases hq' with ⟨hqc, L, hfe, hL⟩ | ⟨q, rfl, E, ce, L, hx, hce, hcv, hcl, hW₂, hsm, hL⟩
  · obtain ⟨⟨v, rfl⟩, hW₂, e2, q2, q3, q4, q5, q6⟩ := id hfe
    have e3 : s₂ = ({ (U.calling g mk a).setFrames s₂.frames with heap := s₂.heap, slotsUsed := s₂.slotsUsed } : State).setVm s₂.vm := by
      have : s₂ = ({ s₂ with vm := (U.calling g mk a).vm } : State).setVm s₂.vm := rfl
      rw [e2] at this
      exact this
    obtain ⟨c₂, i₂, len₂, hc₂, hd₂, hf₂⟩ := hend
    have hW' : U.WarmedH s₂.vm := hW₂
    have hcc : c₂ = c := by
      have h1 : s₂.code? g.method = U.code? g.method := by
        rw [State.code?_eq, State.code?_eq, hW'.alike.method?]
      exact Option.some.inj (hc₂.symm.trans (h1.trans h.code))
    subst hcc
    have hlen : len₂ = len := by rw [hdg] at hd₂; cases hd₂; rfl
    subst hlen
    have hs₂ : s₂ = (({ U with heap := s₂.heap, slotsUsed := s₂.slotsUsed } : State).setVm s₂.vm).setTop { g with pc := g.pc + len₂, stack := v.toList ++ g.stack } := by
      refine e3.trans ?_
      rw [hf₂, State.calling_eq h.top, State.setFrames_setFrames, State.setTop_of_frames _ hr', hr]
      rfl
    have hsame : U.sameButNew ({ U with heap := s₂.heap, slotsUsed := s₂.slotsUsed } : State) L mc ms := by
      refine ⟨?_, q2, q3, q4, q5, q6⟩
      obtain ⟨t, ht, -⟩ := State.frames_cons hr
      show ({ U with heap := s₂.heap, slotsUsed := s₂.slotsUsed } : State) = { U.setFrames U.frames with heap := s₂.heap, slotsUsed := s₂.slotsUsed }
      rw [State.setFrames_self ht]
    subst hg
    refine Or.inl ⟨v, ⟨(({ U with heap := s₂.heap, slotsUsed := s₂.slotsUsed } : State).setVm s₂.vm), Ls ++ L, c0 + mc, s0 + ms⟩,
      ⟨X.admits, X.cas, X.clock, X.frames, X.room, X.hears, X.method, X.code, (X.here.setHeapUsed s₂.heap s₂.slotsUsed).setVm hW'.alike, X.tail, State.WarmedH.trans X.warmed hW', X.limits, X.bytes, X.same.trans (hsame.setVm s.vm)⟩,
      ⟨g, mk, s₂, L, rfl, rfl, hqc, rfl, hL, rfl, rfl⟩, ?_⟩
    show Steps p.tables e below _ ((({ U with heap := s₂.heap, slotsUsed := s₂.slotsUsed } : State).setVm s₂.vm).setTop { g with pc := g.pc + len₂, stack := v.toList ++ g.stack })
    rw [← hs₂]
    exact hsteps
  · obtain ⟨e2, q2, q3, q4, q5, q6⟩ := id hsm
    have e3 : s₂ = ({ (U.calling g mk a).setFrames s₂.frames with heap := s₂.heap, slotsUsed := s₂.slotsUsed } : State).setVm s₂.vm := by
      have : s₂ = ({ s₂ with vm := (U.calling g mk a).vm } : State).setVm s₂.vm := rfl
      rw [e2] at this
      exact this
    have hf₂ : s₂.frames = .throwing q :: .java g :: U.frames.tail := hend
    have hW' : U.WarmedH s₂.vm := hW₂
    have hs₂ : s₂ = ((({ U with heap := s₂.heap, slotsUsed := s₂.slotsUsed } : State).setVm s₂.vm).setTop g).pushFrame (.throwing q) := by
      refine e3.trans ?_
      rw [hf₂, State.calling_eq h.top, State.setFrames_setFrames, State.pushFrame, State.frames_setTop _ hr', State.setTop_of_frames _ hr', State.setFrames_setFrames, hr]
      rfl
    have hsame : U.sameButNew ({ U with heap := s₂.heap, slotsUsed := s₂.slotsUsed } : State) L mc ms := by
      refine ⟨?_, q2, q3, q4, q5, q6⟩
      obtain ⟨t, ht, -⟩ := State.frames_cons hr
      show ({ U with heap := s₂.heap, slotsUsed := s₂.slotsUsed } : State) = { U.setFrames U.frames with heap := s₂.heap, slotsUsed := s₂.slotsUsed }
      rw [State.setFrames_self ht]
    subst hg
    refine Or.inr ⟨q, ⟨(({ U with heap := s₂.heap, slotsUsed := s₂.slotsUsed } : State).setVm s₂.vm), Ls ++ L, c0 + mc, s0 + ms⟩,
      ⟨X.admits, X.cas, X.clock, X.frames, X.room, X.hears, X.method, X.code, (X.here.setHeapUsed s₂.heap s₂.slotsUsed).setVm hW'.alike, X.tail, State.WarmedH.trans X.warmed hW', X.limits, X.bytes, X.same.trans (hsame.setVm s.vm)⟩,
      ⟨g, mk, s₂, L, E, ce, rfl, rfl, hx, hce, hcv, hcl, rfl, hL, rfl, rfl⟩, ?_⟩
    show Steps p.tables e below _ (((({ U with heap := s₂.heap, slotsUsed := s₂.slotsUsed } : State).setVm s₂.vm).setTop g).pushFrame (.throwing q))
    rw [← hs₂]
    exact hsteps
end Payer
section Calls
variable {p : Program} {l : Launch} {e : Env} {R : Room} {s : State} {m : MethodId} {args : Array Value} {below : List Frame} {meth : Method} {c : Code} {T : State} {locs : List Loc} {cells slots : Nat}
theorem vx_callV (X : Stand p l e R s m args below meth c T locs cells slots) (hexec : p.tables.exec = Jvm.exec) {own C : String} {index : Nat} {y : MethodName} {bytes : ByteArray} {maxL : Nat} {ret : Option FieldType}
    (hown : s.vm.findClass own = some m.cls) (hlink : (Cond.methodLink own index y).before args s = true) (hinst : (Cond.instanceMethod y).before args s = true) (hsel : (Cond.selects C y y).before args s = true)
    (hcode : (Cond.code y bytes maxL ret).before args s = true) (hy : y.cls ≠ "java/lang/invoke/MethodHandle" ∧ y.cls ≠ "java/lang/invoke/VarHandle")
    {W9 : Nat} {Pre : Pt → Array Value → Prop} {Post : Pt → Array Value → Option Value → Pt → Prop} {PostX : Pt → Array Value → Addr → Pt → Prop} (hK : vx_Back l R p e below s args y 3 W9 Pre Post PostX)
    {b : Addr} {cellB : Cell} (hcell : T.heap[b]? = some cellB) (hobj : cellB.vm.isStatics = false) (hcls : s.vm.findClass C = some cellB.cls)
    {g : JFrame} (hg : g.method = m) (hsize : g.locals.size = c.maxLocals) {argsL rest : List Value} (hlen : ∀ sig, parseMethodDescriptor y.desc = some sig → argsL.length = sig.parameters.length)
    (hstack : g.stack = argsL.reverse ++ .ref b :: rest) (hW : 2 * g.monitorRoom + (rest.map fun v => v.category).sum ≤ W9) (hdg : decode c.code g.pc = .ok (.invokevirtual index, 3))
    (hpre : ∀ vm₁, s.WarmedH vm₁ → Pre ⟨T.setVm vm₁, locs, cells, slots⟩ (Value.ref b :: argsL).toArray) :
    (∃ (v : Option Value) (vm₁ : Vm) (B : Pt), s.WarmedH vm₁ ∧ Stand p l e R s m args below meth c B.U B.locs B.cells B.slots ∧ Post ⟨T.setVm vm₁, locs, cells, slots⟩ (Value.ref b :: argsL).toArray v B ∧
      ∀ target, Steps p.tables e below (B.U.setTop { g with pc := g.pc + 3, stack := v.toList ++ rest }) target → Steps p.tables e below (T.setTop g) target) ∨
    (∃ (q : Addr) (vm₁ : Vm) (B : Pt), s.WarmedH vm₁ ∧ Stand p l e R s m args below meth c B.U B.locs B.cells B.slots ∧ PostX ⟨T.setVm vm₁, locs, cells, slots⟩ (Value.ref b :: argsL).toArray q B ∧
      Steps p.tables e below (T.setTop g) ((B.U.setTop { g with stack := rest }).pushFrame (.throwing q))) := by
  obtain ⟨mk, methM, hnamed, hmethM, hstM, habM⟩ := Cond.instanceMethod_spec hinst
  obtain ⟨methM', cM, hmethM', -, -, -, -, -, -, hsigM⟩ := Cond.code_spec hnamed hcode
  cases hmethM.symm.trans hmethM'
  obtain ⟨c2, r2, m2, q1, q2, q3, q4, kP, hkP, hkPi⟩ := Cond.selects_spec hsel
  cases hcls.symm.trans q1
  cases (State.methodFound?_of_named hnamed hy).symm.trans q2
  cases hnamed.symm.trans q3
  have hselP : selectMethod e.platform s.vm cellB.cls mk = .method mk := by rw [Launch.admits_selectMethod X.admits]; exact q4
  obtain ⟨vm₁, X₁, hstep₁⟩ := X.invokevirtual hexec hown hlink hnamed hmethM hstM hkP hkPi hy (a := b) (cell := cellB) hcell
    (fun z h => by rw [h] at hobj; cases hobj) hselP hmethM habM hkP hkPi (g := g) hg (argsL := argsL) (rest := rest) (hlen _ hsigM) hstack hdg
  rcases hK m meth c ⟨T.setVm vm₁, locs, cells, slots⟩ { g with stack := rest } (.invokevirtual index) mk (Value.ref b :: argsL).toArray X₁ hg hsize hdg hW (X₁.named hnamed) (hpre vm₁ X₁.warmed) with ⟨v, B, X', hpost, hsteps⟩ | ⟨q, B, X', hpost, hsteps⟩
  · exact Or.inl ⟨v, vm₁, B, X₁.warmed, X', hpost, fun target h => hstep₁ _ fun acts => by rw [doInvoke_state]; exact hsteps.trans h⟩
  · exact Or.inr ⟨q, vm₁, B, X₁.warmed, X', hpost, hstep₁ _ fun acts => by rw [doInvoke_state]; exact hsteps⟩
end Calls
theorem vx_cls {s : State} {T : State} {vm₁ : Vm} {E : String} {k : ClassId} (hW : s.WarmedH vm₁) (h : (T.setVm vm₁).vm.findClass E = some k) : s.vm.findClass E = some k := by
  have h1 : vm₁.findClass E = some k := h
  rw [hW.alike.findClass] at h1
  exact h1
/-- the method's frame g, with q thrown over it -/
def vx_W (p : Program) (l : Launch) (e : Env) (R : Room) (s : State) (m : MethodId) (args : Array Value) (below : List Frame) (meth : Method) (c : Code) (H : Heap) (locs : List Loc) (cells slots : Nat) (Q : State → Prop) (g : JFrame) (q : Addr) : Prop :=
  ∀ T : State, T.heap = H → Stand p l e R s m args below meth c T locs cells slots → ∃ t, Steps p.tables e below ((T.setTop g).pushFrame (.throwing q)) t ∧ Q t
def vx_Run (p : Program) (l : Launch) (e : Env) (R : Room) (s : State) (m : MethodId) (args : Array Value) (below : List Frame) (meth : Method) (c : Code) (H : Heap) (locs : List Loc) (cells slots mc ms : Nat) (g : JFrame) (rest : List Value) (Qa : State → Outcome → State → Prop) (XC : String → State → State → Prop) (free : Addr → Prop) : Prop :=
  ∀ T : State, T.heap = H → Stand p l e R s m args below meth c T locs cells slots →
    (∃ (v : Option Value) (st₀ t T' : State) (L : List Loc), st₀.heap = H ∧ Stand p l e R s m args below meth c T' (locs ++ L) (cells + mc) (slots + ms) ∧ (∀ q ∈ L, free q.base) ∧ T'.heap = t.heap ∧ T'.vm = t.vm ∧ Qa st₀ (.returned v) t ∧
      Goes p e below T g T' { g with pc := g.pc + 3, stack := v.toList ++ rest }) ∨
    (∃ (q : Addr) (st₀ t T' : State) (L : List Loc) (E : String) (ce : Cell), st₀.heap = H ∧ Stand p l e R s m args below meth c T' (locs ++ L) (cells + mc) (slots + ms) ∧ (∀ z ∈ L, free z.base) ∧ T'.heap = t.heap ∧ T'.vm = t.vm ∧ XC E st₀ t ∧ t.heap[q]? = some ce ∧ ce.vm = .none ∧ s.vm.findClass E = some ce.cls ∧
      Steps p.tables e below (T.setTop g) ((T'.setTop { g with stack := rest }).pushFrame (.throwing q)))
def vx_X {S : Type} (px : S → Prop) (B : String → S → State → Prop) (A : Nat → Prop) : String → State → State → Prop := fun E st t => ∃ u : S, px u ∧ B E u t ∧ va_F A st t
section Runs
variable {p : Program} {l : Launch} {e : Env} {R : Room} {s : State} {m : MethodId} {args : Array Value} {below : List Frame} {meth : Method} {c : Code} {H : Heap} {locs : List Loc} {cells slots : Nat}
variable {y : MethodName} {bytes cc : ByteArray} {maxL nL mc ms n index : Nat} {ret : Option FieldType} {ws : List Cond} {rm : Room} {Pc : Array Value → State → Prop} {Qc : Array Value → State → Outcome → State → Prop} {XC : String → State → State → Prop} {free : Addr → Prop} {Ts : List Cond} {own C : String} {b : Addr} {As rest : List Value} {g : JFrame}
theorem vx_callBack (cb : CallB R s args own index y bytes maxL ret ws rm mc ms n) (hM : vx_Met l y ws rm Pc Qc XC mc ms free) (hbl : FrameBlind Pc) : vx_Back l R p e below s args y 3 8 (PreOf R mc ms Pc) (PostOf Qc mc ms free) (vx_Post XC mc ms free) := by
  obtain ⟨hrc, hrs, hfr, hlo, hws, hcw, -, hini, -⟩ := cb
  exact vx_back (bytes := bytes) (maxL := maxL) (ret := ret) hM hbl hrc hrs hfr hlo hws hcw (fun a' U hW => word_at hW (Or.inl (by first | rfl | simp [Cond.onTables, Cond.keeps, Cond.steady])) hini)
theorem vx_runV (S : CallFix p m c cc nL s args Ts own) (hM : vx_Met l y ws rm Pc Qc XC mc ms free) (cw : CallW R s args own C index y bytes maxL ret ws rm mc ms n) (hp : PreV s H C b Pc As)
    (hg : g.method = m) (hn : As.length = n) (hsize : g.locals.size = nL) (hstack : g.stack = As.reverse ++ .ref b :: rest) (hW : 2 * g.monitorRoom + (rest.map fun v => v.category).sum ≤ 8) (hdg : decode cc g.pc = .ok (.invokevirtual index, 3)) (hf : cells + mc ≤ R.cells ∧ slots + ms ≤ R.slots) :
    vx_Run p l e R s m args below meth c H locs cells slots mc ms g rest (Qc (Value.ref b :: As).toArray) XC free := by
  have hK : vx_Back l R p e below s args y 3 8 (PreOf R mc ms Pc) (PostOf Qc mc ms free) (vx_Post XC mc ms free) := vx_callBack cw.1 hM hp.1
  obtain ⟨⟨-, -, -, -, -, -, hcode, -, hy, hlen, hl⟩, hin, hse⟩ := cw
  obtain ⟨hx, hb, hml, ho, -⟩ := S
  obtain ⟨-, ⟨cellB, hcB, hoB, hclB⟩, hPc⟩ := hp
  intro T hT X
  rcases vx_callV X hx (C := C) (bytes := bytes) (maxL := maxL) (ret := ret) ho hl hin hse hcode hy hK (by rw [hT]; exact hcB) hoB hclB hg (hsize.trans hml.symm) (argsL := As) (rest := rest) (fun sig h => hn.trans (hlen sig h)) hstack hW (by rw [hb]; exact hdg)
    (fun vm₁ hW₁ => ⟨hf.1, hf.2, hPc (T.setVm vm₁) hT hW₁⟩) with ⟨v, vm₁, ⟨U', l2, c2, s2⟩, hW₁, X', ⟨g', mk, t, L, e1, e2, hq, h1, hL, h2, h3⟩, st⟩ | ⟨q, vm₁, ⟨U', l2, c2, s2⟩, hW₁, X', ⟨g', mk, t, L, E, ce, e1, e2, hq, hce, hcv, hcl, h1, hL, h2, h3⟩, st⟩
  · dsimp only [Pt.U, Pt.locs, Pt.cells, Pt.slots] at X' e1 e2 h1 h2 h3 st
    subst h1; subst h2; subst h3
    exact Or.inl ⟨v, (T.setVm vm₁).calling g' mk (Value.ref b :: As).toArray, t, U', L, hT, X', hL, e1, e2, hq, st⟩
  · dsimp only [Pt.U, Pt.locs, Pt.cells, Pt.slots] at X' e1 e2 h1 h2 h3 st hcl
    subst h1; subst h2; subst h3
    exact Or.inr ⟨q, (T.setVm vm₁).calling g' mk (Value.ref b :: As).toArray, t, U', L, E, ce, hT, X', hL, e1, e2, hq, hce, hcv, vx_cls hW₁ hcl, st⟩
end Runs
section Rows
variable {p : Program} {l : Launch} {e : Env} {R : Room} {s : State} {m : MethodId} {args : Array Value} {below : List Frame} {meth : Method} {c : Code} {H : Heap} {locs : List Loc} {cells slots : Nat} {Q : State → Prop}
variable {mc ms : Nat} {free : Addr → Prop} {A0 A1 : Nat → Prop} {H0 : Heap} {a : Array Value} {pc : Nat} {ls : Array Slot} {st0 rest : List Value}
theorem vx_keep {st₀ t T' : State} {L : List Loc} (h0 : st₀.heap = H) (e1 : T'.heap = t.heap) (hS : va_S A0 H0 H locs) (hA : ∀ q, q < H.size → A1 q → A0 q) (hf : ∀ q, free q → A0 q) (hL : ∀ q ∈ L, free q.base) (hF : va_F A1 st₀ t) :
    H.size ≤ T'.heap.size ∧ (∀ q : Nat, q < H.size → ¬ A1 q → T'.heap[q]? = H[q]?) ∧ va_S A0 H0 T'.heap (locs ++ L) := by
  obtain ⟨hz, hk⟩ := hF
  rw [h0] at hz hk
  exact ⟨by rw [e1]; exact hz, fun q h1 h2 => by rw [e1]; exact hk q h1 h2,
    ⟨Nat.le_trans hS.1 (by rw [e1]; exact hz), fun q h1 h2 => by rw [e1, hk q (Nat.lt_of_lt_of_le h1 hS.1) (fun z => h2 (hA q (Nat.lt_of_lt_of_le h1 hS.1) z))]; exact hS.2.1 q h1 h2, fun q hq => by
      rcases List.mem_append.mp hq with h | h
      · exact hS.2.2 q h
      · exact hf _ (hL q h)⟩⟩
theorem vx_calli {S SX : Type} {post : Int32 → S → Prop} {px : SX → Prop} {B : S → State → Prop} {BX : String → SX → State → Prop} {AX : Nat → Prop} (hr : vx_Run p l e R s m args below meth c H locs cells slots mc ms (F0 m pc ls st0) rest (va_Qi post B A1 a) (vx_X px BX AX) free) (hS : va_S A0 H0 H locs) (hA : ∀ q, q < H.size → A1 q → A0 q) (hf : ∀ q, free q → A0 q) (hAX : ∀ q, q < H.size → AX q → A0 q)
    (kx : ∀ (E : String) (ce : Cell) (q9 : Addr) (u : SX) (t : State) (H1 : Heap) (locs1 : List Loc), t.heap = H1 → s.vm.Alike t.vm → px u → BX E u t → H.size ≤ H1.size → (∀ q : Nat, q < H.size → ¬ AX q → H1[q]? = H[q]?) → va_S A0 H0 H1 locs1 → H1[q9]? = some ce → ce.vm = .none → s.vm.findClass E = some ce.cls → vx_W p l e R s m args below meth c H1 locs1 (cells + mc) (slots + ms) Q (F0 m pc ls rest) q9)
    (kk : ∀ (r : Int32) (u : S) (t : State) (H1 : Heap) (locs1 : List Loc), t.heap = H1 → s.vm.Alike t.vm → post r u → B u t → H.size ≤ H1.size → (∀ q : Nat, q < H.size → ¬ A1 q → H1[q]? = H[q]?) → va_S A0 H0 H1 locs1 → W p l e R s m args below meth c H1 locs1 (cells + mc) (slots + ms) Q (F0 m (pc + 3) ls (.int r :: rest))) : W p l e R s m args below meth c H locs cells slots Q (F0 m pc ls st0) := by
  intro T hT X
  rcases hr T hT X with ⟨v, st₀, t, T', L, h0, X', hL, e1, e2, ⟨⟨r, u, hv, hp, hb⟩, hF⟩, st⟩ | ⟨q, st₀, t, T', L, E, ce, h0, X', hL, e1, e2, ⟨u, hp, hb, hF⟩, hce, hcv, hcl, st⟩
  · cases hv
    obtain ⟨k1, k2, k3⟩ := vx_keep h0 e1 hS hA hf hL hF
    obtain ⟨t2, a1, b1⟩ := kk r u t T'.heap (locs ++ L) e1.symm (by rw [← e2]; exact X'.warmed.alike) hp hb k1 k2 k3 T' rfl X'
    exact ⟨t2, st t2 a1, b1⟩
  · obtain ⟨k1, k2, k3⟩ := vx_keep h0 e1 hS hAX hf hL hF
    obtain ⟨t2, a1, b1⟩ := kx E ce q u t T'.heap (locs ++ L) e1.symm (by rw [← e2]; exact X'.warmed.alike) hp hb k1 k2 k3 (by rw [e1]; exact hce) hcv hcl T' rfl X'
    exact ⟨t2, st.trans a1, b1⟩
end Rows
section Ends
variable {p : Program} {l : Launch} {e : Env} {R : Room} {s : State} {m : MethodId} {args : Array Value} {below : List Frame} {meth : Method} {c : Code} {H : Heap} {locs : List Loc} {cells slots : Nat} {Q : State → Prop}
variable {mc ms : Nat} {free : Addr → Prop} {A0 A1 : Nat → Prop} {H0 : Heap} {a : Array Value} {ls : Array Slot} {st0 rest : List Value}
variable {Qc : Array Value → State → Outcome → State → Prop} {XC : String → State → State → Prop}
/-- what a body that may throw owes at its end -/
def vx_MQ (below : List Frame) (Qc : Array Value → State → Outcome → State → Prop) (XC : String → State → State → Prop) (a : Array Value) (s : State) (mc ms : Nat) (free : Addr → Prop) : State → Prop := fun t =>
  ∃ o, t.status = .running ∧ Ended t below o ∧ vx_Q Qc XC mc ms free a s o t
theorem vx_ret {g : JFrame} {mc ms : Nat} (k : W p l e R s m args below meth c H locs cells slots (MQ below Qc args s mc ms free) g) : W p l e R s m args below meth c H locs cells slots (vx_MQ below Qc XC args s mc ms free) g := by
  intro T hT X
  obtain ⟨t, a1, o, b1, b2, b3, b4⟩ := k T hT X
  exact ⟨t, a1, o, b1, b2, Or.inl ⟨b3, b4⟩⟩
theorem vx_frame {U : State} {k n : Nat} (h : s.sameButNew ({ U with vm := s.vm } : State) locs k n) : s.heap.size ≤ U.heap.size ∧ ∀ q : Nat, q < s.heap.size → (∀ z ∈ locs, z.base ≠ q) → U.heap[q]? = s.heap[q]? := by
  obtain ⟨-, h2, -, -, -, h6⟩ := h
  refine ⟨h2, fun q hq hz => ?_⟩
  obtain ⟨c9, e1, e2, e3, e4⟩ := h6 q _ (Array.getElem?_eq_getElem hq)
  have hs : c9.slots = (s.heap[q]).slots := Array.ext_getElem? fun i => e4 i fun hm => hz _ hm rfl
  have h9 : c9 = s.heap[q] := by
    rw [hs] at e2
    exact e2
  have e5 : U.heap[q]? = some c9 := e1
  rw [e5, h9, Array.getElem?_eq_getElem hq]
/-- the words of a throw but the four that speak of the heap -/
def vx_no (w : Cond) : Bool := decide (w ≠ .isRef (.static Bundle.tN "UNASSIGNED_STACK" Bundle.steD)) && decide (w ≠ .isRef (.static Bundle.tN "SUPPRESSED_SENTINEL" Bundle.listD)) && decide (w ≠ .laysStatic Bundle.tN "UNASSIGNED_STACK" Bundle.steD) && decide (w ≠ .laysStatic Bundle.tN "SUPPRESSED_SENTINEL" Bundle.listD)
def vx_at0 (own : String) (ic : Nat) (X : String) (names : List String) : List Cond := (Bundle.ownAtoms0 own ic X names).filter vx_no
/-- a word that the tables alone decide, or a good one -/
def vx_ot (w : Cond) : Bool := w.onTables || goodWord w
theorem vx_ot_at {args a' : Array Value} {s U : State} {w : Cond} (hW : s.WarmedH U.vm) (hvm : s.vm = U.vm) (hg : vx_ot w = true) (h : w.before args s = true) : w.before a' U = true := by
  simp only [vx_ot, Bool.or_eq_true] at hg
  rcases hg with hg | hg
  · exact va_tabs hg hvm h
  · exact word_at hW (good_of_word hg) h
/-- a list's words: the good ones out of the method's own list, the others by premises of their own -/
theorem vx_hat {args : Array Value} {s : State} {L B : List Cond} (h1 : ∀ w ∈ L.filter goodWord, w.before args s = true) (h2 : ∀ w ∈ L.filter (fun w => !goodWord w), w ∈ B) (h3 : ∀ w ∈ B, w.before args s = true) : ∀ w ∈ L, w.before args s = true := by
  intro w hw
  by_cases g : goodWord w = true
  · exact h1 w (List.mem_filter.mpr ⟨hw, g⟩)
  · refine h3 w (h2 w (List.mem_filter.mpr ⟨hw, ?_⟩))
    show (!goodWord w) = true
    cases hgw : goodWord w
    · rfl
    · exact absurd hgw g
theorem vx_c {args : Array Value} {s : State} {w : Cond} {B : List Cond} (h : w.before args s = true) (t : ∀ w ∈ B, w.before args s = true) : ∀ w' ∈ w :: B, w'.before args s = true := fun w' h' => (List.mem_cons.mp h').elim (fun e => by rw [e]; exact h) (t w')
theorem vx_n {args : Array Value} {s : State} : ∀ w ∈ ([] : List Cond), w.before args s = true := fun _ h => nomatch h
theorem vx_own {args : Array Value} {s : State} {L : List Cond} (h1 : ∀ w ∈ L.filter vx_no, w.before args s = true)
    (hU : (Cond.isRef (.static Bundle.tN "UNASSIGNED_STACK" Bundle.steD)).before args s = true) (hN : (Cond.isRef (.static Bundle.tN "SUPPRESSED_SENTINEL" Bundle.listD)).before args s = true)
    (lU : (Cond.laysStatic Bundle.tN "UNASSIGNED_STACK" Bundle.steD).before args s = true) (lN : (Cond.laysStatic Bundle.tN "SUPPRESSED_SENTINEL" Bundle.listD).before args s = true) : ∀ w ∈ L, w.before args s = true := by
  intro w hw
  by_cases e1 : w = .isRef (.static Bundle.tN "UNASSIGNED_STACK" Bundle.steD)
  · rw [e1]; exact hU
  · by_cases e2 : w = .isRef (.static Bundle.tN "SUPPRESSED_SENTINEL" Bundle.listD)
    · rw [e2]; exact hN
    · by_cases e3 : w = .laysStatic Bundle.tN "UNASSIGNED_STACK" Bundle.steD
      · rw [e3]; exact lU
      · by_cases e4 : w = .laysStatic Bundle.tN "SUPPRESSED_SENTINEL" Bundle.listD
        · rw [e4]; exact lN
        · exact h1 w (List.mem_filter.mpr ⟨hw, by unfold vx_no; rw [decide_eq_true e1, decide_eq_true e2, decide_eq_true e3, decide_eq_true e4]; rfl⟩)
/-- where a static field lies, its class's statics cell in H -/
def vx_L (C n d : String) (A : Nat → Prop) (U : State) (H : Heap) : Prop := ∃ (c : ClassId) (k : Class) (i : Nat) (f : Field) (a : Nat) (cell : Cell), U.vm.findClass C = some c ∧ U.fieldFound? C n d = some (c, k, i, f) ∧ f.isStatic = true ∧ k.statics = some a ∧ H[a]? = some cell ∧ cell.vm.isStatics = true ∧ cell.cls = c ∧ f.slot < cell.slots.size ∧ k.staticTypes[f.slot]? = some f.type ∧ ¬ A a
theorem vx_L.moved {C n d : String} {A : Nat → Prop} {u U : State} {H : Heap} (hvm : u.vm.Alike U.vm) (h : vx_L C n d A u H) : vx_L C n d A U H := by
  obtain ⟨c, k, i, f, a, cell, h1, h2, h3, h4, h5, h6, h7, h8, h9, h10⟩ := h
  obtain ⟨k', hi', he⟩ := State.fieldFound?_setVm hvm h2
  exact ⟨c, k', i, f, a, cell, by rw [hvm.findClass]; exact h1, hi', h3, by rw [he]; exact h4, h5, h6, h7, h8, by rw [he]; exact h9, h10⟩
theorem vx_L.kept {C n d : String} {A : Nat → Prop} {U : State} {H H1 : Heap} (h : vx_L C n d A U H) (hq : ∀ a : Nat, a < H.size → ¬ A a → H1[a]? = H[a]?) : vx_L C n d A U H1 := by
  obtain ⟨c, k, i, f, a, cell, h1, h2, h3, h4, h5, h6, h7, h8, h9, h10⟩ := h
  exact ⟨c, k, i, f, a, cell, h1, h2, h3, h4, by rw [hq a (Array.getElem?_eq_some_iff.mp h5).1 h10]; exact h5, h6, h7, h8, h9, h10⟩
theorem vx_L.narrow {C n d : String} {A B : Nat → Prop} {U : State} {H : Heap} (h : vx_L C n d A U H) (hAB : ∀ q, B q → A q) : vx_L C n d B U H := by
  obtain ⟨c, k, i, f, a, cell, h1, h2, h3, h4, h5, h6, h7, h8, h9, h10⟩ := h
  exact ⟨c, k, i, f, a, cell, h1, h2, h3, h4, h5, h6, h7, h8, h9, fun z => h10 (hAB _ z)⟩
theorem vx_L.word {C n d : String} {A : Nat → Prop} {s : State} {args : Array Value} (h : vx_L C n d A s s.heap) : (Cond.laysStatic C n d).before args s = true := by
  obtain ⟨c, k, i, f, a, cell, h1, h2, h3, h4, h5, h6, h7, h8, h9, -⟩ := h
  show (Cond.laysStatic C n d).holds args s none s [] = true
  exact Cond.laysStatic_of h1 h2 h3 h4 h5 h6 h7 h8 h9
/-- .. and what it holds: null or some reference -/
def vx_Zq (C n d : String) (A : Nat → Prop) (U : State) (H : Heap) : Prop := va_Zq C n d A U H ∧ vx_L C n d A U H
theorem vx_Zq.moved {C n d : String} {A : Nat → Prop} {u U : State} {H : Heap} (hvm : u.vm.Alike U.vm) (h : vx_Zq C n d A u H) : vx_Zq C n d A U H := ⟨va_Zq.moved hvm h.1, vx_L.moved hvm h.2⟩
theorem vx_Zq.kept {C n d : String} {A : Nat → Prop} {U : State} {H H1 : Heap} (h : vx_Zq C n d A U H) (hq : ∀ a : Nat, a < H.size → ¬ A a → H1[a]? = H[a]?) : vx_Zq C n d A U H1 := ⟨va_Zq.kept h.1 hq, vx_L.kept h.2 hq⟩
theorem vx_Zq.narrow {C n d : String} {A B : Nat → Prop} {U : State} {H : Heap} (h : vx_Zq C n d A U H) (hAB : ∀ q, B q → A q) : vx_Zq C n d B U H := ⟨va_Zq.narrow h.1 hAB, vx_L.narrow h.2 hAB⟩
theorem vx_Zqof {args : Array Value} {s : State} {C n d : String} {A : Nat → Prop} (hl : (Cond.laysStatic C n d).before args s = true) (hini : (Cond.initialized C).before args s = true) (h : (Cond.isRef (.static C n d)).before args s = true) (hA : ∀ a : Nat, a < s.heap.size → ¬ A a) : vx_Zq C n d A s s.heap := by
  refine ⟨va_Zqof hl hini h hA, ?_⟩
  obtain ⟨c, k, i, f, a, cell, h1, h2, h3, h4, h5, h6, h7, h8, h9⟩ := Cond.laysStatic_spec hl
  exact ⟨c, k, i, f, a, cell, h1, h2, h3, h4, h5, h6, h7, h8, h9, hA a (Array.getElem?_eq_some_iff.mp h5).1⟩
theorem vx_isRef {C n d : String} {v : Value} {A : Nat → Prop} {s : State} {args : Array Value} (h : va_Z C n d v A s s.heap) (hv : v.isRef = true) : (Cond.isRef (.static C n d)).before args s = true := by
  obtain ⟨cf, kf, fi, f, a, cell, h1, h2, h3, h4, h5, h6, h7, -⟩ := h
  have he : (Term.static C n d).eval args s none [] s = some v := by
    simp [Term.eval, State.fieldNamed?, h1, h2, h4, h5, h6, h7]
  simp only [Cond.before, Cond.holds, Cond.value, he]
  cases v <;> simp_all [Value.isRef]
theorem vx_isRefq {C n d : String} {A : Nat → Prop} {s : State} {args : Array Value} (h : va_Zq C n d A s s.heap) : (Cond.isRef (.static C n d)).before args s = true := by
  rcases h with h | ⟨t, h⟩
  · exact vx_isRef h rfl
  · exact vx_isRef h rfl
/-- the same frame, seen from here: as if the method were called anew in this heap -/
theorem vx_rebase {T : State} (X : Stand p l e R s m args below meth c T locs cells slots) {R' : Room} (hf : R'.frames ≤ R.frames) (hl : R'.locals ≤ R.locals) (hc : cells + R'.cells ≤ R.cells) (hs : slots + R'.slots ≤ R.slots) :
    Stand p l e R' ((T.setVm s.vm).setFrames (.invoking m args :: below)) m args below meth c T [] 0 0 := by
  have htop : (T.setVm s.vm).topJava?.isSome := X.here.top
  have hF : ((T.setVm s.vm).setFrames (.invoking m args :: below)).frames = .invoking m args :: below := State.frames_setFrames _ (State.cur_lt_of_top htop)
  obtain ⟨g₀, hg0⟩ := Option.isSome_iff_exists.mp htop
  obtain ⟨r, hr⟩ := State.topJava?_eq_some.mp hg0
  have hl9 : e.platform.stackLimits (T.setVm s.vm).me = e.platform.stackLimits s.me := X.limits
  have hb9 : (T.setVm s.vm).me.stackBytes = s.me.stackBytes := X.bytes
  refine ⟨X.admits, X.cas, X.clock, hF, ?_, X.hears, X.method, X.code, X.here, X.tail, X.warmed, ?_, ?_, ?_⟩
  · have h := X.room
    have hU : ((T.setVm s.vm).setFrames (.invoking m args :: below)).localsInUse = s.localsInUse := by
      rw [State.localsInUse_invoking hF (meth := meth) (c := c) X.method X.code, State.localsInUse_invoking X.frames X.method X.code]
    simp only [State.hasRoom, Bool.and_eq_true, decide_eq_true_eq] at h ⊢
    obtain ⟨⟨⟨⟨h1, h2, h3, h4, h5, h6⟩, h7⟩, h8⟩, h9⟩ := h
    rw [X.frames, List.length_cons] at h2 h3
    have q1 := X.heapSize
    have q2 := X.used
    simp only [hF, hU, List.length_cons, State.stackLimits_setFrames, State.stackBytes_setFrames, hl9, hb9]
    refine ⟨⟨⟨⟨by omega, by omega, by omega, by omega, by omega, h6⟩, ?_⟩, ?_⟩, X.book⟩
    · show T.heap.size + R'.cells ≤ e.platform.maxCells
      omega
    · show T.slotsUsed + R'.slots ≤ e.platform.maxSlots
      omega
  · rw [State.stackLimits_setFrames]; rfl
  · rw [State.stackBytes_setFrames]; rfl
  · refine ⟨?_, Nat.le_refl _, Nat.le_refl _, ?_, ?_, fun a c9 h9 => ⟨c9, h9, rfl, rfl, fun _ _ => rfl⟩⟩
    · obtain ⟨t, ht, -⟩ := State.frames_cons hr
      show T.setVm s.vm = { ((T.setVm s.vm).setFrames (.invoking m args :: below)).setFrames (T.setVm s.vm).frames with heap := T.heap, slotsUsed := T.slotsUsed }
      rw [State.setFrames_setFrames, State.setFrames_self ht]
      rfl
    · show T.slotsUsed = T.slotsUsed + ((T.heap.toList.drop T.heap.size).map (·.slots.size)).sum
      rw [List.drop_eq_nil_of_le (Nat.le_of_eq Array.length_toList)]
      rfl
    · show ((T.heap.toList.drop T.heap.size).map (·.slots.size)).sum ≤ 0
      rw [List.drop_eq_nil_of_le (Nat.le_of_eq Array.length_toList)]
      exact Nat.le_refl _
/-- 'throw new E()': new; dup; invokespecial; athrow -/
theorem vx_throw0 {cc : ByteArray} {pc : Nat} (hexec : p.tables.exec = Jvm.exec) (hb : c.code = cc) (hl : l.stackTraces = false) {own cls : String} {names : List String} {ik ic mc ms : Nat} {A : Nat → Prop}
    (hown : s.vm.findClass own = some m.cls) (hcls : Bundle.fit cls = true) (hnames : ∀ n ∈ names, Bundle.fit n = true)
    (hk : (Cond.classLink own ik cls).before args s = true) (hini : (Cond.initialized cls).before args s = true) (hat : ∀ w ∈ vx_at0 own ic cls names, w.before args s = true)
    (hgood : ∀ w ∈ Cond.classLink own ik cls :: Cond.initialized cls :: vx_at0 own ic cls names, vx_ot w = true)
    (hU : vx_Zq Bundle.tN "UNASSIGNED_STACK" Bundle.steD A s s.heap) (hN : vx_Zq Bundle.tN "SUPPRESSED_SENTINEL" Bundle.listD A s s.heap) (hS : va_S A s.heap H locs) (hsize : ls.size = c.maxLocals)
    (d0 : decode cc pc = .ok (.new ik, 3)) (d3 : decode cc (pc + 3) = .ok (.dup, 1)) (d4 : decode cc (pc + 4) = .ok (.invokespecial ic, 3)) (d7 : decode cc (pc + 7) = .ok (.athrow, 1))
    (hout : ∀ x ∈ c.exceptionTable.toList, covers x (pc + 7) = false)
    (hRframes : names.length + 3 < R.frames) (hRlocals : (rest.map fun v => v.category).sum + (13 * (names.length + 1) + 42) ≤ R.locals) (hRcells : cells + 1 ≤ R.cells) (hRslots : slots + 6 ≤ R.slots) (hlocks : meth.locks = false)
    (hx : ∀ t : State, s.vm.Alike t.vm → H.size ≤ t.heap.size → (∀ q : Nat, q < H.size → t.heap[q]? = H[q]?) → XC cls s t)
    (hf : ∀ z ∈ locs, free z.base) (hc : cells + 1 ≤ mc) (hs : slots + 6 ≤ ms) :
    W p l e R s m args below meth c H locs cells slots (vx_MQ below Qc XC args s mc ms free) (F0 m pc ls rest) := by
  intro T hT X
  have htr : e.platform.stackTraces = false := (show e.platform.stackTraces = l.stackTraces by rw [X.admits.platform]).trans hl
  have Y := vx_rebase X (R' := { frames := R.frames, locals := R.locals, cells := 1, slots := 6 }) (Nat.le_refl _) (Nat.le_refl _) hRcells hRslots
  obtain ⟨s', hA⟩ : ∃ z, z = (T.setVm s.vm).setFrames (.invoking m args :: below) := ⟨_, rfl⟩
  rw [← hA] at Y
  have hvm : s'.vm = s.vm := by rw [hA]; rfl
  have hhp : s'.heap = H := by rw [hA]; exact hT
  have hW0 : s.WarmedH s'.vm := by rw [hvm]; exact State.WarmedH.refl s
  have hat' : ∀ w ∈ vx_at0 own ic cls names, w.before args s' = true := fun w hw => vx_ot_at hW0 hvm.symm (hgood w (List.mem_cons_of_mem _ (List.mem_cons_of_mem _ hw))) (hat w hw)
  have hk' : (Cond.classLink own ik cls).before args s' = true := vx_ot_at hW0 hvm.symm (hgood _ List.mem_cons_self) hk
  have hini' : (Cond.initialized cls).before args s' = true := vx_ot_at hW0 hvm.symm (hgood _ (List.mem_cons_of_mem _ List.mem_cons_self)) hini
  have hU' : vx_Zq Bundle.tN "UNASSIGNED_STACK" Bundle.steD A s' s'.heap := by rw [hhp]; exact vx_Zq.moved hW0.alike (hU.kept hS.2.1)
  have hN' : vx_Zq Bundle.tN "SUPPRESSED_SENTINEL" Bundle.listD A s' s'.heap := by rw [hhp]; exact vx_Zq.moved hW0.alike (hN.kept hS.2.1)
  have h : ∀ w ∈ Bundle.ownAtoms0 own ic cls names, w.before args s' = true := vx_own hat' (vx_isRefq hU'.1) (vx_isRefq hN'.1) hU'.2.word hN'.2.word
  have hown' : s'.vm.findClass own = some m.cls := by rw [hvm]; exact hown
  have hins : (Cond.instantiable cls 6).before args s' = true := h _ (by simp [Bundle.ownAtoms0])
  obtain ⟨vm₁, cX, kX, hfX, hkX, -, -, X₁, st1⟩ := Y.newCold hexec (own := own) (C := cls) (index := ik) (n := 6) hown' hk' hins hini'
    (g := F0 m pc ls rest) rfl (by rw [hb]; exact d0) (Nat.le_refl _) (Nat.le_refl _)
  generalize hT1 : (T.setVm vm₁).pushCell { cls := cX, slots := kX.instanceTypes.map defaultValue, vm := .none } = T1 at X₁ st1
  have hcat : (Value.ref T.heap.size).category = 1 := rfl
  have hcellA : T1.heap[T.heap.size]? = some (freshCell cX kX) := by rw [← hT1]; exact State.heap_pushCell_size _ _
  have d3' : decode c.code (pc + 3) = .ok (.dup, 1) := by rw [hb]; exact d3
  obtain ⟨U, hsteps, hrun, hend, hW, hsame, ce, hce, hO⟩ := X₁.ctorThrow0 hexec htr (own := own) (cls := cls) (names := names) (ic := ic) hown' hcls hnames h (fun x hx => nomatch hx) hfX hkX hcellA (by rw [hhp, hT]; exact Nat.le_refl _)
    (g := { method := m, pc := pc + 4, locals := ls, stack := .ref T.heap.size :: .ref T.heap.size :: rest, locked := none }) rfl hsize rfl rfl (rest := rest) rfl
    (by rw [hb]; exact d4) (by rw [hb]; exact d7) hout hRframes (by simp only [List.map_cons, List.sum_cons, hcat]; omega) hlocks
  obtain ⟨f1, f2⟩ := vx_frame hsame
  rw [hhp] at f1 f2
  have hWs : s.WarmedH U.vm := State.WarmedH.trans hW0 hW
  have hcl : s.vm.findClass cls = some ce.cls := by
    have h9 := hO.cls
    rw [hvm] at h9
    exact h9
  have hall : s.sameButNew ({ U with vm := s.vm } : State) locs mc ms := by
    subst hA
    obtain ⟨e1, e2⟩ := hsame
    rw [State.setFrames_setFrames] at e1
    have h2 : (T.setVm s.vm).sameButNew ({ U with vm := s.vm } : State) [] (0 + 1) (0 + 6) := ⟨e1, e2⟩
    have h3 := X.same.trans h2
    rw [List.append_nil] at h3
    exact h3.mono hc hs
  refine ⟨U, ?_, .threw T.heap.size, hrun, hend, Or.inr ⟨T.heap.size, rfl, cls, ce, locs, hx U hWs.alike f1 (fun q hq => f2 q hq (fun z hz => nomatch hz)), hce, hO.vm, hcl, hWs, hall, hf⟩⟩
  refine st1 _ ?_
  show Steps p.tables e below (T1.setTop { method := m, pc := pc + 3, locals := ls, stack := .ref T.heap.size :: rest, locked := none }) _
  jvm_step X₁.here [X₁.here.top, hexec, d3', Value.category]
  exact hsteps
end Ends
section Bodies
variable {l : Launch}
theorem vx_ofW {y : MethodName} {ws ws' : List Cond} {rm : Room} {Pc : Array Value → State → Prop} {Qc : Array Value → State → Outcome → State → Prop} {XC : String → State → State → Prop} {mc ms : Nat} {free : Addr → Prop} {cc : ByteArray} {maxL : Nat} {ret : Option FieldType}
    (hy : plainName y.cls = true) (hw : ws = Cond.code y cc maxL ret :: ws')
    (body : ∀ p e s m args below meth c s₁, BodyLoose p l y (headSpec ws rm) cc maxL ret e s m args below meth c s₁ → c.maxLocals = maxL → (∀ x ∈ c.exceptionTable.toList, False) → Pc args s →
      W p l e (headSpec ws rm).room s m args below meth c s.heap [] 0 0 (vx_MQ below Qc XC args s mc ms free) (entryFrame m args maxL)) : vx_Met l y ws rm Pc Qc XC mc ms free := by
  refine MetFree.of_bodyS (code := cc) (maxLocals := maxL) (ret := ret) hy ?_ ?_
  · intro args s m h hn
    obtain ⟨meth, c, h1, h2, h3, h4, h5, h6, -, -⟩ := Cond.code_spec hn (atoms_spec (ws := ws) h _ (by rw [hw]; exact List.mem_cons_self))
    exact ⟨meth, c, h1, h2, h3, h4, h5, h6⟩
  · intro p e s m args below meth c s₁ B hml hP _
    have hh0 : s₁.heap = s.heap := by rw [B.state]; rfl
    have ht : ∀ x ∈ c.exceptionTable.toList, False := by
      obtain ⟨meth9, c9, h1, h2, -, -, -, -, h7, -⟩ := Cond.code_spec B.named (atoms_spec (ws := ws) B.pre _ (by rw [hw]; exact List.mem_cons_self))
      cases Option.some.inj (h1.symm.trans B.method)
      cases Option.some.inj (h2.symm.trans (Stand.of_body B).code)
      intro x hx
      rw [Array.isEmpty_iff.mp h7] at hx
      cases hx
    obtain ⟨t, a1, o, b1, b2, b3⟩ := body p e s m args below meth c s₁ B hml ht hP s₁ hh0 (Stand.of_body B)
    exact ⟨t, o, a1, b1, b2, b3⟩
/-- the table of a body with handlers -/
theorem vx_table {p : Program} {x y : MethodName} {S : Spec} {cc bytes : ByteArray} {maxL maxL' : Nat} {ret ret' : Option FieldType} {e : Env} {s s₁ : State} {m : MethodId} {args : Array Value} {below : List Frame} {meth : Method} {c : Code} {hh : List (Nat × Nat × Nat × Nat)}
    (B : BodyLoose p l y S cc maxL ret e s m args below meth c s₁) (h : (Cond.codeWith y bytes maxL' ret' hh).before args s = true) : c.exceptionTable.toList = tableOf hh := by
  obtain ⟨m9, meth9, c9, hn9, h1, h2, -, -, h6, -⟩ := Cond.codeWith_spec h
  cases Option.some.inj (hn9.symm.trans B.named)
  cases Option.some.inj (h1.symm.trans B.method)
  cases Option.some.inj (h2.symm.trans (Stand.of_body B).code)
  rw [← h6, table_eq]
end Bodies
end VXA
section VXS
variable {p : Program} {l : Launch} {e : Env} {R : Room} {s : State} {m : MethodId} {args : Array Value} {below : List Frame} {meth : Method} {c : Code} {T : State} {H : Heap} {locs : List Loc} {cells slots : Nat}
abbrev vx_CSW (R : Room) (s : State) (args : Array Value) (own : String) (index : Nat) (y : MethodName) (bytes : ByteArray) (maxL : Nat) (ret : Option FieldType) (hh : List (Nat × Nat × Nat × Nat)) (ws : List Cond) (rm : Room) (mc ms n : Nat) : Prop :=
  (rm.cells = mc ∧ rm.slots = ms ∧ rm.frames + 1 ≤ R.frames ∧ 8 + (maxL + 11) + rm.locals ≤ R.locals ∧ (∀ w ∈ ws, ∀ (a' : Array Value) (U : State), s.WarmedH U.vm → w.before a' U = true) ∧ Cond.codeWith y bytes maxL ret hh ∈ ws) ∧
  (Cond.codeWith y bytes maxL ret hh).before args s = true ∧ (Cond.initialized y.cls).before args s = true ∧ (y.cls ≠ "java/lang/invoke/MethodHandle" ∧ y.cls ≠ "java/lang/invoke/VarHandle") ∧
  (∀ sig, parseMethodDescriptor y.desc = some sig → n = sig.parameters.length) ∧ (Cond.methodLink own index y).before args s = true ∧ (Cond.static y).before args s = true
theorem vx_cwSW {own : String} {index maxL mc ms : Nat} {y : MethodName} {bytes : ByteArray} {ret : Option FieldType} {hh : List (Nat × Nat × Nat × Nat)} {Ts ws ws' : List Cond} {rm : Room} (n : Nat) (ht : ∀ w ∈ Ts, w.before args s = true) (hT : GoodIn Ts (va_wsS own index y ws)) (hw : ws = Cond.codeWith y bytes maxL ret hh :: ws') (hrc : rm.cells = mc) (hrs : rm.slots = ms)
    (hd : y.cls ≠ "java/lang/invoke/MethodHandle" ∧ y.cls ≠ "java/lang/invoke/VarHandle" ∧ (parseMethodDescriptor y.desc).map (fun d => d.parameters.length) = some n) (hR : rm.frames + 1 ≤ R.frames ∧ 8 + (maxL + 11) + rm.locals ≤ R.locals) :
    vx_CSW R s args own index y bytes maxL ret hh ws rm mc ms n := by
  have ok : ∀ w ∈ va_wsS own index y ws, w.before args s = true := fun w h => ht w (hT w h).1
  have hG : GoodIn Ts ws := fun w h => hT w (by unfold va_wsS; exact List.mem_append_right _ h)
  have hc : Cond.codeWith y bytes maxL ret hh ∈ ws := by rw [hw]; exact List.mem_cons_self
  refine ⟨⟨hrc, hrs, hR.1, hR.2, pay_in ht hG, hc⟩, ht _ (hG _ hc).1, ok _ (by simp [va_wsS]), ⟨hd.1, hd.2.1⟩, fun sig h => ?_, ok _ (by simp [va_wsS]), ok _ (by simp [va_wsS])⟩
  have h2 := hd.2.2
  rw [h] at h2
  exact (Option.some.inj h2).symm
theorem vx_callSW (X : Stand p l e R s m args below meth c T locs cells slots) (hexec : p.tables.exec = Jvm.exec) {own : String} {index : Nat} {y : MethodName} {bytes : ByteArray} {maxL : Nat} {ret : Option FieldType} {hh : List (Nat × Nat × Nat × Nat)}
    (hown : s.vm.findClass own = some m.cls) (hlink : (Cond.methodLink own index y).before args s = true) (hstat : (Cond.static y).before args s = true) (hinit : (Cond.initialized y.cls).before args s = true)
    (hcode : (Cond.codeWith y bytes maxL ret hh).before args s = true) (hy : y.cls ≠ "java/lang/invoke/MethodHandle" ∧ y.cls ≠ "java/lang/invoke/VarHandle")
    {W9 : Nat} {Pre : Pt → Array Value → Prop} {Post : Pt → Array Value → Option Value → Pt → Prop} (hK : Back l R p e below s args y 3 W9 Pre Post)
    {g : JFrame} (hg : g.method = m) (hsize : g.locals.size = c.maxLocals) {argsL rest : List Value} (hlen : ∀ sig, parseMethodDescriptor y.desc = some sig → argsL.length = sig.parameters.length)
    (hstack : g.stack = argsL.reverse ++ rest) (hW : 2 * g.monitorRoom + (rest.map fun v => v.category).sum ≤ W9) (hdg : decode c.code g.pc = .ok (.invokestatic index, 3))
    (hpre : ∀ vm₁, s.WarmedH vm₁ → Pre ⟨T.setVm vm₁, locs, cells, slots⟩ argsL.toArray) :
    ∃ (v : Option Value) (vm₁ : Vm) (B : Pt), s.WarmedH vm₁ ∧ Stand p l e R s m args below meth c B.U B.locs B.cells B.slots ∧ Post ⟨T.setVm vm₁, locs, cells, slots⟩ argsL.toArray v B ∧
      ∀ target, Steps p.tables e below (B.U.setTop { g with pc := g.pc + 3, stack := v.toList ++ rest }) target → Steps p.tables e below (T.setTop g) target := by
  obtain ⟨mk, methM, cM, hnamed, hmethM, -, -, -, -, -, -, hsigM⟩ := Cond.codeWith_spec hcode
  have hstatic : methM.isStatic = true := Cond.static_spec hnamed hmethM hstat
  obtain ⟨kP, hkP, -⟩ := className_of_methodNamed hnamed
  have hinitP : kP.init = .initialized := Cond.initialized_spec (findClass_of_methodNamed hnamed) hkP hinit
  obtain ⟨vm₁, X₁, hstep₁⟩ := X.invokestatic hexec hown hlink hnamed hmethM hstatic hkP hinitP hy (g := g) hg (argsL := argsL) (rest := rest) (hlen _ hsigM) hstack hdg
  obtain ⟨v, B, X', hpost, hsteps⟩ := hK m meth c ⟨T.setVm vm₁, locs, cells, slots⟩ { g with stack := rest } (.invokestatic index) mk argsL.toArray X₁ hg hsize hdg hW (X₁.named hnamed) (hpre vm₁ X₁.warmed)
  exact ⟨v, vm₁, B, X₁.warmed, X', hpost, fun target h => hstep₁ _ fun acts => by rw [doInvoke_state]; exact hsteps.trans h⟩
theorem vx_runSW {y : MethodName} {bytes cc : ByteArray} {maxL nL mc ms n index : Nat} {ret : Option FieldType} {hh : List (Nat × Nat × Nat × Nat)} {ws : List Cond} {rm : Room} {Pc : Array Value → State → Prop} {Qc : Array Value → State → Outcome → State → Prop} {free : Addr → Prop} {Ts : List Cond} {own : String} {As rest : List Value} {g : JFrame}
    (S : CallFix p m c cc nL s args Ts own) (hM : Met l y ws rm Pc Qc mc ms free) (cw : vx_CSW R s args own index y bytes maxL ret hh ws rm mc ms n) (hp : PreS s H Pc As)
    (hg : g.method = m) (hn : As.length = n) (hsize : g.locals.size = nL) (hstack : g.stack = As.reverse ++ rest) (hW : 2 * g.monitorRoom + (rest.map fun v => v.category).sum ≤ 8) (hdg : decode cc g.pc = .ok (.invokestatic index, 3)) (hf : cells + mc ≤ R.cells ∧ slots + ms ≤ R.slots) :
    va_Run p l e R s m args below meth c H locs cells slots mc ms g rest (Qc As.toArray) (free) := by
  obtain ⟨⟨hrc, hrs, hfr, hlo, hws, hcw⟩, hcode, hini, hy, hlen, hl, hstt⟩ := cw
  have hK : Back l R p e below s args y 3 8 (PreOf R mc ms Pc) (PostOf Qc mc ms free) := va_backW (hh := hh) (bytes := bytes) (maxL := maxL) (ret := ret) hM hp.1 hrc hrs hfr hlo hws hcw (fun a' U hW => word_at hW (Or.inl (by first | rfl | simp [Cond.onTables, Cond.keeps, Cond.steady])) hini)
  obtain ⟨hx, hb, hml, ho, -⟩ := S
  intro T hT X
  obtain ⟨v, vm₁, ⟨U', l2, c2, s2⟩, hW₁, X', ⟨g', mk, t, L, e1, e2, hq, h1, hL, h2, h3⟩, st⟩ := vx_callSW X hx (hh := hh) (bytes := bytes) (maxL := maxL) (ret := ret) ho hl hstt hini hcode hy hK hg (hsize.trans hml.symm) (argsL := As) (rest := rest) (fun sig h => hn.trans (hlen sig h)) hstack hW (by rw [hb]; exact hdg)
    (fun vm₁ hW₁ => ⟨hf.1, hf.2, hp.2 (T.setVm vm₁) hT hW₁⟩)
  dsimp only [Pt.U, Pt.locs, Pt.cells, Pt.slots] at X' e1 e2 h1 h2 h3 st
  subst h1; subst h2; subst h3
  exact ⟨v, (T.setVm vm₁).calling g' mk As.toArray, t, U', L, hT, X', hL, e1, e2, hq, st⟩
end VXS


/-- thrown over a frame of a method whose table has one row: that row covers the place and names a class that takes it, so the walk goes on at its handler. (Our own row: the printed one names a law that rounds don't have.) -/
theorem kCatch {p : Program} {l : Launch} {e : Env} {R : Room} {s : State} {m : MethodId} {args : Array Value} {below : List Frame} {meth : Method} {c : Code} {H : Heap} {locs : List Loc} {cells slots : Nat} {Q : State → Prop} {ls : Array Slot} {rest : List Value} {pc : Nat}
    {own name E : String} {ce : Cell} {q : Addr} {x : ExceptionTableEntry} (hown : s.vm.findClass own = some m.cls) (hone : c.exceptionTable.toList = [x]) (hcov : covers x pc = true) (h0 : x.catchType ≠ 0)
    (hlink : (Cond.classLink own x.catchType name).before args s = true) (hcast : (Cond.castable E name).before args s = true) (hcell : H[q]? = some ce) (hv : ce.vm = .none) (hcl : s.vm.findClass E = some ce.cls)
    (kk : W p l e R s m args below meth c H locs cells slots Q (F0 m x.handlerPc ls [.ref q])) : vx_W p l e R s m args below meth c H locs cells slots Q (F0 m pc ls rest) q := by
  intro T hT X
  have hpl : e.platform.magicAccessors = ({} : Platform).magicAccessors := by rw [X.admits.platform]
  obtain ⟨cE, cN, hE, hN, hasg⟩ := Cond.castable_spec hcast
  obtain ⟨cL, hL, hlk⟩ := Cond.classLink_spec hown hlink e.platform hpl
  cases Option.some.inj (hE.symm.trans hcl)
  cases Option.some.inj (hN.symm.trans hL)
  obtain ⟨S, hSe⟩ : ∃ S : State, S = (T.setTop (F0 m pc ls rest)).pushFrame (.throwing q) := ⟨_, rfl⟩
  have hSv : S.vm = T.vm := by rw [hSe]; rfl
  have hSh : S.heap[q]? = some ce := by rw [hSe]; show T.heap[q]? = some ce; rw [hT]; exact hcell
  have hWS : s.WarmedH S.vm := by rw [hSv]; exact X.warmed
  have hlS : S.vm.ClassLinks e.platform m.cls x.catchType cN := hWS.classLinks hlk
  obtain ⟨hr1, hr2⟩ := (resolveClass_links e.toSetting hlS).op (op := VmOp.resolveClass m.cls x.catchType) rfl
  obtain ⟨vm1, hvm1⟩ : ∃ v : Vm, v = S.vm.noted m.cls x.catchType (.cls cN) := ⟨_, rfl⟩
  have hal : s.vm.Alike vm1 := by rw [hvm1]; exact hWS.alike.noted _ _ _
  obtain ⟨k1, hk1⟩ := Vm.classAt_of_findClass hcl
  obtain ⟨k2, hk2⟩ := Vm.classAt_of_findClass hL
  obtain ⟨k1', hk1', -⟩ := hal.2.2 _ _ hk1
  obtain ⟨k2', hk2', -⟩ := hal.2.2 _ _ hk2
  have hfit : vm1.assignable ce.cls cN = true := by rw [hal.assignable]; exact hasg
  have hns : ∀ k, ce.vm ≠ .statics k := fun k h => by rw [hv] at h; cases h
  have hcv : (decide (x.startPc ≤ pc) && decide (pc < x.endPc)) = true := hcov
  have hm : S.vm.method? m = some meth := by rw [hSv]; exact X.method'
  have hfind : ∀ (Q : Handler → Pre) (E : CtlPost) (d : Bool) (acts : List Action), wp (findHandler (F0 m pc ls rest) q) Q E e d acts S ↔ Q (.found x.handlerPc) d acts (S.setVm vm1) := by
    intro Q E d acts
    rw [W.findHandler_eq (f := F0 m pc ls rest) hm X.code, hone]
    have hcv1 : x.startPc ≤ pc ∧ pc < x.endPc := by simpa using hcv
    rw [hvm1] at hk1' hk2' hfit ⊢
    simp [findHandler.go, F0, hcv1.1, hcv1.2, h0, hr1, hr2, hSh, hns, hk1', hk2', hfit, VmOp.dirties, VmOp.acts]
  obtain ⟨dk, z1, z2, kt, hd, z3, z4, z5, z6, hkt, z7, hop⟩ := hlk.here
  have X' := X.noted (vm' := vm1) (by
    rw [hvm1, hSv]
    exact X.warmed.noted hd hop (State.rightAt_cls hlk))
  obtain ⟨t, st, hq⟩ := kk (T.setVm vm1) hT X'
  refine ⟨t, ?_, hq⟩
  obtain ⟨hgo, hwi⟩ := X.here.throwing (g := F0 m pc ls rest) q
  refine Steps.head hgo hwi ?_
  rw [stepThread_throwing (frames_entered X.here.top _)]
  have hstep : (stepThrowing e S q (.java (F0 m pc ls rest) :: T.frames.tail)).Is ((S.setVm vm1).setFrames (.java { F0 m pc ls rest with pc := x.handlerPc, stack := [.ref q] } :: T.frames.tail)) [] := by
    simp only [stepThrowing, searchFrame, vmDo]
    generalize hgo9 : Sem.go _ e false [] S = res
    obtain ⟨as, rfl, has⟩ := Sem.eq_ok_of hgo9 (a := Handler.found x.handlerPc) (s' := S.setVm vm1) (acts' := []) (by simp [hfind _ _ _ _])
    exact ⟨rfl, has⟩
  rw [← hSe, hstep.1]
  obtain ⟨g₀, hg⟩ := Option.isSome_iff_exists.mp X.here.top
  obtain ⟨r, hr⟩ := State.topJava?_eq_some.mp hg
  have hr' : (T.setVm vm1).frames = .java g₀ :: r := hr
  rw [State.setTop_of_frames _ hr'] at st
  have e1 : (S.setVm vm1).setFrames (.java { F0 m pc ls rest with pc := x.handlerPc, stack := [.ref q] } :: T.frames.tail) = (T.setVm vm1).setFrames (.java (F0 m x.handlerPc ls [.ref q]) :: r) := by
    rw [hSe, State.pushFrame, State.setTop_of_frames _ hr, hr]
    have e2 : ∀ (u : State) (F G : List Frame), ((u.setFrames F).setVm vm1).setFrames G = (u.setVm vm1).setFrames G := fun u F G => by
      rw [show (u.setFrames F).setVm vm1 = (u.setVm vm1).setFrames F from rfl, State.setFrames_setFrames]
    rw [e2, e2]
    rfl
  rw [e1]
  exact st
abbrev kNS : String := "java/util/NoSuchElementException"
abbrev kNs : List String := ["java/lang/RuntimeException", "java/lang/Exception"]
/-- what a throw needs beside the tables' good words: three declared makers, a cast, two statics of Throwable -/
def kThr (A : Nat → Prop) (U : State) : Prop := va_Nw (.declares (Bundle.init0 "java/lang/RuntimeException")) U ∧ va_Nw (.declares (Bundle.init0 "java/lang/Exception")) U ∧ va_Nw (.declares (Bundle.init0 Bundle.tN)) U ∧ va_Nw (.castable kNS kNS) U ∧ vx_Zq Bundle.tN "UNASSIGNED_STACK" Bundle.steD A U U.heap ∧ vx_Zq Bundle.tN "SUPPRESSED_SENTINEL" Bundle.listD A U U.heap
theorem kThr_blind {A : Nat → Prop} : ∀ (U : State) (g : JFrame) (mk : MethodId) (a : Array Value), kThr A U → kThr A (U.calling g mk a) := fun U _ _ _ h => by
  obtain ⟨h1, h2, h3, h4, h5, h6⟩ := h
  exact ⟨va_Nw.same (u := U) rfl rfl h1, va_Nw.same (u := U) rfl rfl h2, va_Nw.same (u := U) rfl rfl h3, va_Nw.same (u := U) rfl rfl h4, vx_Zq.moved (u := U) (Vm.Alike.refl U.vm) h5, vx_Zq.moved (u := U) (Vm.Alike.refl U.vm) h6⟩
theorem kThr_give {A : Nat → Prop} {s : State} {H : Heap} {locs : List Loc} (h : kThr A s) (hS : va_S A s.heap H locs) : ∀ U : State, U.heap = H → s.WarmedH U.vm → kThr A U := fun U hU hW => by
  obtain ⟨h1, h2, h3, h4, h5, h6⟩ := h
  have hq : ∀ a : Nat, a < s.heap.size → ¬ A a → U.heap[a]? = s.heap[a]? := fun a z1 z2 => by rw [hU]; exact hS.2.1 a z1 z2
  exact ⟨va_Nw.warmD hW h1, va_Nw.warmD hW h2, va_Nw.warmD hW h3, va_Nw.warmC hW h4, vx_Zq.moved hW.alike (h5.kept hq), vx_Zq.moved hW.alike (h6.kept hq)⟩
def kBadL : List Cond := [.declares (Bundle.init0 "java/lang/RuntimeException"), .declares (Bundle.init0 "java/lang/Exception"), .declares (Bundle.init0 Bundle.tN), .castable kNS kNS]
theorem kBadL_in : ∀ w ∈ (vx_at0 RX9 144 kNS kNs).filter (fun w => !goodWord w), w ∈ kBadL := by decide +kernel
theorem kThr_bad {A : Nat → Prop} {s : State} {args : Array Value} (h : kThr A s) : ∀ w ∈ kBadL, w.before args s = true := by
  obtain ⟨h1, h2, h3, h4, -, -⟩ := h
  exact vx_c (va_Nw.use rfl h1) (vx_c (va_Nw.use rfl h2) (vx_c (va_Nw.use rfl h3) (vx_c (va_Nw.use rfl h4) vx_n)))
theorem kThr_ot : ∀ w ∈ Cond.classLink RX9 142 kNS :: Cond.initialized kNS :: vx_at0 RX9 144 kNS kNs, vx_ot w = true := by decide +kernel

/-- the shelves, and what a throw needs -/
def kPubT (dC : Nat → ClassId) (dI : Nat → Nat → Nat) (kl : Nat) (gL : Nat → Option Nat) (yL : Nat → List kTr) (ku : Nat) (gU : Nat → Option Nat) (yU : Nat → List kTr) (A : Nat → Prop) (U : State) : Prop := kPub dC dI kl gL yL ku gU yU A U ∧ kThr A U
theorem kThr_narrow {A B : Nat → Prop} {U : State} (h : kThr A U) (hB : ∀ q, B q → A q) : kThr B U := ⟨h.1, h.2.1, h.2.2.1, h.2.2.2.1, h.2.2.2.2.1.narrow hB, h.2.2.2.2.2.narrow hB⟩
theorem kPubT_blind {dC : Nat → ClassId} {dI : Nat → Nat → Nat} {kl : Nat} {gL : Nat → Option Nat} {yL : Nat → List kTr} {ku : Nat} {gU : Nat → Option Nat} {yU : Nat → List kTr} {A : Nat → Prop} : ∀ (U : State) (g : JFrame) (mk : MethodId) (a : Array Value), kPubT dC dI kl gL yL ku gU yU A U → kPubT dC dI kl gL yL ku gU yU A (U.calling g mk a) := fun U g mk a h => ⟨kPub_blind U g mk a h.1, kThr_blind U g mk a h.2⟩
theorem kPubT_give {dC : Nat → ClassId} {dI : Nat → Nat → Nat} {kl : Nat} {gL : Nat → Option Nat} {yL : Nat → List kTr} {ku : Nat} {gU : Nat → Option Nat} {yU : Nat → List kTr} {A B : Nat → Prop} {s : State} {H : Heap} {locs : List Loc} (h : kPubT dC dI kl gL yL ku gU yU A s) (hS : va_S A s.heap H locs) (hB : ∀ q, B q → A q) : ∀ U : State, U.heap = H → s.WarmedH U.vm → kPubT dC dI kl gL yL ku gU yU B U := fun U hU hW => ⟨kPub_give h.1 hS hB U hU hW, kThr_narrow (kThr_give h.2 hS U hU hW) hB⟩
def kAtF : List Cond := (vx_at0 RX9 144 kNS kNs).filter goodWord
theorem gw_kAtF : (kAtF).all goodWord = true := by decide +kernel

theorem dX9_worth_0 : decode cX9_worth 0 = .ok (.aload_n 0, 1) := kDs0 kf_42 (by decide +kernel)
theorem dX9_worth_1 : decode cX9_worth 1 = .ok (.getfield 37, 3) := kDs2 kf_180 (by decide +kernel)
theorem dX9_worth_4 : decode cX9_worth 4 = .ok (.iload_n 1, 1) := kDs0 kf_27 (by decide +kernel)
theorem dX9_worth_5 : decode cX9_worth 5 = .ok (.invokevirtual 138, 3) := kDs2 kf_182 (by decide +kernel)
theorem dX9_worth_8 : decode cX9_worth 8 = .ok (.astore 4, 2) := kDs1 kf_58 (by decide +kernel)
theorem dX9_worth_10 : decode cX9_worth 10 = .ok (.aload 4, 2) := kDs1 kf_25 (by decide +kernel)
theorem dX9_worth_12 : decode cX9_worth 12 = .ok (.ifnull 23, 3) := kDs4 kf_198 (by decide +kernel)
theorem dX9_worth_35 : decode cX9_worth 35 = .ok (.new 142, 3) := kDs2 kf_187 (by decide +kernel)
theorem dX9_worth_38 : decode cX9_worth 38 = .ok (.dup, 1) := kDs0 kf_89 (by decide +kernel)
theorem dX9_worth_39 : decode cX9_worth 39 = .ok (.invokespecial 144, 3) := kDs2 kf_183 (by decide +kernel)
theorem dX9_worth_42 : decode cX9_worth 42 = .ok (.athrow, 1) := kDs0 kf_191 (by decide +kernel)
theorem dX9_worth_15 : decode cX9_worth 15 = .ok (.iload_n 2, 1) := kDs0 kf_28 (by decide +kernel)
theorem dX9_worth_16 : decode cX9_worth 16 = .ok (.iconst 0, 1) := kDs0 kf_3 (by decide +kernel)
theorem dX9_worth_17 : decode cX9_worth 17 = .ok (.iconst 2, 1) := kDs0 kf_5 (by decide +kernel)
theorem dX9_worth_18 : decode cX9_worth 18 = .ok (.invokestatic 117, 3) := kDs2 kf_184 (by decide +kernel)
theorem dX9_worth_21 : decode cX9_worth 21 = .ok (.ifCond .eq 14, 3) := kDs4 kf_153 (by decide +kernel)
theorem dX9_worth_24 : decode cX9_worth 24 = .ok (.aload_n 0, 1) := kDs0 kf_42 (by decide +kernel)
theorem dX9_worth_25 : decode cX9_worth 25 = .ok (.getfield 47, 3) := kDs2 kf_180 (by decide +kernel)
theorem dX9_worth_28 : decode cX9_worth 28 = .ok (.iload_n 3, 1) := kDs0 kf_29 (by decide +kernel)
theorem dX9_worth_29 : decode cX9_worth 29 = .ok (.invokevirtual 128, 3) := kDs2 kf_182 (by decide +kernel)
theorem dX9_worth_32 : decode cX9_worth 32 = .ok (.ifCond .ne 11, 3) := kDs4 kf_154 (by decide +kernel)
theorem dX9_worth_43 : decode cX9_worth 43 = .ok (.aload_n 0, 1) := kDs0 kf_42 (by decide +kernel)
theorem dX9_worth_44 : decode cX9_worth 44 = .ok (.getfield 56, 3) := kDs2 kf_180 (by decide +kernel)
theorem dX9_worth_47 : decode cX9_worth 47 = .ok (.aload 4, 2) := kDs1 kf_25 (by decide +kernel)
theorem dX9_worth_49 : decode cX9_worth 49 = .ok (.lconst 0, 1) := kDs0 kf_9 (by decide +kernel)
theorem dX9_worth_50 : decode cX9_worth 50 = .ok (.iconst 0, 1) := kDs0 kf_3 (by decide +kernel)
theorem dX9_worth_51 : decode cX9_worth 51 = .ok (.invokevirtual 145, 3) := kDs2 kf_182 (by decide +kernel)
theorem dX9_worth_54 : decode cX9_worth 54 = .ok (.aload_n 0, 1) := kDs0 kf_42 (by decide +kernel)
theorem dX9_worth_55 : decode cX9_worth 55 = .ok (.getfield 56, 3) := kDs2 kf_180 (by decide +kernel)
theorem dX9_worth_58 : decode cX9_worth 58 = .ok (.iload_n 2, 1) := kDs0 kf_28 (by decide +kernel)
theorem dX9_worth_59 : decode cX9_worth 59 = .ok (.iload_n 3, 1) := kDs0 kf_29 (by decide +kernel)
theorem dX9_worth_60 : decode cX9_worth 60 = .ok (.invokevirtual 149, 3) := kDs2 kf_182 (by decide +kernel)
theorem dX9_worth_63 : decode cX9_worth 63 = .ok (.ireturn, 1) := kDs0 kf_172 (by decide +kernel)
def w_s_worth9 : List Cond := .code yX9_worth cX9_worth 5 (some .int) :: ([.fieldLink RX9 37 "NotEnded" "laws" "LNotEnded$Shelf;", .initialized RX7, .selects RX7 yX7_at yX7_at, .instanceMethod yX7_at, .methodLink RX9 138 yX7_at, .classLink RX9 142 "java/util/NoSuchElementException", .initialized "java/util/NoSuchElementException", .initialized RX9, .static yX9_isIn, .methodLink RX9 117 yX9_isIn, .fieldLink RX9 47 "NotEnded" "folk" "LNotEnded$Folk;", .initialized RX2, .selects RX2 yX2_has yX2_has, .instanceMethod yX2_has, .methodLink RX9 128 yX2_has, .fieldLink RX9 56 "NotEnded" "course" "LNotEnded$Course;", .initialized RX1, .selects RX1 yX1_begin yX1_begin, .instanceMethod yX1_begin, .methodLink RX9 145 yX1_begin, .selects RX1 yX1_worthNow yX1_worthNow, .instanceMethod yX1_worthNow, .methodLink RX9 149 yX1_worthNow] ++ (wsX90 ++ (w_s_at7 ++ (kAtF ++ (w_s_isIn9 ++ (w_s_has2 ++ (w_s_begin1 ++ (w_s_worthNow1))))))))
theorem gw_s_worth9 : (w_s_worth9).all goodWord = true := kGc rfl (kGa (by decide +kernel) (kGa gw_wsX90 (kGa gw_s_at7 (kGa gw_kAtF (kGa gw_s_isIn9 (kGa gw_s_has2 (kGa gw_s_begin1 gw_s_worthNow1)))))))
theorem hd_X9_worth : yX9_worth.cls ≠ "java/lang/invoke/MethodHandle" ∧ yX9_worth.cls ≠ "java/lang/invoke/VarHandle" ∧ (parseMethodDescriptor yX9_worth.desc).map (fun d => d.parameters.length) = some 3 := by decide +kernel
set_option maxHeartbeats 4000000 in
set_option maxRecDepth 100000 in
theorem s_worth9 (l : Launch) (hlt : l.stackTraces = false) (dC : Nat → ClassId) (dI : Nat → Nat → Nat) (jX : Nat) (jT : Nat) (jR : Nat) (jL : Nat) (jU : Nat) (hN : Nat) (jA : Nat) (sd : Nat) (jC : Nat) (d2 : Nat) (d3 : Nat) (d4 : Nat) (d5 : Nat) (d6 : Nat) (d7 : Nat) (d8 : Nat) (d9 : Nat) (d10 : Nat) (d11 : Nat) (d12 : Nat) (d13 : Nat) (w2 : ClassId) (w3 : ClassId) (w4 : ClassId) (w5 : ClassId) (w6 : ClassId) (w7 : ClassId) (w8 : ClassId) (w9 : ClassId) (w10 : ClassId) (w11 : ClassId) (w12 : ClassId) (w13 : ClassId) (e2 : Nat → Int32) (e3 : Nat → Int32) (e4 : Nat → Int32) (e5 : Nat → Int32) (e6 : Nat → Int32) (e7 : Nat → Int32) (e8 : Nat → Int32) (e9 : Nat → Int32) (e10 : Nat → Int32) (e11 : Nat → Int32) (e12 : Nat → Int32) (e13 : Nat → Int64) (dr : Int64) (pr : Int32) (mo : Int32) (ho : Int32) (hF : Nat) (f0 : Nat) (f1 : Nat) (f2 : Nat) (f3 : Nat) (f4 : Nat) (z0 : ClassId) (z1 : ClassId) (z2 : ClassId) (z3 : ClassId) (z4 : ClassId) (g0 : Nat → Int32) (g1 : Nat → Int32) (g2 : Nat → Int32) (g3 : Nat → Int32) (g4 : Nat → Int32) (ks : Nat) (kw : Nat) (hks : ks ≤ 10) (hkw : kw ≤ 4) (sv : Nat) (hsv : sv < 1024) (jK : Nat) (k0 : Nat) (k1 : Nat) (cK : ClassId) (cO : ClassId) (l0 : Nat → Int32) (l1 : Nat → Int32) (o0 : Nat) (o1 : Nat) (o2 : Nat) (o3 : Nat) (o4 : Nat) (y0 : ClassId) (y1 : ClassId) (y2 : ClassId) (y3 : ClassId) (y4 : ClassId) (q0 : Nat → Int32) (q1 : Nat → Int32) (q2 : Nat → Int32) (q3 : Nat → Int32) (q4 : Nat → Int32) (kn : Nat) (hkn : kn ≤ 20) (i0 : Nat) (i1 : Nat) (i2 : Nat) (i3 : Nat) (x0 : ClassId) (x1 : ClassId) (x2 : ClassId) (x3 : ClassId) (t0 : Nat → Int32) (t1 : Nat → Int32) (t2 : Nat → Int32) (t3 : Nat → Int32) (ka : Nat) (hka : ka ≤ 6) (lw : Value) (rL : Nat) (cL : ClassId) (gL : Nat → Option Nat) (kl : Nat) (hkl : kl ≤ 6) (yL : Nat → List kTr) (rU : Nat) (cU : ClassId) (gU : Nat → Option Nat) (ku : Nat) (hku : ku ≤ 8) (yU : Nat → List kTr) (cD : ClassId) (gD : Nat → Int32) (p0 : Int32) (p1 : Int32) (p2 : Int32) (sz : Nat) : vx_Met l yX9_worth w_s_worth9 ({ frames := 10, cells := 1, slots := 6, locals := 600 }) (kW dC dI [.ref jX, .int p0, .int p1, .int p2] [(jX, .inr (9, [.ref jT, .ref jR, .ref jK, .ref jL, .ref jU, .ref hF, .ref jC, .ref hN, .ref jA, .ref sd])), (jC, .inr (1, [.ref hF, .ref jK, .ref d2, .ref d3, .ref d4, .ref d5, .ref d6, .ref d7, .ref d8, .ref d9, .ref d10, .ref d11, .ref d12, .ref d13, lw, .long dr, .int pr, .int mo, .int ho])), (d2, .inl (w2, 10, .inl e2)), (d3, .inl (w3, 10, .inl e3)), (d4, .inl (w4, 10, .inl e4)), (d5, .inl (w5, 10, .inl e5)), (d6, .inl (w6, 10, .inl e6)), (d7, .inl (w7, 10, .inl e7)), (d8, .inl (w8, 10, .inl e8)), (d9, .inl (w9, 10, .inl e9)), (d10, .inl (w10, 4, .inl e10)), (d11, .inl (w11, 4, .inl e11)), (d12, .inl (w12, 4, .inl e12)), (d13, .inl (w13, 9, .inr (.inl e13))), (hF, .inr (2, [.ref f0, .ref f1, .ref f2, .ref f3, .ref f4, .int (nI (sv)), .int (nI (ks)), .int (nI (kw))])), (f0, .inl (z0, 10, .inl g0)), (f1, .inl (z1, 10, .inl g1)), (f2, .inl (z2, 10, .inl g2)), (f3, .inl (z3, 10, .inl g3)), (f4, .inl (z4, 4, .inl g4)), (jK, .inr (5, [.ref k0, .ref k1])), (k0, .inl (cK, 8, .inl l0)), (k1, .inl (cO, 32, .inl l1)), (hN, .inr (3, [.ref o0, .ref o1, .ref o2, .ref o3, .ref o4, .int (nI (kn))])), (o0, .inl (y0, 20, .inl q0)), (o1, .inl (y1, 20, .inl q1)), (o2, .inl (y2, 20, .inl q2)), (o3, .inl (y3, 20, .inl q3)), (o4, .inl (y4, 20, .inl q4)), (jA, .inr (0, [.ref i0, .ref i1, .ref i2, .ref i3, .int (nI (ka))])), (i0, .inl (x0, 6, .inl t0)), (i1, .inl (x1, 6, .inl t1)), (i2, .inl (x2, 6, .inl t2)), (i3, .inl (x3, 6, .inl t3)), (jL, .inr (7, [.ref rL, .int (nI (kl))])), (rL, .inl (cL, 6, .inr (.inr (.inr (.inr gL))))), (jU, .inr (7, [.ref rU, .int (nI (ku))])), (rU, .inl (cU, 8, .inr (.inr (.inr (.inr gU))))), (sd, .inl (cD, 10, .inl gD))] [(w2, .int), (w3, .int), (w4, .int), (w5, .int), (w6, .int), (w7, .int), (w8, .int), (w9, .int), (w10, .int), (w11, .int), (w12, .int), (w13, .long), (z0, .int), (z1, .int), (z2, .int), (z3, .int), (z4, .int), (cK, .int), (cO, .int), (y0, .int), (y1, .int), (y2, .int), (y3, .int), (y4, .int), (x0, .int), (x1, .int), (x2, .int), (x3, .int), (cL, .object RX6), (cU, .object RX6), (cD, .int)] (kPubT dC dI kl gL yL ku gU yU (va_A [(jX, .inr (9, [.ref jT, .ref jR, .ref jK, .ref jL, .ref jU, .ref hF, .ref jC, .ref hN, .ref jA, .ref sd])), (jC, .inr (1, [.ref hF, .ref jK, .ref d2, .ref d3, .ref d4, .ref d5, .ref d6, .ref d7, .ref d8, .ref d9, .ref d10, .ref d11, .ref d12, .ref d13, lw, .long dr, .int pr, .int mo, .int ho])), (d2, .inl (w2, 10, .inl e2)), (d3, .inl (w3, 10, .inl e3)), (d4, .inl (w4, 10, .inl e4)), (d5, .inl (w5, 10, .inl e5)), (d6, .inl (w6, 10, .inl e6)), (d7, .inl (w7, 10, .inl e7)), (d8, .inl (w8, 10, .inl e8)), (d9, .inl (w9, 10, .inl e9)), (d10, .inl (w10, 4, .inl e10)), (d11, .inl (w11, 4, .inl e11)), (d12, .inl (w12, 4, .inl e12)), (d13, .inl (w13, 9, .inr (.inl e13))), (hF, .inr (2, [.ref f0, .ref f1, .ref f2, .ref f3, .ref f4, .int (nI (sv)), .int (nI (ks)), .int (nI (kw))])), (f0, .inl (z0, 10, .inl g0)), (f1, .inl (z1, 10, .inl g1)), (f2, .inl (z2, 10, .inl g2)), (f3, .inl (z3, 10, .inl g3)), (f4, .inl (z4, 4, .inl g4)), (jK, .inr (5, [.ref k0, .ref k1])), (k0, .inl (cK, 8, .inl l0)), (k1, .inl (cO, 32, .inl l1)), (hN, .inr (3, [.ref o0, .ref o1, .ref o2, .ref o3, .ref o4, .int (nI (kn))])), (o0, .inl (y0, 20, .inl q0)), (o1, .inl (y1, 20, .inl q1)), (o2, .inl (y2, 20, .inl q2)), (o3, .inl (y3, 20, .inl q3)), (o4, .inl (y4, 20, .inl q4)), (jA, .inr (0, [.ref i0, .ref i1, .ref i2, .ref i3, .int (nI (ka))])), (i0, .inl (x0, 6, .inl t0)), (i1, .inl (x1, 6, .inl t1)), (i2, .inl (x2, 6, .inl t2)), (i3, .inl (x3, 6, .inl t3)), (jL, .inr (7, [.ref rL, .int (nI (kl))])), (rL, .inl (cL, 6, .inr (.inr (.inr (.inr gL))))), (jU, .inr (7, [.ref rU, .int (nI (ku))])), (rU, .inl (cU, 8, .inr (.inr (.inr (.inr gU))))), (sd, .inl (cD, 10, .inl gD))] sz)) sz) (va_Qi (fun (r : Int32) (u : (Nat → Int32) × (Nat → Int32) × (Nat → Int32) × (Nat → Int32) × (Nat → Int32) × (Nat → Int32) × (Nat → Int32) × (Nat → Int32) × (Nat → Int32) × (Nat → Int32) × (Nat → Int32) × (Nat → Int64) × (Nat → Int32) × (Nat → Int32) × Int32 × Int32 × Int32 × Int64 × Value) => match u with | (E2, E3, E4, E5, E6, E7, E8, E9, E10, E11, E12, E13, L0, L1, Pr, Mo, Ho, Dr, Lw) => True) (fun (u : (Nat → Int32) × (Nat → Int32) × (Nat → Int32) × (Nat → Int32) × (Nat → Int32) × (Nat → Int32) × (Nat → Int32) × (Nat → Int32) × (Nat → Int32) × (Nat → Int32) × (Nat → Int32) × (Nat → Int64) × (Nat → Int32) × (Nat → Int32) × Int32 × Int32 × Int32 × Int64 × Value) => match u with | (E2, E3, E4, E5, E6, E7, E8, E9, E10, E11, E12, E13, L0, L1, Pr, Mo, Ho, Dr, Lw) => fun t : State => kB dC dI [(jX, .inr (9, [.ref jT, .ref jR, .ref jK, .ref jL, .ref jU, .ref hF, .ref jC, .ref hN, .ref jA, .ref sd])), (jC, .inr (1, [.ref hF, .ref jK, .ref d2, .ref d3, .ref d4, .ref d5, .ref d6, .ref d7, .ref d8, .ref d9, .ref d10, .ref d11, .ref d12, .ref d13, Lw, .long Dr, .int Pr, .int Mo, .int Ho])), (d2, .inl (w2, 10, .inl E2)), (d3, .inl (w3, 10, .inl E3)), (d4, .inl (w4, 10, .inl E4)), (d5, .inl (w5, 10, .inl E5)), (d6, .inl (w6, 10, .inl E6)), (d7, .inl (w7, 10, .inl E7)), (d8, .inl (w8, 10, .inl E8)), (d9, .inl (w9, 10, .inl E9)), (d10, .inl (w10, 4, .inl E10)), (d11, .inl (w11, 4, .inl E11)), (d12, .inl (w12, 4, .inl E12)), (d13, .inl (w13, 9, .inr (.inl E13))), (hF, .inr (2, [.ref f0, .ref f1, .ref f2, .ref f3, .ref f4, .int (nI (sv)), .int (nI (ks)), .int (nI (kw))])), (f0, .inl (z0, 10, .inl g0)), (f1, .inl (z1, 10, .inl g1)), (f2, .inl (z2, 10, .inl g2)), (f3, .inl (z3, 10, .inl g3)), (f4, .inl (z4, 4, .inl g4)), (jK, .inr (5, [.ref k0, .ref k1])), (k0, .inl (cK, 8, .inl L0)), (k1, .inl (cO, 32, .inl L1)), (hN, .inr (3, [.ref o0, .ref o1, .ref o2, .ref o3, .ref o4, .int (nI (kn))])), (o0, .inl (y0, 20, .inl q0)), (o1, .inl (y1, 20, .inl q1)), (o2, .inl (y2, 20, .inl q2)), (o3, .inl (y3, 20, .inl q3)), (o4, .inl (y4, 20, .inl q4)), (jA, .inr (0, [.ref i0, .ref i1, .ref i2, .ref i3, .int (nI (ka))])), (i0, .inl (x0, 6, .inl t0)), (i1, .inl (x1, 6, .inl t1)), (i2, .inl (x2, 6, .inl t2)), (i3, .inl (x3, 6, .inl t3)), (jL, .inr (7, [.ref rL, .int (nI (kl))])), (rL, .inl (cL, 6, .inr (.inr (.inr (.inr gL))))), (jU, .inr (7, [.ref rU, .int (nI (ku))])), (rU, .inl (cU, 8, .inr (.inr (.inr (.inr gU))))), (sd, .inl (cD, 10, .inl gD))] [(w2, .int), (w3, .int), (w4, .int), (w5, .int), (w6, .int), (w7, .int), (w8, .int), (w9, .int), (w10, .int), (w11, .int), (w12, .int), (w13, .long), (z0, .int), (z1, .int), (z2, .int), (z3, .int), (z4, .int), (cK, .int), (cO, .int), (y0, .int), (y1, .int), (y2, .int), (y3, .int), (y4, .int), (x0, .int), (x1, .int), (x2, .int), (x3, .int), (cL, .object RX6), (cU, .object RX6), (cD, .int)] (va_A [(jX, .inr (9, [.ref jT, .ref jR, .ref jK, .ref jL, .ref jU, .ref hF, .ref jC, .ref hN, .ref jA, .ref sd])), (jC, .inr (1, [.ref hF, .ref jK, .ref d2, .ref d3, .ref d4, .ref d5, .ref d6, .ref d7, .ref d8, .ref d9, .ref d10, .ref d11, .ref d12, .ref d13, lw, .long dr, .int pr, .int mo, .int ho])), (d2, .inl (w2, 10, .inl e2)), (d3, .inl (w3, 10, .inl e3)), (d4, .inl (w4, 10, .inl e4)), (d5, .inl (w5, 10, .inl e5)), (d6, .inl (w6, 10, .inl e6)), (d7, .inl (w7, 10, .inl e7)), (d8, .inl (w8, 10, .inl e8)), (d9, .inl (w9, 10, .inl e9)), (d10, .inl (w10, 4, .inl e10)), (d11, .inl (w11, 4, .inl e11)), (d12, .inl (w12, 4, .inl e12)), (d13, .inl (w13, 9, .inr (.inl e13))), (hF, .inr (2, [.ref f0, .ref f1, .ref f2, .ref f3, .ref f4, .int (nI (sv)), .int (nI (ks)), .int (nI (kw))])), (f0, .inl (z0, 10, .inl g0)), (f1, .inl (z1, 10, .inl g1)), (f2, .inl (z2, 10, .inl g2)), (f3, .inl (z3, 10, .inl g3)), (f4, .inl (z4, 4, .inl g4)), (jK, .inr (5, [.ref k0, .ref k1])), (k0, .inl (cK, 8, .inl l0)), (k1, .inl (cO, 32, .inl l1)), (hN, .inr (3, [.ref o0, .ref o1, .ref o2, .ref o3, .ref o4, .int (nI (kn))])), (o0, .inl (y0, 20, .inl q0)), (o1, .inl (y1, 20, .inl q1)), (o2, .inl (y2, 20, .inl q2)), (o3, .inl (y3, 20, .inl q3)), (o4, .inl (y4, 20, .inl q4)), (jA, .inr (0, [.ref i0, .ref i1, .ref i2, .ref i3, .int (nI (ka))])), (i0, .inl (x0, 6, .inl t0)), (i1, .inl (x1, 6, .inl t1)), (i2, .inl (x2, 6, .inl t2)), (i3, .inl (x3, 6, .inl t3)), (jL, .inr (7, [.ref rL, .int (nI (kl))])), (rL, .inl (cL, 6, .inr (.inr (.inr (.inr gL))))), (jU, .inr (7, [.ref rU, .int (nI (ku))])), (rU, .inl (cU, 8, .inr (.inr (.inr (.inr gU))))), (sd, .inl (cD, 10, .inl gD))] sz) t) (va_A [(jX, .inr (9, [.ref jT, .ref jR, .ref jK, .ref jL, .ref jU, .ref hF, .ref jC, .ref hN, .ref jA, .ref sd])), (jC, .inr (1, [.ref hF, .ref jK, .ref d2, .ref d3, .ref d4, .ref d5, .ref d6, .ref d7, .ref d8, .ref d9, .ref d10, .ref d11, .ref d12, .ref d13, lw, .long dr, .int pr, .int mo, .int ho])), (d2, .inl (w2, 10, .inl e2)), (d3, .inl (w3, 10, .inl e3)), (d4, .inl (w4, 10, .inl e4)), (d5, .inl (w5, 10, .inl e5)), (d6, .inl (w6, 10, .inl e6)), (d7, .inl (w7, 10, .inl e7)), (d8, .inl (w8, 10, .inl e8)), (d9, .inl (w9, 10, .inl e9)), (d10, .inl (w10, 4, .inl e10)), (d11, .inl (w11, 4, .inl e11)), (d12, .inl (w12, 4, .inl e12)), (d13, .inl (w13, 9, .inr (.inl e13))), (hF, .inr (2, [.ref f0, .ref f1, .ref f2, .ref f3, .ref f4, .int (nI (sv)), .int (nI (ks)), .int (nI (kw))])), (f0, .inl (z0, 10, .inl g0)), (f1, .inl (z1, 10, .inl g1)), (f2, .inl (z2, 10, .inl g2)), (f3, .inl (z3, 10, .inl g3)), (f4, .inl (z4, 4, .inl g4)), (jK, .inr (5, [.ref k0, .ref k1])), (k0, .inl (cK, 8, .inl l0)), (k1, .inl (cO, 32, .inl l1)), (hN, .inr (3, [.ref o0, .ref o1, .ref o2, .ref o3, .ref o4, .int (nI (kn))])), (o0, .inl (y0, 20, .inl q0)), (o1, .inl (y1, 20, .inl q1)), (o2, .inl (y2, 20, .inl q2)), (o3, .inl (y3, 20, .inl q3)), (o4, .inl (y4, 20, .inl q4)), (jA, .inr (0, [.ref i0, .ref i1, .ref i2, .ref i3, .int (nI (ka))])), (i0, .inl (x0, 6, .inl t0)), (i1, .inl (x1, 6, .inl t1)), (i2, .inl (x2, 6, .inl t2)), (i3, .inl (x3, 6, .inl t3)), (jL, .inr (7, [.ref rL, .int (nI (kl))])), (rL, .inl (cL, 6, .inr (.inr (.inr (.inr gL))))), (jU, .inr (7, [.ref rU, .int (nI (ku))])), (rU, .inl (cU, 8, .inr (.inr (.inr (.inr gU))))), (sd, .inl (cD, 10, .inl gD))] sz)) (vx_X (fun _ : Unit => True) (fun E _ _ => E = kNS) (fun _ => False)) 1 6 (va_A [(jX, .inr (9, [.ref jT, .ref jR, .ref jK, .ref jL, .ref jU, .ref hF, .ref jC, .ref hN, .ref jA, .ref sd])), (jC, .inr (1, [.ref hF, .ref jK, .ref d2, .ref d3, .ref d4, .ref d5, .ref d6, .ref d7, .ref d8, .ref d9, .ref d10, .ref d11, .ref d12, .ref d13, lw, .long dr, .int pr, .int mo, .int ho])), (d2, .inl (w2, 10, .inl e2)), (d3, .inl (w3, 10, .inl e3)), (d4, .inl (w4, 10, .inl e4)), (d5, .inl (w5, 10, .inl e5)), (d6, .inl (w6, 10, .inl e6)), (d7, .inl (w7, 10, .inl e7)), (d8, .inl (w8, 10, .inl e8)), (d9, .inl (w9, 10, .inl e9)), (d10, .inl (w10, 4, .inl e10)), (d11, .inl (w11, 4, .inl e11)), (d12, .inl (w12, 4, .inl e12)), (d13, .inl (w13, 9, .inr (.inl e13))), (hF, .inr (2, [.ref f0, .ref f1, .ref f2, .ref f3, .ref f4, .int (nI (sv)), .int (nI (ks)), .int (nI (kw))])), (f0, .inl (z0, 10, .inl g0)), (f1, .inl (z1, 10, .inl g1)), (f2, .inl (z2, 10, .inl g2)), (f3, .inl (z3, 10, .inl g3)), (f4, .inl (z4, 4, .inl g4)), (jK, .inr (5, [.ref k0, .ref k1])), (k0, .inl (cK, 8, .inl l0)), (k1, .inl (cO, 32, .inl l1)), (hN, .inr (3, [.ref o0, .ref o1, .ref o2, .ref o3, .ref o4, .int (nI (kn))])), (o0, .inl (y0, 20, .inl q0)), (o1, .inl (y1, 20, .inl q1)), (o2, .inl (y2, 20, .inl q2)), (o3, .inl (y3, 20, .inl q3)), (o4, .inl (y4, 20, .inl q4)), (jA, .inr (0, [.ref i0, .ref i1, .ref i2, .ref i3, .int (nI (ka))])), (i0, .inl (x0, 6, .inl t0)), (i1, .inl (x1, 6, .inl t1)), (i2, .inl (x2, 6, .inl t2)), (i3, .inl (x3, 6, .inl t3)), (jL, .inr (7, [.ref rL, .int (nI (kl))])), (rL, .inl (cL, 6, .inr (.inr (.inr (.inr gL))))), (jU, .inr (7, [.ref rU, .int (nI (ku))])), (rU, .inl (cU, 8, .inr (.inr (.inr (.inr gU))))), (sd, .inl (cD, 10, .inl gD))] sz) := by
  refine vx_ofW (cc := cX9_worth) (maxL := 5) (ret := (some .int)) (by decide) rfl ?_
  intro p e s m args below meth c s₁ B hml hnt hv
  obtain ⟨rfl, hsz, hP, hK, hD0, hX⟩ := hv
  have hx := B.exec
  have hb := B.bytes
  have hr := B.returns
  have hts := atoms_spec (ws := w_s_worth9) B.pre
  have hown : s.vm.findClass RX9 = some m.cls := findClass_of_methodNamed B.named
  have hlocks := B.notSynchronized
  subst hsz
  have hD := hD0.self (sz := s.heap.size)
  generalize hAe : va_A [(jX, .inr (9, [.ref jT, .ref jR, .ref jK, .ref jL, .ref jU, .ref hF, .ref jC, .ref hN, .ref jA, .ref sd])), (jC, .inr (1, [.ref hF, .ref jK, .ref d2, .ref d3, .ref d4, .ref d5, .ref d6, .ref d7, .ref d8, .ref d9, .ref d10, .ref d11, .ref d12, .ref d13, lw, .long dr, .int pr, .int mo, .int ho])), (d2, .inl (w2, 10, .inl e2)), (d3, .inl (w3, 10, .inl e3)), (d4, .inl (w4, 10, .inl e4)), (d5, .inl (w5, 10, .inl e5)), (d6, .inl (w6, 10, .inl e6)), (d7, .inl (w7, 10, .inl e7)), (d8, .inl (w8, 10, .inl e8)), (d9, .inl (w9, 10, .inl e9)), (d10, .inl (w10, 4, .inl e10)), (d11, .inl (w11, 4, .inl e11)), (d12, .inl (w12, 4, .inl e12)), (d13, .inl (w13, 9, .inr (.inl e13))), (hF, .inr (2, [.ref f0, .ref f1, .ref f2, .ref f3, .ref f4, .int (nI (sv)), .int (nI (ks)), .int (nI (kw))])), (f0, .inl (z0, 10, .inl g0)), (f1, .inl (z1, 10, .inl g1)), (f2, .inl (z2, 10, .inl g2)), (f3, .inl (z3, 10, .inl g3)), (f4, .inl (z4, 4, .inl g4)), (jK, .inr (5, [.ref k0, .ref k1])), (k0, .inl (cK, 8, .inl l0)), (k1, .inl (cO, 32, .inl l1)), (hN, .inr (3, [.ref o0, .ref o1, .ref o2, .ref o3, .ref o4, .int (nI (kn))])), (o0, .inl (y0, 20, .inl q0)), (o1, .inl (y1, 20, .inl q1)), (o2, .inl (y2, 20, .inl q2)), (o3, .inl (y3, 20, .inl q3)), (o4, .inl (y4, 20, .inl q4)), (jA, .inr (0, [.ref i0, .ref i1, .ref i2, .ref i3, .int (nI (ka))])), (i0, .inl (x0, 6, .inl t0)), (i1, .inl (x1, 6, .inl t1)), (i2, .inl (x2, 6, .inl t2)), (i3, .inl (x3, 6, .inl t3)), (jL, .inr (7, [.ref rL, .int (nI (kl))])), (rL, .inl (cL, 6, .inr (.inr (.inr (.inr gL))))), (jU, .inr (7, [.ref rU, .int (nI (ku))])), (rU, .inl (cU, 8, .inr (.inr (.inr (.inr gU))))), (sd, .inl (cD, 10, .inl gD))] s.heap.size = A at hD hX ⊢
  have hA : ∀ q : Nat, s.heap.size ≤ q → A q := fun q h => by rw [← hAe]; exact Or.inr h
  have hS : va_S A s.heap s.heap [] := va_S.rf
  have hP : va_P (dC, dI) vwCl [(jX, .inr (9, [.ref jT, .ref jR, .ref jK, .ref jL, .ref jU, .ref hF, .ref jC, .ref hN, .ref jA, .ref sd])), (jC, .inr (1, [.ref hF, .ref jK, .ref d2, .ref d3, .ref d4, .ref d5, .ref d6, .ref d7, .ref d8, .ref d9, .ref d10, .ref d11, .ref d12, .ref d13, lw, .long dr, .int pr, .int mo, .int ho])), (d2, .inl (w2, 10, .inl e2)), (d3, .inl (w3, 10, .inl e3)), (d4, .inl (w4, 10, .inl e4)), (d5, .inl (w5, 10, .inl e5)), (d6, .inl (w6, 10, .inl e6)), (d7, .inl (w7, 10, .inl e7)), (d8, .inl (w8, 10, .inl e8)), (d9, .inl (w9, 10, .inl e9)), (d10, .inl (w10, 4, .inl e10)), (d11, .inl (w11, 4, .inl e11)), (d12, .inl (w12, 4, .inl e12)), (d13, .inl (w13, 9, .inr (.inl e13))), (hF, .inr (2, [.ref f0, .ref f1, .ref f2, .ref f3, .ref f4, .int (nI (sv)), .int (nI (ks)), .int (nI (kw))])), (f0, .inl (z0, 10, .inl g0)), (f1, .inl (z1, 10, .inl g1)), (f2, .inl (z2, 10, .inl g2)), (f3, .inl (z3, 10, .inl g3)), (f4, .inl (z4, 4, .inl g4)), (jK, .inr (5, [.ref k0, .ref k1])), (k0, .inl (cK, 8, .inl l0)), (k1, .inl (cO, 32, .inl l1)), (hN, .inr (3, [.ref o0, .ref o1, .ref o2, .ref o3, .ref o4, .int (nI (kn))])), (o0, .inl (y0, 20, .inl q0)), (o1, .inl (y1, 20, .inl q1)), (o2, .inl (y2, 20, .inl q2)), (o3, .inl (y3, 20, .inl q3)), (o4, .inl (y4, 20, .inl q4)), (jA, .inr (0, [.ref i0, .ref i1, .ref i2, .ref i3, .int (nI (ka))])), (i0, .inl (x0, 6, .inl t0)), (i1, .inl (x1, 6, .inl t1)), (i2, .inl (x2, 6, .inl t2)), (i3, .inl (x3, 6, .inl t3)), (jL, .inr (7, [.ref rL, .int (nI (kl))])), (rL, .inl (cL, 6, .inr (.inr (.inr (.inr gL))))), (jU, .inr (7, [.ref rU, .int (nI (ku))])), (rU, .inl (cU, 8, .inr (.inr (.inr (.inr gU))))), (sd, .inl (cD, 10, .inl gD))] s.heap := hP
  have hl := lv_entry ([.ref jX, .int p0, .int p1, .int p2]) (n := 5) (Nat.le_of_ble_eq_true rfl)
  rw [lg_entry_eq]
  generalize (lg_sl ([.ref jX, .int p0, .int p1, .int p2]) ++ List.replicate (5 - (lg_sl ([.ref jX, .int p0, .int p1, .int p2])).length) Slot.unset).toArray = ls at hl ⊢
  have hl : lv_has ls 5 [(0, .ref jX), (1, .int p0), (2, .int p1), (3, .int p2)] := hl
  refine lv_aload_n hx hb dX9_worth_0 rfl (lv_at hl 0 rfl) ?_
  refine va_get (D := (dC, dI)) (ci := 9) (v := .ref jL) (C := RX9) (T := TX9) (N := 10) hx hb hts (fun _ h => List.mem_cons_of_mem _ (List.mem_append_right _ (List.mem_append_left _ h))) hown hK hP 0 rfl rfl 3 kc_l_3_10 (hts (.fieldLink RX9 37 "NotEnded" "laws" "LNotEnded$Shelf;") (List.mem_cons_of_mem _ (List.mem_append_left _ (List.mem_of_getElem? (i := 0) rfl)))) (fun _ h9 => h9) rfl dX9_worth_1 ?_
  refine lv_iload_n hx hb dX9_worth_4 rfl (lv_at hl 1 rfl) ?_
  have hPc := hP.sb (ws2 := [(jL, .inr (7, [.ref rL, .int (nI (kl))])), (rL, .inl (cL, 6, .inr (.inr (.inr (.inr gL)))))]) [34, 35] rfl
  have hKc := hK.sb (tys2 := [(cL, .object RX6)]) [28] rfl
  refine va_csq (va_runV (As := [.int p0]) (rest := []) ⟨hx, hb, hml, hown, hts⟩ (s_at7 l dC dI jL rL cL gL kl 6 (Nat.le_of_ble_eq_true rfl) hkl p0) (cwV 1 hts (kG (List.forall_mem_cons.mpr ⟨(List.mem_cons_of_mem _ (List.mem_append_left _ (List.mem_of_getElem? (i := 4) rfl))), (List.forall_mem_cons.mpr ⟨(List.mem_cons_of_mem _ (List.mem_append_left _ (List.mem_of_getElem? (i := 3) rfl))), (List.forall_mem_cons.mpr ⟨(List.mem_cons_of_mem _ (List.mem_append_left _ (List.mem_of_getElem? (i := 2) rfl))), (List.forall_mem_cons.mpr ⟨(List.mem_cons_of_mem _ (List.mem_append_left _ (List.mem_of_getElem? (i := 1) rfl))), (fun _ h => absurd h List.not_mem_nil)⟩)⟩)⟩)⟩) (kGV _ _ _ _) (fun _ h => List.mem_cons_of_mem _ (List.mem_append_right _ (List.mem_append_right _ (List.mem_append_left _ h)))) gw_s_at7) rfl rfl rfl ⟨rfl, hd_X7_at⟩ ⟨(Nat.le_of_ble_eq_true rfl), (Nat.le_of_ble_eq_true rfl)⟩) (kR_V kT_blind kT_give (va_recv hKc hPc (ci := 7) (q0 := 0) rfl rfl) hPc hKc) rfl rfl hl.1 rfl (lv_room (Nat.le_of_ble_eq_true rfl)) dX9_worth_5 ⟨(Nat.le_of_ble_eq_true rfl), (Nat.le_of_ble_eq_true rfl)⟩).run (fun r_1 hw => ?_)
  rcases r_1 with _ | ru_11
  · refine W.eq (g2 := F0 m 8 ls [.null]) rfl ?_
    refine lv_astoreN hx hb dX9_worth_8 hl kc_l_4_5 (kTo [(4, .null), (0, .ref jX), (1, .int p0), (2, .int p1), (3, .int p2)]) (fun ls hl => ?_)
    refine lv_aloadN hx hb dX9_worth_10 (lv_at hl 0 rfl) ?_
    refine lv_ifnullN (tgt := 35) hx hb dX9_worth_12 kc_t_12_23 ?_
    have hat : ∀ w ∈ vx_at0 RX9 144 kNS kNs, w.before _ s = true := vx_hat (fun w h => hts w ((fun _ h => List.mem_cons_of_mem _ (List.mem_append_right _ (List.mem_append_right _ (List.mem_append_right _ (List.mem_append_left _ h))))) w h)) kBadL_in (kThr_bad hX.2)
    refine W.widen (k := 0) (n := 0) (Nat.le_of_ble_eq_true rfl) (Nat.le_of_ble_eq_true rfl) ?_
    exact vx_throw0 (names := kNs) (A := A) (ls := ls) (rest := []) hx hb hlt hown (by decide) (by decide) (hts (.classLink RX9 142 "java/util/NoSuchElementException") (List.mem_cons_of_mem _ (List.mem_append_left _ (List.mem_of_getElem? (i := 5) rfl)))) (hts (.initialized "java/util/NoSuchElementException") (List.mem_cons_of_mem _ (List.mem_append_left _ (List.mem_of_getElem? (i := 6) rfl)))) hat kThr_ot hX.2.2.2.2.2.1 hX.2.2.2.2.2.2 hS (hl.1.trans hml.symm) dX9_worth_35 dX9_worth_38 dX9_worth_39 dX9_worth_42 (fun x h => absurd h (hnt x)) (Nat.le_of_ble_eq_true rfl) (Nat.le_of_ble_eq_true rfl) (Nat.le_of_ble_eq_true rfl) (Nat.le_of_ble_eq_true rfl) hlocks (fun t _ h1 h2 => ⟨(), trivial, rfl, h1, fun q hq _ => h2 q hq⟩) (fun _ h => nomatch h) (Nat.le_of_ble_eq_true rfl) (Nat.le_of_ble_eq_true rfl)
  · obtain ⟨sA_2, cl_3, cS_4, cc_5, nS_6, nC_7, gS_8, gC_9, hR_10_1, hR_10_2, hR_10_K, hR_10⟩ := kSh_get hX.1.1.1 hw
    have hK := hK.app hR_10_K
    have hK : va_K (dC, dI) vwCl [(w2, .int), (w3, .int), (w4, .int), (w5, .int), (w6, .int), (w7, .int), (w8, .int), (w9, .int), (w10, .int), (w11, .int), (w12, .int), (w13, .long), (z0, .int), (z1, .int), (z2, .int), (z3, .int), (z4, .int), (cK, .int), (cO, .int), (y0, .int), (y1, .int), (y2, .int), (y3, .int), (y4, .int), (x0, .int), (x1, .int), (x2, .int), (x3, .int), (cL, .object RX6), (cU, .object RX6), (cD, .int), (cS_4, .int), (cc_5, .int)] s := hK
    refine W.eq (g2 := F0 m 8 ls [.ref ru_11]) rfl ?_
    refine lv_astore hx hb dX9_worth_8 hl kc_l_4_5 (kTo [(4, .ref ru_11), (0, .ref jX), (1, .int p0), (2, .int p1), (3, .int p2)]) (fun ls hl => ?_)
    refine lv_aload hx hb dX9_worth_10 (lv_at hl 0 rfl) ?_
    refine lv_ifnull hx hb dX9_worth_12 ?_
    refine lv_iload_n hx hb dX9_worth_15 rfl (lv_at hl 3 rfl) ?_
    refine lv_iconst (v := 0) hx hb dX9_worth_16 kc_i_0 ?_
    refine lv_iconst (v := 2) hx hb dX9_worth_17 kc_i_2 ?_
    have hPc := hP.sb (ws2 := []) [] rfl
    have hKc := hK.sb (tys2 := []) [] rfl
    refine vp_callSi (va_runS (As := [.int p1, .int 0, .int 2]) (rest := []) ⟨hx, hb, hml, hown, hts⟩ (s_isIn9 l dC dI p1 0 2) (va_cwS 3 hts (kG (List.forall_mem_cons.mpr ⟨(List.mem_cons_of_mem _ (List.mem_append_left _ (List.mem_of_getElem? (i := 9) rfl))), (List.forall_mem_cons.mpr ⟨(List.mem_cons_of_mem _ (List.mem_append_left _ (List.mem_of_getElem? (i := 8) rfl))), (List.forall_mem_cons.mpr ⟨(List.mem_cons_of_mem _ (List.mem_append_left _ (List.mem_of_getElem? (i := 7) rfl))), (fun _ h => absurd h List.not_mem_nil)⟩)⟩)⟩) (kGS _ _ _) (fun _ h => List.mem_cons_of_mem _ (List.mem_append_right _ (List.mem_append_right _ (List.mem_append_right _ (List.mem_append_right _ (List.mem_append_left _ h)))))) gw_s_isIn9) rfl rfl rfl hd_X9_isIn ⟨(Nat.le_of_ble_eq_true rfl), (Nat.le_of_ble_eq_true rfl)⟩) (kR_S kT_blind kT_give hPc hKc) rfl rfl hl.1 rfl (lv_room (Nat.le_of_ble_eq_true rfl)) dX9_worth_18 ⟨(Nat.le_of_ble_eq_true rfl), (Nat.le_of_ble_eq_true rfl)⟩).run (fun r_12 hw => ?_)
    have hw_13 := hw
    refine lv_if_eq (tgt := 35) hx hb dX9_worth_21 kc_t_21_14 (fun c_14 => ?_) (fun c_14 => ?_)
    · have hat : ∀ w ∈ vx_at0 RX9 144 kNS kNs, w.before _ s = true := vx_hat (fun w h => hts w ((fun _ h => List.mem_cons_of_mem _ (List.mem_append_right _ (List.mem_append_right _ (List.mem_append_right _ (List.mem_append_left _ h))))) w h)) kBadL_in (kThr_bad hX.2)
      refine W.widen (k := 0) (n := 0) (Nat.le_of_ble_eq_true rfl) (Nat.le_of_ble_eq_true rfl) ?_
      exact vx_throw0 (names := kNs) (A := A) (ls := ls) (rest := []) hx hb hlt hown (by decide) (by decide) (hts (.classLink RX9 142 "java/util/NoSuchElementException") (List.mem_cons_of_mem _ (List.mem_append_left _ (List.mem_of_getElem? (i := 5) rfl)))) (hts (.initialized "java/util/NoSuchElementException") (List.mem_cons_of_mem _ (List.mem_append_left _ (List.mem_of_getElem? (i := 6) rfl)))) hat kThr_ot hX.2.2.2.2.2.1 hX.2.2.2.2.2.2 hS (hl.1.trans hml.symm) dX9_worth_35 dX9_worth_38 dX9_worth_39 dX9_worth_42 (fun x h => absurd h (hnt x)) (Nat.le_of_ble_eq_true rfl) (Nat.le_of_ble_eq_true rfl) (Nat.le_of_ble_eq_true rfl) (Nat.le_of_ble_eq_true rfl) hlocks (fun t _ h1 h2 => ⟨(), trivial, rfl, h1, fun q hq _ => h2 q hq⟩) (fun _ h => nomatch h) (Nat.le_of_ble_eq_true rfl) (Nat.le_of_ble_eq_true rfl)
    · refine lv_aload_n hx hb dX9_worth_24 rfl (lv_at hl 1 rfl) ?_
      refine va_get (D := (dC, dI)) (ci := 9) (v := .ref hF) (C := RX9) (T := TX9) (N := 10) hx hb hts (fun _ h => List.mem_cons_of_mem _ (List.mem_append_right _ (List.mem_append_left _ h))) hown hK hP 0 rfl rfl 5 kc_l_5_10 (hts (.fieldLink RX9 47 "NotEnded" "folk" "LNotEnded$Folk;") (List.mem_cons_of_mem _ (List.mem_append_left _ (List.mem_of_getElem? (i := 10) rfl)))) (fun _ h9 => h9) rfl dX9_worth_25 ?_
      refine lv_iload_n hx hb dX9_worth_28 rfl (lv_at hl 4 rfl) ?_
      have hPc := hP.sb (ws2 := [(hF, .inr (2, [.ref f0, .ref f1, .ref f2, .ref f3, .ref f4, .int (nI (sv)), .int (nI (ks)), .int (nI (kw))])), (f0, .inl (z0, 10, .inl g0)), (f1, .inl (z1, 10, .inl g1)), (f2, .inl (z2, 10, .inl g2)), (f3, .inl (z3, 10, .inl g3)), (f4, .inl (z4, 4, .inl g4))]) [14, 15, 16, 17, 18, 19] rfl
      have hKc := hK.sb (tys2 := [(z0, .int), (z1, .int), (z2, .int), (z3, .int), (z4, .int)]) [12, 13, 14, 15, 16] rfl
      refine vp_callSi (va_runV (As := [.int p2]) (rest := []) ⟨hx, hb, hml, hown, hts⟩ (s_has2 l dC dI hF f0 f1 f2 f3 f4 z0 z1 z2 z3 z4 g0 g1 g2 g3 g4 (nI (sv)) ks kw hks hkw p2) (cwV 1 hts (kG (List.forall_mem_cons.mpr ⟨(List.mem_cons_of_mem _ (List.mem_append_left _ (List.mem_of_getElem? (i := 14) rfl))), (List.forall_mem_cons.mpr ⟨(List.mem_cons_of_mem _ (List.mem_append_left _ (List.mem_of_getElem? (i := 13) rfl))), (List.forall_mem_cons.mpr ⟨(List.mem_cons_of_mem _ (List.mem_append_left _ (List.mem_of_getElem? (i := 12) rfl))), (List.forall_mem_cons.mpr ⟨(List.mem_cons_of_mem _ (List.mem_append_left _ (List.mem_of_getElem? (i := 11) rfl))), (fun _ h => absurd h List.not_mem_nil)⟩)⟩)⟩)⟩) (kGV _ _ _ _) (fun _ h => List.mem_cons_of_mem _ (List.mem_append_right _ (List.mem_append_right _ (List.mem_append_right _ (List.mem_append_right _ (List.mem_append_right _ (List.mem_append_left _ h))))))) gw_s_has2) rfl rfl rfl ⟨rfl, hd_X2_has⟩ ⟨(Nat.le_of_ble_eq_true rfl), (Nat.le_of_ble_eq_true rfl)⟩) (kR_V kT_blind kT_give (va_recv hKc hPc (ci := 2) (q0 := 0) rfl rfl) hPc hKc) rfl rfl hl.1 rfl (lv_room (Nat.le_of_ble_eq_true rfl)) dX9_worth_29 ⟨(Nat.le_of_ble_eq_true rfl), (Nat.le_of_ble_eq_true rfl)⟩).run (fun r_15 hw => ?_)
      have hw_16 := hw
      refine lv_if_ne (tgt := 43) hx hb dX9_worth_32 kc_t_32_11 (fun c_17 => ?_) (fun c_17 => ?_)
      · obtain ⟨j_18, hj_18, ej_18⟩ := hw_16 c_17
        subst ej_18
        refine lv_aload_n hx hb dX9_worth_43 rfl (lv_at hl 1 rfl) ?_
        refine va_get (D := (dC, dI)) (ci := 9) (v := .ref jC) (C := RX9) (T := TX9) (N := 10) hx hb hts (fun _ h => List.mem_cons_of_mem _ (List.mem_append_right _ (List.mem_append_left _ h))) hown hK hP 0 rfl rfl 6 kc_l_6_10 (hts (.fieldLink RX9 56 "NotEnded" "course" "LNotEnded$Course;") (List.mem_cons_of_mem _ (List.mem_append_left _ (List.mem_of_getElem? (i := 15) rfl)))) (fun _ h9 => h9) rfl dX9_worth_44 ?_
        refine lv_aload hx hb dX9_worth_47 (lv_at hl 0 rfl) ?_
        refine lv_lconst (v := 0) hx hb dX9_worth_49 (by decide) ?_
        refine lv_iconst (v := 0) hx hb dX9_worth_50 kc_i_0 ?_
        have bd_19 : nS_6 ≤ 200 := by omega
        have bd_20 : nC_7 ≤ 200 := by omega
        have hCu := kCut (wc := [(jC, .inr (1, [.ref hF, .ref jK, .ref d2, .ref d3, .ref d4, .ref d5, .ref d6, .ref d7, .ref d8, .ref d9, .ref d10, .ref d11, .ref d12, .ref d13, lw, .long dr, .int pr, .int mo, .int ho])), (d2, .inl (w2, 10, .inl e2)), (d3, .inl (w3, 10, .inl e3)), (d4, .inl (w4, 10, .inl e4)), (d5, .inl (w5, 10, .inl e5)), (d6, .inl (w6, 10, .inl e6)), (d7, .inl (w7, 10, .inl e7)), (d8, .inl (w8, 10, .inl e8)), (d9, .inl (w9, 10, .inl e9)), (d10, .inl (w10, 4, .inl e10)), (d11, .inl (w11, 4, .inl e11)), (d12, .inl (w12, 4, .inl e12)), (d13, .inl (w13, 9, .inr (.inl e13))), (hF, .inr (2, [.ref f0, .ref f1, .ref f2, .ref f3, .ref f4, .int (nI (sv)), .int (nI (ks)), .int (nI (kw))])), (f0, .inl (z0, 10, .inl g0)), (f1, .inl (z1, 10, .inl g1)), (f2, .inl (z2, 10, .inl g2)), (f3, .inl (z3, 10, .inl g3)), (f4, .inl (z4, 4, .inl g4)), (jK, .inr (5, [.ref k0, .ref k1])), (k0, .inl (cK, 8, .inl l0)), (k1, .inl (cO, 32, .inl l1))]) hP hD hS hA [1, 2, 3, 4, 5, 6, 7, 8, 9, 10, 11, 12, 13, 14, 15, 16, 17, 18, 19, 20, 21, 22] rfl kc_nd_425 rfl
        have hPc := hCu.1
        have hDc := hCu.2.1
        have hFc := hCu.2.2
        have hKc := hK.sb (tys2 := [(w2, .int), (w3, .int), (w4, .int), (w5, .int), (w6, .int), (w7, .int), (w8, .int), (w9, .int), (w10, .int), (w11, .int), (w12, .int), (w13, .long), (z0, .int), (z1, .int), (z2, .int), (z3, .int), (z4, .int), (cK, .int), (cO, .int), (cS_4, .int), (cc_5, .int)]) [0, 1, 2, 3, 4, 5, 6, 7, 8, 9, 10, 11, 12, 13, 14, 15, 16, 17, 18, 31, 32] rfl
        refine va_callv (va_runV (As := [.ref ru_11, .long 0, .int 0]) (rest := []) ⟨hx, hb, hml, hown, hts⟩ (s_begin1 l dC dI jC d2 d3 d4 d5 d6 d7 d8 d9 d10 d11 d12 d13 w2 w3 w4 w5 w6 w7 w8 w9 w10 w11 w12 w13 e2 e3 e4 e5 e6 e7 e8 e9 e10 e11 e12 e13 dr pr mo ho hF f0 f1 f2 f3 f4 z0 z1 z2 z3 z4 g0 g1 g2 g3 g4 (nI (sv)) ks kw hks hkw jK k0 k1 cK cO l0 l1 ru_11 sA_2 cl_3 cS_4 cc_5 nS_6 nC_7 gS_8 gC_9 bd_19 bd_20 (lw : Value) 0 0 s.heap.size) (cwV 3 hts (kG (List.forall_mem_cons.mpr ⟨(List.mem_cons_of_mem _ (List.mem_append_left _ (List.mem_of_getElem? (i := 19) rfl))), (List.forall_mem_cons.mpr ⟨(List.mem_cons_of_mem _ (List.mem_append_left _ (List.mem_of_getElem? (i := 18) rfl))), (List.forall_mem_cons.mpr ⟨(List.mem_cons_of_mem _ (List.mem_append_left _ (List.mem_of_getElem? (i := 17) rfl))), (List.forall_mem_cons.mpr ⟨(List.mem_cons_of_mem _ (List.mem_append_left _ (List.mem_of_getElem? (i := 16) rfl))), (fun _ h => absurd h List.not_mem_nil)⟩)⟩)⟩)⟩) (kGV _ _ _ _) (fun _ h => List.mem_cons_of_mem _ (List.mem_append_right _ (List.mem_append_right _ (List.mem_append_right _ (List.mem_append_right _ (List.mem_append_right _ (List.mem_append_right _ (List.mem_append_left _ h)))))))) gw_s_begin1) rfl rfl rfl ⟨rfl, hd_X1_begin⟩ ⟨(Nat.le_of_ble_eq_true rfl), (Nat.le_of_ble_eq_true rfl)⟩) (kW_V kNF_blind (kNF_give ⟨hR_10, hX.1.2⟩ hS hFc) (va_recv hKc hPc (ci := 1) (q0 := 0) rfl rfl) hPc hKc hDc) rfl rfl hl.1 rfl (lv_room (Nat.le_of_ble_eq_true rfl)) dX9_worth_51 ⟨(Nat.le_of_ble_eq_true rfl), (Nat.le_of_ble_eq_true rfl)⟩) hS (fun q _ h => hFc q h) hFc (kU18 (fun E2_21 E3_22 E4_23 E5_24 E6_25 E7_26 E8_27 E9_28 E10_29 E11_30 E12_31 E13_32 L0_33 L1_34 Pr_35 Mo_36 Ho_37 Dr_38 t H_39 locs ht hvm hw hB hz1 hk1 hS => ?_))
        have hPD : kPD dC dI A [(jX, .inr (9, [.ref jT, .ref jR, .ref jK, .ref jL, .ref jU, .ref hF, .ref jC, .ref hN, .ref jA, .ref sd])), (jC, .inr (1, [.ref hF, .ref jK, .ref d2, .ref d3, .ref d4, .ref d5, .ref d6, .ref d7, .ref d8, .ref d9, .ref d10, .ref d11, .ref d12, .ref d13, .ref ru_11, .long Dr_38, .int Pr_35, .int Mo_36, .int Ho_37])), (d2, .inl (w2, 10, .inl E2_21)), (d3, .inl (w3, 10, .inl E3_22)), (d4, .inl (w4, 10, .inl E4_23)), (d5, .inl (w5, 10, .inl E5_24)), (d6, .inl (w6, 10, .inl E6_25)), (d7, .inl (w7, 10, .inl E7_26)), (d8, .inl (w8, 10, .inl E8_27)), (d9, .inl (w9, 10, .inl E9_28)), (d10, .inl (w10, 4, .inl E10_29)), (d11, .inl (w11, 4, .inl E11_30)), (d12, .inl (w12, 4, .inl E12_31)), (d13, .inl (w13, 9, .inr (.inl E13_32))), (hF, .inr (2, [.ref f0, .ref f1, .ref f2, .ref f3, .ref f4, .int (nI (sv)), .int (nI (ks)), .int (nI (kw))])), (f0, .inl (z0, 10, .inl g0)), (f1, .inl (z1, 10, .inl g1)), (f2, .inl (z2, 10, .inl g2)), (f3, .inl (z3, 10, .inl g3)), (f4, .inl (z4, 4, .inl g4)), (jK, .inr (5, [.ref k0, .ref k1])), (k0, .inl (cK, 8, .inl L0_33)), (k1, .inl (cO, 32, .inl L1_34)), (hN, .inr (3, [.ref o0, .ref o1, .ref o2, .ref o3, .ref o4, .int (nI (kn))])), (o0, .inl (y0, 20, .inl q0)), (o1, .inl (y1, 20, .inl q1)), (o2, .inl (y2, 20, .inl q2)), (o3, .inl (y3, 20, .inl q3)), (o4, .inl (y4, 20, .inl q4)), (jA, .inr (0, [.ref i0, .ref i1, .ref i2, .ref i3, .int (nI (ka))])), (i0, .inl (x0, 6, .inl t0)), (i1, .inl (x1, 6, .inl t1)), (i2, .inl (x2, 6, .inl t2)), (i3, .inl (x3, 6, .inl t3)), (jL, .inr (7, [.ref rL, .int (nI (kl))])), (rL, .inl (cL, 6, .inr (.inr (.inr (.inr gL))))), (jU, .inr (7, [.ref rU, .int (nI (ku))])), (rU, .inl (cU, 8, .inr (.inr (.inr (.inr gU))))), (sd, .inl (cD, 10, .inl gD))] H_39 := kJoinX hP hD [1, 2, 3, 4, 5, 6, 7, 8, 9, 10, 11, 12, 13, 14, 15, 16, 17, 18, 19, 20, 21, 22] rfl hk1 hFc hB.1 ht hB.2.2 rfl [none, some 0, some 1, some 2, some 3, some 4, some 5, some 6, some 7, some 8, some 9, some 10, some 11, some 12, some 13, some 14, some 15, some 16, some 17, some 18, some 19, some 20, some 21, none, none, none, none, none, none, none, none, none, none, none, none, none, none, none, none] rfl rfl
        have hP := hPD.1
        have hD := hPD.2
        refine lv_aload_n hx hb dX9_worth_54 rfl (lv_at hl 1 rfl) ?_
        refine va_get (D := (dC, dI)) (ci := 9) (v := .ref jC) (C := RX9) (T := TX9) (N := 10) hx hb hts (fun _ h => List.mem_cons_of_mem _ (List.mem_append_right _ (List.mem_append_left _ h))) hown hK hP 0 rfl rfl 6 kc_l_6_10 (hts (.fieldLink RX9 56 "NotEnded" "course" "LNotEnded$Course;") (List.mem_cons_of_mem _ (List.mem_append_left _ (List.mem_of_getElem? (i := 15) rfl)))) (fun _ h9 => h9) rfl dX9_worth_55 ?_
        refine lv_iload_n hx hb dX9_worth_58 rfl (lv_at hl 3 rfl) ?_
        refine lv_iload_n hx hb dX9_worth_59 rfl (lv_at hl 4 rfl) ?_
        have hCu := kCut (wc := [(jC, .inr (1, [.ref hF, .ref jK, .ref d2, .ref d3, .ref d4, .ref d5, .ref d6, .ref d7, .ref d8, .ref d9, .ref d10, .ref d11, .ref d12, .ref d13, .ref ru_11, .long Dr_38, .int Pr_35, .int Mo_36, .int Ho_37])), (d2, .inl (w2, 10, .inl E2_21)), (d3, .inl (w3, 10, .inl E3_22)), (d4, .inl (w4, 10, .inl E4_23)), (d5, .inl (w5, 10, .inl E5_24)), (d6, .inl (w6, 10, .inl E6_25)), (d7, .inl (w7, 10, .inl E7_26)), (d8, .inl (w8, 10, .inl E8_27)), (d9, .inl (w9, 10, .inl E9_28)), (d10, .inl (w10, 4, .inl E10_29)), (d11, .inl (w11, 4, .inl E11_30)), (d12, .inl (w12, 4, .inl E12_31)), (d13, .inl (w13, 9, .inr (.inl E13_32))), (hF, .inr (2, [.ref f0, .ref f1, .ref f2, .ref f3, .ref f4, .int (nI (sv)), .int (nI (ks)), .int (nI (kw))])), (f0, .inl (z0, 10, .inl g0)), (f1, .inl (z1, 10, .inl g1)), (f2, .inl (z2, 10, .inl g2)), (f3, .inl (z3, 10, .inl g3)), (f4, .inl (z4, 4, .inl g4)), (jK, .inr (5, [.ref k0, .ref k1])), (k0, .inl (cK, 8, .inl L0_33)), (k1, .inl (cO, 32, .inl L1_34))]) hP hD hS hA [1, 2, 3, 4, 5, 6, 7, 8, 9, 10, 11, 12, 13, 14, 15, 16, 17, 18, 19, 20, 21, 22] rfl kc_nd_425 rfl
        have hPc := hCu.1
        have hDc := hCu.2.1
        have hFc := hCu.2.2
        have hKc := hK.sb (tys2 := [(w2, .int), (w3, .int), (w4, .int), (w5, .int), (w6, .int), (w7, .int), (w8, .int), (w9, .int), (w10, .int), (w11, .int), (w12, .int), (w13, .long), (z0, .int), (z1, .int), (z2, .int), (z3, .int), (z4, .int), (cK, .int), (cO, .int), (cS_4, .int), (cc_5, .int)]) [0, 1, 2, 3, 4, 5, 6, 7, 8, 9, 10, 11, 12, 13, 14, 15, 16, 17, 18, 31, 32] rfl
        refine va_calli (va_runV (As := [.int p1, .int (nI (j_18))]) (rest := []) ⟨hx, hb, hml, hown, hts⟩ (s_worthNow1 l dC dI jC d2 d3 d4 d5 d6 d7 d8 d9 d10 d11 d12 d13 w2 w3 w4 w5 w6 w7 w8 w9 w10 w11 w12 w13 E2_21 E3_22 E4_23 E5_24 E6_25 E7_26 E8_27 E9_28 E10_29 E11_30 E12_31 E13_32 Dr_38 Pr_35 Mo_36 Ho_37 hF f0 f1 f2 f3 f4 z0 z1 z2 z3 z4 g0 g1 g2 g3 g4 (nI (sv)) ks kw hks hkw jK k0 k1 cK cO L0_33 L1_34 ru_11 sA_2 cl_3 cS_4 cc_5 nS_6 nC_7 gS_8 gC_9 bd_19 bd_20 p1 (nI (j_18)) H_39.size) (cwV 2 hts (kG (List.forall_mem_cons.mpr ⟨(List.mem_cons_of_mem _ (List.mem_append_left _ (List.mem_of_getElem? (i := 22) rfl))), (List.forall_mem_cons.mpr ⟨(List.mem_cons_of_mem _ (List.mem_append_left _ (List.mem_of_getElem? (i := 21) rfl))), (List.forall_mem_cons.mpr ⟨(List.mem_cons_of_mem _ (List.mem_append_left _ (List.mem_of_getElem? (i := 20) rfl))), (List.forall_mem_cons.mpr ⟨(List.mem_cons_of_mem _ (List.mem_append_left _ (List.mem_of_getElem? (i := 16) rfl))), (fun _ h => absurd h List.not_mem_nil)⟩)⟩)⟩)⟩) (kGV _ _ _ _) (fun _ h => List.mem_cons_of_mem _ (List.mem_append_right _ (List.mem_append_right _ (List.mem_append_right _ (List.mem_append_right _ (List.mem_append_right _ (List.mem_append_right _ (List.mem_append_right _ h)))))))) gw_s_worthNow1) rfl rfl rfl ⟨rfl, hd_X1_worthNow⟩ ⟨(Nat.le_of_ble_eq_true rfl), (Nat.le_of_ble_eq_true rfl)⟩) (kW_V kNF_blind (kNF_give ⟨hR_10, hX.1.2⟩ hS hFc) (va_recv hKc hPc (ci := 1) (q0 := 0) rfl rfl) hPc hKc hDc) rfl rfl hl.1 rfl (lv_room (Nat.le_of_ble_eq_true rfl)) dX9_worth_60 ⟨(Nat.le_of_ble_eq_true rfl), (Nat.le_of_ble_eq_true rfl)⟩) hS (fun q _ h => hFc q h) hFc (fun r_41 => kU18 (fun E2_42 E3_43 E4_44 E5_45 E6_46 E7_47 E8_48 E9_49 E10_50 E11_51 E12_52 E13_53 L0_54 L1_55 Pr_56 Mo_57 Ho_58 Dr_59 t H_60 locs ht hvm hw hB hz1 hk1 hS => ?_))
        have hPD : kPD dC dI A [(jX, .inr (9, [.ref jT, .ref jR, .ref jK, .ref jL, .ref jU, .ref hF, .ref jC, .ref hN, .ref jA, .ref sd])), (jC, .inr (1, [.ref hF, .ref jK, .ref d2, .ref d3, .ref d4, .ref d5, .ref d6, .ref d7, .ref d8, .ref d9, .ref d10, .ref d11, .ref d12, .ref d13, .ref ru_11, .long Dr_59, .int Pr_56, .int Mo_57, .int Ho_58])), (d2, .inl (w2, 10, .inl E2_42)), (d3, .inl (w3, 10, .inl E3_43)), (d4, .inl (w4, 10, .inl E4_44)), (d5, .inl (w5, 10, .inl E5_45)), (d6, .inl (w6, 10, .inl E6_46)), (d7, .inl (w7, 10, .inl E7_47)), (d8, .inl (w8, 10, .inl E8_48)), (d9, .inl (w9, 10, .inl E9_49)), (d10, .inl (w10, 4, .inl E10_50)), (d11, .inl (w11, 4, .inl E11_51)), (d12, .inl (w12, 4, .inl E12_52)), (d13, .inl (w13, 9, .inr (.inl E13_53))), (hF, .inr (2, [.ref f0, .ref f1, .ref f2, .ref f3, .ref f4, .int (nI (sv)), .int (nI (ks)), .int (nI (kw))])), (f0, .inl (z0, 10, .inl g0)), (f1, .inl (z1, 10, .inl g1)), (f2, .inl (z2, 10, .inl g2)), (f3, .inl (z3, 10, .inl g3)), (f4, .inl (z4, 4, .inl g4)), (jK, .inr (5, [.ref k0, .ref k1])), (k0, .inl (cK, 8, .inl L0_54)), (k1, .inl (cO, 32, .inl L1_55)), (hN, .inr (3, [.ref o0, .ref o1, .ref o2, .ref o3, .ref o4, .int (nI (kn))])), (o0, .inl (y0, 20, .inl q0)), (o1, .inl (y1, 20, .inl q1)), (o2, .inl (y2, 20, .inl q2)), (o3, .inl (y3, 20, .inl q3)), (o4, .inl (y4, 20, .inl q4)), (jA, .inr (0, [.ref i0, .ref i1, .ref i2, .ref i3, .int (nI (ka))])), (i0, .inl (x0, 6, .inl t0)), (i1, .inl (x1, 6, .inl t1)), (i2, .inl (x2, 6, .inl t2)), (i3, .inl (x3, 6, .inl t3)), (jL, .inr (7, [.ref rL, .int (nI (kl))])), (rL, .inl (cL, 6, .inr (.inr (.inr (.inr gL))))), (jU, .inr (7, [.ref rU, .int (nI (ku))])), (rU, .inl (cU, 8, .inr (.inr (.inr (.inr gU))))), (sd, .inl (cD, 10, .inl gD))] H_60 := kJoinX hP hD [1, 2, 3, 4, 5, 6, 7, 8, 9, 10, 11, 12, 13, 14, 15, 16, 17, 18, 19, 20, 21, 22] rfl hk1 hFc hB.1 ht hB.2.2 rfl [none, some 0, some 1, some 2, some 3, some 4, some 5, some 6, some 7, some 8, some 9, some 10, some 11, some 12, some 13, some 14, some 15, some 16, some 17, some 18, some 19, some 20, some 21, none, none, none, none, none, none, none, none, none, none, none, none, none, none, none, none] rfl rfl
        have hP := hPD.1
        have hD := hPD.2
        have hP9 := hP
        have hD9 := hD
        have hK9 := hK.sb (tys2 := [(w2, .int), (w3, .int), (w4, .int), (w5, .int), (w6, .int), (w7, .int), (w8, .int), (w9, .int), (w10, .int), (w11, .int), (w12, .int), (w13, .long), (z0, .int), (z1, .int), (z2, .int), (z3, .int), (z4, .int), (cK, .int), (cO, .int), (y0, .int), (y1, .int), (y2, .int), (y3, .int), (y4, .int), (x0, .int), (x1, .int), (x2, .int), (x3, .int), (cL, .object RX6), (cU, .object RX6), (cD, .int)]) [0, 1, 2, 3, 4, 5, 6, 7, 8, 9, 10, 11, 12, 13, 14, 15, 16, 17, 18, 19, 20, 21, 22, 23, 24, 25, 26, 27, 28, 29, 30] rfl
        refine W.widen (k := 1) (n := 6) (Nat.le_of_ble_eq_true rfl) (Nat.le_of_ble_eq_true rfl) ?_
        exact vx_ret (W.iret (v := r_41) hx hb hr (fun t ht hW => ⟨⟨r_41, (E2_42, E3_43, E4_44, E5_45, E6_46, E7_47, E8_48, E9_49, E10_50, E11_51, E12_52, E13_53, L0_54, L1_55, Pr_56, Mo_57, Ho_58, Dr_59, (.ref ru_11 : Value)), rfl, trivial,  by rw [ht]; exact hP9, va_K.moved hW.alike hK9, hD9⟩, hS.F ht⟩) hS.2.2 dX9_worth_63)
      · have hat : ∀ w ∈ vx_at0 RX9 144 kNS kNs, w.before _ s = true := vx_hat (fun w h => hts w ((fun _ h => List.mem_cons_of_mem _ (List.mem_append_right _ (List.mem_append_right _ (List.mem_append_right _ (List.mem_append_left _ h))))) w h)) kBadL_in (kThr_bad hX.2)
        refine W.widen (k := 0) (n := 0) (Nat.le_of_ble_eq_true rfl) (Nat.le_of_ble_eq_true rfl) ?_
        exact vx_throw0 (names := kNs) (A := A) (ls := ls) (rest := []) hx hb hlt hown (by decide) (by decide) (hts (.classLink RX9 142 "java/util/NoSuchElementException") (List.mem_cons_of_mem _ (List.mem_append_left _ (List.mem_of_getElem? (i := 5) rfl)))) (hts (.initialized "java/util/NoSuchElementException") (List.mem_cons_of_mem _ (List.mem_append_left _ (List.mem_of_getElem? (i := 6) rfl)))) hat kThr_ot hX.2.2.2.2.2.1 hX.2.2.2.2.2.2 hS (hl.1.trans hml.symm) dX9_worth_35 dX9_worth_38 dX9_worth_39 dX9_worth_42 (fun x h => absurd h (hnt x)) (Nat.le_of_ble_eq_true rfl) (Nat.le_of_ble_eq_true rfl) (Nat.le_of_ble_eq_true rfl) (Nat.le_of_ble_eq_true rfl) hlocks (fun t _ h1 h2 => ⟨(), trivial, rfl, h1, fun q hq _ => h2 q hq⟩) (fun _ h => nomatch h) (Nat.le_of_ble_eq_true rfl) (Nat.le_of_ble_eq_true rfl)
