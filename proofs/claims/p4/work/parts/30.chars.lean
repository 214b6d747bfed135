theorem dJ3_checkIndex_8e157_0 : decode cJ3_checkIndex_8e157 0 = .ok (.iload_n 0, 1) := kDs0 kf_26 (by decide +kernel)
theorem dJ3_checkIndex_8e157_1 : decode cJ3_checkIndex_8e157 1 = .ok (.ifCond .lt 8, 3) := kDs4 kf_155 (by decide +kernel)
theorem dJ3_checkIndex_8e157_4 : decode cJ3_checkIndex_8e157 4 = .ok (.iload_n 0, 1) := kDs0 kf_26 (by decide +kernel)
theorem dJ3_checkIndex_8e157_5 : decode cJ3_checkIndex_8e157 5 = .ok (.iload_n 1, 1) := kDs0 kf_27 (by decide +kernel)
theorem dJ3_checkIndex_8e157_6 : decode cJ3_checkIndex_8e157 6 = .ok (.if_icmp .lt 10, 3) := kDs4 kf_161 (by decide +kernel)
theorem dJ3_checkIndex_8e157_16 : decode cJ3_checkIndex_8e157 16 = .ok (.iload_n 0, 1) := kDs0 kf_26 (by decide +kernel)
theorem dJ3_checkIndex_8e157_17 : decode cJ3_checkIndex_8e157 17 = .ok (.ireturn, 1) := kDs0 kf_172 (by decide +kernel)
def w_s_chk3n : List Cond := .code yJ3_checkIndex_8e157 cJ3_checkIndex_8e157 3 (some .int) :: ([])
theorem gw_s_chk3n : (w_s_chk3n).all goodWord = true := kGc rfl kGn
theorem hd_J3_checkIndex_8e157 : yJ3_checkIndex_8e157.cls ≠ "java/lang/invoke/MethodHandle" ∧ yJ3_checkIndex_8e157.cls ≠ "java/lang/invoke/VarHandle" ∧ (parseMethodDescriptor yJ3_checkIndex_8e157.desc).map (fun d => d.parameters.length) = some 3 := by decide +kernel
set_option maxHeartbeats 4000000 in
set_option maxRecDepth 100000 in
theorem s_chk3n (l : Launch) (dC : Nat → ClassId) (dI : Nat → Nat → Nat) (pj : Nat) (pn : Nat) (hpj : pj < pn) (hpn : pn ≤ 8) : Met l yJ3_checkIndex_8e157 w_s_chk3n ({ frames := 1, cells := 0, slots := 0, locals := 60 }) (kR dC dI [.int (nI (pj)), .int (nI (pn)), .null] [] [] kT) (vp_Si (fun r : Int32 => True)) 0 0 (fun _ => False) := by
  refine Met.ofW (cc := cJ3_checkIndex_8e157) (maxL := 3) (ret := (some .int)) (by decide) rfl ?_
  intro p e s m args below meth c s₁ B hml hv
  obtain ⟨rfl, hP, hK, hX⟩ := hv
  have hx := B.exec
  have hb := B.bytes
  have hr := B.returns
  have hts := atoms_spec (ws := w_s_chk3n) B.pre
  have hown : s.vm.findClass RJ3 = some m.cls := findClass_of_methodNamed B.named
  have hlocks := B.notSynchronized
  have hP : va_P (dC, dI) vwCl [] s.heap := hP
  have hl := lv_entry ([.int (nI (pj)), .int (nI (pn)), .null]) (n := 3) (Nat.le_of_ble_eq_true rfl)
  rw [lg_entry_eq]
  generalize (lg_sl ([.int (nI (pj)), .int (nI (pn)), .null]) ++ List.replicate (3 - (lg_sl ([.int (nI (pj)), .int (nI (pn)), .null])).length) Slot.unset).toArray = ls at hl ⊢
  have hl : lv_has ls 3 [(0, .int (nI (pj))), (1, .int (nI (pn))), (2, .null)] := hl
  refine kQ (fun Q hQ => ?_)
  refine lv_iload_n hx hb dJ3_checkIndex_8e157_0 rfl (lv_at hl 0 rfl) ?_
  have bd_1 : pj < 2147483648 := by omega
  refine lv_if_lt (tgt := 9) hx hb dJ3_checkIndex_8e157_1 kc_t_1_8 (fun c_2 => absurd c_2 (nI_pos (n := pj) bd_1)) (fun c_2 => ?_)
  refine lv_iload_n hx hb dJ3_checkIndex_8e157_4 rfl (lv_at hl 0 rfl) ?_
  refine lv_iload_n hx hb dJ3_checkIndex_8e157_5 rfl (lv_at hl 1 rfl) ?_
  refine lv_icmp_lt (tgt := 16) hx hb dJ3_checkIndex_8e157_6 kc_t_6_10 (fun c_3 => ?_) (fun c_3 => absurd (nI_lt (a := pj) (b := pn) (by omega) (by omega)) c_3)
  refine lv_iload_n hx hb dJ3_checkIndex_8e157_16 rfl (lv_at hl 0 rfl) ?_
  rw [hQ]
  exact W.iret (v := nI (pj)) hx hb hr (fun t ht hW => ⟨nI (pj), rfl, trivial, ht⟩) (fun _ h => nomatch h) dJ3_checkIndex_8e157_17

def w_s_chk3r : List Cond := .code yJ3_checkIndex_8e157 cJ3_checkIndex_8e157 3 (some .int) :: ([])
theorem gw_s_chk3r : (w_s_chk3r).all goodWord = true := kGc rfl kGn
set_option maxHeartbeats 4000000 in
set_option maxRecDepth 100000 in
theorem s_chk3r (l : Launch) (dC : Nat → ClassId) (dI : Nat → Nat → Nat) (pj : Nat) (pn : Nat) (hpj : pj < pn) (hpn : pn ≤ 8) (pr : Nat) : Met l yJ3_checkIndex_8e157 w_s_chk3r ({ frames := 1, cells := 0, slots := 0, locals := 60 }) (kR dC dI [.int (nI (pj)), .int (nI (pn)), .ref pr] [] [] kT) (vp_Si (fun r : Int32 => True)) 0 0 (fun _ => False) := by
  refine Met.ofW (cc := cJ3_checkIndex_8e157) (maxL := 3) (ret := (some .int)) (by decide) rfl ?_
  intro p e s m args below meth c s₁ B hml hv
  obtain ⟨rfl, hP, hK, hX⟩ := hv
  have hx := B.exec
  have hb := B.bytes
  have hr := B.returns
  have hts := atoms_spec (ws := w_s_chk3r) B.pre
  have hown : s.vm.findClass RJ3 = some m.cls := findClass_of_methodNamed B.named
  have hlocks := B.notSynchronized
  have hP : va_P (dC, dI) vwCl [] s.heap := hP
  have hl := lv_entry ([.int (nI (pj)), .int (nI (pn)), .ref pr]) (n := 3) (Nat.le_of_ble_eq_true rfl)
  rw [lg_entry_eq]
  generalize (lg_sl ([.int (nI (pj)), .int (nI (pn)), .ref pr]) ++ List.replicate (3 - (lg_sl ([.int (nI (pj)), .int (nI (pn)), .ref pr])).length) Slot.unset).toArray = ls at hl ⊢
  have hl : lv_has ls 3 [(0, .int (nI (pj))), (1, .int (nI (pn))), (2, .ref pr)] := hl
  refine kQ (fun Q hQ => ?_)
  refine lv_iload_n hx hb dJ3_checkIndex_8e157_0 rfl (lv_at hl 0 rfl) ?_
  have bd_1 : pj < 2147483648 := by omega
  refine lv_if_lt (tgt := 9) hx hb dJ3_checkIndex_8e157_1 kc_t_1_8 (fun c_2 => absurd c_2 (nI_pos (n := pj) bd_1)) (fun c_2 => ?_)
  refine lv_iload_n hx hb dJ3_checkIndex_8e157_4 rfl (lv_at hl 0 rfl) ?_
  refine lv_iload_n hx hb dJ3_checkIndex_8e157_5 rfl (lv_at hl 1 rfl) ?_
  refine lv_icmp_lt (tgt := 16) hx hb dJ3_checkIndex_8e157_6 kc_t_6_10 (fun c_3 => ?_) (fun c_3 => absurd (nI_lt (a := pj) (b := pn) (by omega) (by omega)) c_3)
  refine lv_iload_n hx hb dJ3_checkIndex_8e157_16 rfl (lv_at hl 0 rfl) ?_
  rw [hQ]
  exact W.iret (v := nI (pj)) hx hb hr (fun t ht hW => ⟨nI (pj), rfl, trivial, ht⟩) (fun _ h => nomatch h) dJ3_checkIndex_8e157_17

theorem dJ0_checkIndex_df160_0 : decode cJ0_checkIndex_df160 0 = .ok (.iload_n 0, 1) := kDs0 kf_26 (by decide +kernel)
theorem dJ0_checkIndex_df160_1 : decode cJ0_checkIndex_df160 1 = .ok (.iload_n 1, 1) := kDs0 kf_27 (by decide +kernel)
theorem dJ0_checkIndex_df160_2 : decode cJ0_checkIndex_df160 2 = .ok (.getstatic 1053, 3) := kDs2 kf_178 (by decide +kernel)
theorem dJ0_checkIndex_df160_5 : decode cJ0_checkIndex_df160 5 = .ok (.invokestatic 1059, 3) := kDs2 kf_184 (by decide +kernel)
theorem dJ0_checkIndex_df160_8 : decode cJ0_checkIndex_df160 8 = .ok (.pop, 1) := kDs0 kf_87 (by decide +kernel)
theorem dJ0_checkIndex_df160_9 : decode cJ0_checkIndex_df160 9 = .ok (.return_, 1) := kDs0 kf_177 (by decide +kernel)
def w_s_t_chk0 : List Cond := .code yJ0_checkIndex_df160 cJ0_checkIndex_df160 2 none :: ([.fieldLink RJ0 1053 "jdk/internal/util/Preconditions" "SIOOBE_FORMATTER" "Ljava/util/function/BiFunction;", .initialized RJ3, .static yJ3_checkIndex_8e157, .methodLink RJ0 1059 yJ3_checkIndex_8e157] ++ (w_s_chk3n ++ (w_s_chk3r)))
theorem gw_s_t_chk0 : (w_s_t_chk0).all goodWord = true := kGc rfl (kGa (by decide +kernel) (kGa gw_s_chk3n gw_s_chk3r))
theorem hd_J0_checkIndex_df160 : yJ0_checkIndex_df160.cls ≠ "java/lang/invoke/MethodHandle" ∧ yJ0_checkIndex_df160.cls ≠ "java/lang/invoke/VarHandle" ∧ (parseMethodDescriptor yJ0_checkIndex_df160.desc).map (fun d => d.parameters.length) = some 2 := by decide +kernel
set_option maxHeartbeats 4000000 in
set_option maxRecDepth 100000 in
theorem s_t_chk0 (l : Launch) (dC : Nat → ClassId) (dI : Nat → Nat → Nat) (q : Nat) (b : Nat) (n : Nat) (g : Nat → Int32) (hn : n ≤ 8) (A : Nat → Prop) (hg : ∀ k : Nat, ∃ v : Nat, v < 128 ∧ g k = nI v) (pj : Nat) (hpj : pj < n) : Met l yJ0_checkIndex_df160 w_s_t_chk0 ({ frames := 2, cells := 0, slots := 0, locals := 120 }) (kR dC dI [.int (nI (pj)), .int (nI (n))] [] [] (kSt q b n g A)) (va_Sv (fun _ : Unit => True)) 0 0 (fun _ => False) := by
  refine Met.ofW (cc := cJ0_checkIndex_df160) (maxL := 2) (ret := none) (by decide) rfl ?_
  intro p e s m args below meth c s₁ B hml hv
  obtain ⟨rfl, hP, hK, hX⟩ := hv
  have hx := B.exec
  have hb := B.bytes
  have hr := B.returns
  have hts := atoms_spec (ws := w_s_t_chk0) B.pre
  have hown : s.vm.findClass RJ0 = some m.cls := findClass_of_methodNamed B.named
  have hlocks := B.notSynchronized
  have hS : va_S A s.heap s.heap [] := va_S.rf
  have hP : va_P (dC, dI) vwCl [] s.heap := hP
  have hl := lv_entry ([.int (nI (pj)), .int (nI (n))]) (n := 2) (Nat.le_of_ble_eq_true rfl)
  rw [lg_entry_eq]
  generalize (lg_sl ([.int (nI (pj)), .int (nI (n))]) ++ List.replicate (2 - (lg_sl ([.int (nI (pj)), .int (nI (n))])).length) Slot.unset).toArray = ls at hl ⊢
  have hl : lv_has ls 2 [(0, .int (nI (pj))), (1, .int (nI (n)))] := hl
  refine kQ (fun Q hQ => ?_)
  refine lv_iload_n hx hb dJ0_checkIndex_df160_0 rfl (lv_at hl 0 rfl) ?_
  refine lv_iload_n hx hb dJ0_checkIndex_df160_1 rfl (lv_at hl 1 rfl) ?_
  rcases hX.2.2.2.2.2 with hZ | ⟨t_1, hZ⟩
  · refine va_gets hx hb hZ hS hown (hts (.fieldLink RJ0 1053 "jdk/internal/util/Preconditions" "SIOOBE_FORMATTER" "Ljava/util/function/BiFunction;") (List.mem_cons_of_mem _ (List.mem_append_left _ (List.mem_of_getElem? (i := 0) rfl)))) (fun _ h9 => h9) dJ0_checkIndex_df160_2 ?_
    have hPc := hP.sb (ws2 := []) [] rfl
    have hKc := hK.sb (tys2 := []) [] rfl
    refine vp_callSi (va_runS (As := [.int (nI (pj)), .int (nI (n)), .null]) (rest := []) ⟨hx, hb, hml, hown, hts⟩ (s_chk3n l dC dI pj n hpj hn) (va_cwS 3 hts (kG (List.forall_mem_cons.mpr ⟨(List.mem_cons_of_mem _ (List.mem_append_left _ (List.mem_of_getElem? (i := 3) rfl))), (List.forall_mem_cons.mpr ⟨(List.mem_cons_of_mem _ (List.mem_append_left _ (List.mem_of_getElem? (i := 2) rfl))), (List.forall_mem_cons.mpr ⟨(List.mem_cons_of_mem _ (List.mem_append_left _ (List.mem_of_getElem? (i := 1) rfl))), (fun _ h => absurd h List.not_mem_nil)⟩)⟩)⟩) (kGS _ _ _) (fun _ h => List.mem_cons_of_mem _ (List.mem_append_right _ (List.mem_append_left _ h))) gw_s_chk3n) rfl rfl rfl hd_J3_checkIndex_8e157 ⟨(Nat.le_of_ble_eq_true rfl), (Nat.le_of_ble_eq_true rfl)⟩) (kR_S kT_blind kT_give hPc hKc) rfl rfl hl.1 rfl (lv_room (Nat.le_of_ble_eq_true rfl)) dJ0_checkIndex_df160_5 ⟨(Nat.le_of_ble_eq_true rfl), (Nat.le_of_ble_eq_true rfl)⟩).run (fun r_2 hw => ?_)
    refine lv_pop hx hb dJ0_checkIndex_df160_8 rfl ?_
    rw [hQ]
    exact W.vret hx hb hr (fun t ht hW => ⟨rfl, trivial, ht⟩) (fun _ h => nomatch h) dJ0_checkIndex_df160_9
  · refine va_gets hx hb hZ hS hown (hts (.fieldLink RJ0 1053 "jdk/internal/util/Preconditions" "SIOOBE_FORMATTER" "Ljava/util/function/BiFunction;") (List.mem_cons_of_mem _ (List.mem_append_left _ (List.mem_of_getElem? (i := 0) rfl)))) (fun _ h9 => h9) dJ0_checkIndex_df160_2 ?_
    have hPc := hP.sb (ws2 := []) [] rfl
    have hKc := hK.sb (tys2 := []) [] rfl
    refine vp_callSi (va_runS (As := [.int (nI (pj)), .int (nI (n)), .ref t_1]) (rest := []) ⟨hx, hb, hml, hown, hts⟩ (s_chk3r l dC dI pj n hpj hn t_1) (va_cwS 3 hts (kG (List.forall_mem_cons.mpr ⟨(List.mem_cons_of_mem _ (List.mem_append_left _ (List.mem_of_getElem? (i := 3) rfl))), (List.forall_mem_cons.mpr ⟨(List.mem_cons_of_mem _ (List.mem_append_left _ (List.mem_of_getElem? (i := 2) rfl))), (List.forall_mem_cons.mpr ⟨(List.mem_cons_of_mem _ (List.mem_append_left _ (List.mem_of_getElem? (i := 1) rfl))), (fun _ h => absurd h List.not_mem_nil)⟩)⟩)⟩) (kGS _ _ _) (fun _ h => List.mem_cons_of_mem _ (List.mem_append_right _ (List.mem_append_right _ h))) gw_s_chk3r) rfl rfl rfl hd_J3_checkIndex_8e157 ⟨(Nat.le_of_ble_eq_true rfl), (Nat.le_of_ble_eq_true rfl)⟩) (kR_S kT_blind kT_give hPc hKc) rfl rfl hl.1 rfl (lv_room (Nat.le_of_ble_eq_true rfl)) dJ0_checkIndex_df160_5 ⟨(Nat.le_of_ble_eq_true rfl), (Nat.le_of_ble_eq_true rfl)⟩).run (fun r_3 hw => ?_)
    refine lv_pop hx hb dJ0_checkIndex_df160_8 rfl ?_
    rw [hQ]
    exact W.vret hx hb hr (fun t ht hW => ⟨rfl, trivial, ht⟩) (fun _ h => nomatch h) dJ0_checkIndex_df160_9

theorem dJ1_charAt_3b067_0 : decode cJ1_charAt_3b067 0 = .ok (.iload_n 1, 1) := kDs0 kf_27 (by decide +kernel)
theorem dJ1_charAt_3b067_1 : decode cJ1_charAt_3b067 1 = .ok (.aload_n 0, 1) := kDs0 kf_42 (by decide +kernel)
theorem dJ1_charAt_3b067_2 : decode cJ1_charAt_3b067 2 = .ok (.arraylength, 1) := kDs0 kf_190 (by decide +kernel)
theorem dJ1_charAt_3b067_3 : decode cJ1_charAt_3b067 3 = .ok (.invokestatic 9, 3) := kDs2 kf_184 (by decide +kernel)
theorem dJ1_charAt_3b067_6 : decode cJ1_charAt_3b067 6 = .ok (.aload_n 0, 1) := kDs0 kf_42 (by decide +kernel)
theorem dJ1_charAt_3b067_7 : decode cJ1_charAt_3b067 7 = .ok (.iload_n 1, 1) := kDs0 kf_27 (by decide +kernel)
theorem dJ1_charAt_3b067_8 : decode cJ1_charAt_3b067 8 = .ok (.baload, 1) := kDs0 kf_51 (by decide +kernel)
theorem dJ1_charAt_3b067_9 : decode cJ1_charAt_3b067 9 = .ok (.sipush 255, 3) := kDs4 kf_17 (by decide +kernel)
theorem dJ1_charAt_3b067_12 : decode cJ1_charAt_3b067 12 = .ok (.iand, 1) := kDs0 kf_126 (by decide +kernel)
theorem dJ1_charAt_3b067_13 : decode cJ1_charAt_3b067 13 = .ok (.i2c, 1) := kDs0 kf_146 (by decide +kernel)
theorem dJ1_charAt_3b067_14 : decode cJ1_charAt_3b067 14 = .ok (.ireturn, 1) := kDs0 kf_172 (by decide +kernel)
def w_s_t_char1 : List Cond := .code yJ1_charAt_3b067 cJ1_charAt_3b067 2 (some .char) :: ([.initialized RJ0, .static yJ0_checkIndex_df160, .methodLink RJ1 9 yJ0_checkIndex_df160] ++ (w_s_t_chk0))
theorem gw_s_t_char1 : (w_s_t_char1).all goodWord = true := kGc rfl (kGa (by decide +kernel) gw_s_t_chk0)
theorem hd_J1_charAt_3b067 : yJ1_charAt_3b067.cls ≠ "java/lang/invoke/MethodHandle" ∧ yJ1_charAt_3b067.cls ≠ "java/lang/invoke/VarHandle" ∧ (parseMethodDescriptor yJ1_charAt_3b067.desc).map (fun d => d.parameters.length) = some 2 := by decide +kernel
set_option maxHeartbeats 4000000 in
set_option maxRecDepth 100000 in
theorem s_t_char1 (l : Launch) (dC : Nat → ClassId) (dI : Nat → Nat → Nat) (q : Nat) (b : Nat) (n : Nat) (g : Nat → Int32) (hn : n ≤ 8) (A : Nat → Prop) (hg : ∀ k : Nat, ∃ v : Nat, v < 128 ∧ g k = nI v) (pj : Nat) (hpj : pj < n) : Met l yJ1_charAt_3b067 w_s_t_char1 ({ frames := 3, cells := 0, slots := 0, locals := 180 }) (kR dC dI [.ref b, .int (nI (pj))] [] [] (kSt q b n g A)) (vp_Si (fun r : Int32 => (∃ v : Nat, v < 128 ∧ r = nI v))) 0 0 (fun _ => False) := by
  refine Met.ofW (cc := cJ1_charAt_3b067) (maxL := 2) (ret := (some .char)) (by decide) rfl ?_
  intro p e s m args below meth c s₁ B hml hv
  obtain ⟨rfl, hP, hK, hX⟩ := hv
  have hx := B.exec
  have hb := B.bytes
  have hr := B.returns
  have hts := atoms_spec (ws := w_s_t_char1) B.pre
  have hown : s.vm.findClass RJ1 = some m.cls := findClass_of_methodNamed B.named
  have hlocks := B.notSynchronized
  have hS : va_S A s.heap s.heap [] := va_S.rf
  have hP : va_P (dC, dI) vwCl [] s.heap := hP
  have hl := lv_entry ([.ref b, .int (nI (pj))]) (n := 2) (Nat.le_of_ble_eq_true rfl)
  rw [lg_entry_eq]
  generalize (lg_sl ([.ref b, .int (nI (pj))]) ++ List.replicate (2 - (lg_sl ([.ref b, .int (nI (pj))])).length) Slot.unset).toArray = ls at hl ⊢
  have hl : lv_has ls 2 [(0, .ref b), (1, .int (nI (pj)))] := hl
  refine kQ (fun Q hQ => ?_)
  refine lv_iload_n hx hb dJ1_charAt_3b067_0 rfl (lv_at hl 1 rfl) ?_
  refine lv_aload_n hx hb dJ1_charAt_3b067_1 rfl (lv_at hl 0 rfl) ?_
  refine va_tlen hx hb hX.2.2.2.1 hS (v := nI (n)) rfl dJ1_charAt_3b067_2 ?_
  have hPc := hP.sb (ws2 := []) [] rfl
  have hKc := hK.sb (tys2 := []) [] rfl
  refine va_csv (va_runS (As := [.int (nI (pj)), .int (nI (n))]) (rest := []) ⟨hx, hb, hml, hown, hts⟩ (s_t_chk0 l dC dI q b n g hn A hg pj hpj) (va_cwS 2 hts (kG (List.forall_mem_cons.mpr ⟨(List.mem_cons_of_mem _ (List.mem_append_left _ (List.mem_of_getElem? (i := 2) rfl))), (List.forall_mem_cons.mpr ⟨(List.mem_cons_of_mem _ (List.mem_append_left _ (List.mem_of_getElem? (i := 1) rfl))), (List.forall_mem_cons.mpr ⟨(List.mem_cons_of_mem _ (List.mem_append_left _ (List.mem_of_getElem? (i := 0) rfl))), (fun _ h => absurd h List.not_mem_nil)⟩)⟩)⟩) (kGS _ _ _) (fun _ h => List.mem_cons_of_mem _ (List.mem_append_right _ h)) gw_s_t_chk0) rfl rfl rfl hd_J0_checkIndex_df160 ⟨(Nat.le_of_ble_eq_true rfl), (Nat.le_of_ble_eq_true rfl)⟩) (kR_S kSt_blind (kSt_give hX hS) hPc hKc) rfl rfl hl.1 rfl (lv_room (Nat.le_of_ble_eq_true rfl)) dJ1_charAt_3b067_3 ⟨(Nat.le_of_ble_eq_true rfl), (Nat.le_of_ble_eq_true rfl)⟩).run (fun hw => ?_)
  refine lv_aload_n hx hb dJ1_charAt_3b067_6 rfl (lv_at hl 0 rfl) ?_
  refine lv_iload_n hx hb dJ1_charAt_3b067_7 rfl (lv_at hl 1 rfl) ?_
  refine va_tb hx hb hX.2.2.2.1 hS (vp_in_nI (n := pj) (N := n) (by omega) (by omega)) (v := .int (g (Int32.toNatClampNeg (nI (pj))))) rfl dJ1_charAt_3b067_8 ?_
  refine lv_topi (fun x_3 ex_3 => ?_)
  obtain ⟨j_4, hj_4, ej_4⟩ := hg (Int32.toNatClampNeg (nI (pj)))
  rw [ej_4] at ex_3
  subst ex_3
  refine lv_sipush (v := 255) hx hb dJ1_charAt_3b067_9 kc_s_255 ?_
  refine lv_iand hx hb dJ1_charAt_3b067_12 ?_
  refine lv_topi (fun x_5 ex_5 => ?_)
  obtain rfl : x_5 = nI (j_4) := ex_5.trans (kA255 hj_4)
  obtain ⟨x_6, ex_6⟩ : ∃ z : Int32, z = (Int32.toUInt32 (nI (j_4)) % 65536).toInt32 := ⟨_, rfl⟩
  refine lv_i2c (v := x_6) hx hb dJ1_charAt_3b067_13 ex_6.symm ?_
  obtain rfl : x_6 = nI (j_4) := ex_6.trans (kI2c hj_4)
  rw [hQ]
  exact W.zret (v := nI (j_4)) hx hb hr (kNarC hj_4) (fun t ht hW => ⟨nI (j_4), rfl, ⟨_, hj_4, rfl⟩, ht⟩) (fun _ h => nomatch h) dJ1_charAt_3b067_14

theorem dJ0_charAt_5068e_0 : decode cJ0_charAt_5068e 0 = .ok (.aload_n 0, 1) := kDs0 kf_42 (by decide +kernel)
theorem dJ0_charAt_5068e_1 : decode cJ0_charAt_5068e 1 = .ok (.invokevirtual 492, 3) := kDs2 kf_182 (by decide +kernel)
theorem dJ0_charAt_5068e_4 : decode cJ0_charAt_5068e 4 = .ok (.ifCond .eq 12, 3) := kDs4 kf_153 (by decide +kernel)
theorem dJ0_charAt_5068e_7 : decode cJ0_charAt_5068e 7 = .ok (.aload_n 0, 1) := kDs0 kf_42 (by decide +kernel)
theorem dJ0_charAt_5068e_8 : decode cJ0_charAt_5068e 8 = .ok (.getfield 9, 3) := kDs2 kf_180 (by decide +kernel)
theorem dJ0_charAt_5068e_11 : decode cJ0_charAt_5068e 11 = .ok (.iload_n 1, 1) := kDs0 kf_27 (by decide +kernel)
theorem dJ0_charAt_5068e_12 : decode cJ0_charAt_5068e 12 = .ok (.invokestatic 495, 3) := kDs2 kf_184 (by decide +kernel)
theorem dJ0_charAt_5068e_15 : decode cJ0_charAt_5068e 15 = .ok (.ireturn, 1) := kDs0 kf_172 (by decide +kernel)
def w_s_t_charAt : List Cond := .code yJ0_charAt_5068e cJ0_charAt_5068e 2 (some .char) :: ([.initialized RJ0, .selects RJ0 yJ0_isLatin1_aae02 yJ0_isLatin1_aae02, .instanceMethod yJ0_isLatin1_aae02, .methodLink RJ0 492 yJ0_isLatin1_aae02, .fieldLink RJ0 9 "java/lang/String" "value" "[B", .initialized RJ1, .static yJ1_charAt_3b067, .methodLink RJ0 495 yJ1_charAt_3b067] ++ (w_s_t_latin ++ (w_s_t_char1)))
theorem gw_s_t_charAt : (w_s_t_charAt).all goodWord = true := kGc rfl (kGa (by decide +kernel) (kGa gw_s_t_latin gw_s_t_char1))
theorem hd_J0_charAt_5068e : yJ0_charAt_5068e.cls ≠ "java/lang/invoke/MethodHandle" ∧ yJ0_charAt_5068e.cls ≠ "java/lang/invoke/VarHandle" ∧ (parseMethodDescriptor yJ0_charAt_5068e.desc).map (fun d => d.parameters.length) = some 1 := by decide +kernel
set_option maxHeartbeats 4000000 in
set_option maxRecDepth 100000 in
theorem s_t_charAt (l : Launch) (dC : Nat → ClassId) (dI : Nat → Nat → Nat) (q : Nat) (b : Nat) (n : Nat) (g : Nat → Int32) (hn : n ≤ 8) (A : Nat → Prop) (hg : ∀ k : Nat, ∃ v : Nat, v < 128 ∧ g k = nI v) (pj : Nat) (hpj : pj < n) : Met l yJ0_charAt_5068e w_s_t_charAt ({ frames := 4, cells := 0, slots := 0, locals := 240 }) (kR dC dI [.ref q, .int (nI (pj))] [] [] (kSt q b n g A)) (vp_Si (fun r : Int32 => (∃ v : Nat, v < 128 ∧ r = nI v))) 0 0 (fun _ => False) := by
  refine Met.ofW (cc := cJ0_charAt_5068e) (maxL := 2) (ret := (some .char)) (by decide) rfl ?_
  intro p e s m args below meth c s₁ B hml hv
  obtain ⟨rfl, hP, hK, hX⟩ := hv
  have hx := B.exec
  have hb := B.bytes
  have hr := B.returns
  have hts := atoms_spec (ws := w_s_t_charAt) B.pre
  have hown : s.vm.findClass RJ0 = some m.cls := findClass_of_methodNamed B.named
  have hlocks := B.notSynchronized
  have hS : va_S A s.heap s.heap [] := va_S.rf
  have hP : va_P (dC, dI) vwCl [] s.heap := hP
  have hl := lv_entry ([.ref q, .int (nI (pj))]) (n := 2) (Nat.le_of_ble_eq_true rfl)
  rw [lg_entry_eq]
  generalize (lg_sl ([.ref q, .int (nI (pj))]) ++ List.replicate (2 - (lg_sl ([.ref q, .int (nI (pj))])).length) Slot.unset).toArray = ls at hl ⊢
  have hl : lv_has ls 2 [(0, .ref q), (1, .int (nI (pj)))] := hl
  refine kQ (fun Q hQ => ?_)
  refine lv_aload_n hx hb dJ0_charAt_5068e_0 rfl (lv_at hl 0 rfl) ?_
  have hPc := hP.sb (ws2 := []) [] rfl
  have hKc := hK.sb (tys2 := []) [] rfl
  refine vp_callSi (va_runV (As := []) (rest := []) ⟨hx, hb, hml, hown, hts⟩ (s_t_latin l dC dI q b n g hn A) (cwV 0 hts (kG (List.forall_mem_cons.mpr ⟨(List.mem_cons_of_mem _ (List.mem_append_left _ (List.mem_of_getElem? (i := 3) rfl))), (List.forall_mem_cons.mpr ⟨(List.mem_cons_of_mem _ (List.mem_append_left _ (List.mem_of_getElem? (i := 2) rfl))), (List.forall_mem_cons.mpr ⟨(List.mem_cons_of_mem _ (List.mem_append_left _ (List.mem_of_getElem? (i := 1) rfl))), (List.forall_mem_cons.mpr ⟨(List.mem_cons_of_mem _ (List.mem_append_left _ (List.mem_of_getElem? (i := 0) rfl))), (fun _ h => absurd h List.not_mem_nil)⟩)⟩)⟩)⟩) (kGV _ _ _ _) (fun _ h => List.mem_cons_of_mem _ (List.mem_append_right _ (List.mem_append_left _ h))) gw_s_t_latin) rfl rfl rfl ⟨rfl, hd_J0_isLatin1_aae02⟩ ⟨(Nat.le_of_ble_eq_true rfl), (Nat.le_of_ble_eq_true rfl)⟩) (kR_V kSt_blind (kSt_give hX hS) (kSt_recv hX hS) hPc hKc) rfl rfl hl.1 rfl (lv_room (Nat.le_of_ble_eq_true rfl)) dJ0_charAt_5068e_1 ⟨(Nat.le_of_ble_eq_true rfl), (Nat.le_of_ble_eq_true rfl)⟩).run (fun r_1 hw => ?_)
  obtain rfl : r_1 = 1 := hw
  refine lv_if_eq (tgt := 16) hx hb dJ0_charAt_5068e_4 kc_t_4_12 (fun c_2 => absurd c_2 (by decide)) (fun c_2 => ?_)
  refine lv_aload_n hx hb dJ0_charAt_5068e_7 rfl (lv_at hl 0 rfl) ?_
  refine vk_getf hx hb hX.2.2.1 hS hown (hts (.fieldLink RJ0 9 "java/lang/String" "value" "[B") (List.mem_cons_of_mem _ (List.mem_append_left _ (List.mem_of_getElem? (i := 4) rfl)))) (fun _ h9 => h9) dJ0_charAt_5068e_8 ?_
  refine lv_iload_n hx hb dJ0_charAt_5068e_11 rfl (lv_at hl 1 rfl) ?_
  have hPc := hP.sb (ws2 := []) [] rfl
  have hKc := hK.sb (tys2 := []) [] rfl
  refine vp_callSi (va_runS (As := [.ref b, .int (nI (pj))]) (rest := []) ⟨hx, hb, hml, hown, hts⟩ (s_t_char1 l dC dI q b n g hn A hg pj hpj) (va_cwS 2 hts (kG (List.forall_mem_cons.mpr ⟨(List.mem_cons_of_mem _ (List.mem_append_left _ (List.mem_of_getElem? (i := 7) rfl))), (List.forall_mem_cons.mpr ⟨(List.mem_cons_of_mem _ (List.mem_append_left _ (List.mem_of_getElem? (i := 6) rfl))), (List.forall_mem_cons.mpr ⟨(List.mem_cons_of_mem _ (List.mem_append_left _ (List.mem_of_getElem? (i := 5) rfl))), (fun _ h => absurd h List.not_mem_nil)⟩)⟩)⟩) (kGS _ _ _) (fun _ h => List.mem_cons_of_mem _ (List.mem_append_right _ (List.mem_append_right _ h))) gw_s_t_char1) rfl rfl rfl hd_J1_charAt_3b067 ⟨(Nat.le_of_ble_eq_true rfl), (Nat.le_of_ble_eq_true rfl)⟩) (kR_S kSt_blind (kSt_give hX hS) hPc hKc) rfl rfl hl.1 rfl (lv_room (Nat.le_of_ble_eq_true rfl)) dJ0_charAt_5068e_12 ⟨(Nat.le_of_ble_eq_true rfl), (Nat.le_of_ble_eq_true rfl)⟩).run (fun r_3 hw => ?_)
  have hw_4 := hw
  rw [hQ]
  exact W.zret (v := r_3) hx hb hr (by obtain ⟨v9, hv9, e9⟩ := hw_4; rw [e9]; exact kNarC hv9) (fun t ht hW => ⟨r_3, rfl, hw_4, ht⟩) (fun _ h => nomatch h) dJ0_charAt_5068e_15

theorem dX10_isAmong_0 : decode cX10_isAmong 0 = .ok (.iconst 0, 1) := kDs0 kf_3 (by decide +kernel)
theorem dX10_isAmong_1 : decode cX10_isAmong 1 = .ok (.istore_n 2, 1) := kDs0 kf_61 (by decide +kernel)
theorem dX10_isAmong_2 : decode cX10_isAmong 2 = .ok (.iload_n 2, 1) := kDs0 kf_28 (by decide +kernel)
theorem dX10_isAmong_3 : decode cX10_isAmong 3 = .ok (.aload_n 0, 1) := kDs0 kf_42 (by decide +kernel)
theorem dX10_isAmong_4 : decode cX10_isAmong 4 = .ok (.invokevirtual 121, 3) := kDs2 kf_182 (by decide +kernel)
theorem dX10_isAmong_7 : decode cX10_isAmong 7 = .ok (.if_icmp .ge 20, 3) := kDs4 kf_162 (by decide +kernel)
theorem dX10_isAmong_27 : decode cX10_isAmong 27 = .ok (.iconst 0, 1) := kDs0 kf_3 (by decide +kernel)
theorem dX10_isAmong_28 : decode cX10_isAmong 28 = .ok (.ireturn, 1) := kDs0 kf_172 (by decide +kernel)
theorem dX10_isAmong_10 : decode cX10_isAmong 10 = .ok (.aload_n 0, 1) := kDs0 kf_42 (by decide +kernel)
theorem dX10_isAmong_11 : decode cX10_isAmong 11 = .ok (.iload_n 2, 1) := kDs0 kf_28 (by decide +kernel)
theorem dX10_isAmong_12 : decode cX10_isAmong 12 = .ok (.invokevirtual 127, 3) := kDs2 kf_182 (by decide +kernel)
theorem dX10_isAmong_15 : decode cX10_isAmong 15 = .ok (.iload_n 1, 1) := kDs0 kf_27 (by decide +kernel)
theorem dX10_isAmong_16 : decode cX10_isAmong 16 = .ok (.if_icmp .ne 5, 3) := kDs4 kf_160 (by decide +kernel)
theorem dX10_isAmong_21 : decode cX10_isAmong 21 = .ok (.iinc 2 1, 3) := kDs5 kf_132 (by decide +kernel)
theorem dX10_isAmong_24 : decode cX10_isAmong 24 = .ok (.goto (-22), 3) := kDs4 kf_167 (by decide +kernel)
theorem dX10_isAmong_19 : decode cX10_isAmong 19 = .ok (.iconst 1, 1) := kDs0 kf_4 (by decide +kernel)
theorem dX10_isAmong_20 : decode cX10_isAmong 20 = .ok (.ireturn, 1) := kDs0 kf_172 (by decide +kernel)
def w_s_among10 : List Cond := .code yX10_isAmong cX10_isAmong 3 (some .boolean) :: ([.initialized RJ0, .selects RJ0 yJ0_length_8abf5 yJ0_length_8abf5, .instanceMethod yJ0_length_8abf5, .methodLink RX10 121 yJ0_length_8abf5, .selects RJ0 yJ0_charAt_5068e yJ0_charAt_5068e, .instanceMethod yJ0_charAt_5068e, .methodLink RX10 127 yJ0_charAt_5068e] ++ (w_s_t_length ++ (w_s_t_charAt)))
theorem gw_s_among10 : (w_s_among10).all goodWord = true := kGc rfl (kGa (by decide +kernel) (kGa gw_s_t_length gw_s_t_charAt))
theorem hd_X10_isAmong : yX10_isAmong.cls ≠ "java/lang/invoke/MethodHandle" ∧ yX10_isAmong.cls ≠ "java/lang/invoke/VarHandle" ∧ (parseMethodDescriptor yX10_isAmong.desc).map (fun d => d.parameters.length) = some 2 := by decide +kernel
set_option maxHeartbeats 4000000 in
set_option maxRecDepth 100000 in
theorem s_among10 (l : Launch) (dC : Nat → ClassId) (dI : Nat → Nat → Nat) (q : Nat) (b : Nat) (n : Nat) (g : Nat → Int32) (hn : n ≤ 8) (A : Nat → Prop) (hg : ∀ k : Nat, ∃ v : Nat, v < 128 ∧ g k = nI v) (p0 : Int32) : Met l yX10_isAmong w_s_among10 ({ frames := 5, cells := 0, slots := 0, locals := 300 }) (kR dC dI [.ref q, .int p0] [] [] (kSt q b n g A)) (vp_Si (fun r : Int32 => (¬ r = 0 → ∃ j : Nat, j < 128 ∧ p0 = nI j))) 0 0 (fun _ => False) := by
  refine Met.ofW (cc := cX10_isAmong) (maxL := 3) (ret := (some .boolean)) (by decide) rfl ?_
  intro p e s m args below meth c s₁ B hml hv
  obtain ⟨rfl, hP, hK, hX⟩ := hv
  have hx := B.exec
  have hb := B.bytes
  have hr := B.returns
  have hts := atoms_spec (ws := w_s_among10) B.pre
  have hown : s.vm.findClass RX10 = some m.cls := findClass_of_methodNamed B.named
  have hlocks := B.notSynchronized
  have hS : va_S A s.heap s.heap [] := va_S.rf
  have hP : va_P (dC, dI) vwCl [] s.heap := hP
  have hl := lv_entry ([.ref q, .int p0]) (n := 3) (Nat.le_of_ble_eq_true rfl)
  rw [lg_entry_eq]
  generalize (lg_sl ([.ref q, .int p0]) ++ List.replicate (3 - (lg_sl ([.ref q, .int p0])).length) Slot.unset).toArray = ls at hl ⊢
  have hl : lv_has ls 3 [(0, .ref q), (1, .int p0)] := hl
  refine kQ (fun Q hQ => ?_)
  refine lv_iconst (v := 0) hx hb dX10_isAmong_0 kc_i_0 ?_
  refine lv_istore_n hx hb dX10_isAmong_1 rfl hl kc_l_2_3 (kTo [(2, .int 0), (0, .ref q), (1, .int p0)]) (fun ls hl => ?_)
  have lp_k_1 : ∀ (n9 : Nat) (i : Nat) (ivk_1_0 : i ≤ n) (ls : Array Slot) (_ : lv_has ls 3 [(2, .int (nI (i))), (0, .ref q), (1, .int p0)]) (_ : n - i < n9), W p l e (headSpec w_s_among10 ({ frames := 5, cells := 0, slots := 0, locals := 300 })).room s m (#[.ref q, .int p0] : Array Value) below meth c s.heap [] 0 0 Q (F0 m 2 ls []) := by
    intro n9
    induction n9 with
    | zero => intro i ivk_1_0 ls hl hm9; exact absurd hm9 (Nat.not_lt_zero _)
    | succ n9 ih_k_1 =>
      intro i ivk_1_0 ls hl hm9
      refine lv_iload_n hx hb dX10_isAmong_2 rfl (lv_at hl 0 rfl) ?_
      refine lv_aload_n hx hb dX10_isAmong_3 rfl (lv_at hl 1 rfl) ?_
      have hPc := hP.sb (ws2 := []) [] rfl
      have hKc := hK.sb (tys2 := []) [] rfl
      refine vp_callSi (va_runV (As := []) (rest := [.int (nI (i))]) ⟨hx, hb, hml, hown, hts⟩ (s_t_length l dC dI q b n g hn A) (cwV 0 hts (kG (List.forall_mem_cons.mpr ⟨(List.mem_cons_of_mem _ (List.mem_append_left _ (List.mem_of_getElem? (i := 3) rfl))), (List.forall_mem_cons.mpr ⟨(List.mem_cons_of_mem _ (List.mem_append_left _ (List.mem_of_getElem? (i := 2) rfl))), (List.forall_mem_cons.mpr ⟨(List.mem_cons_of_mem _ (List.mem_append_left _ (List.mem_of_getElem? (i := 1) rfl))), (List.forall_mem_cons.mpr ⟨(List.mem_cons_of_mem _ (List.mem_append_left _ (List.mem_of_getElem? (i := 0) rfl))), (fun _ h => absurd h List.not_mem_nil)⟩)⟩)⟩)⟩) (kGV _ _ _ _) (fun _ h => List.mem_cons_of_mem _ (List.mem_append_right _ (List.mem_append_left _ h))) gw_s_t_length) rfl rfl rfl ⟨rfl, hd_J0_length_8abf5⟩ ⟨(Nat.le_of_ble_eq_true rfl), (Nat.le_of_ble_eq_true rfl)⟩) (kR_V kSt_blind (kSt_give hX hS) (kSt_recv hX hS) hPc hKc) rfl rfl hl.1 rfl (lv_room (Nat.le_of_ble_eq_true rfl)) dX10_isAmong_4 ⟨(Nat.le_of_ble_eq_true rfl), (Nat.le_of_ble_eq_true rfl)⟩).run (fun r_2 hw => ?_)
      obtain rfl : r_2 = nI (n) := hw
      refine lv_icmp_ge (tgt := 27) hx hb dX10_isAmong_7 kc_t_7_20 (fun c_3 => ?_) (fun c_3 => ?_)
      · have bd_5 : n < 2147483648 := by omega
        have bd_6 : i < 2147483648 := by omega
        have hn_4 := kle (a := n) (b := i) bd_5 bd_6 c_3
        refine lv_iconst (v := 0) hx hb dX10_isAmong_27 kc_i_0 ?_
        rw [hQ]
        exact W.zret (v := 0) hx hb hr rfl (fun t ht hW => ⟨0, rfl, (fun z => absurd rfl z), ht⟩) (fun _ h => nomatch h) dX10_isAmong_28
      · have bd_8 : n < 2147483648 := by omega
        have bd_9 : i < 2147483648 := by omega
        have hn_7 := knle (a := n) (b := i) bd_8 bd_9 c_3
        refine lv_aload_n hx hb dX10_isAmong_10 rfl (lv_at hl 1 rfl) ?_
        refine lv_iload_n hx hb dX10_isAmong_11 rfl (lv_at hl 0 rfl) ?_
        have bd_10 : i < n := by omega
        have hPc := hP.sb (ws2 := []) [] rfl
        have hKc := hK.sb (tys2 := []) [] rfl
        refine vp_callSi (va_runV (As := [.int (nI (i))]) (rest := []) ⟨hx, hb, hml, hown, hts⟩ (s_t_charAt l dC dI q b n g hn A hg i bd_10) (cwV 1 hts (kG (List.forall_mem_cons.mpr ⟨(List.mem_cons_of_mem _ (List.mem_append_left _ (List.mem_of_getElem? (i := 6) rfl))), (List.forall_mem_cons.mpr ⟨(List.mem_cons_of_mem _ (List.mem_append_left _ (List.mem_of_getElem? (i := 5) rfl))), (List.forall_mem_cons.mpr ⟨(List.mem_cons_of_mem _ (List.mem_append_left _ (List.mem_of_getElem? (i := 4) rfl))), (List.forall_mem_cons.mpr ⟨(List.mem_cons_of_mem _ (List.mem_append_left _ (List.mem_of_getElem? (i := 0) rfl))), (fun _ h => absurd h List.not_mem_nil)⟩)⟩)⟩)⟩) (kGV _ _ _ _) (fun _ h => List.mem_cons_of_mem _ (List.mem_append_right _ (List.mem_append_right _ h))) gw_s_t_charAt) rfl rfl rfl ⟨rfl, hd_J0_charAt_5068e⟩ ⟨(Nat.le_of_ble_eq_true rfl), (Nat.le_of_ble_eq_true rfl)⟩) (kR_V kSt_blind (kSt_give hX hS) (kSt_recv hX hS) hPc hKc) rfl rfl hl.1 rfl (lv_room (Nat.le_of_ble_eq_true rfl)) dX10_isAmong_12 ⟨(Nat.le_of_ble_eq_true rfl), (Nat.le_of_ble_eq_true rfl)⟩).run (fun r_11 hw => ?_)
        have hw_12 := hw
        refine lv_iload_n hx hb dX10_isAmong_15 rfl (lv_at hl 2 rfl) ?_
        refine lv_icmp_ne (tgt := 21) hx hb dX10_isAmong_16 kc_t_16_5 (fun c_13 => ?_) (fun c_13 => ?_)
        · refine lv_iinc (v := nI (i + 1)) hx hb dX10_isAmong_21 hl (k := 0) rfl (kInc _ 1) kc_l_2_3 (kTo [(2, .int (nI (i + 1))), (0, .ref q), (1, .int p0)]) (fun ls hl => ?_)
          refine lv_goto (tgt := 2) hx hb dX10_isAmong_24 kc_t_24_m22 ?_
          exact ih_k_1 (i + 1) (by omega) ls (lv_sub hl [0, 1, 2] rfl) (by omega)
        · refine lv_iconst (v := 1) hx hb dX10_isAmong_19 kc_i_1 ?_
          rw [hQ]
          exact W.zret (v := 1) hx hb hr rfl (fun t ht hW => ⟨1, rfl, (fun _ => by obtain ⟨v9, hv9, e9⟩ := hw_12; exact ⟨v9, hv9, c_13.symm.trans e9⟩), ht⟩) (fun _ h => nomatch h) dX10_isAmong_20
  exact lp_k_1 (n - 0 + 1) 0 (by omega) ls (lv_sub hl [0, 1, 2] rfl) (by omega)

theorem dJ13_bitCount_95d88_0 : decode cJ13_bitCount_95d88 0 = .ok (.lload_n 0, 1) := kDs0 kf_30 (by decide +kernel)
theorem dJ13_bitCount_95d88_1 : decode cJ13_bitCount_95d88 1 = .ok (.lload_n 0, 1) := kDs0 kf_30 (by decide +kernel)
theorem dJ13_bitCount_95d88_2 : decode cJ13_bitCount_95d88 2 = .ok (.iconst 1, 1) := kDs0 kf_4 (by decide +kernel)
theorem dJ13_bitCount_95d88_3 : decode cJ13_bitCount_95d88 3 = .ok (.lushr, 1) := kDs0 kf_125 (by decide +kernel)
theorem dJ13_bitCount_95d88_4 : decode cJ13_bitCount_95d88 4 = .ok (.ldc2_w 314, 3) := kDs2 kf_20 (by decide +kernel)
theorem dJ13_bitCount_95d88_7 : decode cJ13_bitCount_95d88 7 = .ok (.land, 1) := kDs0 kf_127 (by decide +kernel)
theorem dJ13_bitCount_95d88_8 : decode cJ13_bitCount_95d88 8 = .ok (.lsub, 1) := kDs0 kf_101 (by decide +kernel)
theorem dJ13_bitCount_95d88_9 : decode cJ13_bitCount_95d88 9 = .ok (.lstore_n 0, 1) := kDs0 kf_63 (by decide +kernel)
theorem dJ13_bitCount_95d88_10 : decode cJ13_bitCount_95d88 10 = .ok (.lload_n 0, 1) := kDs0 kf_30 (by decide +kernel)
theorem dJ13_bitCount_95d88_11 : decode cJ13_bitCount_95d88 11 = .ok (.ldc2_w 316, 3) := kDs2 kf_20 (by decide +kernel)
theorem dJ13_bitCount_95d88_14 : decode cJ13_bitCount_95d88 14 = .ok (.land, 1) := kDs0 kf_127 (by decide +kernel)
theorem dJ13_bitCount_95d88_15 : decode cJ13_bitCount_95d88 15 = .ok (.lload_n 0, 1) := kDs0 kf_30 (by decide +kernel)
theorem dJ13_bitCount_95d88_16 : decode cJ13_bitCount_95d88 16 = .ok (.iconst 2, 1) := kDs0 kf_5 (by decide +kernel)
theorem dJ13_bitCount_95d88_17 : decode cJ13_bitCount_95d88 17 = .ok (.lushr, 1) := kDs0 kf_125 (by decide +kernel)
theorem dJ13_bitCount_95d88_18 : decode cJ13_bitCount_95d88 18 = .ok (.ldc2_w 316, 3) := kDs2 kf_20 (by decide +kernel)
theorem dJ13_bitCount_95d88_21 : decode cJ13_bitCount_95d88 21 = .ok (.land, 1) := kDs0 kf_127 (by decide +kernel)
theorem dJ13_bitCount_95d88_22 : decode cJ13_bitCount_95d88 22 = .ok (.ladd, 1) := kDs0 kf_97 (by decide +kernel)
theorem dJ13_bitCount_95d88_23 : decode cJ13_bitCount_95d88 23 = .ok (.lstore_n 0, 1) := kDs0 kf_63 (by decide +kernel)
theorem dJ13_bitCount_95d88_24 : decode cJ13_bitCount_95d88 24 = .ok (.lload_n 0, 1) := kDs0 kf_30 (by decide +kernel)
theorem dJ13_bitCount_95d88_25 : decode cJ13_bitCount_95d88 25 = .ok (.lload_n 0, 1) := kDs0 kf_30 (by decide +kernel)
theorem dJ13_bitCount_95d88_26 : decode cJ13_bitCount_95d88 26 = .ok (.iconst 4, 1) := kDs0 kf_7 (by decide +kernel)
theorem dJ13_bitCount_95d88_27 : decode cJ13_bitCount_95d88 27 = .ok (.lushr, 1) := kDs0 kf_125 (by decide +kernel)
theorem dJ13_bitCount_95d88_28 : decode cJ13_bitCount_95d88 28 = .ok (.ladd, 1) := kDs0 kf_97 (by decide +kernel)
theorem dJ13_bitCount_95d88_29 : decode cJ13_bitCount_95d88 29 = .ok (.ldc2_w 318, 3) := kDs2 kf_20 (by decide +kernel)
theorem dJ13_bitCount_95d88_32 : decode cJ13_bitCount_95d88 32 = .ok (.land, 1) := kDs0 kf_127 (by decide +kernel)
theorem dJ13_bitCount_95d88_33 : decode cJ13_bitCount_95d88 33 = .ok (.lstore_n 0, 1) := kDs0 kf_63 (by decide +kernel)
theorem dJ13_bitCount_95d88_34 : decode cJ13_bitCount_95d88 34 = .ok (.lload_n 0, 1) := kDs0 kf_30 (by decide +kernel)
theorem dJ13_bitCount_95d88_35 : decode cJ13_bitCount_95d88 35 = .ok (.lload_n 0, 1) := kDs0 kf_30 (by decide +kernel)
theorem dJ13_bitCount_95d88_36 : decode cJ13_bitCount_95d88 36 = .ok (.bipush 8, 2) := kDs3 kf_16 (by decide +kernel)
theorem dJ13_bitCount_95d88_38 : decode cJ13_bitCount_95d88 38 = .ok (.lushr, 1) := kDs0 kf_125 (by decide +kernel)
theorem dJ13_bitCount_95d88_39 : decode cJ13_bitCount_95d88 39 = .ok (.ladd, 1) := kDs0 kf_97 (by decide +kernel)
theorem dJ13_bitCount_95d88_40 : decode cJ13_bitCount_95d88 40 = .ok (.lstore_n 0, 1) := kDs0 kf_63 (by decide +kernel)
theorem dJ13_bitCount_95d88_41 : decode cJ13_bitCount_95d88 41 = .ok (.lload_n 0, 1) := kDs0 kf_30 (by decide +kernel)
theorem dJ13_bitCount_95d88_42 : decode cJ13_bitCount_95d88 42 = .ok (.lload_n 0, 1) := kDs0 kf_30 (by decide +kernel)
theorem dJ13_bitCount_95d88_43 : decode cJ13_bitCount_95d88 43 = .ok (.bipush 16, 2) := kDs3 kf_16 (by decide +kernel)
theorem dJ13_bitCount_95d88_45 : decode cJ13_bitCount_95d88 45 = .ok (.lushr, 1) := kDs0 kf_125 (by decide +kernel)
theorem dJ13_bitCount_95d88_46 : decode cJ13_bitCount_95d88 46 = .ok (.ladd, 1) := kDs0 kf_97 (by decide +kernel)
theorem dJ13_bitCount_95d88_47 : decode cJ13_bitCount_95d88 47 = .ok (.lstore_n 0, 1) := kDs0 kf_63 (by decide +kernel)
theorem dJ13_bitCount_95d88_48 : decode cJ13_bitCount_95d88 48 = .ok (.lload_n 0, 1) := kDs0 kf_30 (by decide +kernel)
theorem dJ13_bitCount_95d88_49 : decode cJ13_bitCount_95d88 49 = .ok (.lload_n 0, 1) := kDs0 kf_30 (by decide +kernel)
theorem dJ13_bitCount_95d88_50 : decode cJ13_bitCount_95d88 50 = .ok (.bipush 32, 2) := kDs3 kf_16 (by decide +kernel)
theorem dJ13_bitCount_95d88_52 : decode cJ13_bitCount_95d88 52 = .ok (.lushr, 1) := kDs0 kf_125 (by decide +kernel)
theorem dJ13_bitCount_95d88_53 : decode cJ13_bitCount_95d88 53 = .ok (.ladd, 1) := kDs0 kf_97 (by decide +kernel)
theorem dJ13_bitCount_95d88_54 : decode cJ13_bitCount_95d88 54 = .ok (.lstore_n 0, 1) := kDs0 kf_63 (by decide +kernel)
theorem dJ13_bitCount_95d88_55 : decode cJ13_bitCount_95d88 55 = .ok (.lload_n 0, 1) := kDs0 kf_30 (by decide +kernel)
theorem dJ13_bitCount_95d88_56 : decode cJ13_bitCount_95d88 56 = .ok (.l2i, 1) := kDs0 kf_136 (by decide +kernel)
theorem dJ13_bitCount_95d88_57 : decode cJ13_bitCount_95d88 57 = .ok (.bipush 127, 2) := kDs3 kf_16 (by decide +kernel)
theorem dJ13_bitCount_95d88_59 : decode cJ13_bitCount_95d88 59 = .ok (.iand, 1) := kDs0 kf_126 (by decide +kernel)
theorem dJ13_bitCount_95d88_60 : decode cJ13_bitCount_95d88 60 = .ok (.ireturn, 1) := kDs0 kf_172 (by decide +kernel)
def w_s_bitJ : List Cond := .code yJ13_bitCount_95d88 cJ13_bitCount_95d88 2 (some .int) :: ([.constantLong RJ13 314 (6148914691236517205), .constantLong RJ13 316 (3689348814741910323), .constantLong RJ13 318 (1085102592571150095)] ++ [])
theorem gw_s_bitJ : (w_s_bitJ).all goodWord = true := kGc rfl (kGa (by decide +kernel) kGn)
theorem hd_J13_bitCount_95d88 : yJ13_bitCount_95d88.cls ≠ "java/lang/invoke/MethodHandle" ∧ yJ13_bitCount_95d88.cls ≠ "java/lang/invoke/VarHandle" ∧ (parseMethodDescriptor yJ13_bitCount_95d88.desc).map (fun d => d.parameters.length) = some 1 := by decide +kernel
set_option maxHeartbeats 4000000 in
set_option maxRecDepth 100000 in
theorem s_bitJ (l : Launch) (dC : Nat → ClassId) (dI : Nat → Nat → Nat) (p0 : Int64) : Met l yJ13_bitCount_95d88 w_s_bitJ ({ frames := 1, cells := 0, slots := 0, locals := 60 }) (kR dC dI [.long p0] [] [] kT) (vp_Si (fun r : Int32 => True)) 0 0 (fun _ => False) := by
  refine Met.ofW (cc := cJ13_bitCount_95d88) (maxL := 2) (ret := (some .int)) (by decide) rfl ?_
  intro p e s m args below meth c s₁ B hml hv
  obtain ⟨rfl, hP, hK, hX⟩ := hv
  have hx := B.exec
  have hb := B.bytes
  have hr := B.returns
  have hts := atoms_spec (ws := w_s_bitJ) B.pre
  have hown : s.vm.findClass RJ13 = some m.cls := findClass_of_methodNamed B.named
  have hlocks := B.notSynchronized
  have hP : va_P (dC, dI) vwCl [] s.heap := hP
  have hl := lv_entry ([.long p0]) (n := 2) (Nat.le_of_ble_eq_true rfl)
  rw [lg_entry_eq]
  generalize (lg_sl ([.long p0]) ++ List.replicate (2 - (lg_sl ([.long p0])).length) Slot.unset).toArray = ls at hl ⊢
  have hl : lv_has ls 2 [(0, .long p0)] := hl
  refine kQ (fun Q hQ => ?_)
  refine lv_lload_n hx hb dJ13_bitCount_95d88_0 rfl (lv_at hl 0 rfl) ?_
  refine lv_lload_n hx hb dJ13_bitCount_95d88_1 rfl (lv_at hl 0 rfl) ?_
  refine lv_iconst (v := 1) hx hb dJ13_bitCount_95d88_2 kc_i_1 ?_
  refine lv_lushr hx hb dJ13_bitCount_95d88_3 rfl ?_
  refine lv_topl (fun z_1 ez_1 => ?_)
  refine lv_ldc2 (v := 6148914691236517205) hx hb hown (hts (.constantLong RJ13 314 (6148914691236517205)) (List.mem_cons_of_mem _ (List.mem_append_left _ (List.mem_of_getElem? (i := 0) rfl)))) dJ13_bitCount_95d88_4 ?_
  refine lv_land hx hb dJ13_bitCount_95d88_7 ?_
  refine lv_topl (fun z_2 ez_2 => ?_)
  refine lv_lsub hx hb dJ13_bitCount_95d88_8 ?_
  refine lv_topl (fun z_3 ez_3 => ?_)
  refine lv_lstore_n hx hb dJ13_bitCount_95d88_9 rfl hl kc_l_1_2 (kTo [(0, .long z_3)]) (fun ls hl => ?_)
  refine lv_lload_n hx hb dJ13_bitCount_95d88_10 rfl (lv_at hl 0 rfl) ?_
  refine lv_ldc2 (v := 3689348814741910323) hx hb hown (hts (.constantLong RJ13 316 (3689348814741910323)) (List.mem_cons_of_mem _ (List.mem_append_left _ (List.mem_of_getElem? (i := 1) rfl)))) dJ13_bitCount_95d88_11 ?_
  refine lv_land hx hb dJ13_bitCount_95d88_14 ?_
  refine lv_topl (fun z_4 ez_4 => ?_)
  refine lv_lload_n hx hb dJ13_bitCount_95d88_15 rfl (lv_at hl 0 rfl) ?_
  refine lv_iconst (v := 2) hx hb dJ13_bitCount_95d88_16 kc_i_2 ?_
  refine lv_lushr hx hb dJ13_bitCount_95d88_17 rfl ?_
  refine lv_topl (fun z_5 ez_5 => ?_)
  refine lv_ldc2 (v := 3689348814741910323) hx hb hown (hts (.constantLong RJ13 316 (3689348814741910323)) (List.mem_cons_of_mem _ (List.mem_append_left _ (List.mem_of_getElem? (i := 1) rfl)))) dJ13_bitCount_95d88_18 ?_
  refine lv_land hx hb dJ13_bitCount_95d88_21 ?_
  refine lv_topl (fun z_6 ez_6 => ?_)
  refine lv_ladd hx hb dJ13_bitCount_95d88_22 ?_
  refine lv_topl (fun z_7 ez_7 => ?_)
  refine lv_lstore_n hx hb dJ13_bitCount_95d88_23 rfl hl kc_l_1_2 (kTo [(0, .long z_7)]) (fun ls hl => ?_)
  refine lv_lload_n hx hb dJ13_bitCount_95d88_24 rfl (lv_at hl 0 rfl) ?_
  refine lv_lload_n hx hb dJ13_bitCount_95d88_25 rfl (lv_at hl 0 rfl) ?_
  refine lv_iconst (v := 4) hx hb dJ13_bitCount_95d88_26 kc_i_4 ?_
  refine lv_lushr hx hb dJ13_bitCount_95d88_27 rfl ?_
  refine lv_topl (fun z_8 ez_8 => ?_)
  refine lv_ladd hx hb dJ13_bitCount_95d88_28 ?_
  refine lv_topl (fun z_9 ez_9 => ?_)
  refine lv_ldc2 (v := 1085102592571150095) hx hb hown (hts (.constantLong RJ13 318 (1085102592571150095)) (List.mem_cons_of_mem _ (List.mem_append_left _ (List.mem_of_getElem? (i := 2) rfl)))) dJ13_bitCount_95d88_29 ?_
  refine lv_land hx hb dJ13_bitCount_95d88_32 ?_
  refine lv_topl (fun z_10 ez_10 => ?_)
  refine lv_lstore_n hx hb dJ13_bitCount_95d88_33 rfl hl kc_l_1_2 (kTo [(0, .long z_10)]) (fun ls hl => ?_)
  refine lv_lload_n hx hb dJ13_bitCount_95d88_34 rfl (lv_at hl 0 rfl) ?_
  refine lv_lload_n hx hb dJ13_bitCount_95d88_35 rfl (lv_at hl 0 rfl) ?_
  refine lv_bipush (v := 8) hx hb dJ13_bitCount_95d88_36 kc_b_8 ?_
  refine lv_lushr hx hb dJ13_bitCount_95d88_38 rfl ?_
  refine lv_topl (fun z_11 ez_11 => ?_)
  refine lv_ladd hx hb dJ13_bitCount_95d88_39 ?_
  refine lv_topl (fun z_12 ez_12 => ?_)
  refine lv_lstore_n hx hb dJ13_bitCount_95d88_40 rfl hl kc_l_1_2 (kTo [(0, .long z_12)]) (fun ls hl => ?_)
  refine lv_lload_n hx hb dJ13_bitCount_95d88_41 rfl (lv_at hl 0 rfl) ?_
  refine lv_lload_n hx hb dJ13_bitCount_95d88_42 rfl (lv_at hl 0 rfl) ?_
  refine lv_bipush (v := 16) hx hb dJ13_bitCount_95d88_43 kc_b_16 ?_
  refine lv_lushr hx hb dJ13_bitCount_95d88_45 rfl ?_
  refine lv_topl (fun z_13 ez_13 => ?_)
  refine lv_ladd hx hb dJ13_bitCount_95d88_46 ?_
  refine lv_topl (fun z_14 ez_14 => ?_)
  refine lv_lstore_n hx hb dJ13_bitCount_95d88_47 rfl hl kc_l_1_2 (kTo [(0, .long z_14)]) (fun ls hl => ?_)
  refine lv_lload_n hx hb dJ13_bitCount_95d88_48 rfl (lv_at hl 0 rfl) ?_
  refine lv_lload_n hx hb dJ13_bitCount_95d88_49 rfl (lv_at hl 0 rfl) ?_
  refine lv_bipush (v := 32) hx hb dJ13_bitCount_95d88_50 kc_b_32 ?_
  refine lv_lushr hx hb dJ13_bitCount_95d88_52 rfl ?_
  refine lv_topl (fun z_15 ez_15 => ?_)
  refine lv_ladd hx hb dJ13_bitCount_95d88_53 ?_
  refine lv_topl (fun z_16 ez_16 => ?_)
  refine lv_lstore_n hx hb dJ13_bitCount_95d88_54 rfl hl kc_l_1_2 (kTo [(0, .long z_16)]) (fun ls hl => ?_)
  refine lv_lload_n hx hb dJ13_bitCount_95d88_55 rfl (lv_at hl 0 rfl) ?_
  obtain ⟨x_17, ex_17⟩ : ∃ z : Int32, z = Int64.toInt32 z_16 := ⟨_, rfl⟩
  refine lv_l2i (v := x_17) hx hb dJ13_bitCount_95d88_56 ex_17.symm ?_
  refine lv_bipush (v := 127) hx hb dJ13_bitCount_95d88_57 kc_b_127 ?_
  refine lv_iand hx hb dJ13_bitCount_95d88_59 ?_
  refine lv_topi (fun x_18 ex_18 => ?_)
  rw [hQ]
  exact W.iret (v := x_18) hx hb hr (fun t ht hW => ⟨x_18, rfl, trivial, ht⟩) (fun _ h => nomatch h) dJ13_bitCount_95d88_60

theorem dX10_within_0 : decode cX10_within 0 = .ok (.ldc2_w 163, 3) := kDs2 kf_20 (by decide +kernel)
theorem dX10_within_3 : decode cX10_within 3 = .ok (.ldc2_w 165, 3) := kDs2 kf_20 (by decide +kernel)
theorem dX10_within_6 : decode cX10_within 6 = .ok (.lload_n 0, 1) := kDs0 kf_30 (by decide +kernel)
theorem dX10_within_7 : decode cX10_within 7 = .ok (.invokestatic 167, 3) := kDs2 kf_184 (by decide +kernel)
theorem dX10_within_10 : decode cX10_within 10 = .ok (.invokestatic 173, 3) := kDs2 kf_184 (by decide +kernel)
theorem dX10_within_13 : decode cX10_within 13 = .ok (.l2i, 1) := kDs0 kf_136 (by decide +kernel)
theorem dX10_within_14 : decode cX10_within 14 = .ok (.ireturn, 1) := kDs0 kf_172 (by decide +kernel)
def w_s_within10 : List Cond := .code yX10_within cX10_within 2 (some .int) :: ([.constantLong RX10 163 (-1000000), .constantLong RX10 165 (1000000), .methodLink RX10 167 Lib.MathLoose.min_long.x, .static Lib.MathLoose.min_long.x, .initialized RJ9, .code Lib.MathLoose.min_long.x Lib.MathLoose.min_long.code 4 (some .long), .methodLink RX10 173 Lib.MathLoose.max_long.x, .static Lib.MathLoose.max_long.x, .code Lib.MathLoose.max_long.x Lib.MathLoose.max_long.code 4 (some .long)] ++ [])
theorem gw_s_within10 : (w_s_within10).all goodWord = true := kGc rfl (kGa (by decide +kernel) kGn)
theorem hd_X10_within : yX10_within.cls ≠ "java/lang/invoke/MethodHandle" ∧ yX10_within.cls ≠ "java/lang/invoke/VarHandle" ∧ (parseMethodDescriptor yX10_within.desc).map (fun d => d.parameters.length) = some 1 := by decide +kernel
set_option maxHeartbeats 4000000 in
set_option maxRecDepth 100000 in
theorem s_within10 (l : Launch) (dC : Nat → ClassId) (dI : Nat → Nat → Nat) (p0 : Int64) : Met l yX10_within w_s_within10 ({ frames := 2, cells := 0, slots := 0, locals := 120 }) (kR dC dI [.long p0] [] [] kT) (vp_Si (fun r : Int32 => True)) 0 0 (fun _ => False) := by
  refine Met.ofW (cc := cX10_within) (maxL := 2) (ret := (some .int)) (by decide) rfl ?_
  intro p e s m args below meth c s₁ B hml hv
  obtain ⟨rfl, hP, hK, hX⟩ := hv
  have hx := B.exec
  have hb := B.bytes
  have hr := B.returns
  have hts := atoms_spec (ws := w_s_within10) B.pre
  have hown : s.vm.findClass RX10 = some m.cls := findClass_of_methodNamed B.named
  have hlocks := B.notSynchronized
  have hP : va_P (dC, dI) vwCl [] s.heap := hP
  have hl := lv_entry ([.long p0]) (n := 2) (Nat.le_of_ble_eq_true rfl)
  rw [lg_entry_eq]
  generalize (lg_sl ([.long p0]) ++ List.replicate (2 - (lg_sl ([.long p0])).length) Slot.unset).toArray = ls at hl ⊢
  have hl : lv_has ls 2 [(0, .long p0)] := hl
  refine kQ (fun Q hQ => ?_)
  refine lv_ldc2 (v := (-1000000)) hx hb hown (hts (.constantLong RX10 163 (-1000000)) (List.mem_cons_of_mem _ (List.mem_append_left _ (List.mem_of_getElem? (i := 0) rfl)))) dX10_within_0 ?_
  refine lv_ldc2 (v := 1000000) hx hb hown (hts (.constantLong RX10 165 (1000000)) (List.mem_cons_of_mem _ (List.mem_append_left _ (List.mem_of_getElem? (i := 1) rfl)))) dX10_within_3 ?_
  refine lv_lload_n hx hb dX10_within_6 rfl (lv_at hl 0 rfl) ?_
  refine va_mmin_long hx hb (hml.trans hl.1.symm) hown (hts (.methodLink RX10 167 Lib.MathLoose.min_long.x) (List.mem_cons_of_mem _ (List.mem_append_left _ (List.mem_of_getElem? (i := 2) rfl)))) (hts (.static Lib.MathLoose.min_long.x) (List.mem_cons_of_mem _ (List.mem_append_left _ (List.mem_of_getElem? (i := 3) rfl)))) (hts (.initialized RJ9) (List.mem_cons_of_mem _ (List.mem_append_left _ (List.mem_of_getElem? (i := 4) rfl)))) (hts (.code Lib.MathLoose.min_long.x Lib.MathLoose.min_long.code 4 (some .long)) (List.mem_cons_of_mem _ (List.mem_append_left _ (List.mem_of_getElem? (i := 5) rfl)))) (Nat.le_of_ble_eq_true rfl) (Nat.le_of_ble_eq_true rfl) (Nat.le_of_ble_eq_true rfl) (Nat.le_of_ble_eq_true rfl) dX10_within_7 ?_
  refine lv_topl (fun z_1 ez_1 => ?_)
  refine va_mmax_long hx hb (hml.trans hl.1.symm) hown (hts (.methodLink RX10 173 Lib.MathLoose.max_long.x) (List.mem_cons_of_mem _ (List.mem_append_left _ (List.mem_of_getElem? (i := 6) rfl)))) (hts (.static Lib.MathLoose.max_long.x) (List.mem_cons_of_mem _ (List.mem_append_left _ (List.mem_of_getElem? (i := 7) rfl)))) (hts (.initialized RJ9) (List.mem_cons_of_mem _ (List.mem_append_left _ (List.mem_of_getElem? (i := 4) rfl)))) (hts (.code Lib.MathLoose.max_long.x Lib.MathLoose.max_long.code 4 (some .long)) (List.mem_cons_of_mem _ (List.mem_append_left _ (List.mem_of_getElem? (i := 8) rfl)))) (Nat.le_of_ble_eq_true rfl) (Nat.le_of_ble_eq_true rfl) (Nat.le_of_ble_eq_true rfl) (Nat.le_of_ble_eq_true rfl) dX10_within_10 ?_
  refine lv_topl (fun z_2 ez_2 => ?_)
  obtain ⟨x_3, ex_3⟩ : ∃ z : Int32, z = Int64.toInt32 z_2 := ⟨_, rfl⟩
  refine lv_l2i (v := x_3) hx hb dX10_within_13 ex_3.symm ?_
  rw [hQ]
  exact W.iret (v := x_3) hx hb hr (fun t ht hW => ⟨x_3, rfl, trivial, ht⟩) (fun _ h => nomatch h) dX10_within_14

theorem dX10_isIn_0 : decode cX10_isIn 0 = .ok (.iload_n 0, 1) := kDs0 kf_26 (by decide +kernel)
theorem dX10_isIn_1 : decode cX10_isIn 1 = .ok (.iload_n 1, 1) := kDs0 kf_27 (by decide +kernel)
theorem dX10_isIn_2 : decode cX10_isIn 2 = .ok (.if_icmp .lt 12, 3) := kDs4 kf_161 (by decide +kernel)
theorem dX10_isIn_14 : decode cX10_isIn 14 = .ok (.iconst 0, 1) := kDs0 kf_3 (by decide +kernel)
theorem dX10_isIn_15 : decode cX10_isIn 15 = .ok (.ireturn, 1) := kDs0 kf_172 (by decide +kernel)
theorem dX10_isIn_5 : decode cX10_isIn 5 = .ok (.iload_n 0, 1) := kDs0 kf_26 (by decide +kernel)
theorem dX10_isIn_6 : decode cX10_isIn 6 = .ok (.iload_n 2, 1) := kDs0 kf_28 (by decide +kernel)
theorem dX10_isIn_7 : decode cX10_isIn 7 = .ok (.if_icmp .gt 7, 3) := kDs4 kf_163 (by decide +kernel)
theorem dX10_isIn_10 : decode cX10_isIn 10 = .ok (.iconst 1, 1) := kDs0 kf_4 (by decide +kernel)
theorem dX10_isIn_11 : decode cX10_isIn 11 = .ok (.goto 4, 3) := kDs4 kf_167 (by decide +kernel)
def w_s_isIn10_48 : List Cond := .code yX10_isIn cX10_isIn 3 (some .boolean) :: ([])
theorem gw_s_isIn10_48 : (w_s_isIn10_48).all goodWord = true := kGc rfl kGn
theorem hd_X10_isIn : yX10_isIn.cls ≠ "java/lang/invoke/MethodHandle" ∧ yX10_isIn.cls ≠ "java/lang/invoke/VarHandle" ∧ (parseMethodDescriptor yX10_isIn.desc).map (fun d => d.parameters.length) = some 3 := by decide +kernel
set_option maxHeartbeats 4000000 in
set_option maxRecDepth 100000 in
theorem s_isIn10_48 (l : Launch) (dC : Nat → ClassId) (dI : Nat → Nat → Nat) (p0 : Int32) : Met l yX10_isIn w_s_isIn10_48 ({ frames := 1, cells := 0, slots := 0, locals := 60 }) (kR dC dI [.int p0, .int 0, .int 48] [] [] kT) (vp_Si (fun r : Int32 => (¬ r = 0 → ∃ j : Nat, j < 49 ∧ p0 = nI j))) 0 0 (fun _ => False) := by
  refine Met.ofW (cc := cX10_isIn) (maxL := 3) (ret := (some .boolean)) (by decide) rfl ?_
  intro p e s m args below meth c s₁ B hml hv
  obtain ⟨rfl, hP, hK, hX⟩ := hv
  have hx := B.exec
  have hb := B.bytes
  have hr := B.returns
  have hts := atoms_spec (ws := w_s_isIn10_48) B.pre
  have hown : s.vm.findClass RX10 = some m.cls := findClass_of_methodNamed B.named
  have hlocks := B.notSynchronized
  have hP : va_P (dC, dI) vwCl [] s.heap := hP
  have hl := lv_entry ([.int p0, .int 0, .int 48]) (n := 3) (Nat.le_of_ble_eq_true rfl)
  rw [lg_entry_eq]
  generalize (lg_sl ([.int p0, .int 0, .int 48]) ++ List.replicate (3 - (lg_sl ([.int p0, .int 0, .int 48])).length) Slot.unset).toArray = ls at hl ⊢
  have hl : lv_has ls 3 [(0, .int p0), (1, .int 0), (2, .int 48)] := hl
  refine kQ (fun Q hQ => ?_)
  refine lv_iload_n hx hb dX10_isIn_0 rfl (lv_at hl 0 rfl) ?_
  refine lv_iload_n hx hb dX10_isIn_1 rfl (lv_at hl 1 rfl) ?_
  refine lv_icmp_lt (tgt := 14) hx hb dX10_isIn_2 kc_t_2_12 (fun c_1 => ?_) (fun c_1 => ?_)
  · refine lv_iconst (v := 0) hx hb dX10_isIn_14 kc_i_0 ?_
    rw [hQ]
    exact W.zret (v := 0) hx hb hr rfl (fun t ht hW => ⟨0, rfl, (fun z => absurd rfl z), ht⟩) (fun _ h => nomatch h) dX10_isIn_15
  · refine lv_iload_n hx hb dX10_isIn_5 rfl (lv_at hl 0 rfl) ?_
    refine lv_iload_n hx hb dX10_isIn_6 rfl (lv_at hl 2 rfl) ?_
    refine lv_icmp_gt (tgt := 14) hx hb dX10_isIn_7 kc_t_7_7 (fun c_2 => ?_) (fun c_2 => ?_)
    · refine lv_iconst (v := 0) hx hb dX10_isIn_14 kc_i_0 ?_
      rw [hQ]
      exact W.zret (v := 0) hx hb hr rfl (fun t ht hW => ⟨0, rfl, (fun z => absurd rfl z), ht⟩) (fun _ h => nomatch h) dX10_isIn_15
    · refine lv_iconst (v := 1) hx hb dX10_isIn_10 kc_i_1 ?_
      refine lv_goto (tgt := 15) hx hb dX10_isIn_11 kc_t_11_4 ?_
      rw [hQ]
      exact W.zret (v := 1) hx hb hr rfl (fun t ht hW => ⟨1, rfl, (fun _ => by first | exact kInN (M := 48) (n := 48) (by decide) c_1 c_2 | exact kInN (M := 48) (n := 48) (by decide) c_1 (Int32.not_lt.mp c_2)), ht⟩) (fun _ h => nomatch h) dX10_isIn_15

def w_s_isIn10_47 : List Cond := .code yX10_isIn cX10_isIn 3 (some .boolean) :: ([])
theorem gw_s_isIn10_47 : (w_s_isIn10_47).all goodWord = true := kGc rfl kGn
set_option maxHeartbeats 4000000 in
set_option maxRecDepth 100000 in
theorem s_isIn10_47 (l : Launch) (dC : Nat → ClassId) (dI : Nat → Nat → Nat) (p0 : Int32) : Met l yX10_isIn w_s_isIn10_47 ({ frames := 1, cells := 0, slots := 0, locals := 60 }) (kR dC dI [.int p0, .int 0, .int 47] [] [] kT) (vp_Si (fun r : Int32 => (¬ r = 0 → ∃ j : Nat, j < 48 ∧ p0 = nI j))) 0 0 (fun _ => False) := by
  refine Met.ofW (cc := cX10_isIn) (maxL := 3) (ret := (some .boolean)) (by decide) rfl ?_
  intro p e s m args below meth c s₁ B hml hv
  obtain ⟨rfl, hP, hK, hX⟩ := hv
  have hx := B.exec
  have hb := B.bytes
  have hr := B.returns
  have hts := atoms_spec (ws := w_s_isIn10_47) B.pre
  have hown : s.vm.findClass RX10 = some m.cls := findClass_of_methodNamed B.named
  have hlocks := B.notSynchronized
  have hP : va_P (dC, dI) vwCl [] s.heap := hP
  have hl := lv_entry ([.int p0, .int 0, .int 47]) (n := 3) (Nat.le_of_ble_eq_true rfl)
  rw [lg_entry_eq]
  generalize (lg_sl ([.int p0, .int 0, .int 47]) ++ List.replicate (3 - (lg_sl ([.int p0, .int 0, .int 47])).length) Slot.unset).toArray = ls at hl ⊢
  have hl : lv_has ls 3 [(0, .int p0), (1, .int 0), (2, .int 47)] := hl
  refine kQ (fun Q hQ => ?_)
  refine lv_iload_n hx hb dX10_isIn_0 rfl (lv_at hl 0 rfl) ?_
  refine lv_iload_n hx hb dX10_isIn_1 rfl (lv_at hl 1 rfl) ?_
  refine lv_icmp_lt (tgt := 14) hx hb dX10_isIn_2 kc_t_2_12 (fun c_1 => ?_) (fun c_1 => ?_)
  · refine lv_iconst (v := 0) hx hb dX10_isIn_14 kc_i_0 ?_
    rw [hQ]
    exact W.zret (v := 0) hx hb hr rfl (fun t ht hW => ⟨0, rfl, (fun z => absurd rfl z), ht⟩) (fun _ h => nomatch h) dX10_isIn_15
  · refine lv_iload_n hx hb dX10_isIn_5 rfl (lv_at hl 0 rfl) ?_
    refine lv_iload_n hx hb dX10_isIn_6 rfl (lv_at hl 2 rfl) ?_
    refine lv_icmp_gt (tgt := 14) hx hb dX10_isIn_7 kc_t_7_7 (fun c_2 => ?_) (fun c_2 => ?_)
    · refine lv_iconst (v := 0) hx hb dX10_isIn_14 kc_i_0 ?_
      rw [hQ]
      exact W.zret (v := 0) hx hb hr rfl (fun t ht hW => ⟨0, rfl, (fun z => absurd rfl z), ht⟩) (fun _ h => nomatch h) dX10_isIn_15
    · refine lv_iconst (v := 1) hx hb dX10_isIn_10 kc_i_1 ?_
      refine lv_goto (tgt := 15) hx hb dX10_isIn_11 kc_t_11_4 ?_
      rw [hQ]
      exact W.zret (v := 1) hx hb hr rfl (fun t ht hW => ⟨1, rfl, (fun _ => by first | exact kInN (M := 47) (n := 47) (by decide) c_1 c_2 | exact kInN (M := 47) (n := 47) (by decide) c_1 (Int32.not_lt.mp c_2)), ht⟩) (fun _ h => nomatch h) dX10_isIn_15

def w_s_isIn10_8 : List Cond := .code yX10_isIn cX10_isIn 3 (some .boolean) :: ([])
theorem gw_s_isIn10_8 : (w_s_isIn10_8).all goodWord = true := kGc rfl kGn
set_option maxHeartbeats 4000000 in
set_option maxRecDepth 100000 in
theorem s_isIn10_8 (l : Launch) (dC : Nat → ClassId) (dI : Nat → Nat → Nat) (p0 : Int32) : Met l yX10_isIn w_s_isIn10_8 ({ frames := 1, cells := 0, slots := 0, locals := 60 }) (kR dC dI [.int p0, .int 0, .int 8] [] [] kT) (vp_Si (fun r : Int32 => (¬ r = 0 → ∃ j : Nat, j < 9 ∧ p0 = nI j))) 0 0 (fun _ => False) := by
  refine Met.ofW (cc := cX10_isIn) (maxL := 3) (ret := (some .boolean)) (by decide) rfl ?_
  intro p e s m args below meth c s₁ B hml hv
  obtain ⟨rfl, hP, hK, hX⟩ := hv
  have hx := B.exec
  have hb := B.bytes
  have hr := B.returns
  have hts := atoms_spec (ws := w_s_isIn10_8) B.pre
  have hown : s.vm.findClass RX10 = some m.cls := findClass_of_methodNamed B.named
  have hlocks := B.notSynchronized
  have hP : va_P (dC, dI) vwCl [] s.heap := hP
  have hl := lv_entry ([.int p0, .int 0, .int 8]) (n := 3) (Nat.le_of_ble_eq_true rfl)
  rw [lg_entry_eq]
  generalize (lg_sl ([.int p0, .int 0, .int 8]) ++ List.replicate (3 - (lg_sl ([.int p0, .int 0, .int 8])).length) Slot.unset).toArray = ls at hl ⊢
  have hl : lv_has ls 3 [(0, .int p0), (1, .int 0), (2, .int 8)] := hl
  refine kQ (fun Q hQ => ?_)
  refine lv_iload_n hx hb dX10_isIn_0 rfl (lv_at hl 0 rfl) ?_
  refine lv_iload_n hx hb dX10_isIn_1 rfl (lv_at hl 1 rfl) ?_
  refine lv_icmp_lt (tgt := 14) hx hb dX10_isIn_2 kc_t_2_12 (fun c_1 => ?_) (fun c_1 => ?_)
  · refine lv_iconst (v := 0) hx hb dX10_isIn_14 kc_i_0 ?_
    rw [hQ]
    exact W.zret (v := 0) hx hb hr rfl (fun t ht hW => ⟨0, rfl, (fun z => absurd rfl z), ht⟩) (fun _ h => nomatch h) dX10_isIn_15
  · refine lv_iload_n hx hb dX10_isIn_5 rfl (lv_at hl 0 rfl) ?_
    refine lv_iload_n hx hb dX10_isIn_6 rfl (lv_at hl 2 rfl) ?_
    refine lv_icmp_gt (tgt := 14) hx hb dX10_isIn_7 kc_t_7_7 (fun c_2 => ?_) (fun c_2 => ?_)
    · refine lv_iconst (v := 0) hx hb dX10_isIn_14 kc_i_0 ?_
      rw [hQ]
      exact W.zret (v := 0) hx hb hr rfl (fun t ht hW => ⟨0, rfl, (fun z => absurd rfl z), ht⟩) (fun _ h => nomatch h) dX10_isIn_15
    · refine lv_iconst (v := 1) hx hb dX10_isIn_10 kc_i_1 ?_
      refine lv_goto (tgt := 15) hx hb dX10_isIn_11 kc_t_11_4 ?_
      rw [hQ]
      exact W.zret (v := 1) hx hb hr rfl (fun t ht hW => ⟨1, rfl, (fun _ => by first | exact kInN (M := 8) (n := 8) (by decide) c_1 c_2 | exact kInN (M := 8) (n := 8) (by decide) c_1 (Int32.not_lt.mp c_2)), ht⟩) (fun _ h => nomatch h) dX10_isIn_15

def w_s_isIn10 : List Cond := .code yX10_isIn cX10_isIn 3 (some .boolean) :: ([])
theorem gw_s_isIn10 : (w_s_isIn10).all goodWord = true := kGc rfl kGn
set_option maxHeartbeats 4000000 in
set_option maxRecDepth 100000 in
theorem s_isIn10 (l : Launch) (dC : Nat → ClassId) (dI : Nat → Nat → Nat) (p0 : Int32) (p1 : Int32) (p2 : Int32) : Met l yX10_isIn w_s_isIn10 ({ frames := 1, cells := 0, slots := 0, locals := 60 }) (kR dC dI [.int p0, .int p1, .int p2] [] [] kT) (vp_Si (fun r : Int32 => r = kIn p0 p1 p2)) 0 0 (fun _ => False) := by
  refine Met.ofW (cc := cX10_isIn) (maxL := 3) (ret := (some .boolean)) (by decide) rfl ?_
  intro p e s m args below meth c s₁ B hml hv
  obtain ⟨rfl, hP, hK, hX⟩ := hv
  have hx := B.exec
  have hb := B.bytes
  have hr := B.returns
  have hts := atoms_spec (ws := w_s_isIn10) B.pre
  have hown : s.vm.findClass RX10 = some m.cls := findClass_of_methodNamed B.named
  have hlocks := B.notSynchronized
  have hP : va_P (dC, dI) vwCl [] s.heap := hP
  have hl := lv_entry ([.int p0, .int p1, .int p2]) (n := 3) (Nat.le_of_ble_eq_true rfl)
  rw [lg_entry_eq]
  generalize (lg_sl ([.int p0, .int p1, .int p2]) ++ List.replicate (3 - (lg_sl ([.int p0, .int p1, .int p2])).length) Slot.unset).toArray = ls at hl ⊢
  have hl : lv_has ls 3 [(0, .int p0), (1, .int p1), (2, .int p2)] := hl
  refine kQ (fun Q hQ => ?_)
  refine lv_iload_n hx hb dX10_isIn_0 rfl (lv_at hl 0 rfl) ?_
  refine lv_iload_n hx hb dX10_isIn_1 rfl (lv_at hl 1 rfl) ?_
  refine lv_icmp_lt (tgt := 14) hx hb dX10_isIn_2 kc_t_2_12 (fun c_1 => ?_) (fun c_1 => ?_)
  · refine lv_iconst (v := 0) hx hb dX10_isIn_14 kc_i_0 ?_
    rw [hQ]
    exact W.zret (v := 0) hx hb hr rfl (fun t ht hW => ⟨0, rfl, (by simp [kIn, c_1]), ht⟩) (fun _ h => nomatch h) dX10_isIn_15
  · refine lv_iload_n hx hb dX10_isIn_5 rfl (lv_at hl 0 rfl) ?_
    refine lv_iload_n hx hb dX10_isIn_6 rfl (lv_at hl 2 rfl) ?_
    refine lv_icmp_gt (tgt := 14) hx hb dX10_isIn_7 kc_t_7_7 (fun c_2 => ?_) (fun c_2 => ?_)
    · refine lv_iconst (v := 0) hx hb dX10_isIn_14 kc_i_0 ?_
      rw [hQ]
      exact W.zret (v := 0) hx hb hr rfl (fun t ht hW => ⟨0, rfl, (by simp [kIn, c_1, c_2]), ht⟩) (fun _ h => nomatch h) dX10_isIn_15
    · refine lv_iconst (v := 1) hx hb dX10_isIn_10 kc_i_1 ?_
      refine lv_goto (tgt := 15) hx hb dX10_isIn_11 kc_t_11_4 ?_
      rw [hQ]
      exact W.zret (v := 1) hx hb hr rfl (fun t ht hW => ⟨1, rfl, (by simp [kIn, c_1, c_2]), ht⟩) (fun _ h => nomatch h) dX10_isIn_15

theorem dX10_isSign_0 : decode cX10_isSign 0 = .ok (.iload_n 0, 1) := kDs0 kf_26 (by decide +kernel)
theorem dX10_isSign_1 : decode cX10_isSign 1 = .ok (.bipush 61, 2) := kDs3 kf_16 (by decide +kernel)
theorem dX10_isSign_3 : decode cX10_isSign 3 = .ok (.if_icmp .eq 15, 3) := kDs4 kf_159 (by decide +kernel)
theorem dX10_isSign_18 : decode cX10_isSign 18 = .ok (.iconst 1, 1) := kDs0 kf_4 (by decide +kernel)
theorem dX10_isSign_19 : decode cX10_isSign 19 = .ok (.goto 4, 3) := kDs4 kf_167 (by decide +kernel)
theorem dX10_isSign_23 : decode cX10_isSign 23 = .ok (.ireturn, 1) := kDs0 kf_172 (by decide +kernel)
theorem dX10_isSign_6 : decode cX10_isSign 6 = .ok (.iload_n 0, 1) := kDs0 kf_26 (by decide +kernel)
theorem dX10_isSign_7 : decode cX10_isSign 7 = .ok (.bipush 60, 2) := kDs3 kf_16 (by decide +kernel)
theorem dX10_isSign_9 : decode cX10_isSign 9 = .ok (.if_icmp .eq 9, 3) := kDs4 kf_159 (by decide +kernel)
theorem dX10_isSign_12 : decode cX10_isSign 12 = .ok (.iload_n 0, 1) := kDs0 kf_26 (by decide +kernel)
theorem dX10_isSign_13 : decode cX10_isSign 13 = .ok (.bipush 62, 2) := kDs3 kf_16 (by decide +kernel)
theorem dX10_isSign_15 : decode cX10_isSign 15 = .ok (.if_icmp .ne 7, 3) := kDs4 kf_160 (by decide +kernel)
theorem dX10_isSign_22 : decode cX10_isSign 22 = .ok (.iconst 0, 1) := kDs0 kf_3 (by decide +kernel)
def w_s_isSign10 : List Cond := .code yX10_isSign cX10_isSign 1 (some .boolean) :: ([])
theorem gw_s_isSign10 : (w_s_isSign10).all goodWord = true := kGc rfl kGn
theorem hd_X10_isSign : yX10_isSign.cls ≠ "java/lang/invoke/MethodHandle" ∧ yX10_isSign.cls ≠ "java/lang/invoke/VarHandle" ∧ (parseMethodDescriptor yX10_isSign.desc).map (fun d => d.parameters.length) = some 1 := by decide +kernel
set_option maxHeartbeats 4000000 in
set_option maxRecDepth 100000 in
theorem s_isSign10 (l : Launch) (dC : Nat → ClassId) (dI : Nat → Nat → Nat) (p0 : Int32) : Met l yX10_isSign w_s_isSign10 ({ frames := 1, cells := 0, slots := 0, locals := 60 }) (kR dC dI [.int p0] [] [] kT) (vp_Si (fun r : Int32 => (¬ r = 0 → ¬ p0 = -1))) 0 0 (fun _ => False) := by
  refine Met.ofW (cc := cX10_isSign) (maxL := 1) (ret := (some .boolean)) (by decide) rfl ?_
  intro p e s m args below meth c s₁ B hml hv
  obtain ⟨rfl, hP, hK, hX⟩ := hv
  have hx := B.exec
  have hb := B.bytes
  have hr := B.returns
  have hts := atoms_spec (ws := w_s_isSign10) B.pre
  have hown : s.vm.findClass RX10 = some m.cls := findClass_of_methodNamed B.named
  have hlocks := B.notSynchronized
  have hP : va_P (dC, dI) vwCl [] s.heap := hP
  have hl := lv_entry ([.int p0]) (n := 1) (Nat.le_of_ble_eq_true rfl)
  rw [lg_entry_eq]
  generalize (lg_sl ([.int p0]) ++ List.replicate (1 - (lg_sl ([.int p0])).length) Slot.unset).toArray = ls at hl ⊢
  have hl : lv_has ls 1 [(0, .int p0)] := hl
  refine kQ (fun Q hQ => ?_)
  refine lv_iload_n hx hb dX10_isSign_0 rfl (lv_at hl 0 rfl) ?_
  refine lv_bipush (v := 61) hx hb dX10_isSign_1 kc_b_61 ?_
  refine lv_icmp_eq (tgt := 18) hx hb dX10_isSign_3 kc_t_3_15 (fun c_1 => ?_) (fun c_1 => ?_)
  · refine lv_iconst (v := 1) hx hb dX10_isSign_18 kc_i_1 ?_
    refine lv_goto (tgt := 23) hx hb dX10_isSign_19 kc_t_19_4 ?_
    rw [hQ]
    exact W.zret (v := 1) hx hb hr rfl (fun t ht hW => ⟨1, rfl, (fun _ => by rw [c_1]; decide), ht⟩) (fun _ h => nomatch h) dX10_isSign_23
  · refine lv_iload_n hx hb dX10_isSign_6 rfl (lv_at hl 0 rfl) ?_
    refine lv_bipush (v := 60) hx hb dX10_isSign_7 kc_b_60 ?_
    refine lv_icmp_eq (tgt := 18) hx hb dX10_isSign_9 kc_t_9_9 (fun c_2 => ?_) (fun c_2 => ?_)
    · refine lv_iconst (v := 1) hx hb dX10_isSign_18 kc_i_1 ?_
      refine lv_goto (tgt := 23) hx hb dX10_isSign_19 kc_t_19_4 ?_
      rw [hQ]
      exact W.zret (v := 1) hx hb hr rfl (fun t ht hW => ⟨1, rfl, (fun _ => by rw [c_2]; decide), ht⟩) (fun _ h => nomatch h) dX10_isSign_23
    · refine lv_iload_n hx hb dX10_isSign_12 rfl (lv_at hl 0 rfl) ?_
      refine lv_bipush (v := 62) hx hb dX10_isSign_13 kc_b_62 ?_
      refine lv_icmp_ne (tgt := 22) hx hb dX10_isSign_15 kc_t_15_7 (fun c_3 => ?_) (fun c_3 => ?_)
      · refine lv_iconst (v := 0) hx hb dX10_isSign_22 kc_i_0 ?_
        rw [hQ]
        exact W.zret (v := 0) hx hb hr rfl (fun t ht hW => ⟨0, rfl, (fun z => absurd rfl z), ht⟩) (fun _ h => nomatch h) dX10_isSign_23
      · refine lv_iconst (v := 1) hx hb dX10_isSign_18 kc_i_1 ?_
        refine lv_goto (tgt := 23) hx hb dX10_isSign_19 kc_t_19_4 ?_
        rw [hQ]
        exact W.zret (v := 1) hx hb hr rfl (fun t ht hW => ⟨1, rfl, (fun _ => by rw [c_3]; decide), ht⟩) (fun _ h => nomatch h) dX10_isSign_23
