theorem kNeM {n : Nat} (h : n < 2 ^ 31) : ¬ nI n = -1 := fun z => by
  have h1 := nI_toInt h
  rw [z] at h1
  have h2 : ((-1 : Int32)).toInt = -1 := by decide
  rw [h2] at h1
  omega
theorem kLne {w : Int64} {x : Int32} (e : x = lg_cmp w 0) (c : ¬ x = 0) : ¬ w = 0 := fun z => c (by rw [e, z]; decide)
theorem kInN {p M : Int32} {n : Nat} (hM : M.toInt = n) (h1 : ¬ p < 0) (h2 : p ≤ M) : ∃ j : Nat, j < n + 1 ∧ p = nI j := by
  obtain ⟨j, hj, e⟩ := nI_of2 hM h1 h2
  exact ⟨j, by omega, e⟩
theorem kF255 : ∀ v : Fin 128, nI v.val &&& 255 = nI v.val := by decide +kernel
theorem kA255 {v : Nat} (h : v < 128) : nI v &&& 255 = nI v := kF255 ⟨v, h⟩
theorem kFi2c : ∀ v : Fin 128, (Int32.toUInt32 (nI v.val) % 65536).toInt32 = nI v.val := by decide +kernel
theorem kI2c {v : Nat} (h : v < 128) : (Int32.toUInt32 (nI v) % 65536).toInt32 = nI v := kFi2c ⟨v, h⟩
theorem kNarC {v : Nat} (h : v < 128) : narrow .char (.int (nI v)) = .int (nI v) := by
  show Value.int _ = Value.int _
  congr 1
  exact kI2c h

theorem dJ3_checkIndex_8e157_0 : decode cJ3_checkIndex_8e157 0 = .ok (.iload_n 0, 1) := kDs0 kf_26 (by decide +kernel)
theorem dJ3_checkIndex_8e157_1 : decode cJ3_checkIndex_8e157 1 = .ok (.ifCond .lt 8, 3) := kDs4 kf_155 (by decide +kernel)
theorem dJ3_checkIndex_8e157_4 : decode cJ3_checkIndex_8e157 4 = .ok (.iload_n 0, 1) := kDs0 kf_26 (by decide +kernel)
theorem dJ3_checkIndex_8e157_5 : decode cJ3_checkIndex_8e157 5 = .ok (.iload_n 1, 1) := kDs0 kf_27 (by decide +kernel)
theorem dJ3_checkIndex_8e157_6 : decode cJ3_checkIndex_8e157 6 = .ok (.if_icmp .lt 10, 3) := kDs4 kf_161 (by decide +kernel)
theorem dJ3_checkIndex_8e157_16 : decode cJ3_checkIndex_8e157 16 = .ok (.iload_n 0, 1) := kDs0 kf_26 (by decide +kernel)
theorem dJ3_checkIndex_8e157_17 : decode cJ3_checkIndex_8e157 17 = .ok (.ireturn, 1) := kDs0 kf_172 (by decide +kernel)
def w_s_chk3n : List Cond := .code yJ3_checkIndex_8e157 cJ3_checkIndex_8e157 3 (some .int) :: ([])
theorem gw_s_chk3n : (w_s_chk3n).all goodWord = true := kGc rfl kGn
theorem hd_J3_checkIndex_8e157 : yJ3_checkIndex_8e157.cls ≠ "java/lang/invoke/MethodHandle" ∧ yJ3_checkIndex_8e157.cls ≠ "java/lang/invoke/VarHandle" ∧ (parseMethodDescriptor yJ3_checkIndex_8e157.desc).map (fun d => d.parameters.length) = some 3 := by decide +kernel
set_option maxHeartbeats 4000000 in
set_option maxRecDepth 100000 in
theorem s_chk3n (l : Launch) (dC : Nat → ClassId) (dI : Nat → Nat → Nat) (pj : Nat) (pn : Nat) (hpj : pj < pn) (hpn : pn ≤ 8) : Met l yJ3_checkIndex_8e157 w_s_chk3n ({ frames := 1, cells := 0, slots := 0, locals := 60 }) (kR dC dI [.int (nI (pj)), .int (nI (pn)), .null] [] [] kT) (vp_Si (fun r : Int32 => True)) 0 0 (fun _ => False) := by
  refine Met.ofW (cc := cJ3_checkIndex_8e157) (maxL := 3) (ret := (some .int)) (by decide) rfl ?_
  intro p e s m args below meth c s₁ B hml hv
  obtain ⟨rfl, hP, hK, hX⟩ := hv
  have hx := B.exec
  have hb := B.bytes
  have hr := B.returns
  have hts := atoms_spec (ws := w_s_chk3n) B.pre
  have hown : s.vm.findClass RJ3 = some m.cls := findClass_of_methodNamed B.named
  have hlocks := B.notSynchronized
  have hP : va_P (dC, dI) vwCl [] s.heap := hP
  have hl := lv_entry ([.int (nI (pj)), .int (nI (pn)), .null]) (n := 3) (Nat.le_of_ble_eq_true rfl)
  rw [lg_entry_eq]
  generalize (lg_sl ([.int (nI (pj)), .int (nI (pn)), .null]) ++ List.replicate (3 - (lg_sl ([.int (nI (pj)), .int (nI (pn)), .null])).length) Slot.unset).toArray = ls at hl ⊢
  have hl : lv_has ls 3 [(0, .int (nI (pj))), (1, .int (nI (pn))), (2, .null)] := hl
  refine kQ (fun Q hQ => ?_)
  refine lv_iload_n hx hb dJ3_checkIndex_8e157_0 rfl (lv_at hl 0 rfl) ?_
  have bd_1 : pj < 2147483648 := by omega
  refine lv_if_lt (tgt := 9) hx hb dJ3_checkIndex_8e157_1 kc_t_1_8 (fun c_2 => absurd c_2 (nI_pos (n := pj) bd_1)) (fun c_2 => ?_)
  refine lv_iload_n hx hb dJ3_checkIndex_8e157_4 rfl (lv_at hl 0 rfl) ?_
  refine lv_iload_n hx hb dJ3_checkIndex_8e157_5 rfl (lv_at hl 1 rfl) ?_
  refine lv_icmp_lt (tgt := 16) hx hb dJ3_checkIndex_8e157_6 kc_t_6_10 (fun c_3 => ?_) (fun c_3 => absurd (nI_lt (a := pj) (b := pn) (by omega) (by omega)) c_3)
  refine lv_iload_n hx hb dJ3_checkIndex_8e157_16 rfl (lv_at hl 0 rfl) ?_
  rw [hQ]
  exact W.iret (v := nI (pj)) hx hb hr (fun t ht hW => ⟨nI (pj), rfl, trivial, ht⟩) (fun _ h => nomatch h) dJ3_checkIndex_8e157_17

def w_s_chk3r : List Cond := .code yJ3_checkIndex_8e157 cJ3_checkIndex_8e157 3 (some .int) :: ([])
theorem gw_s_chk3r : (w_s_chk3r).all goodWord = true := kGc rfl kGn
set_option maxHeartbeats 4000000 in
set_option maxRecDepth 100000 in
theorem s_chk3r (l : Launch) (dC : Nat → ClassId) (dI : Nat → Nat → Nat) (pj : Nat) (pn : Nat) (hpj : pj < pn) (hpn : pn ≤ 8) (pr : Nat) : Met l yJ3_checkIndex_8e157 w_s_chk3r ({ frames := 1, cells := 0, slots := 0, locals := 60 }) (kR dC dI [.int (nI (pj)), .int (nI (pn)), .ref pr] [] [] kT) (vp_Si (fun r : Int32 => True)) 0 0 (fun _ => False) := by
  refine Met.ofW (cc := cJ3_checkIndex_8e157) (maxL := 3) (ret := (some .int)) (by decide) rfl ?_
  intro p e s m args below meth c s₁ B hml hv
  obtain ⟨rfl, hP, hK, hX⟩ := hv
  have hx := B.exec
  have hb := B.bytes
  have hr := B.returns
  have hts := atoms_spec (ws := w_s_chk3r) B.pre
  have hown : s.vm.findClass RJ3 = some m.cls := findClass_of_methodNamed B.named
  have hlocks := B.notSynchronized
  have hP : va_P (dC, dI) vwCl [] s.heap := hP
  have hl := lv_entry ([.int (nI (pj)), .int (nI (pn)), .ref pr]) (n := 3) (Nat.le_of_ble_eq_true rfl)
  rw [lg_entry_eq]
  generalize (lg_sl ([.int (nI (pj)), .int (nI (pn)), .ref pr]) ++ List.replicate (3 - (lg_sl ([.int (nI (pj)), .int (nI (pn)), .ref pr])).length) Slot.unset).toArray = ls at hl ⊢
  have hl : lv_has ls 3 [(0, .int (nI (pj))), (1, .int (nI (pn))), (2, .ref pr)] := hl
  refine kQ (fun Q hQ => ?_)
  refine lv_iload_n hx hb dJ3_checkIndex_8e157_0 rfl (lv_at hl 0 rfl) ?_
  have bd_1 : pj < 2147483648 := by omega
  refine lv_if_lt (tgt := 9) hx hb dJ3_checkIndex_8e157_1 kc_t_1_8 (fun c_2 => absurd c_2 (nI_pos (n := pj) bd_1)) (fun c_2 => ?_)
  refine lv_iload_n hx hb dJ3_checkIndex_8e157_4 rfl (lv_at hl 0 rfl) ?_
  refine lv_iload_n hx hb dJ3_checkIndex_8e157_5 rfl (lv_at hl 1 rfl) ?_
  refine lv_icmp_lt (tgt := 16) hx hb dJ3_checkIndex_8e157_6 kc_t_6_10 (fun c_3 => ?_) (fun c_3 => absurd (nI_lt (a := pj) (b := pn) (by omega) (by omega)) c_3)
  refine lv_iload_n hx hb dJ3_checkIndex_8e157_16 rfl (lv_at hl 0 rfl) ?_
  rw [hQ]
  exact W.iret (v := nI (pj)) hx hb hr (fun t ht hW => ⟨nI (pj), rfl, trivial, ht⟩) (fun _ h => nomatch h) dJ3_checkIndex_8e157_17

theorem dJ0_checkIndex_df160_0 : decode cJ0_checkIndex_df160 0 = .ok (.iload_n 0, 1) := kDs0 kf_26 (by decide +kernel)
theorem dJ0_checkIndex_df160_1 : decode cJ0_checkIndex_df160 1 = .ok (.iload_n 1, 1) := kDs0 kf_27 (by decide +kernel)
theorem dJ0_checkIndex_df160_2 : decode cJ0_checkIndex_df160 2 = .ok (.getstatic 1053, 3) := kDs2 kf_178 (by decide +kernel)
theorem dJ0_checkIndex_df160_5 : decode cJ0_checkIndex_df160 5 = .ok (.invokestatic 1059, 3) := kDs2 kf_184 (by decide +kernel)
theorem dJ0_checkIndex_df160_8 : decode cJ0_checkIndex_df160 8 = .ok (.pop, 1) := kDs0 kf_87 (by decide +kernel)
theorem dJ0_checkIndex_df160_9 : decode cJ0_checkIndex_df160 9 = .ok (.return_, 1) := kDs0 kf_177 (by decide +kernel)
def w_s_t_chk0 : List Cond := .code yJ0_checkIndex_df160 cJ0_checkIndex_df160 2 none :: ([.fieldLink RJ0 1053 "jdk/internal/util/Preconditions" "SIOOBE_FORMATTER" "Ljava/util/function/BiFunction;", .initialized RJ3, .static yJ3_checkIndex_8e157, .methodLink RJ0 1059 yJ3_checkIndex_8e157] ++ (w_s_chk3n ++ (w_s_chk3r)))
theorem gw_s_t_chk0 : (w_s_t_chk0).all goodWord = true := kGc rfl (kGa (by decide +kernel) (kGa gw_s_chk3n gw_s_chk3r))
theorem hd_J0_checkIndex_df160 : yJ0_checkIndex_df160.cls ≠ "java/lang/invoke/MethodHandle" ∧ yJ0_checkIndex_df160.cls ≠ "java/lang/invoke/VarHandle" ∧ (parseMethodDescriptor yJ0_checkIndex_df160.desc).map (fun d => d.parameters.length) = some 2 := by decide +kernel
set_option maxHeartbeats 4000000 in
set_option maxRecDepth 100000 in
theorem s_t_chk0 (l : Launch) (dC : Nat → ClassId) (dI : Nat → Nat → Nat) (q : Nat) (b : Nat) (n : Nat) (g : Nat → Int32) (hn : n ≤ 8) (A : Nat → Prop) (hg : ∀ k : Nat, ∃ v : Nat, v < 128 ∧ g k = nI v) (pj : Nat) (hpj : pj < n) : Met l yJ0_checkIndex_df160 w_s_t_chk0 ({ frames := 2, cells := 0, slots := 0, locals := 120 }) (kR dC dI [.int (nI (pj)), .int (nI (n))] [] [] (kSt q b n g A)) (va_Sv (fun _ : Unit => True)) 0 0 (fun _ => False) := by
  refine Met.ofW (cc := cJ0_checkIndex_df160) (maxL := 2) (ret := none) (by decide) rfl ?_
  intro p e s m args below meth c s₁ B hml hv
  obtain ⟨rfl, hP, hK, hX⟩ := hv
  have hx := B.exec
  have hb := B.bytes
  have hr := B.returns
  have hts := atoms_spec (ws := w_s_t_chk0) B.pre
  have hown : s.vm.findClass RJ0 = some m.cls := findClass_of_methodNamed B.named
  have hlocks := B.notSynchronized
  have hS : va_S A s.heap s.heap [] := va_S.rf
  have hP : va_P (dC, dI) vwCl [] s.heap := hP
  have hl := lv_entry ([.int (nI (pj)), .int (nI (n))]) (n := 2) (Nat.le_of_ble_eq_true rfl)
  rw [lg_entry_eq]
  generalize (lg_sl ([.int (nI (pj)), .int (nI (n))]) ++ List.replicate (2 - (lg_sl ([.int (nI (pj)), .int (nI (n))])).length) Slot.unset).toArray = ls at hl ⊢
  have hl : lv_has ls 2 [(0, .int (nI (pj))), (1, .int (nI (n)))] := hl
  refine kQ (fun Q hQ => ?_)
  refine lv_iload_n hx hb dJ0_checkIndex_df160_0 rfl (lv_at hl 0 rfl) ?_
  refine lv_iload_n hx hb dJ0_checkIndex_df160_1 rfl (lv_at hl 1 rfl) ?_
  rcases hX.2.2.2.2.2 with hZ | ⟨t_1, hZ⟩
  · refine va_gets hx hb hZ hS hown (hts (.fieldLink RJ0 1053 "jdk/internal/util/Preconditions" "SIOOBE_FORMATTER" "Ljava/util/function/BiFunction;") (List.mem_cons_of_mem _ (List.mem_append_left _ (List.mem_of_getElem? (i := 0) rfl)))) (fun _ h9 => h9) dJ0_checkIndex_df160_2 ?_
    have hPc := hP.sb (ws2 := []) [] rfl
    have hKc := hK.sb (tys2 := []) [] rfl
    refine vp_callSi (va_runS (As := [.int (nI (pj)), .int (nI (n)), .null]) (rest := []) ⟨hx, hb, hml, hown, hts⟩ (s_chk3n l dC dI pj n hpj hn) (va_cwS 3 hts (kG (List.forall_mem_cons.mpr ⟨(List.mem_cons_of_mem _ (List.mem_append_left _ (List.mem_of_getElem? (i := 3) rfl))), (List.forall_mem_cons.mpr ⟨(List.mem_cons_of_mem _ (List.mem_append_left _ (List.mem_of_getElem? (i := 2) rfl))), (List.forall_mem_cons.mpr ⟨(List.mem_cons_of_mem _ (List.mem_append_left _ (List.mem_of_getElem? (i := 1) rfl))), (fun _ h => absurd h List.not_mem_nil)⟩)⟩)⟩) (kGS _ _ _) (fun _ h => List.mem_cons_of_mem _ (List.mem_append_right _ (List.mem_append_left _ h))) gw_s_chk3n) rfl rfl rfl hd_J3_checkIndex_8e157 ⟨(Nat.le_of_ble_eq_true rfl), (Nat.le_of_ble_eq_true rfl)⟩) (kR_S kT_blind kT_give hPc hKc) rfl rfl hl.1 rfl (lv_room (Nat.le_of_ble_eq_true rfl)) dJ0_checkIndex_df160_5 ⟨(Nat.le_of_ble_eq_true rfl), (Nat.le_of_ble_eq_true rfl)⟩).run (fun r_2 hw => ?_)
    refine lv_pop hx hb dJ0_checkIndex_df160_8 rfl ?_
    rw [hQ]
    exact W.vret hx hb hr (fun t ht hW => ⟨rfl, trivial, ht⟩) (fun _ h => nomatch h) dJ0_checkIndex_df160_9
  · refine va_gets hx hb hZ hS hown (hts (.fieldLink RJ0 1053 "jdk/internal/util/Preconditions" "SIOOBE_FORMATTER" "Ljava/util/function/BiFunction;") (List.mem_cons_of_mem _ (List.mem_append_left _ (List.mem_of_getElem? (i := 0) rfl)))) (fun _ h9 => h9) dJ0_checkIndex_df160_2 ?_
    have hPc := hP.sb (ws2 := []) [] rfl
    have hKc := hK.sb (tys2 := []) [] rfl
    refine vp_callSi (va_runS (As := [.int (nI (pj)), .int (nI (n)), .ref t_1]) (rest := []) ⟨hx, hb, hml, hown, hts⟩ (s_chk3r l dC dI pj n hpj hn t_1) (va_cwS 3 hts (kG (List.forall_mem_cons.mpr ⟨(List.mem_cons_of_mem _ (List.mem_append_left _ (List.mem_of_getElem? (i := 3) rfl))), (List.forall_mem_cons.mpr ⟨(List.mem_cons_of_mem _ (List.mem_append_left _ (List.mem_of_getElem? (i := 2) rfl))), (List.forall_mem_cons.mpr ⟨(List.mem_cons_of_mem _ (List.mem_append_left _ (List.mem_of_getElem? (i := 1) rfl))), (fun _ h => absurd h List.not_mem_nil)⟩)⟩)⟩) (kGS _ _ _) (fun _ h => List.mem_cons_of_mem _ (List.mem_append_right _ (List.mem_append_right _ h))) gw_s_chk3r) rfl rfl rfl hd_J3_checkIndex_8e157 ⟨(Nat.le_of_ble_eq_true rfl), (Nat.le_of_ble_eq_true rfl)⟩) (kR_S kT_blind kT_give hPc hKc) rfl rfl hl.1 rfl (lv_room (Nat.le_of_ble_eq_true rfl)) dJ0_checkIndex_df160_5 ⟨(Nat.le_of_ble_eq_true rfl), (Nat.le_of_ble_eq_true rfl)⟩).run (fun r_3 hw => ?_)
    refine lv_pop hx hb dJ0_checkIndex_df160_8 rfl ?_
    rw [hQ]
    exact W.vret hx hb hr (fun t ht hW => ⟨rfl, trivial, ht⟩) (fun _ h => nomatch h) dJ0_checkIndex_df160_9

theorem dJ1_charAt_3b067_0 : decode cJ1_charAt_3b067 0 = .ok (.iload_n 1, 1) := kDs0 kf_27 (by decide +kernel)
theorem dJ1_charAt_3b067_1 : decode cJ1_charAt_3b067 1 = .ok (.aload_n 0, 1) := kDs0 kf_42 (by decide +kernel)
theorem dJ1_charAt_3b067_2 : decode cJ1_charAt_3b067 2 = .ok (.arraylength, 1) := kDs0 kf_190 (by decide +kernel)
theorem dJ1_charAt_3b067_3 : decode cJ1_charAt_3b067 3 = .ok (.invokestatic 9, 3) := kDs2 kf_184 (by decide +kernel)
theorem dJ1_charAt_3b067_6 : decode cJ1_charAt_3b067 6 = .ok (.aload_n 0, 1) := kDs0 kf_42 (by decide +kernel)
theorem dJ1_charAt_3b067_7 : decode cJ1_charAt_3b067 7 = .ok (.iload_n 1, 1) := kDs0 kf_27 (by decide +kernel)
theorem dJ1_charAt_3b067_8 : decode cJ1_charAt_3b067 8 = .ok (.baload, 1) := kDs0 kf_51 (by decide +kernel)
theorem dJ1_charAt_3b067_9 : decode cJ1_charAt_3b067 9 = .ok (.sipush 255, 3) := kDs4 kf_17 (by decide +kernel)
theorem dJ1_charAt_3b067_12 : decode cJ1_charAt_3b067 12 = .ok (.iand, 1) := kDs0 kf_126 (by decide +kernel)
theorem dJ1_charAt_3b067_13 : decode cJ1_charAt_3b067 13 = .ok (.i2c, 1) := kDs0 kf_146 (by decide +kernel)
theorem dJ1_charAt_3b067_14 : decode cJ1_charAt_3b067 14 = .ok (.ireturn, 1) := kDs0 kf_172 (by decide +kernel)
theorem hd_J1_charAt_3b067 : yJ1_charAt_3b067.cls ≠ "java/lang/invoke/MethodHandle" ∧ yJ1_charAt_3b067.cls ≠ "java/lang/invoke/VarHandle" ∧ (parseMethodDescriptor yJ1_charAt_3b067.desc).map (fun d => d.parameters.length) = some 2 := by decide +kernel
theorem dJ0_charAt_5068e_0 : decode cJ0_charAt_5068e 0 = .ok (.aload_n 0, 1) := kDs0 kf_42 (by decide +kernel)
theorem dJ0_charAt_5068e_1 : decode cJ0_charAt_5068e 1 = .ok (.invokevirtual 492, 3) := kDs2 kf_182 (by decide +kernel)
theorem dJ0_charAt_5068e_4 : decode cJ0_charAt_5068e 4 = .ok (.ifCond .eq 12, 3) := kDs4 kf_153 (by decide +kernel)
theorem dJ0_charAt_5068e_7 : decode cJ0_charAt_5068e 7 = .ok (.aload_n 0, 1) := kDs0 kf_42 (by decide +kernel)
theorem dJ0_charAt_5068e_8 : decode cJ0_charAt_5068e 8 = .ok (.getfield 9, 3) := kDs2 kf_180 (by decide +kernel)
theorem dJ0_charAt_5068e_11 : decode cJ0_charAt_5068e 11 = .ok (.iload_n 1, 1) := kDs0 kf_27 (by decide +kernel)
theorem dJ0_charAt_5068e_12 : decode cJ0_charAt_5068e 12 = .ok (.invokestatic 495, 3) := kDs2 kf_184 (by decide +kernel)
theorem dJ0_charAt_5068e_15 : decode cJ0_charAt_5068e 15 = .ok (.ireturn, 1) := kDs0 kf_172 (by decide +kernel)
theorem hd_J0_charAt_5068e : yJ0_charAt_5068e.cls ≠ "java/lang/invoke/MethodHandle" ∧ yJ0_charAt_5068e.cls ≠ "java/lang/invoke/VarHandle" ∧ (parseMethodDescriptor yJ0_charAt_5068e.desc).map (fun d => d.parameters.length) = some 1 := by decide +kernel
theorem dX10_isAmong_0 : decode cX10_isAmong 0 = .ok (.iconst 0, 1) := kDs0 kf_3 (by decide +kernel)
theorem dX10_isAmong_1 : decode cX10_isAmong 1 = .ok (.istore_n 2, 1) := kDs0 kf_61 (by decide +kernel)
theorem dX10_isAmong_2 : decode cX10_isAmong 2 = .ok (.iload_n 2, 1) := kDs0 kf_28 (by decide +kernel)
theorem dX10_isAmong_3 : decode cX10_isAmong 3 = .ok (.aload_n 0, 1) := kDs0 kf_42 (by decide +kernel)
theorem dX10_isAmong_4 : decode cX10_isAmong 4 = .ok (.invokevirtual 121, 3) := kDs2 kf_182 (by decide +kernel)
theorem dX10_isAmong_7 : decode cX10_isAmong 7 = .ok (.if_icmp .ge 20, 3) := kDs4 kf_162 (by decide +kernel)
theorem dX10_isAmong_27 : decode cX10_isAmong 27 = .ok (.iconst 0, 1) := kDs0 kf_3 (by decide +kernel)
theorem dX10_isAmong_28 : decode cX10_isAmong 28 = .ok (.ireturn, 1) := kDs0 kf_172 (by decide +kernel)
theorem dX10_isAmong_10 : decode cX10_isAmong 10 = .ok (.aload_n 0, 1) := kDs0 kf_42 (by decide +kernel)
theorem dX10_isAmong_11 : decode cX10_isAmong 11 = .ok (.iload_n 2, 1) := kDs0 kf_28 (by decide +kernel)
theorem dX10_isAmong_12 : decode cX10_isAmong 12 = .ok (.invokevirtual 127, 3) := kDs2 kf_182 (by decide +kernel)
theorem dX10_isAmong_15 : decode cX10_isAmong 15 = .ok (.iload_n 1, 1) := kDs0 kf_27 (by decide +kernel)
theorem dX10_isAmong_16 : decode cX10_isAmong 16 = .ok (.if_icmp .ne 5, 3) := kDs4 kf_160 (by decide +kernel)
theorem dX10_isAmong_21 : decode cX10_isAmong 21 = .ok (.iinc 2 1, 3) := kDs5 kf_132 (by decide +kernel)
theorem dX10_isAmong_24 : decode cX10_isAmong 24 = .ok (.goto (-22), 3) := kDs4 kf_167 (by decide +kernel)
theorem dX10_isAmong_19 : decode cX10_isAmong 19 = .ok (.iconst 1, 1) := kDs0 kf_4 (by decide +kernel)
theorem dX10_isAmong_20 : decode cX10_isAmong 20 = .ok (.ireturn, 1) := kDs0 kf_172 (by decide +kernel)
theorem hd_X10_isAmong : yX10_isAmong.cls ≠ "java/lang/invoke/MethodHandle" ∧ yX10_isAmong.cls ≠ "java/lang/invoke/VarHandle" ∧ (parseMethodDescriptor yX10_isAmong.desc).map (fun d => d.parameters.length) = some 2 := by decide +kernel
theorem dJ13_bitCount_95d88_0 : decode cJ13_bitCount_95d88 0 = .ok (.lload_n 0, 1) := kDs0 kf_30 (by decide +kernel)
theorem dJ13_bitCount_95d88_1 : decode cJ13_bitCount_95d88 1 = .ok (.lload_n 0, 1) := kDs0 kf_30 (by decide +kernel)
theorem dJ13_bitCount_95d88_2 : decode cJ13_bitCount_95d88 2 = .ok (.iconst 1, 1) := kDs0 kf_4 (by decide +kernel)
theorem dJ13_bitCount_95d88_3 : decode cJ13_bitCount_95d88 3 = .ok (.lushr, 1) := kDs0 kf_125 (by decide +kernel)
theorem dJ13_bitCount_95d88_4 : decode cJ13_bitCount_95d88 4 = .ok (.ldc2_w 314, 3) := kDs2 kf_20 (by decide +kernel)
theorem dJ13_bitCount_95d88_7 : decode cJ13_bitCount_95d88 7 = .ok (.land, 1) := kDs0 kf_127 (by decide +kernel)
theorem dJ13_bitCount_95d88_8 : decode cJ13_bitCount_95d88 8 = .ok (.lsub, 1) := kDs0 kf_101 (by decide +kernel)
theorem dJ13_bitCount_95d88_9 : decode cJ13_bitCount_95d88 9 = .ok (.lstore_n 0, 1) := kDs0 kf_63 (by decide +kernel)
theorem dJ13_bitCount_95d88_10 : decode cJ13_bitCount_95d88 10 = .ok (.lload_n 0, 1) := kDs0 kf_30 (by decide +kernel)
theorem dJ13_bitCount_95d88_11 : decode cJ13_bitCount_95d88 11 = .ok (.ldc2_w 316, 3) := kDs2 kf_20 (by decide +kernel)
theorem dJ13_bitCount_95d88_14 : decode cJ13_bitCount_95d88 14 = .ok (.land, 1) := kDs0 kf_127 (by decide +kernel)
theorem dJ13_bitCount_95d88_15 : decode cJ13_bitCount_95d88 15 = .ok (.lload_n 0, 1) := kDs0 kf_30 (by decide +kernel)
theorem dJ13_bitCount_95d88_16 : decode cJ13_bitCount_95d88 16 = .ok (.iconst 2, 1) := kDs0 kf_5 (by decide +kernel)
theorem dJ13_bitCount_95d88_17 : decode cJ13_bitCount_95d88 17 = .ok (.lushr, 1) := kDs0 kf_125 (by decide +kernel)
theorem dJ13_bitCount_95d88_18 : decode cJ13_bitCount_95d88 18 = .ok (.ldc2_w 316, 3) := kDs2 kf_20 (by decide +kernel)
theorem dJ13_bitCount_95d88_21 : decode cJ13_bitCount_95d88 21 = .ok (.land, 1) := kDs0 kf_127 (by decide +kernel)
theorem dJ13_bitCount_95d88_22 : decode cJ13_bitCount_95d88 22 = .ok (.ladd, 1) := kDs0 kf_97 (by decide +kernel)
theorem dJ13_bitCount_95d88_23 : decode cJ13_bitCount_95d88 23 = .ok (.lstore_n 0, 1) := kDs0 kf_63 (by decide +kernel)
theorem dJ13_bitCount_95d88_24 : decode cJ13_bitCount_95d88 24 = .ok (.lload_n 0, 1) := kDs0 kf_30 (by decide +kernel)
theorem dJ13_bitCount_95d88_25 : decode cJ13_bitCount_95d88 25 = .ok (.lload_n 0, 1) := kDs0 kf_30 (by decide +kernel)
theorem dJ13_bitCount_95d88_26 : decode cJ13_bitCount_95d88 26 = .ok (.iconst 4, 1) := kDs0 kf_7 (by decide +kernel)
theorem dJ13_bitCount_95d88_27 : decode cJ13_bitCount_95d88 27 = .ok (.lushr, 1) := kDs0 kf_125 (by decide +kernel)
theorem dJ13_bitCount_95d88_28 : decode cJ13_bitCount_95d88 28 = .ok (.ladd, 1) := kDs0 kf_97 (by decide +kernel)
theorem dJ13_bitCount_95d88_29 : decode cJ13_bitCount_95d88 29 = .ok (.ldc2_w 318, 3) := kDs2 kf_20 (by decide +kernel)
theorem dJ13_bitCount_95d88_32 : decode cJ13_bitCount_95d88 32 = .ok (.land, 1) := kDs0 kf_127 (by decide +kernel)
theorem dJ13_bitCount_95d88_33 : decode cJ13_bitCount_95d88 33 = .ok (.lstore_n 0, 1) := kDs0 kf_63 (by decide +kernel)
theorem dJ13_bitCount_95d88_34 : decode cJ13_bitCount_95d88 34 = .ok (.lload_n 0, 1) := kDs0 kf_30 (by decide +kernel)
theorem dJ13_bitCount_95d88_35 : decode cJ13_bitCount_95d88 35 = .ok (.lload_n 0, 1) := kDs0 kf_30 (by decide +kernel)
theorem dJ13_bitCount_95d88_36 : decode cJ13_bitCount_95d88 36 = .ok (.bipush 8, 2) := kDs3 kf_16 (by decide +kernel)
theorem dJ13_bitCount_95d88_38 : decode cJ13_bitCount_95d88 38 = .ok (.lushr, 1) := kDs0 kf_125 (by decide +kernel)
theorem dJ13_bitCount_95d88_39 : decode cJ13_bitCount_95d88 39 = .ok (.ladd, 1) := kDs0 kf_97 (by decide +kernel)
theorem dJ13_bitCount_95d88_40 : decode cJ13_bitCount_95d88 40 = .ok (.lstore_n 0, 1) := kDs0 kf_63 (by decide +kernel)
theorem dJ13_bitCount_95d88_41 : decode cJ13_bitCount_95d88 41 = .ok (.lload_n 0, 1) := kDs0 kf_30 (by decide +kernel)
theorem dJ13_bitCount_95d88_42 : decode cJ13_bitCount_95d88 42 = .ok (.lload_n 0, 1) := kDs0 kf_30 (by decide +kernel)
theorem dJ13_bitCount_95d88_43 : decode cJ13_bitCount_95d88 43 = .ok (.bipush 16, 2) := kDs3 kf_16 (by decide +kernel)
theorem dJ13_bitCount_95d88_45 : decode cJ13_bitCount_95d88 45 = .ok (.lushr, 1) := kDs0 kf_125 (by decide +kernel)
theorem dJ13_bitCount_95d88_46 : decode cJ13_bitCount_95d88 46 = .ok (.ladd, 1) := kDs0 kf_97 (by decide +kernel)
theorem dJ13_bitCount_95d88_47 : decode cJ13_bitCount_95d88 47 = .ok (.lstore_n 0, 1) := kDs0 kf_63 (by decide +kernel)
theorem dJ13_bitCount_95d88_48 : decode cJ13_bitCount_95d88 48 = .ok (.lload_n 0, 1) := kDs0 kf_30 (by decide +kernel)
theorem dJ13_bitCount_95d88_49 : decode cJ13_bitCount_95d88 49 = .ok (.lload_n 0, 1) := kDs0 kf_30 (by decide +kernel)
theorem dJ13_bitCount_95d88_50 : decode cJ13_bitCount_95d88 50 = .ok (.bipush 32, 2) := kDs3 kf_16 (by decide +kernel)
theorem dJ13_bitCount_95d88_52 : decode cJ13_bitCount_95d88 52 = .ok (.lushr, 1) := kDs0 kf_125 (by decide +kernel)
theorem dJ13_bitCount_95d88_53 : decode cJ13_bitCount_95d88 53 = .ok (.ladd, 1) := kDs0 kf_97 (by decide +kernel)
theorem dJ13_bitCount_95d88_54 : decode cJ13_bitCount_95d88 54 = .ok (.lstore_n 0, 1) := kDs0 kf_63 (by decide +kernel)
theorem dJ13_bitCount_95d88_55 : decode cJ13_bitCount_95d88 55 = .ok (.lload_n 0, 1) := kDs0 kf_30 (by decide +kernel)
theorem dJ13_bitCount_95d88_56 : decode cJ13_bitCount_95d88 56 = .ok (.l2i, 1) := kDs0 kf_136 (by decide +kernel)
theorem dJ13_bitCount_95d88_57 : decode cJ13_bitCount_95d88 57 = .ok (.bipush 127, 2) := kDs3 kf_16 (by decide +kernel)
theorem dJ13_bitCount_95d88_59 : decode cJ13_bitCount_95d88 59 = .ok (.iand, 1) := kDs0 kf_126 (by decide +kernel)
theorem dJ13_bitCount_95d88_60 : decode cJ13_bitCount_95d88 60 = .ok (.ireturn, 1) := kDs0 kf_172 (by decide +kernel)
def w_s_bitJ : List Cond := .code yJ13_bitCount_95d88 cJ13_bitCount_95d88 2 (some .int) :: ([.constantLong RJ13 314 (6148914691236517205), .constantLong RJ13 316 (3689348814741910323), .constantLong RJ13 318 (1085102592571150095)] ++ [])
theorem gw_s_bitJ : (w_s_bitJ).all goodWord = true := kGc rfl (kGa (by decide +kernel) kGn)
theorem hd_J13_bitCount_95d88 : yJ13_bitCount_95d88.cls ≠ "java/lang/invoke/MethodHandle" ∧ yJ13_bitCount_95d88.cls ≠ "java/lang/invoke/VarHandle" ∧ (parseMethodDescriptor yJ13_bitCount_95d88.desc).map (fun d => d.parameters.length) = some 1 := by decide +kernel
set_option maxHeartbeats 4000000 in
set_option maxRecDepth 100000 in
theorem s_bitJ (l : Launch) (dC : Nat → ClassId) (dI : Nat → Nat → Nat) (p0 : Int64) : Met l yJ13_bitCount_95d88 w_s_bitJ ({ frames := 1, cells := 0, slots := 0, locals := 60 }) (kR dC dI [.long p0] [] [] kT) (vp_Si (fun r : Int32 => True)) 0 0 (fun _ => False) := by
  refine Met.ofW (cc := cJ13_bitCount_95d88) (maxL := 2) (ret := (some .int)) (by decide) rfl ?_
  intro p e s m args below meth c s₁ B hml hv
  obtain ⟨rfl, hP, hK, hX⟩ := hv
  have hx := B.exec
  have hb := B.bytes
  have hr := B.returns
  have hts := atoms_spec (ws := w_s_bitJ) B.pre
  have hown : s.vm.findClass RJ13 = some m.cls := findClass_of_methodNamed B.named
  have hlocks := B.notSynchronized
  have hP : va_P (dC, dI) vwCl [] s.heap := hP
  have hl := lv_entry ([.long p0]) (n := 2) (Nat.le_of_ble_eq_true rfl)
  rw [lg_entry_eq]
  generalize (lg_sl ([.long p0]) ++ List.replicate (2 - (lg_sl ([.long p0])).length) Slot.unset).toArray = ls at hl ⊢
  have hl : lv_has ls 2 [(0, .long p0)] := hl
  refine kQ (fun Q hQ => ?_)
  refine lv_lload_n hx hb dJ13_bitCount_95d88_0 rfl (lv_at hl 0 rfl) ?_
  refine lv_lload_n hx hb dJ13_bitCount_95d88_1 rfl (lv_at hl 0 rfl) ?_
  refine lv_iconst (v := 1) hx hb dJ13_bitCount_95d88_2 kc_i_1 ?_
  refine lv_lushr hx hb dJ13_bitCount_95d88_3 rfl ?_
  refine lv_topl (fun z_1 ez_1 => ?_)
  refine lv_ldc2 (v := 6148914691236517205) hx hb hown (hts (.constantLong RJ13 314 (6148914691236517205)) (List.mem_cons_of_mem _ (List.mem_append_left _ (List.mem_of_getElem? (i := 0) rfl)))) dJ13_bitCount_95d88_4 ?_
  refine lv_land hx hb dJ13_bitCount_95d88_7 ?_
  refine lv_topl (fun z_2 ez_2 => ?_)
  refine lv_lsub hx hb dJ13_bitCount_95d88_8 ?_
  refine lv_topl (fun z_3 ez_3 => ?_)
  refine lv_lstore_n hx hb dJ13_bitCount_95d88_9 rfl hl kc_l_1_2 (kTo [(0, .long z_3)]) (fun ls hl => ?_)
  refine lv_lload_n hx hb dJ13_bitCount_95d88_10 rfl (lv_at hl 0 rfl) ?_
  refine lv_ldc2 (v := 3689348814741910323) hx hb hown (hts (.constantLong RJ13 316 (3689348814741910323)) (List.mem_cons_of_mem _ (List.mem_append_left _ (List.mem_of_getElem? (i := 1) rfl)))) dJ13_bitCount_95d88_11 ?_
  refine lv_land hx hb dJ13_bitCount_95d88_14 ?_
  refine lv_topl (fun z_4 ez_4 => ?_)
  refine lv_lload_n hx hb dJ13_bitCount_95d88_15 rfl (lv_at hl 0 rfl) ?_
  refine lv_iconst (v := 2) hx hb dJ13_bitCount_95d88_16 kc_i_2 ?_
  refine lv_lushr hx hb dJ13_bitCount_95d88_17 rfl ?_
  refine lv_topl (fun z_5 ez_5 => ?_)
  refine lv_ldc2 (v := 3689348814741910323) hx hb hown (hts (.constantLong RJ13 316 (3689348814741910323)) (List.mem_cons_of_mem _ (List.mem_append_left _ (List.mem_of_getElem? (i := 1) rfl)))) dJ13_bitCount_95d88_18 ?_
  refine lv_land hx hb dJ13_bitCount_95d88_21 ?_
  refine lv_topl (fun z_6 ez_6 => ?_)
  refine lv_ladd hx hb dJ13_bitCount_95d88_22 ?_
  refine lv_topl (fun z_7 ez_7 => ?_)
  refine lv_lstore_n hx hb dJ13_bitCount_95d88_23 rfl hl kc_l_1_2 (kTo [(0, .long z_7)]) (fun ls hl => ?_)
  refine lv_lload_n hx hb dJ13_bitCount_95d88_24 rfl (lv_at hl 0 rfl) ?_
  refine lv_lload_n hx hb dJ13_bitCount_95d88_25 rfl (lv_at hl 0 rfl) ?_
  refine lv_iconst (v := 4) hx hb dJ13_bitCount_95d88_26 kc_i_4 ?_
  refine lv_lushr hx hb dJ13_bitCount_95d88_27 rfl ?_
  refine lv_topl (fun z_8 ez_8 => ?_)
  refine lv_ladd hx hb dJ13_bitCount_95d88_28 ?_
  refine lv_topl (fun z_9 ez_9 => ?_)
  refine lv_ldc2 (v := 1085102592571150095) hx hb hown (hts (.constantLong RJ13 318 (1085102592571150095)) (List.mem_cons_of_mem _ (List.mem_append_left _ (List.mem_of_getElem? (i := 2) rfl)))) dJ13_bitCount_95d88_29 ?_
  refine lv_land hx hb dJ13_bitCount_95d88_32 ?_
  refine lv_topl (fun z_10 ez_10 => ?_)
  refine lv_lstore_n hx hb dJ13_bitCount_95d88_33 rfl hl kc_l_1_2 (kTo [(0, .long z_10)]) (fun ls hl => ?_)
  refine lv_lload_n hx hb dJ13_bitCount_95d88_34 rfl (lv_at hl 0 rfl) ?_
  refine lv_lload_n hx hb dJ13_bitCount_95d88_35 rfl (lv_at hl 0 rfl) ?_
  refine lv_bipush (v := 8) hx hb dJ13_bitCount_95d88_36 kc_b_8 ?_
  refine lv_lushr hx hb dJ13_bitCount_95d88_38 rfl ?_
  refine lv_topl (fun z_11 ez_11 => ?_)
  refine lv_ladd hx hb dJ13_bitCount_95d88_39 ?_
  refine lv_topl (fun z_12 ez_12 => ?_)
  refine lv_lstore_n hx hb dJ13_bitCount_95d88_40 rfl hl kc_l_1_2 (kTo [(0, .long z_12)]) (fun ls hl => ?_)
  refine lv_lload_n hx hb dJ13_bitCount_95d88_41 rfl (lv_at hl 0 rfl) ?_
  refine lv_lload_n hx hb dJ13_bitCount_95d88_42 rfl (lv_at hl 0 rfl) ?_
  refine lv_bipush (v := 16) hx hb dJ13_bitCount_95d88_43 kc_b_16 ?_
  refine lv_lushr hx hb dJ13_bitCount_95d88_45 rfl ?_
  refine lv_topl (fun z_13 ez_13 => ?_)
  refine lv_ladd hx hb dJ13_bitCount_95d88_46 ?_
  refine lv_topl (fun z_14 ez_14 => ?_)
  refine lv_lstore_n hx hb dJ13_bitCount_95d88_47 rfl hl kc_l_1_2 (kTo [(0, .long z_14)]) (fun ls hl => ?_)
  refine lv_lload_n hx hb dJ13_bitCount_95d88_48 rfl (lv_at hl 0 rfl) ?_
  refine lv_lload_n hx hb dJ13_bitCount_95d88_49 rfl (lv_at hl 0 rfl) ?_
  refine lv_bipush (v := 32) hx hb dJ13_bitCount_95d88_50 kc_b_32 ?_
  refine lv_lushr hx hb dJ13_bitCount_95d88_52 rfl ?_
  refine lv_topl (fun z_15 ez_15 => ?_)
  refine lv_ladd hx hb dJ13_bitCount_95d88_53 ?_
  refine lv_topl (fun z_16 ez_16 => ?_)
  refine lv_lstore_n hx hb dJ13_bitCount_95d88_54 rfl hl kc_l_1_2 (kTo [(0, .long z_16)]) (fun ls hl => ?_)
  refine lv_lload_n hx hb dJ13_bitCount_95d88_55 rfl (lv_at hl 0 rfl) ?_
  obtain ⟨x_17, ex_17⟩ : ∃ z : Int32, z = Int64.toInt32 z_16 := ⟨_, rfl⟩
  refine lv_l2i (v := x_17) hx hb dJ13_bitCount_95d88_56 ex_17.symm ?_
  refine lv_bipush (v := 127) hx hb dJ13_bitCount_95d88_57 kc_b_127 ?_
  refine lv_iand hx hb dJ13_bitCount_95d88_59 ?_
  refine lv_topi (fun x_18 ex_18 => ?_)
  rw [hQ]
  exact W.iret (v := x_18) hx hb hr (fun t ht hW => ⟨x_18, rfl, trivial, ht⟩) (fun _ h => nomatch h) dJ13_bitCount_95d88_60

theorem dX10_within_0 : decode cX10_within 0 = .ok (.ldc2_w 163, 3) := kDs2 kf_20 (by decide +kernel)
theorem dX10_within_3 : decode cX10_within 3 = .ok (.ldc2_w 165, 3) := kDs2 kf_20 (by decide +kernel)
theorem dX10_within_6 : decode cX10_within 6 = .ok (.lload_n 0, 1) := kDs0 kf_30 (by decide +kernel)
theorem dX10_within_7 : decode cX10_within 7 = .ok (.invokestatic 167, 3) := kDs2 kf_184 (by decide +kernel)
theorem dX10_within_10 : decode cX10_within 10 = .ok (.invokestatic 173, 3) := kDs2 kf_184 (by decide +kernel)
theorem dX10_within_13 : decode cX10_within 13 = .ok (.l2i, 1) := kDs0 kf_136 (by decide +kernel)
theorem dX10_within_14 : decode cX10_within 14 = .ok (.ireturn, 1) := kDs0 kf_172 (by decide +kernel)
theorem hd_X10_within : yX10_within.cls ≠ "java/lang/invoke/MethodHandle" ∧ yX10_within.cls ≠ "java/lang/invoke/VarHandle" ∧ (parseMethodDescriptor yX10_within.desc).map (fun d => d.parameters.length) = some 1 := by decide +kernel
theorem dX10_isIn_0 : decode cX10_isIn 0 = .ok (.iload_n 0, 1) := kDs0 kf_26 (by decide +kernel)
theorem dX10_isIn_1 : decode cX10_isIn 1 = .ok (.iload_n 1, 1) := kDs0 kf_27 (by decide +kernel)
theorem dX10_isIn_2 : decode cX10_isIn 2 = .ok (.if_icmp .lt 12, 3) := kDs4 kf_161 (by decide +kernel)
theorem dX10_isIn_14 : decode cX10_isIn 14 = .ok (.iconst 0, 1) := kDs0 kf_3 (by decide +kernel)
theorem dX10_isIn_15 : decode cX10_isIn 15 = .ok (.ireturn, 1) := kDs0 kf_172 (by decide +kernel)
theorem dX10_isIn_5 : decode cX10_isIn 5 = .ok (.iload_n 0, 1) := kDs0 kf_26 (by decide +kernel)
theorem dX10_isIn_6 : decode cX10_isIn 6 = .ok (.iload_n 2, 1) := kDs0 kf_28 (by decide +kernel)
theorem dX10_isIn_7 : decode cX10_isIn 7 = .ok (.if_icmp .gt 7, 3) := kDs4 kf_163 (by decide +kernel)
theorem dX10_isIn_10 : decode cX10_isIn 10 = .ok (.iconst 1, 1) := kDs0 kf_4 (by decide +kernel)
theorem dX10_isIn_11 : decode cX10_isIn 11 = .ok (.goto 4, 3) := kDs4 kf_167 (by decide +kernel)
theorem hd_X10_isIn : yX10_isIn.cls ≠ "java/lang/invoke/MethodHandle" ∧ yX10_isIn.cls ≠ "java/lang/invoke/VarHandle" ∧ (parseMethodDescriptor yX10_isIn.desc).map (fun d => d.parameters.length) = some 3 := by decide +kernel
def w_s_isIn10_47 : List Cond := .code yX10_isIn cX10_isIn 3 (some .boolean) :: ([])
theorem gw_s_isIn10_47 : (w_s_isIn10_47).all goodWord = true := kGc rfl kGn
set_option maxHeartbeats 4000000 in
set_option maxRecDepth 100000 in
theorem s_isIn10_47 (l : Launch) (dC : Nat → ClassId) (dI : Nat → Nat → Nat) (p0 : Int32) : Met l yX10_isIn w_s_isIn10_47 ({ frames := 1, cells := 0, slots := 0, locals := 60 }) (kR dC dI [.int p0, .int 0, .int 47] [] [] kT) (vp_Si (fun r : Int32 => (¬ r = 0 → ∃ j : Nat, j < 48 ∧ p0 = nI j))) 0 0 (fun _ => False) := by
  refine Met.ofW (cc := cX10_isIn) (maxL := 3) (ret := (some .boolean)) (by decide) rfl ?_
  intro p e s m args below meth c s₁ B hml hv
  obtain ⟨rfl, hP, hK, hX⟩ := hv
  have hx := B.exec
  have hb := B.bytes
  have hr := B.returns
  have hts := atoms_spec (ws := w_s_isIn10_47) B.pre
  have hown : s.vm.findClass RX10 = some m.cls := findClass_of_methodNamed B.named
  have hlocks := B.notSynchronized
  have hP : va_P (dC, dI) vwCl [] s.heap := hP
  have hl := lv_entry ([.int p0, .int 0, .int 47]) (n := 3) (Nat.le_of_ble_eq_true rfl)
  rw [lg_entry_eq]
  generalize (lg_sl ([.int p0, .int 0, .int 47]) ++ List.replicate (3 - (lg_sl ([.int p0, .int 0, .int 47])).length) Slot.unset).toArray = ls at hl ⊢
  have hl : lv_has ls 3 [(0, .int p0), (1, .int 0), (2, .int 47)] := hl
  refine kQ (fun Q hQ => ?_)
  refine lv_iload_n hx hb dX10_isIn_0 rfl (lv_at hl 0 rfl) ?_
  refine lv_iload_n hx hb dX10_isIn_1 rfl (lv_at hl 1 rfl) ?_
  refine lv_icmp_lt (tgt := 14) hx hb dX10_isIn_2 kc_t_2_12 (fun c_1 => ?_) (fun c_1 => ?_)
  · refine lv_iconst (v := 0) hx hb dX10_isIn_14 kc_i_0 ?_
    rw [hQ]
    exact W.zret (v := 0) hx hb hr rfl (fun t ht hW => ⟨0, rfl, (fun z => absurd rfl z), ht⟩) (fun _ h => nomatch h) dX10_isIn_15
  · refine lv_iload_n hx hb dX10_isIn_5 rfl (lv_at hl 0 rfl) ?_
    refine lv_iload_n hx hb dX10_isIn_6 rfl (lv_at hl 2 rfl) ?_
    refine lv_icmp_gt (tgt := 14) hx hb dX10_isIn_7 kc_t_7_7 (fun c_2 => ?_) (fun c_2 => ?_)
    · refine lv_iconst (v := 0) hx hb dX10_isIn_14 kc_i_0 ?_
      rw [hQ]
      exact W.zret (v := 0) hx hb hr rfl (fun t ht hW => ⟨0, rfl, (fun z => absurd rfl z), ht⟩) (fun _ h => nomatch h) dX10_isIn_15
    · refine lv_iconst (v := 1) hx hb dX10_isIn_10 kc_i_1 ?_
      refine lv_goto (tgt := 15) hx hb dX10_isIn_11 kc_t_11_4 ?_
      rw [hQ]
      exact W.zret (v := 1) hx hb hr rfl (fun t ht hW => ⟨1, rfl, (fun _ => by first | exact kInN (M := 47) (n := 47) (by decide) c_1 c_2 | exact kInN (M := 47) (n := 47) (by decide) c_1 (Int32.not_lt.mp c_2)), ht⟩) (fun _ h => nomatch h) dX10_isIn_15

def w_s_isIn10_8 : List Cond := .code yX10_isIn cX10_isIn 3 (some .boolean) :: ([])
theorem gw_s_isIn10_8 : (w_s_isIn10_8).all goodWord = true := kGc rfl kGn
set_option maxHeartbeats 4000000 in
set_option maxRecDepth 100000 in
theorem s_isIn10_8 (l : Launch) (dC : Nat → ClassId) (dI : Nat → Nat → Nat) (p0 : Int32) : Met l yX10_isIn w_s_isIn10_8 ({ frames := 1, cells := 0, slots := 0, locals := 60 }) (kR dC dI [.int p0, .int 0, .int 8] [] [] kT) (vp_Si (fun r : Int32 => (¬ r = 0 → ∃ j : Nat, j < 9 ∧ p0 = nI j))) 0 0 (fun _ => False) := by
  refine Met.ofW (cc := cX10_isIn) (maxL := 3) (ret := (some .boolean)) (by decide) rfl ?_
  intro p e s m args below meth c s₁ B hml hv
  obtain ⟨rfl, hP, hK, hX⟩ := hv
  have hx := B.exec
  have hb := B.bytes
  have hr := B.returns
  have hts := atoms_spec (ws := w_s_isIn10_8) B.pre
  have hown : s.vm.findClass RX10 = some m.cls := findClass_of_methodNamed B.named
  have hlocks := B.notSynchronized
  have hP : va_P (dC, dI) vwCl [] s.heap := hP
  have hl := lv_entry ([.int p0, .int 0, .int 8]) (n := 3) (Nat.le_of_ble_eq_true rfl)
  rw [lg_entry_eq]
  generalize (lg_sl ([.int p0, .int 0, .int 8]) ++ List.replicate (3 - (lg_sl ([.int p0, .int 0, .int 8])).length) Slot.unset).toArray = ls at hl ⊢
  have hl : lv_has ls 3 [(0, .int p0), (1, .int 0), (2, .int 8)] := hl
  refine kQ (fun Q hQ => ?_)
  refine lv_iload_n hx hb dX10_isIn_0 rfl (lv_at hl 0 rfl) ?_
  refine lv_iload_n hx hb dX10_isIn_1 rfl (lv_at hl 1 rfl) ?_
  refine lv_icmp_lt (tgt := 14) hx hb dX10_isIn_2 kc_t_2_12 (fun c_1 => ?_) (fun c_1 => ?_)
  · refine lv_iconst (v := 0) hx hb dX10_isIn_14 kc_i_0 ?_
    rw [hQ]
    exact W.zret (v := 0) hx hb hr rfl (fun t ht hW => ⟨0, rfl, (fun z => absurd rfl z), ht⟩) (fun _ h => nomatch h) dX10_isIn_15
  · refine lv_iload_n hx hb dX10_isIn_5 rfl (lv_at hl 0 rfl) ?_
    refine lv_iload_n hx hb dX10_isIn_6 rfl (lv_at hl 2 rfl) ?_
    refine lv_icmp_gt (tgt := 14) hx hb dX10_isIn_7 kc_t_7_7 (fun c_2 => ?_) (fun c_2 => ?_)
    · refine lv_iconst (v := 0) hx hb dX10_isIn_14 kc_i_0 ?_
      rw [hQ]
      exact W.zret (v := 0) hx hb hr rfl (fun t ht hW => ⟨0, rfl, (fun z => absurd rfl z), ht⟩) (fun _ h => nomatch h) dX10_isIn_15
    · refine lv_iconst (v := 1) hx hb dX10_isIn_10 kc_i_1 ?_
      refine lv_goto (tgt := 15) hx hb dX10_isIn_11 kc_t_11_4 ?_
      rw [hQ]
      exact W.zret (v := 1) hx hb hr rfl (fun t ht hW => ⟨1, rfl, (fun _ => by first | exact kInN (M := 8) (n := 8) (by decide) c_1 c_2 | exact kInN (M := 8) (n := 8) (by decide) c_1 (Int32.not_lt.mp c_2)), ht⟩) (fun _ h => nomatch h) dX10_isIn_15

def w_s_isIn10 : List Cond := .code yX10_isIn cX10_isIn 3 (some .boolean) :: ([])
theorem gw_s_isIn10 : (w_s_isIn10).all goodWord = true := kGc rfl kGn
set_option maxHeartbeats 4000000 in
set_option maxRecDepth 100000 in
theorem s_isIn10 (l : Launch) (dC : Nat → ClassId) (dI : Nat → Nat → Nat) (p0 : Int32) (p1 : Int32) (p2 : Int32) : Met l yX10_isIn w_s_isIn10 ({ frames := 1, cells := 0, slots := 0, locals := 60 }) (kR dC dI [.int p0, .int p1, .int p2] [] [] kT) (vp_Si (fun r : Int32 => r = kIn p0 p1 p2)) 0 0 (fun _ => False) := by
  refine Met.ofW (cc := cX10_isIn) (maxL := 3) (ret := (some .boolean)) (by decide) rfl ?_
  intro p e s m args below meth c s₁ B hml hv
  obtain ⟨rfl, hP, hK, hX⟩ := hv
  have hx := B.exec
  have hb := B.bytes
  have hr := B.returns
  have hts := atoms_spec (ws := w_s_isIn10) B.pre
  have hown : s.vm.findClass RX10 = some m.cls := findClass_of_methodNamed B.named
  have hlocks := B.notSynchronized
  have hP : va_P (dC, dI) vwCl [] s.heap := hP
  have hl := lv_entry ([.int p0, .int p1, .int p2]) (n := 3) (Nat.le_of_ble_eq_true rfl)
  rw [lg_entry_eq]
  generalize (lg_sl ([.int p0, .int p1, .int p2]) ++ List.replicate (3 - (lg_sl ([.int p0, .int p1, .int p2])).length) Slot.unset).toArray = ls at hl ⊢
  have hl : lv_has ls 3 [(0, .int p0), (1, .int p1), (2, .int p2)] := hl
  refine kQ (fun Q hQ => ?_)
  refine lv_iload_n hx hb dX10_isIn_0 rfl (lv_at hl 0 rfl) ?_
  refine lv_iload_n hx hb dX10_isIn_1 rfl (lv_at hl 1 rfl) ?_
  refine lv_icmp_lt (tgt := 14) hx hb dX10_isIn_2 kc_t_2_12 (fun c_1 => ?_) (fun c_1 => ?_)
  · refine lv_iconst (v := 0) hx hb dX10_isIn_14 kc_i_0 ?_
    rw [hQ]
    exact W.zret (v := 0) hx hb hr rfl (fun t ht hW => ⟨0, rfl, (by simp [kIn, c_1]), ht⟩) (fun _ h => nomatch h) dX10_isIn_15
  · refine lv_iload_n hx hb dX10_isIn_5 rfl (lv_at hl 0 rfl) ?_
    refine lv_iload_n hx hb dX10_isIn_6 rfl (lv_at hl 2 rfl) ?_
    refine lv_icmp_gt (tgt := 14) hx hb dX10_isIn_7 kc_t_7_7 (fun c_2 => ?_) (fun c_2 => ?_)
    · refine lv_iconst (v := 0) hx hb dX10_isIn_14 kc_i_0 ?_
      rw [hQ]
      exact W.zret (v := 0) hx hb hr rfl (fun t ht hW => ⟨0, rfl, (by simp [kIn, c_1, c_2]), ht⟩) (fun _ h => nomatch h) dX10_isIn_15
    · refine lv_iconst (v := 1) hx hb dX10_isIn_10 kc_i_1 ?_
      refine lv_goto (tgt := 15) hx hb dX10_isIn_11 kc_t_11_4 ?_
      rw [hQ]
      exact W.zret (v := 1) hx hb hr rfl (fun t ht hW => ⟨1, rfl, (by simp [kIn, c_1, c_2]), ht⟩) (fun _ h => nomatch h) dX10_isIn_15

theorem dX10_isSign_0 : decode cX10_isSign 0 = .ok (.iload_n 0, 1) := kDs0 kf_26 (by decide +kernel)
theorem dX10_isSign_1 : decode cX10_isSign 1 = .ok (.bipush 61, 2) := kDs3 kf_16 (by decide +kernel)
theorem dX10_isSign_3 : decode cX10_isSign 3 = .ok (.if_icmp .eq 15, 3) := kDs4 kf_159 (by decide +kernel)
theorem dX10_isSign_18 : decode cX10_isSign 18 = .ok (.iconst 1, 1) := kDs0 kf_4 (by decide +kernel)
theorem dX10_isSign_19 : decode cX10_isSign 19 = .ok (.goto 4, 3) := kDs4 kf_167 (by decide +kernel)
theorem dX10_isSign_23 : decode cX10_isSign 23 = .ok (.ireturn, 1) := kDs0 kf_172 (by decide +kernel)
theorem dX10_isSign_6 : decode cX10_isSign 6 = .ok (.iload_n 0, 1) := kDs0 kf_26 (by decide +kernel)
theorem dX10_isSign_7 : decode cX10_isSign 7 = .ok (.bipush 60, 2) := kDs3 kf_16 (by decide +kernel)
theorem dX10_isSign_9 : decode cX10_isSign 9 = .ok (.if_icmp .eq 9, 3) := kDs4 kf_159 (by decide +kernel)
theorem dX10_isSign_12 : decode cX10_isSign 12 = .ok (.iload_n 0, 1) := kDs0 kf_26 (by decide +kernel)
theorem dX10_isSign_13 : decode cX10_isSign 13 = .ok (.bipush 62, 2) := kDs3 kf_16 (by decide +kernel)
theorem dX10_isSign_15 : decode cX10_isSign 15 = .ok (.if_icmp .ne 7, 3) := kDs4 kf_160 (by decide +kernel)
theorem dX10_isSign_22 : decode cX10_isSign 22 = .ok (.iconst 0, 1) := kDs0 kf_3 (by decide +kernel)
theorem hd_X10_isSign : yX10_isSign.cls ≠ "java/lang/invoke/MethodHandle" ∧ yX10_isSign.cls ≠ "java/lang/invoke/VarHandle" ∧ (parseMethodDescriptor yX10_isSign.desc).map (fun d => d.parameters.length) = some 1 := by decide +kernel

theorem dX10_look_0 : decode cX10_look 0 = .ok (.aload_n 0, 1) := kDs0 kf_42 (by decide +kernel)
theorem dX10_look_1 : decode cX10_look 1 = .ok (.getfield 141, 3) := kDs2 kf_180 (by decide +kernel)
theorem dX10_look_4 : decode cX10_look 4 = .ok (.aload_n 0, 1) := kDs0 kf_42 (by decide +kernel)
theorem dX10_look_5 : decode cX10_look 5 = .ok (.getfield 144, 3) := kDs2 kf_180 (by decide +kernel)
theorem dX10_look_8 : decode cX10_look 8 = .ok (.if_icmp .ge 35, 3) := kDs4 kf_162 (by decide +kernel)
theorem dX10_look_43 : decode cX10_look 43 = .ok (.aload_n 0, 1) := kDs0 kf_42 (by decide +kernel)
theorem dX10_look_44 : decode cX10_look 44 = .ok (.getfield 141, 3) := kDs2 kf_180 (by decide +kernel)
theorem dX10_look_47 : decode cX10_look 47 = .ok (.aload_n 0, 1) := kDs0 kf_42 (by decide +kernel)
theorem dX10_look_48 : decode cX10_look 48 = .ok (.getfield 144, 3) := kDs2 kf_180 (by decide +kernel)
theorem dX10_look_51 : decode cX10_look 51 = .ok (.if_icmp .ge 24, 3) := kDs4 kf_162 (by decide +kernel)
theorem dX10_look_75 : decode cX10_look 75 = .ok (.iconst (-1), 1) := kDs0 kf_2 (by decide +kernel)
theorem dX10_look_76 : decode cX10_look 76 = .ok (.ireturn, 1) := kDs0 kf_172 (by decide +kernel)
theorem dX10_look_54 : decode cX10_look 54 = .ok (.aload_n 0, 1) := kDs0 kf_42 (by decide +kernel)
theorem dX10_look_55 : decode cX10_look 55 = .ok (.getfield 23, 3) := kDs2 kf_180 (by decide +kernel)
theorem dX10_look_58 : decode cX10_look 58 = .ok (.aload_n 0, 1) := kDs0 kf_42 (by decide +kernel)
theorem dX10_look_59 : decode cX10_look 59 = .ok (.getfield 147, 3) := kDs2 kf_180 (by decide +kernel)
theorem dX10_look_62 : decode cX10_look 62 = .ok (.aload_n 0, 1) := kDs0 kf_42 (by decide +kernel)
theorem dX10_look_63 : decode cX10_look 63 = .ok (.getfield 141, 3) := kDs2 kf_180 (by decide +kernel)
theorem dX10_look_66 : decode cX10_look 66 = .ok (.iadd, 1) := kDs0 kf_96 (by decide +kernel)
theorem dX10_look_67 : decode cX10_look 67 = .ok (.baload, 1) := kDs0 kf_51 (by decide +kernel)
theorem dX10_look_68 : decode cX10_look 68 = .ok (.sipush 255, 3) := kDs4 kf_17 (by decide +kernel)
theorem dX10_look_71 : decode cX10_look 71 = .ok (.iand, 1) := kDs0 kf_126 (by decide +kernel)
theorem dX10_look_72 : decode cX10_look 72 = .ok (.goto 4, 3) := kDs4 kf_167 (by decide +kernel)
theorem dX10_look_11 : decode cX10_look 11 = .ok (.aload_n 0, 1) := kDs0 kf_42 (by decide +kernel)
theorem dX10_look_12 : decode cX10_look 12 = .ok (.getfield 23, 3) := kDs2 kf_180 (by decide +kernel)
theorem dX10_look_15 : decode cX10_look 15 = .ok (.aload_n 0, 1) := kDs0 kf_42 (by decide +kernel)
theorem dX10_look_16 : decode cX10_look 16 = .ok (.getfield 147, 3) := kDs2 kf_180 (by decide +kernel)
theorem dX10_look_19 : decode cX10_look 19 = .ok (.aload_n 0, 1) := kDs0 kf_42 (by decide +kernel)
theorem dX10_look_20 : decode cX10_look 20 = .ok (.getfield 141, 3) := kDs2 kf_180 (by decide +kernel)
theorem dX10_look_23 : decode cX10_look 23 = .ok (.iadd, 1) := kDs0 kf_96 (by decide +kernel)
theorem dX10_look_24 : decode cX10_look 24 = .ok (.baload, 1) := kDs0 kf_51 (by decide +kernel)
theorem dX10_look_25 : decode cX10_look 25 = .ok (.bipush 32, 2) := kDs3 kf_16 (by decide +kernel)
theorem dX10_look_27 : decode cX10_look 27 = .ok (.if_icmp .ne 16, 3) := kDs4 kf_160 (by decide +kernel)
theorem dX10_look_30 : decode cX10_look 30 = .ok (.aload_n 0, 1) := kDs0 kf_42 (by decide +kernel)
theorem dX10_look_31 : decode cX10_look 31 = .ok (.dup, 1) := kDs0 kf_89 (by decide +kernel)
theorem dX10_look_32 : decode cX10_look 32 = .ok (.getfield 141, 3) := kDs2 kf_180 (by decide +kernel)
theorem dX10_look_35 : decode cX10_look 35 = .ok (.iconst 1, 1) := kDs0 kf_4 (by decide +kernel)
theorem dX10_look_36 : decode cX10_look 36 = .ok (.iadd, 1) := kDs0 kf_96 (by decide +kernel)
theorem dX10_look_37 : decode cX10_look 37 = .ok (.putfield 141, 3) := kDs2 kf_181 (by decide +kernel)
theorem dX10_look_40 : decode cX10_look 40 = .ok (.goto (-40), 3) := kDs4 kf_167 (by decide +kernel)
theorem hd_X10_look : yX10_look.cls ≠ "java/lang/invoke/MethodHandle" ∧ yX10_look.cls ≠ "java/lang/invoke/VarHandle" ∧ (parseMethodDescriptor yX10_look.desc).map (fun d => d.parameters.length) = some 0 := by decide +kernel
theorem dX10_fails_0 : decode cX10_fails 0 = .ok (.aload_n 0, 1) := kDs0 kf_42 (by decide +kernel)
theorem dX10_fails_1 : decode cX10_fails 1 = .ok (.getfield 150, 3) := kDs2 kf_180 (by decide +kernel)
theorem dX10_fails_4 : decode cX10_fails 4 = .ok (.iconst (-1), 1) := kDs0 kf_2 (by decide +kernel)
theorem dX10_fails_5 : decode cX10_fails 5 = .ok (.if_icmp .ne 11, 3) := kDs4 kf_160 (by decide +kernel)
theorem dX10_fails_16 : decode cX10_fails 16 = .ok (.iconst 0, 1) := kDs0 kf_3 (by decide +kernel)
theorem dX10_fails_17 : decode cX10_fails 17 = .ok (.ireturn, 1) := kDs0 kf_172 (by decide +kernel)
theorem dX10_fails_8 : decode cX10_fails 8 = .ok (.aload_n 0, 1) := kDs0 kf_42 (by decide +kernel)
theorem dX10_fails_9 : decode cX10_fails 9 = .ok (.aload_n 0, 1) := kDs0 kf_42 (by decide +kernel)
theorem dX10_fails_10 : decode cX10_fails 10 = .ok (.getfield 141, 3) := kDs2 kf_180 (by decide +kernel)
theorem dX10_fails_13 : decode cX10_fails 13 = .ok (.putfield 150, 3) := kDs2 kf_181 (by decide +kernel)
theorem hd_X10_fails : yX10_fails.cls ≠ "java/lang/invoke/MethodHandle" ∧ yX10_fails.cls ≠ "java/lang/invoke/VarHandle" ∧ (parseMethodDescriptor yX10_fails.desc).map (fun d => d.parameters.length) = some 0 := by decide +kernel
theorem dX10_goesIn_0 : decode cX10_goesIn 0 = .ok (.aload_n 0, 1) := kDs0 kf_42 (by decide +kernel)
theorem dX10_goesIn_1 : decode cX10_goesIn 1 = .ok (.getfield 153, 3) := kDs2 kf_180 (by decide +kernel)
theorem dX10_goesIn_4 : decode cX10_goesIn 4 = .ok (.bipush 6, 2) := kDs3 kf_16 (by decide +kernel)
theorem dX10_goesIn_6 : decode cX10_goesIn 6 = .ok (.if_icmp .ne 8, 3) := kDs4 kf_160 (by decide +kernel)
theorem dX10_goesIn_14 : decode cX10_goesIn 14 = .ok (.aload_n 0, 1) := kDs0 kf_42 (by decide +kernel)
theorem dX10_goesIn_15 : decode cX10_goesIn 15 = .ok (.dup, 1) := kDs0 kf_89 (by decide +kernel)
theorem dX10_goesIn_16 : decode cX10_goesIn 16 = .ok (.getfield 153, 3) := kDs2 kf_180 (by decide +kernel)
theorem dX10_goesIn_19 : decode cX10_goesIn 19 = .ok (.iconst 1, 1) := kDs0 kf_4 (by decide +kernel)
theorem dX10_goesIn_20 : decode cX10_goesIn 20 = .ok (.iadd, 1) := kDs0 kf_96 (by decide +kernel)
theorem dX10_goesIn_21 : decode cX10_goesIn 21 = .ok (.putfield 153, 3) := kDs2 kf_181 (by decide +kernel)
theorem dX10_goesIn_24 : decode cX10_goesIn 24 = .ok (.aload_n 0, 1) := kDs0 kf_42 (by decide +kernel)
theorem dX10_goesIn_25 : decode cX10_goesIn 25 = .ok (.dup, 1) := kDs0 kf_89 (by decide +kernel)
theorem dX10_goesIn_26 : decode cX10_goesIn 26 = .ok (.getfield 141, 3) := kDs2 kf_180 (by decide +kernel)
theorem dX10_goesIn_29 : decode cX10_goesIn 29 = .ok (.iconst 1, 1) := kDs0 kf_4 (by decide +kernel)
theorem dX10_goesIn_30 : decode cX10_goesIn 30 = .ok (.iadd, 1) := kDs0 kf_96 (by decide +kernel)
theorem dX10_goesIn_31 : decode cX10_goesIn 31 = .ok (.putfield 141, 3) := kDs2 kf_181 (by decide +kernel)
theorem dX10_goesIn_34 : decode cX10_goesIn 34 = .ok (.iconst 1, 1) := kDs0 kf_4 (by decide +kernel)
theorem dX10_goesIn_35 : decode cX10_goesIn 35 = .ok (.ireturn, 1) := kDs0 kf_172 (by decide +kernel)
theorem hd_X10_goesIn : yX10_goesIn.cls ≠ "java/lang/invoke/MethodHandle" ∧ yX10_goesIn.cls ≠ "java/lang/invoke/VarHandle" ∧ (parseMethodDescriptor yX10_goesIn.desc).map (fun d => d.parameters.length) = some 0 := by decide +kernel
theorem dX10_goesIn_9 : decode cX10_goesIn 9 = .ok (.aload_n 0, 1) := kDs0 kf_42 (by decide +kernel)
theorem dX10_goesIn_10 : decode cX10_goesIn 10 = .ok (.invokevirtual 156, 3) := kDs2 kf_182 (by decide +kernel)
theorem dX10_goesIn_13 : decode cX10_goesIn 13 = .ok (.ireturn, 1) := kDs0 kf_172 (by decide +kernel)
theorem dX10_takes_0 : decode cX10_takes 0 = .ok (.aload_n 0, 1) := kDs0 kf_42 (by decide +kernel)
theorem dX10_takes_1 : decode cX10_takes 1 = .ok (.getfield 150, 3) := kDs2 kf_180 (by decide +kernel)
theorem dX10_takes_4 : decode cX10_takes 4 = .ok (.iconst (-1), 1) := kDs0 kf_2 (by decide +kernel)
theorem dX10_takes_5 : decode cX10_takes 5 = .ok (.if_icmp .ne 11, 3) := kDs4 kf_160 (by decide +kernel)
theorem dX10_takes_16 : decode cX10_takes 16 = .ok (.aload_n 0, 1) := kDs0 kf_42 (by decide +kernel)
theorem dX10_takes_17 : decode cX10_takes 17 = .ok (.invokevirtual 156, 3) := kDs2 kf_182 (by decide +kernel)
theorem dX10_takes_20 : decode cX10_takes 20 = .ok (.ireturn, 1) := kDs0 kf_172 (by decide +kernel)
theorem dX10_takes_8 : decode cX10_takes 8 = .ok (.aload_n 0, 1) := kDs0 kf_42 (by decide +kernel)
theorem dX10_takes_9 : decode cX10_takes 9 = .ok (.invokevirtual 160, 3) := kDs2 kf_182 (by decide +kernel)
theorem dX10_takes_12 : decode cX10_takes 12 = .ok (.iload_n 1, 1) := kDs0 kf_27 (by decide +kernel)
theorem dX10_takes_13 : decode cX10_takes 13 = .ok (.if_icmp .eq 8, 3) := kDs4 kf_159 (by decide +kernel)
theorem dX10_takes_21 : decode cX10_takes 21 = .ok (.aload_n 0, 1) := kDs0 kf_42 (by decide +kernel)
theorem dX10_takes_22 : decode cX10_takes 22 = .ok (.dup, 1) := kDs0 kf_89 (by decide +kernel)
theorem dX10_takes_23 : decode cX10_takes 23 = .ok (.getfield 141, 3) := kDs2 kf_180 (by decide +kernel)
theorem dX10_takes_26 : decode cX10_takes 26 = .ok (.iconst 1, 1) := kDs0 kf_4 (by decide +kernel)
theorem dX10_takes_27 : decode cX10_takes 27 = .ok (.iadd, 1) := kDs0 kf_96 (by decide +kernel)
theorem dX10_takes_28 : decode cX10_takes 28 = .ok (.putfield 141, 3) := kDs2 kf_181 (by decide +kernel)
theorem dX10_takes_31 : decode cX10_takes 31 = .ok (.iconst 1, 1) := kDs0 kf_4 (by decide +kernel)
theorem dX10_takes_32 : decode cX10_takes 32 = .ok (.ireturn, 1) := kDs0 kf_172 (by decide +kernel)
theorem hd_X10_takes : yX10_takes.cls ≠ "java/lang/invoke/MethodHandle" ∧ yX10_takes.cls ≠ "java/lang/invoke/VarHandle" ∧ (parseMethodDescriptor yX10_takes.desc).map (fun d => d.parameters.length) = some 1 := by decide +kernel
theorem dX10_isDigit_0 : decode cX10_isDigit 0 = .ok (.aload_n 0, 1) := kDs0 kf_42 (by decide +kernel)
theorem dX10_isDigit_1 : decode cX10_isDigit 1 = .ok (.getfield 141, 3) := kDs2 kf_180 (by decide +kernel)
theorem dX10_isDigit_4 : decode cX10_isDigit 4 = .ok (.aload_n 0, 1) := kDs0 kf_42 (by decide +kernel)
theorem dX10_isDigit_5 : decode cX10_isDigit 5 = .ok (.getfield 144, 3) := kDs2 kf_180 (by decide +kernel)
theorem dX10_isDigit_8 : decode cX10_isDigit 8 = .ok (.if_icmp .ge 45, 3) := kDs4 kf_162 (by decide +kernel)
theorem dX10_isDigit_53 : decode cX10_isDigit 53 = .ok (.iconst 0, 1) := kDs0 kf_3 (by decide +kernel)
theorem dX10_isDigit_54 : decode cX10_isDigit 54 = .ok (.ireturn, 1) := kDs0 kf_172 (by decide +kernel)
theorem dX10_isDigit_11 : decode cX10_isDigit 11 = .ok (.aload_n 0, 1) := kDs0 kf_42 (by decide +kernel)
theorem dX10_isDigit_12 : decode cX10_isDigit 12 = .ok (.getfield 23, 3) := kDs2 kf_180 (by decide +kernel)
theorem dX10_isDigit_15 : decode cX10_isDigit 15 = .ok (.aload_n 0, 1) := kDs0 kf_42 (by decide +kernel)
theorem dX10_isDigit_16 : decode cX10_isDigit 16 = .ok (.getfield 147, 3) := kDs2 kf_180 (by decide +kernel)
theorem dX10_isDigit_19 : decode cX10_isDigit 19 = .ok (.aload_n 0, 1) := kDs0 kf_42 (by decide +kernel)
theorem dX10_isDigit_20 : decode cX10_isDigit 20 = .ok (.getfield 141, 3) := kDs2 kf_180 (by decide +kernel)
theorem dX10_isDigit_23 : decode cX10_isDigit 23 = .ok (.iadd, 1) := kDs0 kf_96 (by decide +kernel)
theorem dX10_isDigit_24 : decode cX10_isDigit 24 = .ok (.baload, 1) := kDs0 kf_51 (by decide +kernel)
theorem dX10_isDigit_25 : decode cX10_isDigit 25 = .ok (.bipush 48, 2) := kDs3 kf_16 (by decide +kernel)
theorem dX10_isDigit_27 : decode cX10_isDigit 27 = .ok (.if_icmp .lt 26, 3) := kDs4 kf_161 (by decide +kernel)
theorem dX10_isDigit_30 : decode cX10_isDigit 30 = .ok (.aload_n 0, 1) := kDs0 kf_42 (by decide +kernel)
theorem dX10_isDigit_31 : decode cX10_isDigit 31 = .ok (.getfield 23, 3) := kDs2 kf_180 (by decide +kernel)
theorem dX10_isDigit_34 : decode cX10_isDigit 34 = .ok (.aload_n 0, 1) := kDs0 kf_42 (by decide +kernel)
theorem dX10_isDigit_35 : decode cX10_isDigit 35 = .ok (.getfield 147, 3) := kDs2 kf_180 (by decide +kernel)
theorem dX10_isDigit_38 : decode cX10_isDigit 38 = .ok (.aload_n 0, 1) := kDs0 kf_42 (by decide +kernel)
theorem dX10_isDigit_39 : decode cX10_isDigit 39 = .ok (.getfield 141, 3) := kDs2 kf_180 (by decide +kernel)
theorem dX10_isDigit_42 : decode cX10_isDigit 42 = .ok (.iadd, 1) := kDs0 kf_96 (by decide +kernel)
theorem dX10_isDigit_43 : decode cX10_isDigit 43 = .ok (.baload, 1) := kDs0 kf_51 (by decide +kernel)
theorem dX10_isDigit_44 : decode cX10_isDigit 44 = .ok (.bipush 57, 2) := kDs3 kf_16 (by decide +kernel)
theorem dX10_isDigit_46 : decode cX10_isDigit 46 = .ok (.if_icmp .gt 7, 3) := kDs4 kf_163 (by decide +kernel)
theorem dX10_isDigit_49 : decode cX10_isDigit 49 = .ok (.iconst 1, 1) := kDs0 kf_4 (by decide +kernel)
theorem dX10_isDigit_50 : decode cX10_isDigit 50 = .ok (.goto 4, 3) := kDs4 kf_167 (by decide +kernel)
theorem hd_X10_isDigit : yX10_isDigit.cls ≠ "java/lang/invoke/MethodHandle" ∧ yX10_isDigit.cls ≠ "java/lang/invoke/VarHandle" ∧ (parseMethodDescriptor yX10_isDigit.desc).map (fun d => d.parameters.length) = some 0 := by decide +kernel



def kHas (a b : Int32) : Int32 := if (a >>> (b &&& 31)) &&& 1 = 1 then 1 else 0
theorem kRd0 {f : Nat → Int32} {n : Nat} {x v : Int32} (h : n < 2 ^ 31) (e : x = f (Int32.toNatClampNeg (nI n))) (c : x = v) : f n = v := by rw [nI_clamp h] at e; rw [← e]; exact c
theorem kUpdM {f f1 : Nat → Int32} {i : Nat} (hi : i < 2 ^ 31) (e : f1 = upd f (Int32.toNatClampNeg (nI i)) (-1)) (h : ∀ q : Nat, q < i → f q = -1) : ∀ q : Nat, q < i + 1 → f1 q = -1 := fun q hq => by
  rw [e, nI_clamp hi]
  by_cases z : q = i
  · rw [z, pk_us]
  · rw [pk_un z]; exact h q (by omega)
/-- only those not sent tell -/
def kSi (ps : Nat) (f g : Nat → Int32) : Prop := ∀ q : Nat, q < ps → ¬ f q = -1 → g q = 0
theorem kSi_upd {ps j : Nat} {f f1 g : Nat → Int32} {v : Int32} (hj : j < 2 ^ 31) (e : f1 = upd f (Int32.toNatClampNeg (nI j)) v) (hg : g j = 0) (h : kSi ps f g) : kSi ps f1 g := fun q hq hn => by
  by_cases z : q = j
  · rw [z]; exact hg
  · rw [e, nI_clamp hj, pk_un z] at hn; exact h q hq hn
theorem kSi_none {ps : Nat} {f g : Nat → Int32} (h : ∀ q : Nat, q < ps → f q = -1) : kSi ps f g := fun q hq hn => absurd (h q hq) hn
theorem kP10 {n : Nat} (h : n ≤ 10) : 2 ^ n ≤ 1024 := (Nat.pow_le_pow_right (by decide) h : 2 ^ n ≤ 2 ^ 10)
theorem kP6 {n : Nat} (h : n ≤ 6) : 2 ^ n ≤ 64 := (Nat.pow_le_pow_right (by decide) h : 2 ^ n ≤ 2 ^ 6)
theorem kSaU {ps ku j : Nat} {f f1 : Nat → Int32} {v : Int32} (hj : j < 2 ^ 31) (e : f1 = upd f (Int32.toNatClampNeg (nI j)) v) (hv : ¬ v = -1 → ∃ t : Nat, t < ku ∧ v = nI t) (h : ∀ q : Nat, q < ps → ¬ f q = -1 → ∃ t : Nat, t < ku ∧ f q = nI t) : ∀ q : Nat, q < ps → ¬ f1 q = -1 → ∃ t : Nat, t < ku ∧ f1 q = nI t := fun q hq => by
  rw [e, nI_clamp hj]
  by_cases z : q = j
  · rw [z, pk_us]; exact hv
  · rw [pk_un z]; exact h q hq
theorem kSaP {ps ku : Nat} {f f1 : Nat → Int32} (hj : ps < 2 ^ 31) (e : f1 = upd f (Int32.toNatClampNeg (nI ps)) (-1)) (h : ∀ q : Nat, q < ps → ¬ f q = -1 → ∃ t : Nat, t < ku ∧ f q = nI t) : ∀ q : Nat, q < ps + 1 → ¬ f1 q = -1 → ∃ t : Nat, t < ku ∧ f1 q = nI t := fun q hq => by
  rw [e, nI_clamp hj]
  by_cases z : q = ps
  · rw [z, pk_us]; exact fun y => absurd rfl y
  · rw [pk_un z]; exact h q (by omega)
theorem kNpU {ps kn j : Nat} {f f1 : Nat → Int32} (hk : kn < 2 ^ 31) (hj : j < ps) (e : f1 = upd f (Int32.toNatClampNeg (nI kn)) (nI j)) (h : ∀ k : Nat, k < kn → ∃ v : Nat, v < ps ∧ f k = nI v) : ∀ k : Nat, k < kn + 1 → ∃ v : Nat, v < ps ∧ f1 k = nI v := fun q hq => by
  rw [e, nI_clamp hk]
  by_cases z : q = kn
  · exact ⟨j, hj, by rw [z, pk_us]⟩
  · rw [pk_un z]; exact h q (by omega)
/-- the reference's texts -/
def kMx (ad : Nat → Nat) (bA nA : Nat) (xA : Nat → Int32) (bB nB : Nat) (xB : Nat → Int32) (bE nE : Nat) (xE : Nat → Int32) (bG nG : Nat) (xG : Nat → Int32) (A : Nat → Prop) (U : State) : Prop := kRd ad 5 7 bA nA xA bB nB xB A U ∧ kRd ad 6 8 bE nE xE bG nG xG A U
theorem kMx_blind {ad : Nat → Nat} {bA nA : Nat} {xA : Nat → Int32} {bB nB : Nat} {xB : Nat → Int32} {bE nE : Nat} {xE : Nat → Int32} {bG nG : Nat} {xG : Nat → Int32} {A : Nat → Prop} : ∀ (U : State) (g : JFrame) (mk : MethodId) (a : Array Value), kMx ad bA nA xA bB nB xB bE nE xE bG nG xG A U → kMx ad bA nA xA bB nB xB bE nE xE bG nG xG A (U.calling g mk a) := fun U g mk a h => ⟨kRd_blind U g mk a h.1, kRd_blind U g mk a h.2⟩
theorem kMx_give {ad : Nat → Nat} {bA nA : Nat} {xA : Nat → Int32} {bB nB : Nat} {xB : Nat → Int32} {bE nE : Nat} {xE : Nat → Int32} {bG nG : Nat} {xG : Nat → Int32} {A B : Nat → Prop} {s : State} {H : Heap} {locs : List Loc} (h : kMx ad bA nA xA bB nB xB bE nE xE bG nG xG A s) (hS : va_S A s.heap H locs) (hB : ∀ q, B q → A q) : ∀ U : State, U.heap = H → s.WarmedH U.vm → kMx ad bA nA xA bB nB xB bE nE xE bG nG xG B U := fun U hU hW => ⟨kRd_give h.1 hS hB U hU hW, kRd_give h.2 hS hB U hU hW⟩
theorem kIn_or {p : Int32} (h : ¬ kIn p 0 1 = 0) : p = 0 ∨ p = 1 := by
  obtain ⟨j, hj, e⟩ := kIn_ix (n := 1) (by decide) h
  rcases (show j = 0 ∨ j = 1 by omega) with z | z
  · exact Or.inl (by rw [e, z]; rfl)
  · exact Or.inr (by rw [e, z]; rfl)
theorem kShr1 (x : BitVec 32) (n : Nat) (h : n < 32) (hb : x.getLsbD n = true) : (x.sshiftRight n) &&& 1#32 = 1#32 := by
  ext i hi
  simp only [BitVec.getElem_and, BitVec.getElem_sshiftRight]
  by_cases h0 : i = 0
  · subst h0
    rw [dif_pos (by omega)]
    have e1 : x[n + 0] = true := by
      show x[n] = true
      rw [← BitVec.getLsbD_eq_getElem]; exact hb
    rw [e1]; rfl
  · have h2 : (1#32)[i] = false := by
      rw [← BitVec.getLsbD_eq_getElem]
      have : ∀ j : Fin 32, j.val ≠ 0 → (1#32).getLsbD j.val = false := by decide
      exact this ⟨i, hi⟩ h0
    rw [h2, Bool.and_false]
def kIdx (h : Int32) : Nat := (h.toBitVec &&& 31#32).toNat
theorem kIdx_lt (h : Int32) : kIdx h < 32 := by
  unfold kIdx
  rw [BitVec.toNat_and]
  exact Nat.lt_of_le_of_lt Nat.and_le_right (by decide)
theorem kIdx_eq (h : Int32) : h &&& 31 = nI (kIdx h) := Int32.toBitVec_inj.mp (by
  show h.toBitVec &&& 31#32 = BitVec.ofNat 32 ((h.toBitVec &&& 31#32).toNat)
  rw [BitVec.ofNat_toNat, BitVec.setWidth_eq])
theorem kBitF : ∀ k : Fin 32, ((1 : Int32) <<< (nI k.val)).toBitVec.getLsbD k.val = true := by decide +kernel
theorem kBitNew (h : Int32) : ((1 : Int32) <<< (h &&& 31)).toBitVec.getLsbD (kIdx h) = true := by rw [kIdx_eq]; exact kBitF ⟨kIdx h, kIdx_lt h⟩
theorem kSmodF : ∀ k : Fin 32, ((nI k.val).toBitVec.smod 32#32).toNat = k.val := by decide +kernel
theorem kBitHas {b h : Int32} (hb : b.toBitVec.getLsbD (kIdx h) = true) : kHas b h = 1 := by
  unfold kHas
  rw [if_pos]
  rw [kIdx_eq]
  refine Int32.toBitVec_inj.mp ?_
  show (BitVec.sshiftRight b.toBitVec ((nI (kIdx h)).toBitVec.smod 32#32).toNat) &&& 1#32 = 1#32
  rw [kSmodF ⟨kIdx h, kIdx_lt h⟩]
  exact kShr1 _ _ (kIdx_lt h) hb
theorem kBk1 {S T : Nat → Int32} {i : Nat} {b b1 y : Int32} (e : b1 = b ||| y) (hy : ¬ S i = -1 → y.toBitVec.getLsbD (kIdx (T i)) = true) (h : ∀ q : Nat, q < i → ¬ S q = -1 → b.toBitVec.getLsbD (kIdx (T q)) = true) : ∀ q : Nat, q < i + 1 → ¬ S q = -1 → b1.toBitVec.getLsbD (kIdx (T q)) = true := fun q hq hn => by
  rw [e]
  show (b.toBitVec ||| y.toBitVec).getLsbD _ = true
  rw [BitVec.getLsbD_or]
  by_cases z : q = i
  · rw [z] at hn ⊢; rw [hy hn, Bool.or_true]
  · rw [h q (by omega) hn, Bool.true_or]
theorem kBk2 {S : Nat → Int32} {i : Nat} {b b1 y : Int32} (e : b1 = b ||| y) (hy : S i = -1 → y = 0) (h : (∀ q : Nat, q < i → S q = -1) → b = 0) : (∀ q : Nat, q < i + 1 → S q = -1) → b1 = 0 := fun hq => by
  rw [e, h (fun q hz => hq q (by omega)), hy (hq i (by omega))]; decide
theorem kBkE {S : Nat → Int32} {n : Nat} {b : Int32} (h : (∀ q : Nat, q < n → S q = -1) → b = 0) (c : ¬ b = 0) : ∃ q : Nat, q < n ∧ ¬ S q = -1 := Classical.byContradiction (fun z => c (h (fun q hq => Classical.byContradiction (fun y => z ⟨q, hq, y⟩))))

/-- a byte as the reference keeps it -/
def kSg (v : Nat) : Int32 := if v < 128 then nI v else nI v - 256
theorem kSg32F : ∀ v : Fin 256, (kSg v.val = 32 ↔ v.val = 32) := by decide +kernel
theorem kSgAF : ∀ v : Fin 256, kSg v.val &&& 255 = nI v.val := by decide +kernel
theorem kSgLF : ∀ v : Fin 256, (¬ kSg v.val < 48 ∧ ¬ 57 < kSg v.val) ↔ (48 ≤ v.val ∧ v.val ≤ 57) := by decide +kernel
theorem kSgDF : ∀ v : Fin 256, (48 ≤ v.val ∧ v.val ≤ 57) → kSg v.val = nI v.val := by decide +kernel
theorem kSg32 {v : Nat} (h : v < 256) : (kSg v = 32 ↔ v = 32) := kSg32F ⟨v, h⟩
theorem kSgA {v : Nat} (h : v < 256) : kSg v &&& 255 = nI v := kSgAF ⟨v, h⟩
theorem kSgL {v : Nat} (h : v < 256) : (¬ kSg v < 48 ∧ ¬ 57 < kSg v) ↔ (48 ≤ v ∧ v ≤ 57) := kSgLF ⟨v, h⟩
theorem kSgD {v : Nat} (h : v < 256) (hd : 48 ≤ v ∧ v ≤ 57) : kSg v = nI v := kSgDF ⟨v, h⟩ hd
/-- what the reference's look answers -/
def kLr (ch : Nat) : Int32 := if ch = 0 then -1 else nI ch
theorem kLr_p {ch : Nat} (h : 1 ≤ ch) : kLr ch = nI ch := if_neg (by omega)
theorem kLr_e {r : Int32} {ch k : Nat} (h : r = kLr ch) (hc : ch < 256) (hk : 0 < k ∧ k < 256) (e : r = nI k) : ch = k := by
  by_cases z : ch = 0
  · exfalso
    rw [h, z] at e
    exact kNeM (n := k) (by omega) e.symm
  · rw [h, kLr_p (by omega)] at e
    exact keq (a := ch) (b := k) (by omega) (by omega) e
theorem kLr_n {r : Int32} {ch k : Nat} (h : r = kLr ch) (_hc : ch < 256) (hk : 0 < k ∧ k < 256) (e : ¬ r = nI k) : ¬ ch = k := fun z => e (by rw [h, z, kLr_p (by omega)])
theorem kLr_m0 {r : Int32} {ch : Nat} (h : r = kLr ch) (hc : ch < 256) (e : r = -1) : ch = 0 := by
  by_cases z : ch = 0
  · exact z
  · exfalso
    rw [h, kLr_p (by omega)] at e
    exact kNeM (n := ch) (by omega) e
theorem kLr_m1 {r : Int32} {ch : Nat} (h : r = kLr ch) (_hc : ch < 256) (e : ¬ r = -1) : ¬ ch = 0 := fun z => e (by rw [h, z]; rfl)
theorem kLr_j {r : Int32} {ch j : Nat} (h : r = kLr ch) (hc : ch < 256) (hj : j < 128) (e : r = nI j) : r = nI ch ∧ ch < 128 := by
  by_cases z : ch = 0
  · exfalso
    rw [h, z] at e
    exact kNeM (n := j) (by omega) e.symm
  · rw [h, kLr_p (by omega)] at e
    have := keq (a := ch) (b := j) (by omega) (by omega) e
    exact ⟨by rw [h, kLr_p (by omega)], by omega⟩
theorem kAt_in {b : Nat → Nat} {n p : Nat} (h : p < n) : kAt b n p = b p := if_pos h
theorem kFd_none {g : Nat → Int32} {c : Int32} (h : ∀ j, ¬ g j = c) : ∀ f j, kFd g c f j = j + f := by
  intro f
  induction f with
  | zero => intro j; rfl
  | succ f ih => intro j; rw [kFd_s (h j), ih]; omega
theorem kIx_lr {g : Nat → Int32} {n : Nat} {r : Int32} {ch : Nat} (hg : ∀ k : Nat, ∃ v : Nat, v < 128 ∧ g k = nI v) (hz : kIx g n (nI 0) = n) (h : r = kLr ch) : kIx g n r = kIx g n (nI ch) := by
  by_cases z : ch = 0
  · rw [z, hz, h, z]
    show kFd g (-1) n 0 = n
    rw [kFd_none (fun j e => by obtain ⟨v, hv, e2⟩ := hg j; exact kNeM (n := v) (by omega) (e2.symm.trans e))]
    omega
  · rw [h, kLr_p (by omega)]
/-- what a reading method of the reference says of its reading -/
def kPM (X : kRes) (en a : Nat) (dp : Int32) (xo : Bool) (a1 : Nat) (xl : List Int32) (xf xd : Int32) : Prop := X = (xo, a1, xl) ∧ a1 ≤ en ∧ (xo = true → xf = -1 ∧ xd = dp ∧ a + xl.length ≤ a1 ∧ a < a1) ∧ (xo = false → xf = nI a1 ∧ xl = [])
theorem kPM_f {X : kRes} {en a P : Nat} {dp xd : Int32} (h : X = (false, P, [])) (hP : P ≤ en) : kPM X en a dp false P [] (nI P) xd := ⟨h, hP, fun z => absurd z (by decide), fun _ => ⟨rfl, rfl⟩⟩
theorem kPM_t {X : kRes} {en a P : Nat} {dp : Int32} {xl : List Int32} {A : Nat → kRes} (hX : X = A a) (hg : kGood en A) (hp : a ≤ en) (h : X = (true, P, xl)) : kPM X en a dp true P xl (-1) dp := by
  have h1 := hg a hp
  rw [← hX, h] at h1
  exact ⟨h, h1.1, fun _ => ⟨rfl, rfl, (h1.2 rfl).1, (h1.2 rfl).2⟩, fun z => absurd z (by decide)⟩
/-- a sum and a comparison behind it -/
def kCmpS (b : Nat → Nat) (n : Nat) (g : Nat → Int32) (m e p : Nat) : kRes := kTh (kSumD b n g m e p) (fun q l => kCmp b n g m e q l)
theorem kCmpS_good {b : Nat → Nat} {n : Nat} {g : Nat → Int32} {m : Nat} (hg : kIx g m (nI 0) = m) (e : Nat) : kGood n (kCmpS b n g m e) := by
  intro p hp
  have h3 := kSumD_good (b := b) hg e p hp
  exact kTh_good h3.1 (fun z => kCmp_good hg _ h3.1 (by have := (h3.2 z).1; omega))
theorem kRf42 (a b : Int32) : kClm (a.toInt64 * b.toInt64).toInt = kJn (nI 42) a b := by rw [kL_mul]; rfl
theorem kRf43 (a b : Int32) : kClm (a.toInt64 + b.toInt64).toInt = kJn (nI 43) a b := by rw [kL_add]; rfl
theorem kRf45 (a b : Int32) : kClm (a.toInt64 - b.toInt64).toInt = kJn (nI 45) a b := by rw [kL_sub]; rfl
theorem kLeq {w : Int64} {x : Int32} (e : x = lg_cmp w 0) (c : x = 0) : w = 0 := by
  rw [e] at c
  unfold lg_cmp at c
  by_cases h1 : w > 0
  · rw [if_pos h1] at c; exact absurd c (by decide)
  · rw [if_neg h1] at c
    by_cases h2 : w = 0
    · exact h2
    · rw [if_neg h2] at c; exact absurd c (by decide)
theorem kZ64 {b : Int32} (h : b.toInt64 = 0) : b = 0 := Int32.toInt_inj.mp (by
  have h1 := Int32.toInt_toInt64 b
  rw [h] at h1
  exact h1.symm)
theorem kRf47z {a b : Int32} (hb : b.toInt64 = 0) : kClm (0 : Int64).toInt = kJn (nI 47) a b := by
  have h := kZ64 hb
  subst h
  rfl
theorem kRf47 {a b : Int32} (ha : kBd a) (hb : ¬ b.toInt64 = 0) : kClm (a.toInt64 / b.toInt64).toInt = kJn (nI 47) a b := by
  have hb0 : ¬ b = 0 := fun z => hb (by rw [z]; rfl)
  have h1 : (a.toInt64 / b.toInt64).toInt = (a / b).toInt := by
    have h2 := kL32 a
    have h3 := kL32 b
    have hd : (a.toInt.tdiv b.toInt).natAbs ≤ a.toInt.natAbs := by rw [Int.natAbs_tdiv]; exact Nat.div_le_self _ _
    unfold kBd at ha
    rw [Int64.toInt_div, Int32.toInt_toInt64, Int32.toInt_toInt64, Int32.toInt_div]
    rw [kBm (by omega) (by omega)]
    exact (Int.bmod_eq_of_le (by omega) (by omega)).symm
  show kClm _ = kClm (if b = 0 then 0 else (a / b).toInt)
  rw [if_neg hb0, h1]
theorem kAnd_l {a b : Int32} (h : a = 0) (hb : b = 0 ∨ b = 1) : (0 : Int32) = kJn (nI 38) a b := by subst h; rcases hb with rfl | rfl <;> decide
theorem kAnd_r {a b : Int32} (h : b = 0) (ha : a = 0 ∨ a = 1) : (0 : Int32) = kJn (nI 38) a b := by subst h; rcases ha with rfl | rfl <;> decide
theorem kAnd_1 {a b : Int32} (h1 : ¬ a = 0) (h2 : ¬ b = 0) (ha : a = 0 ∨ a = 1) (hb : b = 0 ∨ b = 1) : (1 : Int32) = kJn (nI 38) a b := by
  rcases ha with rfl | rfl
  · exact absurd rfl h1
  · rcases hb with rfl | rfl
    · exact absurd rfl h2
    · decide
theorem kOr_0 {a b : Int32} (h1 : a = 0) (h2 : b = 0) : (0 : Int32) = kJn (nI 124) a b := by subst h1; subst h2; decide
theorem kOr_l {a b : Int32} (h1 : ¬ a = 0) (ha : a = 0 ∨ a = 1) (hb : b = 0 ∨ b = 1) : (1 : Int32) = kJn (nI 124) a b := by
  rcases ha with rfl | rfl
  · exact absurd rfl h1
  · rcases hb with rfl | rfl <;> decide
theorem kOr_r {a b : Int32} (h1 : a = 0) (h2 : ¬ b = 0) (hb : b = 0 ∨ b = 1) : (1 : Int32) = kJn (nI 124) a b := by
  subst h1
  rcases hb with rfl | rfl
  · exact absurd rfl h2
  · decide
theorem kC61t {a b : Int32} {ch : Nat} (h : ch = 61) (c : a = b) : (1 : Int32) = kJn (nI ch) a b := by subst h; show _ = kClm (if a = b then 1 else 0); rw [if_pos c]; decide
theorem kC61f {a b : Int32} {ch : Nat} (h : ch = 61) (c : ¬ a = b) : (0 : Int32) = kJn (nI ch) a b := by subst h; show _ = kClm (if a = b then 1 else 0); rw [if_neg c]; decide
theorem kC60t {a b : Int32} {ch : Nat} (h : ch = 60) (c : ¬ b ≤ a) : (1 : Int32) = kJn (nI ch) a b := by subst h; show _ = kClm (if a < b then 1 else 0); rw [if_pos (Int32.not_le.mp c)]; decide
theorem kC60f {a b : Int32} {ch : Nat} (h : ch = 60) (c : b ≤ a) : (0 : Int32) = kJn (nI ch) a b := by subst h; show _ = kClm (if a < b then 1 else 0); rw [if_neg (Int32.not_lt.mpr c)]; decide
theorem kC62t {a b : Int32} {ch : Nat} (h : ch = 62) (c : ¬ a ≤ b) : (1 : Int32) = kJn (nI ch) a b := by subst h; show _ = kClm (if b < a then 1 else 0); rw [if_pos (Int32.not_le.mp c)]; decide
theorem kC62f {a b : Int32} {ch : Nat} (h : ch = 62) (c : a ≤ b) : (0 : Int32) = kJn (nI ch) a b := by subst h; show _ = kClm (if b < a then 1 else 0); rw [if_neg (Int32.not_lt.mpr c)]; decide
theorem kValC {lt : Nat → Int32} {M H A s : Nat} {l m : List Int32} (h1 : kHn M H l) (h2 : kHn M A m) (hs : s < 128) (h33 : ¬ s = 33) : kVal lt (l ++ m ++ [nI (20000 + s)]) = kJn (nI s) (kVal lt l) (kVal lt m) := kValN h1 h2 hs h33
theorem kWit {p z1 z2 : Int64} {x : Int32} (e1 : z1 = if p < 1000000 then p else 1000000) (e2 : z2 = if z1 < (-1000000) then (-1000000) else z1) (e3 : x = Int64.toInt32 z2) : x = kClm p.toInt := by
  have hM : (1000000 : Int64).toInt = 1000000 := by decide
  have hm : (-1000000 : Int64).toInt = -1000000 := by decide
  by_cases h1 : p < 1000000
  · rw [if_pos h1] at e1
    subst e1
    have h11 := Int64.lt_iff_toInt_lt.mp h1
    rw [hM] at h11
    by_cases h2 : z1 < (-1000000)
    · rw [if_pos h2] at e2
      have h22 := Int64.lt_iff_toInt_lt.mp h2
      rw [hm] at h22
      rw [e3, e2, kClm_lo (by omega)]
      decide
    · rw [if_neg h2] at e2
      have h22 : ¬ z1.toInt < (-1000000 : Int64).toInt := fun z => h2 (Int64.lt_iff_toInt_lt.mpr z)
      rw [hm] at h22
      rw [e3, e2]
      exact kClm_in (by omega) (by omega)
  · rw [if_neg h1] at e1
    have h11 : ¬ p.toInt < (1000000 : Int64).toInt := fun z => h1 (Int64.lt_iff_toInt_lt.mpr z)
    rw [hM] at h11
    subst e1
    rw [if_neg (by decide)] at e2
    rw [e3, e2, kClm_hi (by omega)]
    decide
theorem kNe6 {d : Nat} (h : d < 6) : ¬ nI d = 6 := fun z => by
  have := keq (a := d) (b := 6) (by omega) (by omega) z
  omega
/-- the texts that the reference keeps: their bytes are those of a text without a fault, whose clauses are y -/
def kUn (mf2 mf3 : Nat → Int32) (off k : Nat) (g6 : Nat → Int32) (n6 : Nat) (g7 : Nat → Int32) (n7 : Nat) (y : Nat → List kTr) : Prop := ∀ j : Nat, j < k → ∃ (sb : Nat → Nat) (sn : Nat), mf3 (off + j) = nI sn ∧ sn ≤ 120 ∧ (∀ q : Nat, q < sn → mf2 (120 * (off + j) + q) = kSg (sb q)) ∧ (∀ q : Nat, sb q < 256) ∧ (∀ q : Nat, q < sn → 1 ≤ sb q) ∧ (kRead sb sn g6 n6 g7 n7).1 = true ∧ y j = kReadT sb sn g6 n6 g7 n7
/-- one text laid at a place -/
def kTxS (mf1 mf2 mf3 S2 S3 : Nat → Int32) (pl ml : Nat) : Prop := (∀ q : Nat, q < ml → S2 (120 * pl + q) = mf1 q) ∧ (∀ q : Nat, q < 120 * pl ∨ 120 * pl + 120 ≤ q → S2 q = mf2 q) ∧ S3 = upd mf3 pl (nI ml)
def kTxP (c : Nat) (mf1 mf2 mf3 S2 S3 : Nat → Int32) (kl ku ml : Nat) : Prop := (c = 0 ∧ S2 = mf2 ∧ S3 = mf3) ∨ (c = 1 ∧ kTxS mf1 mf2 mf3 S2 S3 kl ml) ∨ (c = 2 ∧ kTxS mf1 mf2 mf3 S2 S3 (6 + ku) ml)
def kUpT (y : Nat → List kTr) (k : Nat) (t : List kTr) : Nat → List kTr := fun j => if j = k then t else y j
theorem kUpT_n {y : Nat → List kTr} {k j : Nat} {t : List kTr} (h : ¬ j = k) : kUpT y k t j = y j := if_neg h
theorem kUpT_s {y : Nat → List kTr} {k : Nat} {t : List kTr} : kUpT y k t k = t := if_pos rfl
theorem kUn_far {mf1 mf2 mf3 S2 S3 : Nat → Int32} {off k pl ml : Nat} {g6 : Nat → Int32} {n6 : Nat} {g7 : Nat → Int32} {n7 : Nat} {y : Nat → List kTr} {t : List kTr} (h : kUn mf2 mf3 off k g6 n6 g7 n7 y) (hS : kTxS mf1 mf2 mf3 S2 S3 pl ml) (hp : ∀ j : Nat, j < k → ¬ off + j = pl) : kUn S2 S3 off k g6 n6 g7 n7 (kUpT y k t) := fun j hj => by
  obtain ⟨sb, sn, h1, h2, h3, h4, h5, h6, h7⟩ := h j hj
  have hne := hp j hj
  refine ⟨sb, sn, ?_, h2, ?_, h4, h5, h6, ?_⟩
  · rw [hS.2.2, pk_un hne]; exact h1
  · intro q hq
    rw [hS.2.1 _ (by omega)]
    exact h3 q hq
  · rw [kUpT_n (by omega)]; exact h7
theorem kUn_same {mf2 mf3 : Nat → Int32} {off k : Nat} {g6 : Nat → Int32} {n6 : Nat} {g7 : Nat → Int32} {n7 : Nat} {y : Nat → List kTr} {t : List kTr} (h : kUn mf2 mf3 off k g6 n6 g7 n7 y) : kUn mf2 mf3 off k g6 n6 g7 n7 (kUpT y k t) := fun j hj => by
  rw [kUpT_n (by omega)]
  exact h j hj
theorem kUn_add {mf1 mf2 mf3 S2 S3 : Nat → Int32} {off k ml : Nat} {g6 : Nat → Int32} {n6 : Nat} {g7 : Nat → Int32} {n7 : Nat} {y : Nat → List kTr} {bt : Nat → Nat} (h : kUn mf2 mf3 off k g6 n6 g7 n7 y) (hS : kTxS mf1 mf2 mf3 S2 S3 (off + k) ml) (hm : ml ≤ 120) (hb : ∀ j : Nat, mf1 j = kSg (bt j)) (h8 : ∀ j : Nat, bt j < 256) (h1 : ∀ j : Nat, j < ml → 1 ≤ bt j) (hr : (kRead bt ml g6 n6 g7 n7).1 = true) : kUn S2 S3 off (k + 1) g6 n6 g7 n7 (kUpT y k (kReadT bt ml g6 n6 g7 n7)) := fun j hj => by
  by_cases z : j = k
  · subst z
    refine ⟨bt, ml, by rw [hS.2.2, pk_us], hm, ?_, h8, h1, hr, kUpT_s⟩
    intro q hq
    rw [hS.1 q hq]
    exact hb q
  · have hf := kUn_far (t := kReadT bt ml g6 n6 g7 n7) h hS (fun j hj => by omega)
    exact hf j (by omega)
/-- what a told text becomes says what was read -/
def kTcS (c : Nat) (o0 o1 : Bool) (kl ku : Nat) : Prop := (c = 1 → o0 = true ∧ kl < 6) ∧ (c = 2 → o1 = true ∧ ku < 8)
theorem kTc_spec {s : Int32} {o0 o1 : Bool} {kl ku : Nat} : kTcS (kTc s o0 o1 kl ku) o0 o1 kl ku := by
  unfold kTcS kTc
  by_cases h0 : s = 0
  · rw [if_pos h0]
    by_cases h1 : kl < 6
    · rw [if_pos h1]
      cases o0 with
      | true => exact ⟨fun _ => ⟨rfl, h1⟩, fun z => absurd z (by decide)⟩
      | false => exact ⟨fun z => absurd z (by decide), fun z => absurd z (by decide)⟩
    · rw [if_neg h1]; exact ⟨fun z => absurd z (by decide), fun z => absurd z (by decide)⟩
  · rw [if_neg h0]
    by_cases h2 : s = 1
    · rw [if_pos h2]
      by_cases h1 : ku < 8
      · rw [if_pos h1]
        cases o1 with
        | true => exact ⟨fun z => absurd z (by decide), fun _ => ⟨rfl, h1⟩⟩
        | false => exact ⟨fun z => absurd z (by decide), fun z => absurd z (by decide)⟩
      · rw [if_neg h1]; exact ⟨fun z => absurd z (by decide), fun z => absurd z (by decide)⟩
    · rw [if_neg h2]; exact ⟨fun z => absurd z (by decide), fun z => absurd z (by decide)⟩
/-- the stored texts after a text -/
theorem kUn_txt {mf1 mf2 mf3 S2 S3 : Nat → Int32} {c kl ku ml : Nat} {bt : Nat → Nat} {xA : Nat → Int32} {nA : Nat} {xB : Nat → Int32} {nB : Nat} {xE : Nat → Int32} {nE : Nat} {xG : Nat → Int32} {nG : Nat} {yL yU : Nat → List kTr} (hl : kUn mf2 mf3 0 kl xA nA xB nB yL) (ht : kUn mf2 mf3 6 ku xE nE xG nG yU) (hP : kTxP c mf1 mf2 mf3 S2 S3 kl ku ml) (hm : ml ≤ 120) (hb : ∀ j : Nat, mf1 j = kSg (bt j)) (h8 : ∀ j : Nat, bt j < 256) (h1 : ∀ j : Nat, j < ml → 1 ≤ bt j) (hc : kTcS c (kRead bt ml xA nA xB nB).1 (kRead bt ml xE nE xG nG).1 kl ku) (hkl : kl ≤ 6) (_hku : ku ≤ 8) : kUn S2 S3 0 (kTcL c kl) xA nA xB nB (kUpT yL kl (kReadT bt ml xA nA xB nB)) ∧ kUn S2 S3 6 (kTcU c ku) xE nE xG nG (kUpT yU ku (kReadT bt ml xE nE xG nG)) := by
  rcases hP with ⟨rfl, e2, e3⟩ | ⟨rfl, hS⟩ | ⟨rfl, hS⟩
  · subst e2; subst e3
    exact ⟨kUn_same hl, kUn_same ht⟩
  · obtain ⟨hr, hk⟩ := hc.1 rfl
    exact ⟨kUn_add hl (by rw [Nat.zero_add]; exact hS) hm hb h8 h1 hr, kUn_far ht hS (fun j _ => by omega)⟩
  · obtain ⟨hr, _⟩ := hc.2 rfl
    exact ⟨kUn_far hl hS (fun j (hj : j < kl) => by omega), kUn_add ht hS hm hb h8 h1 hr⟩

def w_s_look10x : List Cond := .code yX10_look cX10_look 1 (some .int) :: ([.fieldLink RX10 141 "NotEndedModel" "at" "I", .fieldLink RX10 144 "NotEndedModel" "ends" "I", .fieldLink RX10 23 "NotEndedModel" "text" "[B", .fieldLink RX10 147 "NotEndedModel" "begins" "I"] ++ (wsX100))
theorem gw_s_look10x : (w_s_look10x).all goodWord = true := kGc rfl (kGa (by decide +kernel) gw_wsX100)
set_option maxHeartbeats 4000000 in
set_option maxRecDepth 100000 in
theorem s_look10x (l : Launch) (dC : Nat → ClassId) (dI : Nat → Nat → Nat) (jM : Nat) (v0 : Value) (v1 : Value) (v2 : Value) (v3 : Value) (v6 : Value) (v7 : Value) (v8 : Value) (v12 : Value) (v13 : Value) (v14 : Value) (v15 : Value) (v18 : Value) (v19 : Value) (v20 : Value) (v21 : Value) (v22 : Value) (v23 : Value) (v24 : Value) (v25 : Value) (v26 : Value) (v27 : Value) (v28 : Value) (v29 : Value) (v30 : Value) (v31 : Value) (v32 : Value) (v33 : Value) (v34 : Value) (v35 : Value) (v36 : Value) (v37 : Value) (v38 : Value) (v39 : Value) (v40 : Value) (v41 : Value) (v42 : Value) (v43 : Value) (v44 : Value) (v45 : Value) (v46 : Value) (v47 : Value) (v48 : Value) (v49 : Value) (v50 : Value) (v51 : Value) (lt : Nat) (q6 : Nat) (q7 : Nat) (tx : Nat) (cT : ClassId) (nT : Nat) (gT : Nat → Int32) (be : Nat) (en : Nat) (a : Nat) (hbe : be + en ≤ nT) (hnT : nT ≤ 1680) (ha : a ≤ en) (bt : Nat → Nat) (hbr : ∀ j : Nat, j < en → gT (be + j) = kSg (bt j)) (hb8 : ∀ j : Nat, bt j < 256) (hb1 : ∀ j : Nat, j < en → 1 ≤ bt j) (hen9 : en ≤ 120) (sz : Nat) : Met l yX10_look w_s_look10x ({ frames := 1, cells := 0, slots := 0, locals := 60 }) (kW dC dI [.ref jM] [(jM, .inr (10, [v0, v1, v2, v3, .ref lt, .ref tx, v6, v7, v8, .int (nI (be)), .int (nI (en)), .int (nI (a)), v12, v13, v14, v15, .ref q6, .ref q7, v18, v19, v20, v21, v22, v23, v24, v25, v26, v27, v28, v29, v30, v31, v32, v33, v34, v35, v36, v37, v38, v39, v40, v41, v42, v43, v44, v45, v46, v47, v48, v49, v50, v51])), (tx, .inl (cT, nT, .inl gT))] [(cT, .byte)] kT sz) (va_Qi (fun (r : Int32) (u : Nat × Nat) => match u with | (a1, ch) => (r = kLr ch ∧ ch = kLk bt en a ∧ a1 = kSp bt en a ∧ ch < 256 ∧ a ≤ a1 ∧ a1 ≤ en ∧ (ch = 0 ∨ a1 < en) ∧ kAt bt en a1 = ch)) (fun (u : Nat × Nat) => match u with | (a1, ch) => fun t : State => kB dC dI [(jM, .inr (10, [v0, v1, v2, v3, .ref lt, .ref tx, v6, v7, v8, .int (nI (be)), .int (nI (en)), .int (nI (a1)), v12, v13, v14, v15, .ref q6, .ref q7, v18, v19, v20, v21, v22, v23, v24, v25, v26, v27, v28, v29, v30, v31, v32, v33, v34, v35, v36, v37, v38, v39, v40, v41, v42, v43, v44, v45, v46, v47, v48, v49, v50, v51])), (tx, .inl (cT, nT, .inl gT))] [(cT, .byte)] (va_A [(jM, .inr (10, [v0, v1, v2, v3, .ref lt, .ref tx, v6, v7, v8, .int (nI (be)), .int (nI (en)), .int (nI (a)), v12, v13, v14, v15, .ref q6, .ref q7, v18, v19, v20, v21, v22, v23, v24, v25, v26, v27, v28, v29, v30, v31, v32, v33, v34, v35, v36, v37, v38, v39, v40, v41, v42, v43, v44, v45, v46, v47, v48, v49, v50, v51])), (tx, .inl (cT, nT, .inl gT))] sz) t) (va_A [(jM, .inr (10, [v0, v1, v2, v3, .ref lt, .ref tx, v6, v7, v8, .int (nI (be)), .int (nI (en)), .int (nI (a)), v12, v13, v14, v15, .ref q6, .ref q7, v18, v19, v20, v21, v22, v23, v24, v25, v26, v27, v28, v29, v30, v31, v32, v33, v34, v35, v36, v37, v38, v39, v40, v41, v42, v43, v44, v45, v46, v47, v48, v49, v50, v51])), (tx, .inl (cT, nT, .inl gT))] sz)) 0 0 (va_A [(jM, .inr (10, [v0, v1, v2, v3, .ref lt, .ref tx, v6, v7, v8, .int (nI (be)), .int (nI (en)), .int (nI (a)), v12, v13, v14, v15, .ref q6, .ref q7, v18, v19, v20, v21, v22, v23, v24, v25, v26, v27, v28, v29, v30, v31, v32, v33, v34, v35, v36, v37, v38, v39, v40, v41, v42, v43, v44, v45, v46, v47, v48, v49, v50, v51])), (tx, .inl (cT, nT, .inl gT))] sz) := by
  refine Met.ofW (cc := cX10_look) (maxL := 1) (ret := (some .int)) (by decide) rfl ?_
  intro p e s m args below meth c s₁ B hml hv
  obtain ⟨rfl, hsz, hP, hK, hD0, hX⟩ := hv
  have hx := B.exec
  have hb := B.bytes
  have hr := B.returns
  have hts := atoms_spec (ws := w_s_look10x) B.pre
  have hown : s.vm.findClass RX10 = some m.cls := findClass_of_methodNamed B.named
  have hlocks := B.notSynchronized
  subst hsz
  have hD := hD0.self (sz := s.heap.size)
  generalize hAe : va_A [(jM, .inr (10, [v0, v1, v2, v3, .ref lt, .ref tx, v6, v7, v8, .int (nI (be)), .int (nI (en)), .int (nI (a)), v12, v13, v14, v15, .ref q6, .ref q7, v18, v19, v20, v21, v22, v23, v24, v25, v26, v27, v28, v29, v30, v31, v32, v33, v34, v35, v36, v37, v38, v39, v40, v41, v42, v43, v44, v45, v46, v47, v48, v49, v50, v51])), (tx, .inl (cT, nT, .inl gT))] s.heap.size = A at hD ⊢
  have hA : ∀ q : Nat, s.heap.size ≤ q → A q := fun q h => by rw [← hAe]; exact Or.inr h
  have hS : va_S A s.heap s.heap [] := va_S.rf
  have hP : va_P (dC, dI) vwCl [(jM, .inr (10, [v0, v1, v2, v3, .ref lt, .ref tx, v6, v7, v8, .int (nI (be)), .int (nI (en)), .int (nI (a)), v12, v13, v14, v15, .ref q6, .ref q7, v18, v19, v20, v21, v22, v23, v24, v25, v26, v27, v28, v29, v30, v31, v32, v33, v34, v35, v36, v37, v38, v39, v40, v41, v42, v43, v44, v45, v46, v47, v48, v49, v50, v51])), (tx, .inl (cT, nT, .inl gT))] s.heap := hP
  have hl := lv_entry ([.ref jM]) (n := 1) (Nat.le_of_ble_eq_true rfl)
  rw [lg_entry_eq]
  generalize (lg_sl ([.ref jM]) ++ List.replicate (1 - (lg_sl ([.ref jM])).length) Slot.unset).toArray = ls at hl ⊢
  have hl : lv_has ls 1 [(0, .ref jM)] := hl
  refine kQ (fun Q hQ => ?_)
  have lp_k_1 : ∀ (n9 : Nat) (i : Nat) (ivk_1_0 : (a ≤ i ∧ i ≤ en)) (ivk_1_1 : kSp bt en i = kSp bt en a) (H : Heap) (locs : List Loc) (_ : va_P (dC, dI) vwCl [(jM, .inr (10, [v0, v1, v2, v3, .ref lt, .ref tx, v6, v7, v8, .int (nI (be)), .int (nI (en)), .int (nI (i)), v12, v13, v14, v15, .ref q6, .ref q7, v18, v19, v20, v21, v22, v23, v24, v25, v26, v27, v28, v29, v30, v31, v32, v33, v34, v35, v36, v37, v38, v39, v40, v41, v42, v43, v44, v45, v46, v47, v48, v49, v50, v51])), (tx, .inl (cT, nT, .inl gT))] H) (_ : va_D A [(jM, .inr (10, [v0, v1, v2, v3, .ref lt, .ref tx, v6, v7, v8, .int (nI (be)), .int (nI (en)), .int (nI (i)), v12, v13, v14, v15, .ref q6, .ref q7, v18, v19, v20, v21, v22, v23, v24, v25, v26, v27, v28, v29, v30, v31, v32, v33, v34, v35, v36, v37, v38, v39, v40, v41, v42, v43, v44, v45, v46, v47, v48, v49, v50, v51])), (tx, .inl (cT, nT, .inl gT))]) (_ : va_S A s.heap H locs) (ls : Array Slot) (_ : lv_has ls 1 [(0, .ref jM)]) (_ : en - i < n9), W p l e (headSpec w_s_look10x ({ frames := 1, cells := 0, slots := 0, locals := 60 })).room s m (#[.ref jM] : Array Value) below meth c H locs 0 0 Q (F0 m 0 ls []) := by
    intro n9
    induction n9 with
    | zero => intro i ivk_1_0 ivk_1_1 H locs hP hD hS ls hl hm9; exact absurd hm9 (Nat.not_lt_zero _)
    | succ n9 ih_k_1 =>
      intro i ivk_1_0 ivk_1_1 H locs hP hD hS ls hl hm9
      refine lv_aload_n hx hb dX10_look_0 rfl (lv_at hl 0 rfl) ?_
      refine va_get (D := (dC, dI)) (ci := 10) (v := .int (nI (i))) (C := RX10) (T := TX10) (N := 52) hx hb hts (fun _ h => List.mem_cons_of_mem _ (List.mem_append_right _ h)) hown hK hP 0 rfl rfl 11 kc_l_11_52 (hts (.fieldLink RX10 141 "NotEndedModel" "at" "I") (List.mem_cons_of_mem _ (List.mem_append_left _ (List.mem_of_getElem? (i := 0) rfl)))) (fun _ h9 => h9) rfl dX10_look_1 ?_
      refine lv_aload_n hx hb dX10_look_4 rfl (lv_at hl 0 rfl) ?_
      refine va_get (D := (dC, dI)) (ci := 10) (v := .int (nI (en))) (C := RX10) (T := TX10) (N := 52) hx hb hts (fun _ h => List.mem_cons_of_mem _ (List.mem_append_right _ h)) hown hK hP 0 rfl rfl 10 kc_l_10_52 (hts (.fieldLink RX10 144 "NotEndedModel" "ends" "I") (List.mem_cons_of_mem _ (List.mem_append_left _ (List.mem_of_getElem? (i := 1) rfl)))) (fun _ h9 => h9) rfl dX10_look_5 ?_
      refine lv_icmp_ge (tgt := 43) hx hb dX10_look_8 kc_t_8_35 (fun c_2 => ?_) (fun c_2 => ?_)
      · have bd_4 : en < 2147483648 := by omega
        have bd_5 : i < 2147483648 := by omega
        have hn_3 := kle (a := en) (b := i) bd_4 bd_5 c_2
        refine lv_aload_n hx hb dX10_look_43 rfl (lv_at hl 0 rfl) ?_
        refine va_get (D := (dC, dI)) (ci := 10) (v := .int (nI (i))) (C := RX10) (T := TX10) (N := 52) hx hb hts (fun _ h => List.mem_cons_of_mem _ (List.mem_append_right _ h)) hown hK hP 0 rfl rfl 11 kc_l_11_52 (hts (.fieldLink RX10 141 "NotEndedModel" "at" "I") (List.mem_cons_of_mem _ (List.mem_append_left _ (List.mem_of_getElem? (i := 0) rfl)))) (fun _ h9 => h9) rfl dX10_look_44 ?_
        refine lv_aload_n hx hb dX10_look_47 rfl (lv_at hl 0 rfl) ?_
        refine va_get (D := (dC, dI)) (ci := 10) (v := .int (nI (en))) (C := RX10) (T := TX10) (N := 52) hx hb hts (fun _ h => List.mem_cons_of_mem _ (List.mem_append_right _ h)) hown hK hP 0 rfl rfl 10 kc_l_10_52 (hts (.fieldLink RX10 144 "NotEndedModel" "ends" "I") (List.mem_cons_of_mem _ (List.mem_append_left _ (List.mem_of_getElem? (i := 1) rfl)))) (fun _ h9 => h9) rfl dX10_look_48 ?_
        refine lv_icmp_ge (tgt := 75) hx hb dX10_look_51 kc_t_51_24 (fun c_6 => ?_) (fun c_6 => ?_)
        · have hn_7 := kle (a := en) (b := i) bd_4 bd_5 c_6
          refine lv_iconst (v := (-1)) hx hb dX10_look_75 kc_i_m1 ?_
          have hP9 := hP
          have hD9 := hD
          have hK9 := hK
          rw [hQ]
          exact W.iret (v := (-1)) hx hb hr (fun t ht hW => ⟨⟨(-1), (i, kAt bt en i), rfl, ⟨(by rw [kAt_ge (by omega)]; rfl), (by have h9 : i = kSp bt en a := (by rw [← ivk_1_1]; exact (kSp_id (by rw [kAt_ge (by omega)]; decide)).symm); unfold kLk; rw [← h9]), (by rw [← ivk_1_1]; exact (kSp_id (by rw [kAt_ge (by omega)]; decide)).symm), kAt_b hb8 _ _, by omega, by omega, by by_cases z : kAt bt en i = 0; exact Or.inl z; exact Or.inr (kAt_lt z), rfl⟩,  by rw [ht]; exact hP9, va_K.moved hW.alike hK9, hD9⟩, hS.F ht⟩) hS.2.2 dX10_look_76
        · have hn_8 := knle (a := en) (b := i) bd_4 bd_5 c_6
          refine lv_aload_n hx hb dX10_look_54 rfl (lv_at hl 0 rfl) ?_
          refine va_get (D := (dC, dI)) (ci := 10) (v := .ref tx) (C := RX10) (T := TX10) (N := 52) hx hb hts (fun _ h => List.mem_cons_of_mem _ (List.mem_append_right _ h)) hown hK hP 0 rfl rfl 5 kc_l_5_52 (hts (.fieldLink RX10 23 "NotEndedModel" "text" "[B") (List.mem_cons_of_mem _ (List.mem_append_left _ (List.mem_of_getElem? (i := 2) rfl)))) (fun _ h9 => h9) rfl dX10_look_55 ?_
          refine lv_aload_n hx hb dX10_look_58 rfl (lv_at hl 0 rfl) ?_
          refine va_get (D := (dC, dI)) (ci := 10) (v := .int (nI (be))) (C := RX10) (T := TX10) (N := 52) hx hb hts (fun _ h => List.mem_cons_of_mem _ (List.mem_append_right _ h)) hown hK hP 0 rfl rfl 9 kc_l_9_52 (hts (.fieldLink RX10 147 "NotEndedModel" "begins" "I") (List.mem_cons_of_mem _ (List.mem_append_left _ (List.mem_of_getElem? (i := 3) rfl)))) (fun _ h9 => h9) rfl dX10_look_59 ?_
          refine lv_aload_n hx hb dX10_look_62 rfl (lv_at hl 0 rfl) ?_
          refine va_get (D := (dC, dI)) (ci := 10) (v := .int (nI (i))) (C := RX10) (T := TX10) (N := 52) hx hb hts (fun _ h => List.mem_cons_of_mem _ (List.mem_append_right _ h)) hown hK hP 0 rfl rfl 11 kc_l_11_52 (hts (.fieldLink RX10 141 "NotEndedModel" "at" "I") (List.mem_cons_of_mem _ (List.mem_append_left _ (List.mem_of_getElem? (i := 0) rfl)))) (fun _ h9 => h9) rfl dX10_look_63 ?_
          refine lv_iadd hx hb dX10_look_66 ?_
          refine lv_topi (fun y_9 ey_9 => ?_)
          obtain rfl : y_9 = nI (be + i) := ey_9.trans (nI_add (be) (i))
          have bd_10 : be + i < nT := by omega
          have bd_11 : nT < 2147483648 := by omega
          refine va_bald hx hb hK hP 1 0 rfl rfl (vp_in_nI (n := be + i) (N := nT) bd_10 bd_11) dX10_look_67 ?_
          refine lv_topi (fun x_12 ex_12 => ?_)
          refine lv_sipush (v := 255) hx hb dX10_look_68 kc_s_255 ?_
          refine lv_iand hx hb dX10_look_71 ?_
          refine lv_topi (fun x_13 ex_13 => ?_)
          refine lv_goto (tgt := 76) hx hb dX10_look_72 kc_t_72_4 ?_
          have hP9 := hP
          have hD9 := hD
          have hK9 := hK
          rw [hQ]
          exact W.iret (v := x_13) hx hb hr (fun t ht hW => ⟨⟨x_13, (i, kAt bt en i), rfl, (by exfalso; omega),  by rw [ht]; exact hP9, va_K.moved hW.alike hK9, hD9⟩, hS.F ht⟩) hS.2.2 dX10_look_76
      · have bd_15 : en < 2147483648 := by omega
        have bd_16 : i < 2147483648 := by omega
        have hn_14 := knle (a := en) (b := i) bd_15 bd_16 c_2
        refine lv_aload_n hx hb dX10_look_11 rfl (lv_at hl 0 rfl) ?_
        refine va_get (D := (dC, dI)) (ci := 10) (v := .ref tx) (C := RX10) (T := TX10) (N := 52) hx hb hts (fun _ h => List.mem_cons_of_mem _ (List.mem_append_right _ h)) hown hK hP 0 rfl rfl 5 kc_l_5_52 (hts (.fieldLink RX10 23 "NotEndedModel" "text" "[B") (List.mem_cons_of_mem _ (List.mem_append_left _ (List.mem_of_getElem? (i := 2) rfl)))) (fun _ h9 => h9) rfl dX10_look_12 ?_
        refine lv_aload_n hx hb dX10_look_15 rfl (lv_at hl 0 rfl) ?_
        refine va_get (D := (dC, dI)) (ci := 10) (v := .int (nI (be))) (C := RX10) (T := TX10) (N := 52) hx hb hts (fun _ h => List.mem_cons_of_mem _ (List.mem_append_right _ h)) hown hK hP 0 rfl rfl 9 kc_l_9_52 (hts (.fieldLink RX10 147 "NotEndedModel" "begins" "I") (List.mem_cons_of_mem _ (List.mem_append_left _ (List.mem_of_getElem? (i := 3) rfl)))) (fun _ h9 => h9) rfl dX10_look_16 ?_
        refine lv_aload_n hx hb dX10_look_19 rfl (lv_at hl 0 rfl) ?_
        refine va_get (D := (dC, dI)) (ci := 10) (v := .int (nI (i))) (C := RX10) (T := TX10) (N := 52) hx hb hts (fun _ h => List.mem_cons_of_mem _ (List.mem_append_right _ h)) hown hK hP 0 rfl rfl 11 kc_l_11_52 (hts (.fieldLink RX10 141 "NotEndedModel" "at" "I") (List.mem_cons_of_mem _ (List.mem_append_left _ (List.mem_of_getElem? (i := 0) rfl)))) (fun _ h9 => h9) rfl dX10_look_20 ?_
        refine lv_iadd hx hb dX10_look_23 ?_
        refine lv_topi (fun y_17 ey_17 => ?_)
        obtain rfl : y_17 = nI (be + i) := ey_17.trans (nI_add (be) (i))
        have bd_18 : be + i < nT := by omega
        have bd_19 : nT < 2147483648 := by omega
        refine va_bald hx hb hK hP 1 0 rfl rfl (vp_in_nI (n := be + i) (N := nT) bd_18 bd_19) dX10_look_24 ?_
        refine lv_topi (fun x_20 ex_20 => ?_)
        refine lv_bipush (v := 32) hx hb dX10_look_25 kc_b_32 ?_
        refine lv_icmp_ne (tgt := 43) hx hb dX10_look_27 kc_t_27_16 (fun c_21 => ?_) (fun c_21 => ?_)
        · refine lv_aload_n hx hb dX10_look_43 rfl (lv_at hl 0 rfl) ?_
          refine va_get (D := (dC, dI)) (ci := 10) (v := .int (nI (i))) (C := RX10) (T := TX10) (N := 52) hx hb hts (fun _ h => List.mem_cons_of_mem _ (List.mem_append_right _ h)) hown hK hP 0 rfl rfl 11 kc_l_11_52 (hts (.fieldLink RX10 141 "NotEndedModel" "at" "I") (List.mem_cons_of_mem _ (List.mem_append_left _ (List.mem_of_getElem? (i := 0) rfl)))) (fun _ h9 => h9) rfl dX10_look_44 ?_
          refine lv_aload_n hx hb dX10_look_47 rfl (lv_at hl 0 rfl) ?_
          refine va_get (D := (dC, dI)) (ci := 10) (v := .int (nI (en))) (C := RX10) (T := TX10) (N := 52) hx hb hts (fun _ h => List.mem_cons_of_mem _ (List.mem_append_right _ h)) hown hK hP 0 rfl rfl 10 kc_l_10_52 (hts (.fieldLink RX10 144 "NotEndedModel" "ends" "I") (List.mem_cons_of_mem _ (List.mem_append_left _ (List.mem_of_getElem? (i := 1) rfl)))) (fun _ h9 => h9) rfl dX10_look_48 ?_
          refine lv_icmp_ge (tgt := 75) hx hb dX10_look_51 kc_t_51_24 (fun c_22 => ?_) (fun c_22 => ?_)
          · have hn_23 := kle (a := en) (b := i) bd_15 bd_16 c_22
            refine lv_iconst (v := (-1)) hx hb dX10_look_75 kc_i_m1 ?_
            have hP9 := hP
            have hD9 := hD
            have hK9 := hK
            rw [hQ]
            exact W.iret (v := (-1)) hx hb hr (fun t ht hW => ⟨⟨(-1), (i, kAt bt en i), rfl, ⟨(by rw [kAt_ge (by omega)]; rfl), (by have h9 : i = kSp bt en a := (by rw [← ivk_1_1]; exact (kSp_id (by rw [kAt_ge (by omega)]; decide)).symm); unfold kLk; rw [← h9]), (by rw [← ivk_1_1]; exact (kSp_id (by rw [kAt_ge (by omega)]; decide)).symm), kAt_b hb8 _ _, by omega, by omega, by by_cases z : kAt bt en i = 0; exact Or.inl z; exact Or.inr (kAt_lt z), rfl⟩,  by rw [ht]; exact hP9, va_K.moved hW.alike hK9, hD9⟩, hS.F ht⟩) hS.2.2 dX10_look_76
          · have hn_24 := knle (a := en) (b := i) bd_15 bd_16 c_22
            refine lv_aload_n hx hb dX10_look_54 rfl (lv_at hl 0 rfl) ?_
            refine va_get (D := (dC, dI)) (ci := 10) (v := .ref tx) (C := RX10) (T := TX10) (N := 52) hx hb hts (fun _ h => List.mem_cons_of_mem _ (List.mem_append_right _ h)) hown hK hP 0 rfl rfl 5 kc_l_5_52 (hts (.fieldLink RX10 23 "NotEndedModel" "text" "[B") (List.mem_cons_of_mem _ (List.mem_append_left _ (List.mem_of_getElem? (i := 2) rfl)))) (fun _ h9 => h9) rfl dX10_look_55 ?_
            refine lv_aload_n hx hb dX10_look_58 rfl (lv_at hl 0 rfl) ?_
            refine va_get (D := (dC, dI)) (ci := 10) (v := .int (nI (be))) (C := RX10) (T := TX10) (N := 52) hx hb hts (fun _ h => List.mem_cons_of_mem _ (List.mem_append_right _ h)) hown hK hP 0 rfl rfl 9 kc_l_9_52 (hts (.fieldLink RX10 147 "NotEndedModel" "begins" "I") (List.mem_cons_of_mem _ (List.mem_append_left _ (List.mem_of_getElem? (i := 3) rfl)))) (fun _ h9 => h9) rfl dX10_look_59 ?_
            refine lv_aload_n hx hb dX10_look_62 rfl (lv_at hl 0 rfl) ?_
            refine va_get (D := (dC, dI)) (ci := 10) (v := .int (nI (i))) (C := RX10) (T := TX10) (N := 52) hx hb hts (fun _ h => List.mem_cons_of_mem _ (List.mem_append_right _ h)) hown hK hP 0 rfl rfl 11 kc_l_11_52 (hts (.fieldLink RX10 141 "NotEndedModel" "at" "I") (List.mem_cons_of_mem _ (List.mem_append_left _ (List.mem_of_getElem? (i := 0) rfl)))) (fun _ h9 => h9) rfl dX10_look_63 ?_
            refine lv_iadd hx hb dX10_look_66 ?_
            refine lv_topi (fun y_25 ey_25 => ?_)
            obtain rfl : y_25 = nI (be + i) := ey_25.trans (nI_add (be) (i))
            refine va_bald hx hb hK hP 1 0 rfl rfl (vp_in_nI (n := be + i) (N := nT) bd_18 bd_19) dX10_look_67 ?_
            refine lv_topi (fun x_26 ex_26 => ?_)
            refine lv_sipush (v := 255) hx hb dX10_look_68 kc_s_255 ?_
            refine lv_iand hx hb dX10_look_71 ?_
            refine lv_topi (fun x_27 ex_27 => ?_)
            refine lv_goto (tgt := 76) hx hb dX10_look_72 kc_t_72_4 ?_
            have hP9 := hP
            have hD9 := hD
            have hK9 := hK
            rw [hQ]
            exact W.iret (v := x_27) hx hb hr (fun t ht hW => ⟨⟨x_27, (i, kAt bt en i), rfl, ⟨(by rw [kAt_in (by omega), kLr_p (hb1 i (by omega)), ex_27, ex_26, nI_clamp (n := be + i) (by omega), hbr i (by omega)]; exact kSgA (hb8 i)), (by have h9 : i = kSp bt en a := (by rw [← ivk_1_1]; exact (kSp_id (fun z9 => c_21 (by rw [kAt_in (by omega)] at z9; rw [ex_20, nI_clamp (n := be + i) (by omega), hbr i (by omega)]; exact (kSg32 (hb8 i)).mpr z9))).symm); unfold kLk; rw [← h9]), (by rw [← ivk_1_1]; exact (kSp_id (fun z9 => c_21 (by rw [kAt_in (by omega)] at z9; rw [ex_20, nI_clamp (n := be + i) (by omega), hbr i (by omega)]; exact (kSg32 (hb8 i)).mpr z9))).symm), kAt_b hb8 _ _, by omega, by omega, by by_cases z : kAt bt en i = 0; exact Or.inl z; exact Or.inr (kAt_lt z), rfl⟩,  by rw [ht]; exact hP9, va_K.moved hW.alike hK9, hD9⟩, hS.F ht⟩) hS.2.2 dX10_look_76
        · refine lv_aload_n hx hb dX10_look_30 rfl (lv_at hl 0 rfl) ?_
          refine lv_dup hx hb dX10_look_31 rfl ?_
          refine va_get (D := (dC, dI)) (ci := 10) (v := .int (nI (i))) (C := RX10) (T := TX10) (N := 52) hx hb hts (fun _ h => List.mem_cons_of_mem _ (List.mem_append_right _ h)) hown hK hP 0 rfl rfl 11 kc_l_11_52 (hts (.fieldLink RX10 141 "NotEndedModel" "at" "I") (List.mem_cons_of_mem _ (List.mem_append_left _ (List.mem_of_getElem? (i := 0) rfl)))) (fun _ h9 => h9) rfl dX10_look_32 ?_
          refine lv_iconst (v := 1) hx hb dX10_look_35 kc_i_1 ?_
          refine lv_iadd hx hb dX10_look_36 ?_
          refine lv_topi (fun y_28 ey_28 => ?_)
          obtain rfl : y_28 = nI (i + 1) := ey_28.trans (nI_add (i) (1))
          refine va_put (D := (dC, dI)) (ci := 10) (v := .int (nI (i + 1))) (ty := tyX10 11) (C := RX10) (T := TX10) (N := 52) hx hb hts (fun _ h => List.mem_cons_of_mem _ (List.mem_append_right _ h)) tyX10 tyX10_ok nmX10 hown hK hP hD hS 0 rfl rfl 11 kc_l_11_52 (hts (.fieldLink RX10 141 "NotEndedModel" "at" "I") (List.mem_cons_of_mem _ (List.mem_append_left _ (List.mem_of_getElem? (i := 0) rfl)))) (fun _ h9 => h9) rfl (tyX10_ok 11 kc_l_11_52) rfl rfl (Nat.le_of_ble_eq_true rfl) dX10_look_37 (fun H locs hP hD hS => ?_)
          have hPD : kPD dC dI A [(jM, .inr (10, [v0, v1, v2, v3, .ref lt, .ref tx, v6, v7, v8, .int (nI (be)), .int (nI (en)), .int (nI (i + 1)), v12, v13, v14, v15, .ref q6, .ref q7, v18, v19, v20, v21, v22, v23, v24, v25, v26, v27, v28, v29, v30, v31, v32, v33, v34, v35, v36, v37, v38, v39, v40, v41, v42, v43, v44, v45, v46, v47, v48, v49, v50, v51])), (tx, .inl (cT, nT, .inl gT))] H := ⟨hP, hD⟩
          obtain ⟨hP, hD⟩ := hPD
          refine lv_goto (tgt := 0) hx hb dX10_look_40 kc_t_40_m40 ?_
          exact ih_k_1 (i + 1) (by omega) (by rw [← ivk_1_1]; exact kSp_step (by omega) (by rw [kAt_in (by omega)]; exact (kSg32 (hb8 i)).mp (by rw [← hbr i (by omega), ← nI_clamp (n := be + i) (by omega), ← ex_20]; exact c_21))) _ _ hP hD hS ls (lv_sub hl [0] rfl) (by omega)
  exact lp_k_1 (en - a + 1) a (by omega) rfl _ _ hP hD hS ls (lv_sub hl [0] rfl) (by omega)

def w_s_fails10x : List Cond := .code yX10_fails cX10_fails 1 (some .boolean) :: ([.fieldLink RX10 150 "NotEndedModel" "fault" "I", .fieldLink RX10 141 "NotEndedModel" "at" "I"] ++ (wsX100))
theorem gw_s_fails10x : (w_s_fails10x).all goodWord = true := kGc rfl (kGa (by decide +kernel) gw_wsX100)
set_option maxHeartbeats 4000000 in
set_option maxRecDepth 100000 in
theorem s_fails10x (l : Launch) (dC : Nat → ClassId) (dI : Nat → Nat → Nat) (jM : Nat) (v0 : Value) (v1 : Value) (v2 : Value) (v3 : Value) (v6 : Value) (v7 : Value) (v8 : Value) (v13 : Value) (v14 : Value) (v15 : Value) (v18 : Value) (v19 : Value) (v20 : Value) (v21 : Value) (v22 : Value) (v23 : Value) (v24 : Value) (v25 : Value) (v26 : Value) (v27 : Value) (v28 : Value) (v29 : Value) (v30 : Value) (v31 : Value) (v32 : Value) (v33 : Value) (v34 : Value) (v35 : Value) (v36 : Value) (v37 : Value) (v38 : Value) (v39 : Value) (v40 : Value) (v41 : Value) (v42 : Value) (v43 : Value) (v44 : Value) (v45 : Value) (v46 : Value) (v47 : Value) (v48 : Value) (v49 : Value) (v50 : Value) (v51 : Value) (lt : Nat) (q6 : Nat) (q7 : Nat) (tx : Nat) (be : Nat) (en : Nat) (a : Nat) (ha : a ≤ en) (hen : en ≤ 1680) (sz : Nat) : Met l yX10_fails w_s_fails10x ({ frames := 1, cells := 0, slots := 0, locals := 60 }) (kW dC dI [.ref jM] [(jM, .inr (10, [v0, v1, v2, v3, .ref lt, .ref tx, v6, v7, v8, .int (nI (be)), .int (nI (en)), .int (nI (a)), .int (-1), v13, v14, v15, .ref q6, .ref q7, v18, v19, v20, v21, v22, v23, v24, v25, v26, v27, v28, v29, v30, v31, v32, v33, v34, v35, v36, v37, v38, v39, v40, v41, v42, v43, v44, v45, v46, v47, v48, v49, v50, v51]))] [] kT sz) (va_Qi (fun (r : Int32) (_ : Unit) => r = 0) (fun (_ : Unit) => fun t : State => kB dC dI [(jM, .inr (10, [v0, v1, v2, v3, .ref lt, .ref tx, v6, v7, v8, .int (nI (be)), .int (nI (en)), .int (nI (a)), .int (nI (a)), v13, v14, v15, .ref q6, .ref q7, v18, v19, v20, v21, v22, v23, v24, v25, v26, v27, v28, v29, v30, v31, v32, v33, v34, v35, v36, v37, v38, v39, v40, v41, v42, v43, v44, v45, v46, v47, v48, v49, v50, v51]))] [] (va_A [(jM, .inr (10, [v0, v1, v2, v3, .ref lt, .ref tx, v6, v7, v8, .int (nI (be)), .int (nI (en)), .int (nI (a)), .int (-1), v13, v14, v15, .ref q6, .ref q7, v18, v19, v20, v21, v22, v23, v24, v25, v26, v27, v28, v29, v30, v31, v32, v33, v34, v35, v36, v37, v38, v39, v40, v41, v42, v43, v44, v45, v46, v47, v48, v49, v50, v51]))] sz) t) (va_A [(jM, .inr (10, [v0, v1, v2, v3, .ref lt, .ref tx, v6, v7, v8, .int (nI (be)), .int (nI (en)), .int (nI (a)), .int (-1), v13, v14, v15, .ref q6, .ref q7, v18, v19, v20, v21, v22, v23, v24, v25, v26, v27, v28, v29, v30, v31, v32, v33, v34, v35, v36, v37, v38, v39, v40, v41, v42, v43, v44, v45, v46, v47, v48, v49, v50, v51]))] sz)) 0 0 (va_A [(jM, .inr (10, [v0, v1, v2, v3, .ref lt, .ref tx, v6, v7, v8, .int (nI (be)), .int (nI (en)), .int (nI (a)), .int (-1), v13, v14, v15, .ref q6, .ref q7, v18, v19, v20, v21, v22, v23, v24, v25, v26, v27, v28, v29, v30, v31, v32, v33, v34, v35, v36, v37, v38, v39, v40, v41, v42, v43, v44, v45, v46, v47, v48, v49, v50, v51]))] sz) := by
  refine Met.ofW (cc := cX10_fails) (maxL := 1) (ret := (some .boolean)) (by decide) rfl ?_
  intro p e s m args below meth c s₁ B hml hv
  obtain ⟨rfl, hsz, hP, hK, hD0, hX⟩ := hv
  have hx := B.exec
  have hb := B.bytes
  have hr := B.returns
  have hts := atoms_spec (ws := w_s_fails10x) B.pre
  have hown : s.vm.findClass RX10 = some m.cls := findClass_of_methodNamed B.named
  have hlocks := B.notSynchronized
  subst hsz
  have hD := hD0.self (sz := s.heap.size)
  generalize hAe : va_A [(jM, .inr (10, [v0, v1, v2, v3, .ref lt, .ref tx, v6, v7, v8, .int (nI (be)), .int (nI (en)), .int (nI (a)), .int (-1), v13, v14, v15, .ref q6, .ref q7, v18, v19, v20, v21, v22, v23, v24, v25, v26, v27, v28, v29, v30, v31, v32, v33, v34, v35, v36, v37, v38, v39, v40, v41, v42, v43, v44, v45, v46, v47, v48, v49, v50, v51]))] s.heap.size = A at hD ⊢
  have hA : ∀ q : Nat, s.heap.size ≤ q → A q := fun q h => by rw [← hAe]; exact Or.inr h
  have hS : va_S A s.heap s.heap [] := va_S.rf
  have hP : va_P (dC, dI) vwCl [(jM, .inr (10, [v0, v1, v2, v3, .ref lt, .ref tx, v6, v7, v8, .int (nI (be)), .int (nI (en)), .int (nI (a)), .int (-1), v13, v14, v15, .ref q6, .ref q7, v18, v19, v20, v21, v22, v23, v24, v25, v26, v27, v28, v29, v30, v31, v32, v33, v34, v35, v36, v37, v38, v39, v40, v41, v42, v43, v44, v45, v46, v47, v48, v49, v50, v51]))] s.heap := hP
  have hl := lv_entry ([.ref jM]) (n := 1) (Nat.le_of_ble_eq_true rfl)
  rw [lg_entry_eq]
  generalize (lg_sl ([.ref jM]) ++ List.replicate (1 - (lg_sl ([.ref jM])).length) Slot.unset).toArray = ls at hl ⊢
  have hl : lv_has ls 1 [(0, .ref jM)] := hl
  refine kQ (fun Q hQ => ?_)
  refine lv_aload_n hx hb dX10_fails_0 rfl (lv_at hl 0 rfl) ?_
  refine va_get (D := (dC, dI)) (ci := 10) (v := .int (-1)) (C := RX10) (T := TX10) (N := 52) hx hb hts (fun _ h => List.mem_cons_of_mem _ (List.mem_append_right _ h)) hown hK hP 0 rfl rfl 12 kc_l_12_52 (hts (.fieldLink RX10 150 "NotEndedModel" "fault" "I") (List.mem_cons_of_mem _ (List.mem_append_left _ (List.mem_of_getElem? (i := 0) rfl)))) (fun _ h9 => h9) rfl dX10_fails_1 ?_
  refine lv_iconst (v := (-1)) hx hb dX10_fails_4 kc_i_m1 ?_
  refine lv_icmp_ne (tgt := 16) hx hb dX10_fails_5 kc_t_5_11 (fun c_1 => absurd (by decide) c_1) (fun c_1 => ?_)
  refine lv_aload_n hx hb dX10_fails_8 rfl (lv_at hl 0 rfl) ?_
  refine lv_aload_n hx hb dX10_fails_9 rfl (lv_at hl 0 rfl) ?_
  refine va_get (D := (dC, dI)) (ci := 10) (v := .int (nI (a))) (C := RX10) (T := TX10) (N := 52) hx hb hts (fun _ h => List.mem_cons_of_mem _ (List.mem_append_right _ h)) hown hK hP 0 rfl rfl 11 kc_l_11_52 (hts (.fieldLink RX10 141 "NotEndedModel" "at" "I") (List.mem_cons_of_mem _ (List.mem_append_left _ (List.mem_of_getElem? (i := 1) rfl)))) (fun _ h9 => h9) rfl dX10_fails_10 ?_
  refine va_put (D := (dC, dI)) (ci := 10) (v := .int (nI (a))) (ty := tyX10 12) (C := RX10) (T := TX10) (N := 52) hx hb hts (fun _ h => List.mem_cons_of_mem _ (List.mem_append_right _ h)) tyX10 tyX10_ok nmX10 hown hK hP hD hS 0 rfl rfl 12 kc_l_12_52 (hts (.fieldLink RX10 150 "NotEndedModel" "fault" "I") (List.mem_cons_of_mem _ (List.mem_append_left _ (List.mem_of_getElem? (i := 0) rfl)))) (fun _ h9 => h9) rfl (tyX10_ok 12 kc_l_12_52) rfl rfl (Nat.le_of_ble_eq_true rfl) dX10_fails_13 (fun H locs hP hD hS => ?_)
  have hPD : kPD dC dI A [(jM, .inr (10, [v0, v1, v2, v3, .ref lt, .ref tx, v6, v7, v8, .int (nI (be)), .int (nI (en)), .int (nI (a)), .int (nI (a)), v13, v14, v15, .ref q6, .ref q7, v18, v19, v20, v21, v22, v23, v24, v25, v26, v27, v28, v29, v30, v31, v32, v33, v34, v35, v36, v37, v38, v39, v40, v41, v42, v43, v44, v45, v46, v47, v48, v49, v50, v51]))] H := ⟨hP, hD⟩
  obtain ⟨hP, hD⟩ := hPD
  refine lv_iconst (v := 0) hx hb dX10_fails_16 kc_i_0 ?_
  have hP9 := hP
  have hD9 := hD
  have hK9 := hK
  rw [hQ]
  exact W.zret (v := 0) hx hb hr rfl (fun t ht hW => ⟨⟨0, (), rfl, rfl,  by rw [ht]; exact hP9, va_K.moved hW.alike hK9, hD9⟩, hS.F ht⟩) hS.2.2 dX10_fails_17

def w_s_goesIn10x_6 : List Cond := .code yX10_goesIn cX10_goesIn 1 (some .boolean) :: ([.fieldLink RX10 153 "NotEndedModel" "deep" "I", .initialized RX10, .selects RX10 yX10_fails yX10_fails, .instanceMethod yX10_fails, .methodLink RX10 156 yX10_fails] ++ (wsX100 ++ (w_s_fails10x)))
theorem gw_s_goesIn10x_6 : (w_s_goesIn10x_6).all goodWord = true := kGc rfl (kGa (by decide +kernel) (kGa gw_wsX100 gw_s_fails10x))
set_option maxHeartbeats 4000000 in
set_option maxRecDepth 100000 in
theorem s_goesIn10x_6 (l : Launch) (dC : Nat → ClassId) (dI : Nat → Nat → Nat) (jM : Nat) (v0 : Value) (v1 : Value) (v2 : Value) (v3 : Value) (v6 : Value) (v7 : Value) (v8 : Value) (v14 : Value) (v15 : Value) (v18 : Value) (v19 : Value) (v20 : Value) (v21 : Value) (v22 : Value) (v23 : Value) (v24 : Value) (v25 : Value) (v26 : Value) (v27 : Value) (v28 : Value) (v29 : Value) (v30 : Value) (v31 : Value) (v32 : Value) (v33 : Value) (v34 : Value) (v35 : Value) (v36 : Value) (v37 : Value) (v38 : Value) (v39 : Value) (v40 : Value) (v41 : Value) (v42 : Value) (v43 : Value) (v44 : Value) (v45 : Value) (v46 : Value) (v47 : Value) (v48 : Value) (v49 : Value) (v50 : Value) (v51 : Value) (lt : Nat) (q6 : Nat) (q7 : Nat) (tx : Nat) (be : Nat) (en : Nat) (a : Nat) (ha : a ≤ en) (hen : en ≤ 1680) (sz : Nat) : Met l yX10_goesIn w_s_goesIn10x_6 ({ frames := 2, cells := 0, slots := 0, locals := 120 }) (kW dC dI [.ref jM] [(jM, .inr (10, [v0, v1, v2, v3, .ref lt, .ref tx, v6, v7, v8, .int (nI (be)), .int (nI (en)), .int (nI (a)), .int (-1), .int 6, v14, v15, .ref q6, .ref q7, v18, v19, v20, v21, v22, v23, v24, v25, v26, v27, v28, v29, v30, v31, v32, v33, v34, v35, v36, v37, v38, v39, v40, v41, v42, v43, v44, v45, v46, v47, v48, v49, v50, v51]))] [] kT sz) (va_Qi (fun (r : Int32) (_ : Unit) => r = 0) (fun (_ : Unit) => fun t : State => kB dC dI [(jM, .inr (10, [v0, v1, v2, v3, .ref lt, .ref tx, v6, v7, v8, .int (nI (be)), .int (nI (en)), .int (nI (a)), .int (nI (a)), .int 6, v14, v15, .ref q6, .ref q7, v18, v19, v20, v21, v22, v23, v24, v25, v26, v27, v28, v29, v30, v31, v32, v33, v34, v35, v36, v37, v38, v39, v40, v41, v42, v43, v44, v45, v46, v47, v48, v49, v50, v51]))] [] (va_A [(jM, .inr (10, [v0, v1, v2, v3, .ref lt, .ref tx, v6, v7, v8, .int (nI (be)), .int (nI (en)), .int (nI (a)), .int (-1), .int 6, v14, v15, .ref q6, .ref q7, v18, v19, v20, v21, v22, v23, v24, v25, v26, v27, v28, v29, v30, v31, v32, v33, v34, v35, v36, v37, v38, v39, v40, v41, v42, v43, v44, v45, v46, v47, v48, v49, v50, v51]))] sz) t) (va_A [(jM, .inr (10, [v0, v1, v2, v3, .ref lt, .ref tx, v6, v7, v8, .int (nI (be)), .int (nI (en)), .int (nI (a)), .int (-1), .int 6, v14, v15, .ref q6, .ref q7, v18, v19, v20, v21, v22, v23, v24, v25, v26, v27, v28, v29, v30, v31, v32, v33, v34, v35, v36, v37, v38, v39, v40, v41, v42, v43, v44, v45, v46, v47, v48, v49, v50, v51]))] sz)) 0 0 (va_A [(jM, .inr (10, [v0, v1, v2, v3, .ref lt, .ref tx, v6, v7, v8, .int (nI (be)), .int (nI (en)), .int (nI (a)), .int (-1), .int 6, v14, v15, .ref q6, .ref q7, v18, v19, v20, v21, v22, v23, v24, v25, v26, v27, v28, v29, v30, v31, v32, v33, v34, v35, v36, v37, v38, v39, v40, v41, v42, v43, v44, v45, v46, v47, v48, v49, v50, v51]))] sz) := by
  refine Met.ofW (cc := cX10_goesIn) (maxL := 1) (ret := (some .boolean)) (by decide) rfl ?_
  intro p e s m args below meth c s₁ B hml hv
  obtain ⟨rfl, hsz, hP, hK, hD0, hX⟩ := hv
  have hx := B.exec
  have hb := B.bytes
  have hr := B.returns
  have hts := atoms_spec (ws := w_s_goesIn10x_6) B.pre
  have hown : s.vm.findClass RX10 = some m.cls := findClass_of_methodNamed B.named
  have hlocks := B.notSynchronized
  subst hsz
  have hD := hD0.self (sz := s.heap.size)
  generalize hAe : va_A [(jM, .inr (10, [v0, v1, v2, v3, .ref lt, .ref tx, v6, v7, v8, .int (nI (be)), .int (nI (en)), .int (nI (a)), .int (-1), .int 6, v14, v15, .ref q6, .ref q7, v18, v19, v20, v21, v22, v23, v24, v25, v26, v27, v28, v29, v30, v31, v32, v33, v34, v35, v36, v37, v38, v39, v40, v41, v42, v43, v44, v45, v46, v47, v48, v49, v50, v51]))] s.heap.size = A at hD ⊢
  have hA : ∀ q : Nat, s.heap.size ≤ q → A q := fun q h => by rw [← hAe]; exact Or.inr h
  have hS : va_S A s.heap s.heap [] := va_S.rf
  have hP : va_P (dC, dI) vwCl [(jM, .inr (10, [v0, v1, v2, v3, .ref lt, .ref tx, v6, v7, v8, .int (nI (be)), .int (nI (en)), .int (nI (a)), .int (-1), .int 6, v14, v15, .ref q6, .ref q7, v18, v19, v20, v21, v22, v23, v24, v25, v26, v27, v28, v29, v30, v31, v32, v33, v34, v35, v36, v37, v38, v39, v40, v41, v42, v43, v44, v45, v46, v47, v48, v49, v50, v51]))] s.heap := hP
  have hl := lv_entry ([.ref jM]) (n := 1) (Nat.le_of_ble_eq_true rfl)
  rw [lg_entry_eq]
  generalize (lg_sl ([.ref jM]) ++ List.replicate (1 - (lg_sl ([.ref jM])).length) Slot.unset).toArray = ls at hl ⊢
  have hl : lv_has ls 1 [(0, .ref jM)] := hl
  refine kQ (fun Q hQ => ?_)
  refine lv_aload_n hx hb dX10_goesIn_0 rfl (lv_at hl 0 rfl) ?_
  refine va_get (D := (dC, dI)) (ci := 10) (v := .int 6) (C := RX10) (T := TX10) (N := 52) hx hb hts (fun _ h => List.mem_cons_of_mem _ (List.mem_append_right _ (List.mem_append_left _ h))) hown hK hP 0 rfl rfl 13 kc_l_13_52 (hts (.fieldLink RX10 153 "NotEndedModel" "deep" "I") (List.mem_cons_of_mem _ (List.mem_append_left _ (List.mem_of_getElem? (i := 0) rfl)))) (fun _ h9 => h9) rfl dX10_goesIn_1 ?_
  refine lv_bipush (v := 6) hx hb dX10_goesIn_4 kc_b_6 ?_
  refine lv_icmp_ne (tgt := 14) hx hb dX10_goesIn_6 kc_t_6_8 (fun c_1 => absurd (by decide) c_1) (fun c_1 => ?_)
  refine lv_aload_n hx hb dX10_goesIn_9 rfl (lv_at hl 0 rfl) ?_
  have hCu := kCut (wc := [(jM, .inr (10, [v0, v1, v2, v3, .ref lt, .ref tx, v6, v7, v8, .int (nI (be)), .int (nI (en)), .int (nI (a)), .int (-1), .int 6, v14, v15, .ref q6, .ref q7, v18, v19, v20, v21, v22, v23, v24, v25, v26, v27, v28, v29, v30, v31, v32, v33, v34, v35, v36, v37, v38, v39, v40, v41, v42, v43, v44, v45, v46, v47, v48, v49, v50, v51]))]) hP hD hS hA [0] rfl kc_nd_603 rfl
  have hPc := hCu.1
  have hDc := hCu.2.1
  have hFc := hCu.2.2
  have hKc := hK.sb (tys2 := []) [] rfl
  refine va_calli (va_runV (As := []) (rest := []) ⟨hx, hb, hml, hown, hts⟩ (s_fails10x l dC dI jM (v0 : Value) (v1 : Value) (v2 : Value) (v3 : Value) (v6 : Value) (v7 : Value) (v8 : Value) (.int 6 : Value) (v14 : Value) (v15 : Value) (v18 : Value) (v19 : Value) (v20 : Value) (v21 : Value) (v22 : Value) (v23 : Value) (v24 : Value) (v25 : Value) (v26 : Value) (v27 : Value) (v28 : Value) (v29 : Value) (v30 : Value) (v31 : Value) (v32 : Value) (v33 : Value) (v34 : Value) (v35 : Value) (v36 : Value) (v37 : Value) (v38 : Value) (v39 : Value) (v40 : Value) (v41 : Value) (v42 : Value) (v43 : Value) (v44 : Value) (v45 : Value) (v46 : Value) (v47 : Value) (v48 : Value) (v49 : Value) (v50 : Value) (v51 : Value) lt q6 q7 tx be en a ha hen s.heap.size) (cwV 0 hts (kG (List.forall_mem_cons.mpr ⟨(List.mem_cons_of_mem _ (List.mem_append_left _ (List.mem_of_getElem? (i := 4) rfl))), (List.forall_mem_cons.mpr ⟨(List.mem_cons_of_mem _ (List.mem_append_left _ (List.mem_of_getElem? (i := 3) rfl))), (List.forall_mem_cons.mpr ⟨(List.mem_cons_of_mem _ (List.mem_append_left _ (List.mem_of_getElem? (i := 2) rfl))), (List.forall_mem_cons.mpr ⟨(List.mem_cons_of_mem _ (List.mem_append_left _ (List.mem_of_getElem? (i := 1) rfl))), (fun _ h => absurd h List.not_mem_nil)⟩)⟩)⟩)⟩) (kGV _ _ _ _) (fun _ h => List.mem_cons_of_mem _ (List.mem_append_right _ (List.mem_append_right _ h))) gw_s_fails10x) rfl rfl rfl ⟨rfl, hd_X10_fails⟩ ⟨(Nat.le_of_ble_eq_true rfl), (Nat.le_of_ble_eq_true rfl)⟩) (kW_V kT_blind kT_give (va_recv hKc hPc (ci := 10) (q0 := 0) rfl rfl) hPc hKc hDc) rfl rfl hl.1 rfl (lv_room (Nat.le_of_ble_eq_true rfl)) dX10_goesIn_10 ⟨(Nat.le_of_ble_eq_true rfl), (Nat.le_of_ble_eq_true rfl)⟩) hS (fun q _ h => hFc q h) hFc (fun r_2 _ t H_3 locs ht hvm hw hB hz1 hk1 hS => ?_)
  try dsimp only at hw
  have hPD : kPD dC dI A [(jM, .inr (10, [(v0 : Value), (v1 : Value), (v2 : Value), (v3 : Value), .ref lt, .ref tx, (v6 : Value), (v7 : Value), (v8 : Value), .int (nI (be)), .int (nI (en)), .int (nI (a)), .int (nI (a)), .int 6, (v14 : Value), (v15 : Value), .ref q6, .ref q7, (v18 : Value), (v19 : Value), (v20 : Value), (v21 : Value), (v22 : Value), (v23 : Value), (v24 : Value), (v25 : Value), (v26 : Value), (v27 : Value), (v28 : Value), (v29 : Value), (v30 : Value), (v31 : Value), (v32 : Value), (v33 : Value), (v34 : Value), (v35 : Value), (v36 : Value), (v37 : Value), (v38 : Value), (v39 : Value), (v40 : Value), (v41 : Value), (v42 : Value), (v43 : Value), (v44 : Value), (v45 : Value), (v46 : Value), (v47 : Value), (v48 : Value), (v49 : Value), (v50 : Value), (v51 : Value)]))] H_3 := kJoinX hP hD [0] rfl hk1 hFc hB.1 ht hB.2.2 rfl [some 0] rfl rfl
  obtain ⟨hP, hD⟩ := hPD
  obtain rfl : r_2 = 0 := hw
  have hP9 := hP
  have hD9 := hD
  have hK9 := hK
  rw [hQ]
  exact W.zret (v := 0) hx hb hr rfl (fun t ht hW => ⟨⟨0, (), rfl, rfl,  by rw [ht]; exact hP9, va_K.moved hW.alike hK9, hD9⟩, hS.F ht⟩) hS.2.2 dX10_goesIn_13

def w_s_takes10x_58 : List Cond := .code yX10_takes cX10_takes 2 (some .boolean) :: ([.fieldLink RX10 150 "NotEndedModel" "fault" "I", .initialized RX10, .selects RX10 yX10_look yX10_look, .instanceMethod yX10_look, .methodLink RX10 160 yX10_look, .fieldLink RX10 141 "NotEndedModel" "at" "I", .selects RX10 yX10_fails yX10_fails, .instanceMethod yX10_fails, .methodLink RX10 156 yX10_fails] ++ (wsX100 ++ (w_s_look10x ++ (w_s_fails10x))))
theorem gw_s_takes10x_58 : (w_s_takes10x_58).all goodWord = true := kGc rfl (kGa (by decide +kernel) (kGa gw_wsX100 (kGa gw_s_look10x gw_s_fails10x)))
set_option maxHeartbeats 4000000 in
set_option maxRecDepth 100000 in
theorem s_takes10x_58 (l : Launch) (dC : Nat → ClassId) (dI : Nat → Nat → Nat) (jM : Nat) (v0 : Value) (v1 : Value) (v2 : Value) (v3 : Value) (v6 : Value) (v7 : Value) (v8 : Value) (v13 : Value) (v14 : Value) (v15 : Value) (v18 : Value) (v19 : Value) (v20 : Value) (v21 : Value) (v22 : Value) (v23 : Value) (v24 : Value) (v25 : Value) (v26 : Value) (v27 : Value) (v28 : Value) (v29 : Value) (v30 : Value) (v31 : Value) (v32 : Value) (v33 : Value) (v34 : Value) (v35 : Value) (v36 : Value) (v37 : Value) (v38 : Value) (v39 : Value) (v40 : Value) (v41 : Value) (v42 : Value) (v43 : Value) (v44 : Value) (v45 : Value) (v46 : Value) (v47 : Value) (v48 : Value) (v49 : Value) (v50 : Value) (v51 : Value) (lt : Nat) (q6 : Nat) (q7 : Nat) (tx : Nat) (cT : ClassId) (nT : Nat) (gT : Nat → Int32) (be : Nat) (en : Nat) (a : Nat) (hbe : be + en ≤ nT) (hnT : nT ≤ 1680) (ha : a ≤ en) (bt : Nat → Nat) (hbr : ∀ j : Nat, j < en → gT (be + j) = kSg (bt j)) (hb8 : ∀ j : Nat, bt j < 256) (hb1 : ∀ j : Nat, j < en → 1 ≤ bt j) (hen9 : en ≤ 120) (sz : Nat) : Met l yX10_takes w_s_takes10x_58 ({ frames := 2, cells := 0, slots := 0, locals := 120 }) (kW dC dI [.ref jM, .int 58] [(jM, .inr (10, [v0, v1, v2, v3, .ref lt, .ref tx, v6, v7, v8, .int (nI (be)), .int (nI (en)), .int (nI (a)), .int (-1), v13, v14, v15, .ref q6, .ref q7, v18, v19, v20, v21, v22, v23, v24, v25, v26, v27, v28, v29, v30, v31, v32, v33, v34, v35, v36, v37, v38, v39, v40, v41, v42, v43, v44, v45, v46, v47, v48, v49, v50, v51])), (tx, .inl (cT, nT, .inl gT))] [(cT, .byte)] kT sz) (va_Qi (fun (r : Int32) (u : Nat × Int32 × Bool) => match u with | (a1, xf, xo) => (r = kBo xo ∧ kTk bt en 58 a [] = (xo, a1, []) ∧ a ≤ a1 ∧ a1 ≤ en ∧ (xo = true → xf = -1 ∧ a < a1) ∧ (xo = false → xf = nI a1))) (fun (u : Nat × Int32 × Bool) => match u with | (a1, xf, xo) => fun t : State => kB dC dI [(jM, .inr (10, [v0, v1, v2, v3, .ref lt, .ref tx, v6, v7, v8, .int (nI (be)), .int (nI (en)), .int (nI (a1)), .int xf, v13, v14, v15, .ref q6, .ref q7, v18, v19, v20, v21, v22, v23, v24, v25, v26, v27, v28, v29, v30, v31, v32, v33, v34, v35, v36, v37, v38, v39, v40, v41, v42, v43, v44, v45, v46, v47, v48, v49, v50, v51])), (tx, .inl (cT, nT, .inl gT))] [(cT, .byte)] (va_A [(jM, .inr (10, [v0, v1, v2, v3, .ref lt, .ref tx, v6, v7, v8, .int (nI (be)), .int (nI (en)), .int (nI (a)), .int (-1), v13, v14, v15, .ref q6, .ref q7, v18, v19, v20, v21, v22, v23, v24, v25, v26, v27, v28, v29, v30, v31, v32, v33, v34, v35, v36, v37, v38, v39, v40, v41, v42, v43, v44, v45, v46, v47, v48, v49, v50, v51])), (tx, .inl (cT, nT, .inl gT))] sz) t) (va_A [(jM, .inr (10, [v0, v1, v2, v3, .ref lt, .ref tx, v6, v7, v8, .int (nI (be)), .int (nI (en)), .int (nI (a)), .int (-1), v13, v14, v15, .ref q6, .ref q7, v18, v19, v20, v21, v22, v23, v24, v25, v26, v27, v28, v29, v30, v31, v32, v33, v34, v35, v36, v37, v38, v39, v40, v41, v42, v43, v44, v45, v46, v47, v48, v49, v50, v51])), (tx, .inl (cT, nT, .inl gT))] sz)) 0 0 (va_A [(jM, .inr (10, [v0, v1, v2, v3, .ref lt, .ref tx, v6, v7, v8, .int (nI (be)), .int (nI (en)), .int (nI (a)), .int (-1), v13, v14, v15, .ref q6, .ref q7, v18, v19, v20, v21, v22, v23, v24, v25, v26, v27, v28, v29, v30, v31, v32, v33, v34, v35, v36, v37, v38, v39, v40, v41, v42, v43, v44, v45, v46, v47, v48, v49, v50, v51])), (tx, .inl (cT, nT, .inl gT))] sz) := by
  refine Met.ofW (cc := cX10_takes) (maxL := 2) (ret := (some .boolean)) (by decide) rfl ?_
  intro p e s m args below meth c s₁ B hml hv
  obtain ⟨rfl, hsz, hP, hK, hD0, hX⟩ := hv
  have hx := B.exec
  have hb := B.bytes
  have hr := B.returns
  have hts := atoms_spec (ws := w_s_takes10x_58) B.pre
  have hown : s.vm.findClass RX10 = some m.cls := findClass_of_methodNamed B.named
  have hlocks := B.notSynchronized
  subst hsz
  have hD := hD0.self (sz := s.heap.size)
  generalize hAe : va_A [(jM, .inr (10, [v0, v1, v2, v3, .ref lt, .ref tx, v6, v7, v8, .int (nI (be)), .int (nI (en)), .int (nI (a)), .int (-1), v13, v14, v15, .ref q6, .ref q7, v18, v19, v20, v21, v22, v23, v24, v25, v26, v27, v28, v29, v30, v31, v32, v33, v34, v35, v36, v37, v38, v39, v40, v41, v42, v43, v44, v45, v46, v47, v48, v49, v50, v51])), (tx, .inl (cT, nT, .inl gT))] s.heap.size = A at hD ⊢
  have hA : ∀ q : Nat, s.heap.size ≤ q → A q := fun q h => by rw [← hAe]; exact Or.inr h
  have hS : va_S A s.heap s.heap [] := va_S.rf
  have hP : va_P (dC, dI) vwCl [(jM, .inr (10, [v0, v1, v2, v3, .ref lt, .ref tx, v6, v7, v8, .int (nI (be)), .int (nI (en)), .int (nI (a)), .int (-1), v13, v14, v15, .ref q6, .ref q7, v18, v19, v20, v21, v22, v23, v24, v25, v26, v27, v28, v29, v30, v31, v32, v33, v34, v35, v36, v37, v38, v39, v40, v41, v42, v43, v44, v45, v46, v47, v48, v49, v50, v51])), (tx, .inl (cT, nT, .inl gT))] s.heap := hP
  have hl := lv_entry ([.ref jM, .int 58]) (n := 2) (Nat.le_of_ble_eq_true rfl)
  rw [lg_entry_eq]
  generalize (lg_sl ([.ref jM, .int 58]) ++ List.replicate (2 - (lg_sl ([.ref jM, .int 58])).length) Slot.unset).toArray = ls at hl ⊢
  have hl : lv_has ls 2 [(0, .ref jM), (1, .int 58)] := hl
  refine kQ (fun Q hQ => ?_)
  refine lv_aload_n hx hb dX10_takes_0 rfl (lv_at hl 0 rfl) ?_
  refine va_get (D := (dC, dI)) (ci := 10) (v := .int (-1)) (C := RX10) (T := TX10) (N := 52) hx hb hts (fun _ h => List.mem_cons_of_mem _ (List.mem_append_right _ (List.mem_append_left _ h))) hown hK hP 0 rfl rfl 12 kc_l_12_52 (hts (.fieldLink RX10 150 "NotEndedModel" "fault" "I") (List.mem_cons_of_mem _ (List.mem_append_left _ (List.mem_of_getElem? (i := 0) rfl)))) (fun _ h9 => h9) rfl dX10_takes_1 ?_
  refine lv_iconst (v := (-1)) hx hb dX10_takes_4 kc_i_m1 ?_
  refine lv_icmp_ne (tgt := 16) hx hb dX10_takes_5 kc_t_5_11 (fun c_1 => absurd (by decide) c_1) (fun c_1 => ?_)
  refine lv_aload_n hx hb dX10_takes_8 rfl (lv_at hl 0 rfl) ?_
  have bd_2 : be + en ≤ nT := by omega
  have hCu := kCut (wc := [(jM, .inr (10, [v0, v1, v2, v3, .ref lt, .ref tx, v6, v7, v8, .int (nI (be)), .int (nI (en)), .int (nI (a)), .int (-1), v13, v14, v15, .ref q6, .ref q7, v18, v19, v20, v21, v22, v23, v24, v25, v26, v27, v28, v29, v30, v31, v32, v33, v34, v35, v36, v37, v38, v39, v40, v41, v42, v43, v44, v45, v46, v47, v48, v49, v50, v51])), (tx, .inl (cT, nT, .inl gT))]) hP hD hS hA [0, 1] rfl kc_nd_434 rfl
  have hPc := hCu.1
  have hDc := hCu.2.1
  have hFc := hCu.2.2
  have hKc := hK.sb (tys2 := [(cT, .byte)]) [0] rfl
  refine va_calli (va_runV (As := []) (rest := []) ⟨hx, hb, hml, hown, hts⟩ (s_look10x l dC dI jM (v0 : Value) (v1 : Value) (v2 : Value) (v3 : Value) (v6 : Value) (v7 : Value) (v8 : Value) (.int (-1) : Value) (v13 : Value) (v14 : Value) (v15 : Value) (v18 : Value) (v19 : Value) (v20 : Value) (v21 : Value) (v22 : Value) (v23 : Value) (v24 : Value) (v25 : Value) (v26 : Value) (v27 : Value) (v28 : Value) (v29 : Value) (v30 : Value) (v31 : Value) (v32 : Value) (v33 : Value) (v34 : Value) (v35 : Value) (v36 : Value) (v37 : Value) (v38 : Value) (v39 : Value) (v40 : Value) (v41 : Value) (v42 : Value) (v43 : Value) (v44 : Value) (v45 : Value) (v46 : Value) (v47 : Value) (v48 : Value) (v49 : Value) (v50 : Value) (v51 : Value) lt q6 q7 tx cT nT gT be en a bd_2 hnT ha bt hbr hb8 hb1 hen9 s.heap.size) (cwV 0 hts (kG (List.forall_mem_cons.mpr ⟨(List.mem_cons_of_mem _ (List.mem_append_left _ (List.mem_of_getElem? (i := 4) rfl))), (List.forall_mem_cons.mpr ⟨(List.mem_cons_of_mem _ (List.mem_append_left _ (List.mem_of_getElem? (i := 3) rfl))), (List.forall_mem_cons.mpr ⟨(List.mem_cons_of_mem _ (List.mem_append_left _ (List.mem_of_getElem? (i := 2) rfl))), (List.forall_mem_cons.mpr ⟨(List.mem_cons_of_mem _ (List.mem_append_left _ (List.mem_of_getElem? (i := 1) rfl))), (fun _ h => absurd h List.not_mem_nil)⟩)⟩)⟩)⟩) (kGV _ _ _ _) (fun _ h => List.mem_cons_of_mem _ (List.mem_append_right _ (List.mem_append_right _ (List.mem_append_left _ h)))) gw_s_look10x) rfl rfl rfl ⟨rfl, hd_X10_look⟩ ⟨(Nat.le_of_ble_eq_true rfl), (Nat.le_of_ble_eq_true rfl)⟩) (kW_V kT_blind kT_give (va_recv hKc hPc (ci := 10) (q0 := 0) rfl rfl) hPc hKc hDc) rfl rfl hl.1 rfl (lv_room (Nat.le_of_ble_eq_true rfl)) dX10_takes_9 ⟨(Nat.le_of_ble_eq_true rfl), (Nat.le_of_ble_eq_true rfl)⟩) hS (fun q _ h => hFc q h) hFc (fun r_3 => kU2 (fun a1_4 ch_5 t H_6 locs ht hvm hw hB hz1 hk1 hS => ?_))
  try dsimp only at hw
  have hPD : kPD dC dI A [(jM, .inr (10, [(v0 : Value), (v1 : Value), (v2 : Value), (v3 : Value), .ref lt, .ref tx, (v6 : Value), (v7 : Value), (v8 : Value), .int (nI (be)), .int (nI (en)), .int (nI (a1_4)), .int (-1), (v13 : Value), (v14 : Value), (v15 : Value), .ref q6, .ref q7, (v18 : Value), (v19 : Value), (v20 : Value), (v21 : Value), (v22 : Value), (v23 : Value), (v24 : Value), (v25 : Value), (v26 : Value), (v27 : Value), (v28 : Value), (v29 : Value), (v30 : Value), (v31 : Value), (v32 : Value), (v33 : Value), (v34 : Value), (v35 : Value), (v36 : Value), (v37 : Value), (v38 : Value), (v39 : Value), (v40 : Value), (v41 : Value), (v42 : Value), (v43 : Value), (v44 : Value), (v45 : Value), (v46 : Value), (v47 : Value), (v48 : Value), (v49 : Value), (v50 : Value), (v51 : Value)])), (tx, .inl (cT, nT, .inl gT))] H_6 := kJoinX hP hD [0, 1] rfl hk1 hFc hB.1 ht hB.2.2 rfl [some 0, some 1] rfl rfl
  obtain ⟨hP, hD⟩ := hPD
  have hw_7 := hw
  have hw_7_0 := hw_7.1
  have hw_7_1 := hw_7.2.1
  have hw_7_2 := hw_7.2.2.1
  have hw_7_3 := hw_7.2.2.2.1
  have hw_7_4 := hw_7.2.2.2.2.1
  have hw_7_5 := hw_7.2.2.2.2.2.1
  have hw_7_6 := hw_7.2.2.2.2.2.2.1
  have hw_7_7 := hw_7.2.2.2.2.2.2.2
  clear hw_7
  refine lv_iload_n hx hb dX10_takes_12 rfl (lv_at hl 1 rfl) ?_
  refine lv_icmp_eq (tgt := 21) hx hb dX10_takes_13 kc_t_13_8 (fun c_8 => ?_) (fun c_8 => ?_)
  · have hk_9 := kLr_e hw_7_0 (by omega) (k := 58) (by decide) c_8
    refine lv_aload_n hx hb dX10_takes_21 rfl (lv_at hl 0 rfl) ?_
    refine lv_dup hx hb dX10_takes_22 rfl ?_
    refine va_get (D := (dC, dI)) (ci := 10) (v := .int (nI (a1_4))) (C := RX10) (T := TX10) (N := 52) hx hb hts (fun _ h => List.mem_cons_of_mem _ (List.mem_append_right _ (List.mem_append_left _ h))) hown hK hP 0 rfl rfl 11 kc_l_11_52 (hts (.fieldLink RX10 141 "NotEndedModel" "at" "I") (List.mem_cons_of_mem _ (List.mem_append_left _ (List.mem_of_getElem? (i := 5) rfl)))) (fun _ h9 => h9) rfl dX10_takes_23 ?_
    refine lv_iconst (v := 1) hx hb dX10_takes_26 kc_i_1 ?_
    refine lv_iadd hx hb dX10_takes_27 ?_
    refine lv_topi (fun y_10 ey_10 => ?_)
    obtain rfl : y_10 = nI (a1_4 + 1) := ey_10.trans (nI_add (a1_4) (1))
    refine va_put (D := (dC, dI)) (ci := 10) (v := .int (nI (a1_4 + 1))) (ty := tyX10 11) (C := RX10) (T := TX10) (N := 52) hx hb hts (fun _ h => List.mem_cons_of_mem _ (List.mem_append_right _ (List.mem_append_left _ h))) tyX10 tyX10_ok nmX10 hown hK hP hD hS 0 rfl rfl 11 kc_l_11_52 (hts (.fieldLink RX10 141 "NotEndedModel" "at" "I") (List.mem_cons_of_mem _ (List.mem_append_left _ (List.mem_of_getElem? (i := 5) rfl)))) (fun _ h9 => h9) rfl (tyX10_ok 11 kc_l_11_52) rfl rfl (Nat.le_of_ble_eq_true rfl) dX10_takes_28 (fun H locs hP hD hS => ?_)
    have hPD : kPD dC dI A [(jM, .inr (10, [(v0 : Value), (v1 : Value), (v2 : Value), (v3 : Value), .ref lt, .ref tx, (v6 : Value), (v7 : Value), (v8 : Value), .int (nI (be)), .int (nI (en)), .int (nI (a1_4 + 1)), .int (-1), (v13 : Value), (v14 : Value), (v15 : Value), .ref q6, .ref q7, (v18 : Value), (v19 : Value), (v20 : Value), (v21 : Value), (v22 : Value), (v23 : Value), (v24 : Value), (v25 : Value), (v26 : Value), (v27 : Value), (v28 : Value), (v29 : Value), (v30 : Value), (v31 : Value), (v32 : Value), (v33 : Value), (v34 : Value), (v35 : Value), (v36 : Value), (v37 : Value), (v38 : Value), (v39 : Value), (v40 : Value), (v41 : Value), (v42 : Value), (v43 : Value), (v44 : Value), (v45 : Value), (v46 : Value), (v47 : Value), (v48 : Value), (v49 : Value), (v50 : Value), (v51 : Value)])), (tx, .inl (cT, nT, .inl gT))] H := ⟨hP, hD⟩
    obtain ⟨hP, hD⟩ := hPD
    refine lv_iconst (v := 1) hx hb dX10_takes_31 kc_i_1 ?_
    have hP9 := hP
    have hD9 := hD
    have hK9 := hK
    rw [hQ]
    exact W.zret (v := 1) hx hb hr rfl (fun t ht hW => ⟨⟨1, ((a1_4 + 1), (-1), true), rfl, ⟨rfl, by unfold kTk; rw [← hw_7_1, ← hw_7_2, if_pos (by omega)], by omega, by omega, fun _ => ⟨rfl, by omega⟩, fun z9 => absurd z9 (by decide)⟩,  by rw [ht]; exact hP9, va_K.moved hW.alike hK9, hD9⟩, hS.F ht⟩) hS.2.2 dX10_takes_32
  · have hk_11 := kLr_n hw_7_0 (by omega) (k := 58) (by decide) c_8
    refine lv_aload_n hx hb dX10_takes_16 rfl (lv_at hl 0 rfl) ?_
    have bd_12 : a1_4 ≤ en := by omega
    have bd_13 : en ≤ 1680 := by omega
    have hCu := kCut (wc := [(jM, .inr (10, [(v0 : Value), (v1 : Value), (v2 : Value), (v3 : Value), .ref lt, .ref tx, (v6 : Value), (v7 : Value), (v8 : Value), .int (nI (be)), .int (nI (en)), .int (nI (a1_4)), .int (-1), (v13 : Value), (v14 : Value), (v15 : Value), .ref q6, .ref q7, (v18 : Value), (v19 : Value), (v20 : Value), (v21 : Value), (v22 : Value), (v23 : Value), (v24 : Value), (v25 : Value), (v26 : Value), (v27 : Value), (v28 : Value), (v29 : Value), (v30 : Value), (v31 : Value), (v32 : Value), (v33 : Value), (v34 : Value), (v35 : Value), (v36 : Value), (v37 : Value), (v38 : Value), (v39 : Value), (v40 : Value), (v41 : Value), (v42 : Value), (v43 : Value), (v44 : Value), (v45 : Value), (v46 : Value), (v47 : Value), (v48 : Value), (v49 : Value), (v50 : Value), (v51 : Value)]))]) hP hD hS hA [0] rfl kc_nd_603 rfl
    have hPc := hCu.1
    have hDc := hCu.2.1
    have hFc := hCu.2.2
    have hKc := hK.sb (tys2 := []) [] rfl
    refine va_calli (va_runV (As := []) (rest := []) ⟨hx, hb, hml, hown, hts⟩ (s_fails10x l dC dI jM ((v0 : Value) : Value) ((v1 : Value) : Value) ((v2 : Value) : Value) ((v3 : Value) : Value) ((v6 : Value) : Value) ((v7 : Value) : Value) ((v8 : Value) : Value) ((v13 : Value) : Value) ((v14 : Value) : Value) ((v15 : Value) : Value) ((v18 : Value) : Value) ((v19 : Value) : Value) ((v20 : Value) : Value) ((v21 : Value) : Value) ((v22 : Value) : Value) ((v23 : Value) : Value) ((v24 : Value) : Value) ((v25 : Value) : Value) ((v26 : Value) : Value) ((v27 : Value) : Value) ((v28 : Value) : Value) ((v29 : Value) : Value) ((v30 : Value) : Value) ((v31 : Value) : Value) ((v32 : Value) : Value) ((v33 : Value) : Value) ((v34 : Value) : Value) ((v35 : Value) : Value) ((v36 : Value) : Value) ((v37 : Value) : Value) ((v38 : Value) : Value) ((v39 : Value) : Value) ((v40 : Value) : Value) ((v41 : Value) : Value) ((v42 : Value) : Value) ((v43 : Value) : Value) ((v44 : Value) : Value) ((v45 : Value) : Value) ((v46 : Value) : Value) ((v47 : Value) : Value) ((v48 : Value) : Value) ((v49 : Value) : Value) ((v50 : Value) : Value) ((v51 : Value) : Value) lt q6 q7 tx be en a1_4 bd_12 bd_13 H_6.size) (cwV 0 hts (kG (List.forall_mem_cons.mpr ⟨(List.mem_cons_of_mem _ (List.mem_append_left _ (List.mem_of_getElem? (i := 8) rfl))), (List.forall_mem_cons.mpr ⟨(List.mem_cons_of_mem _ (List.mem_append_left _ (List.mem_of_getElem? (i := 7) rfl))), (List.forall_mem_cons.mpr ⟨(List.mem_cons_of_mem _ (List.mem_append_left _ (List.mem_of_getElem? (i := 6) rfl))), (List.forall_mem_cons.mpr ⟨(List.mem_cons_of_mem _ (List.mem_append_left _ (List.mem_of_getElem? (i := 1) rfl))), (fun _ h => absurd h List.not_mem_nil)⟩)⟩)⟩)⟩) (kGV _ _ _ _) (fun _ h => List.mem_cons_of_mem _ (List.mem_append_right _ (List.mem_append_right _ (List.mem_append_right _ h)))) gw_s_fails10x) rfl rfl rfl ⟨rfl, hd_X10_fails⟩ ⟨(Nat.le_of_ble_eq_true rfl), (Nat.le_of_ble_eq_true rfl)⟩) (kW_V kT_blind kT_give (va_recv hKc hPc (ci := 10) (q0 := 0) rfl rfl) hPc hKc hDc) rfl rfl hl.1 rfl (lv_room (Nat.le_of_ble_eq_true rfl)) dX10_takes_17 ⟨(Nat.le_of_ble_eq_true rfl), (Nat.le_of_ble_eq_true rfl)⟩) hS (fun q _ h => hFc q h) hFc (fun r_14 _ t H_15 locs ht hvm hw hB hz1 hk1 hS => ?_)
    try dsimp only at hw
    have hPD : kPD dC dI A [(jM, .inr (10, [((v0 : Value) : Value), ((v1 : Value) : Value), ((v2 : Value) : Value), ((v3 : Value) : Value), .ref lt, .ref tx, ((v6 : Value) : Value), ((v7 : Value) : Value), ((v8 : Value) : Value), .int (nI (be)), .int (nI (en)), .int (nI (a1_4)), .int (nI (a1_4)), ((v13 : Value) : Value), ((v14 : Value) : Value), ((v15 : Value) : Value), .ref q6, .ref q7, ((v18 : Value) : Value), ((v19 : Value) : Value), ((v20 : Value) : Value), ((v21 : Value) : Value), ((v22 : Value) : Value), ((v23 : Value) : Value), ((v24 : Value) : Value), ((v25 : Value) : Value), ((v26 : Value) : Value), ((v27 : Value) : Value), ((v28 : Value) : Value), ((v29 : Value) : Value), ((v30 : Value) : Value), ((v31 : Value) : Value), ((v32 : Value) : Value), ((v33 : Value) : Value), ((v34 : Value) : Value), ((v35 : Value) : Value), ((v36 : Value) : Value), ((v37 : Value) : Value), ((v38 : Value) : Value), ((v39 : Value) : Value), ((v40 : Value) : Value), ((v41 : Value) : Value), ((v42 : Value) : Value), ((v43 : Value) : Value), ((v44 : Value) : Value), ((v45 : Value) : Value), ((v46 : Value) : Value), ((v47 : Value) : Value), ((v48 : Value) : Value), ((v49 : Value) : Value), ((v50 : Value) : Value), ((v51 : Value) : Value)])), (tx, .inl (cT, nT, .inl gT))] H_15 := kJoinX hP hD [0] rfl hk1 hFc hB.1 ht hB.2.2 rfl [some 0, none] rfl rfl
    obtain ⟨hP, hD⟩ := hPD
    obtain rfl : r_14 = 0 := hw
    have hP9 := hP
    have hD9 := hD
    have hK9 := hK
    rw [hQ]
    exact W.zret (v := 0) hx hb hr rfl (fun t ht hW => ⟨⟨0, (a1_4, (nI (a1_4)), false), rfl, ⟨rfl, by unfold kTk; rw [← hw_7_1, ← hw_7_2, if_neg (by omega)], by omega, by omega, fun z9 => absurd z9 (by decide), fun _ => rfl⟩,  by rw [ht]; exact hP9, va_K.moved hW.alike hK9, hD9⟩, hS.F ht⟩) hS.2.2 dX10_takes_20

def w_s_takes10x_63 : List Cond := .code yX10_takes cX10_takes 2 (some .boolean) :: ([.fieldLink RX10 150 "NotEndedModel" "fault" "I", .initialized RX10, .selects RX10 yX10_look yX10_look, .instanceMethod yX10_look, .methodLink RX10 160 yX10_look, .fieldLink RX10 141 "NotEndedModel" "at" "I", .selects RX10 yX10_fails yX10_fails, .instanceMethod yX10_fails, .methodLink RX10 156 yX10_fails] ++ (wsX100 ++ (w_s_look10x ++ (w_s_fails10x))))
theorem gw_s_takes10x_63 : (w_s_takes10x_63).all goodWord = true := kGc rfl (kGa (by decide +kernel) (kGa gw_wsX100 (kGa gw_s_look10x gw_s_fails10x)))
set_option maxHeartbeats 4000000 in
set_option maxRecDepth 100000 in
theorem s_takes10x_63 (l : Launch) (dC : Nat → ClassId) (dI : Nat → Nat → Nat) (jM : Nat) (v0 : Value) (v1 : Value) (v2 : Value) (v3 : Value) (v6 : Value) (v7 : Value) (v8 : Value) (v13 : Value) (v14 : Value) (v15 : Value) (v18 : Value) (v19 : Value) (v20 : Value) (v21 : Value) (v22 : Value) (v23 : Value) (v24 : Value) (v25 : Value) (v26 : Value) (v27 : Value) (v28 : Value) (v29 : Value) (v30 : Value) (v31 : Value) (v32 : Value) (v33 : Value) (v34 : Value) (v35 : Value) (v36 : Value) (v37 : Value) (v38 : Value) (v39 : Value) (v40 : Value) (v41 : Value) (v42 : Value) (v43 : Value) (v44 : Value) (v45 : Value) (v46 : Value) (v47 : Value) (v48 : Value) (v49 : Value) (v50 : Value) (v51 : Value) (lt : Nat) (q6 : Nat) (q7 : Nat) (tx : Nat) (cT : ClassId) (nT : Nat) (gT : Nat → Int32) (be : Nat) (en : Nat) (a : Nat) (hbe : be + en ≤ nT) (hnT : nT ≤ 1680) (ha : a ≤ en) (bt : Nat → Nat) (hbr : ∀ j : Nat, j < en → gT (be + j) = kSg (bt j)) (hb8 : ∀ j : Nat, bt j < 256) (hb1 : ∀ j : Nat, j < en → 1 ≤ bt j) (hen9 : en ≤ 120) (sz : Nat) : Met l yX10_takes w_s_takes10x_63 ({ frames := 2, cells := 0, slots := 0, locals := 120 }) (kW dC dI [.ref jM, .int 63] [(jM, .inr (10, [v0, v1, v2, v3, .ref lt, .ref tx, v6, v7, v8, .int (nI (be)), .int (nI (en)), .int (nI (a)), .int (-1), v13, v14, v15, .ref q6, .ref q7, v18, v19, v20, v21, v22, v23, v24, v25, v26, v27, v28, v29, v30, v31, v32, v33, v34, v35, v36, v37, v38, v39, v40, v41, v42, v43, v44, v45, v46, v47, v48, v49, v50, v51])), (tx, .inl (cT, nT, .inl gT))] [(cT, .byte)] kT sz) (va_Qi (fun (r : Int32) (u : Nat × Int32 × Bool) => match u with | (a1, xf, xo) => (r = kBo xo ∧ kTk bt en 63 a [] = (xo, a1, []) ∧ a ≤ a1 ∧ a1 ≤ en ∧ (xo = true → xf = -1 ∧ a < a1) ∧ (xo = false → xf = nI a1))) (fun (u : Nat × Int32 × Bool) => match u with | (a1, xf, xo) => fun t : State => kB dC dI [(jM, .inr (10, [v0, v1, v2, v3, .ref lt, .ref tx, v6, v7, v8, .int (nI (be)), .int (nI (en)), .int (nI (a1)), .int xf, v13, v14, v15, .ref q6, .ref q7, v18, v19, v20, v21, v22, v23, v24, v25, v26, v27, v28, v29, v30, v31, v32, v33, v34, v35, v36, v37, v38, v39, v40, v41, v42, v43, v44, v45, v46, v47, v48, v49, v50, v51])), (tx, .inl (cT, nT, .inl gT))] [(cT, .byte)] (va_A [(jM, .inr (10, [v0, v1, v2, v3, .ref lt, .ref tx, v6, v7, v8, .int (nI (be)), .int (nI (en)), .int (nI (a)), .int (-1), v13, v14, v15, .ref q6, .ref q7, v18, v19, v20, v21, v22, v23, v24, v25, v26, v27, v28, v29, v30, v31, v32, v33, v34, v35, v36, v37, v38, v39, v40, v41, v42, v43, v44, v45, v46, v47, v48, v49, v50, v51])), (tx, .inl (cT, nT, .inl gT))] sz) t) (va_A [(jM, .inr (10, [v0, v1, v2, v3, .ref lt, .ref tx, v6, v7, v8, .int (nI (be)), .int (nI (en)), .int (nI (a)), .int (-1), v13, v14, v15, .ref q6, .ref q7, v18, v19, v20, v21, v22, v23, v24, v25, v26, v27, v28, v29, v30, v31, v32, v33, v34, v35, v36, v37, v38, v39, v40, v41, v42, v43, v44, v45, v46, v47, v48, v49, v50, v51])), (tx, .inl (cT, nT, .inl gT))] sz)) 0 0 (va_A [(jM, .inr (10, [v0, v1, v2, v3, .ref lt, .ref tx, v6, v7, v8, .int (nI (be)), .int (nI (en)), .int (nI (a)), .int (-1), v13, v14, v15, .ref q6, .ref q7, v18, v19, v20, v21, v22, v23, v24, v25, v26, v27, v28, v29, v30, v31, v32, v33, v34, v35, v36, v37, v38, v39, v40, v41, v42, v43, v44, v45, v46, v47, v48, v49, v50, v51])), (tx, .inl (cT, nT, .inl gT))] sz) := by
  refine Met.ofW (cc := cX10_takes) (maxL := 2) (ret := (some .boolean)) (by decide) rfl ?_
  intro p e s m args below meth c s₁ B hml hv
  obtain ⟨rfl, hsz, hP, hK, hD0, hX⟩ := hv
  have hx := B.exec
  have hb := B.bytes
  have hr := B.returns
  have hts := atoms_spec (ws := w_s_takes10x_63) B.pre
  have hown : s.vm.findClass RX10 = some m.cls := findClass_of_methodNamed B.named
  have hlocks := B.notSynchronized
  subst hsz
  have hD := hD0.self (sz := s.heap.size)
  generalize hAe : va_A [(jM, .inr (10, [v0, v1, v2, v3, .ref lt, .ref tx, v6, v7, v8, .int (nI (be)), .int (nI (en)), .int (nI (a)), .int (-1), v13, v14, v15, .ref q6, .ref q7, v18, v19, v20, v21, v22, v23, v24, v25, v26, v27, v28, v29, v30, v31, v32, v33, v34, v35, v36, v37, v38, v39, v40, v41, v42, v43, v44, v45, v46, v47, v48, v49, v50, v51])), (tx, .inl (cT, nT, .inl gT))] s.heap.size = A at hD ⊢
  have hA : ∀ q : Nat, s.heap.size ≤ q → A q := fun q h => by rw [← hAe]; exact Or.inr h
  have hS : va_S A s.heap s.heap [] := va_S.rf
  have hP : va_P (dC, dI) vwCl [(jM, .inr (10, [v0, v1, v2, v3, .ref lt, .ref tx, v6, v7, v8, .int (nI (be)), .int (nI (en)), .int (nI (a)), .int (-1), v13, v14, v15, .ref q6, .ref q7, v18, v19, v20, v21, v22, v23, v24, v25, v26, v27, v28, v29, v30, v31, v32, v33, v34, v35, v36, v37, v38, v39, v40, v41, v42, v43, v44, v45, v46, v47, v48, v49, v50, v51])), (tx, .inl (cT, nT, .inl gT))] s.heap := hP
  have hl := lv_entry ([.ref jM, .int 63]) (n := 2) (Nat.le_of_ble_eq_true rfl)
  rw [lg_entry_eq]
  generalize (lg_sl ([.ref jM, .int 63]) ++ List.replicate (2 - (lg_sl ([.ref jM, .int 63])).length) Slot.unset).toArray = ls at hl ⊢
  have hl : lv_has ls 2 [(0, .ref jM), (1, .int 63)] := hl
  refine kQ (fun Q hQ => ?_)
  refine lv_aload_n hx hb dX10_takes_0 rfl (lv_at hl 0 rfl) ?_
  refine va_get (D := (dC, dI)) (ci := 10) (v := .int (-1)) (C := RX10) (T := TX10) (N := 52) hx hb hts (fun _ h => List.mem_cons_of_mem _ (List.mem_append_right _ (List.mem_append_left _ h))) hown hK hP 0 rfl rfl 12 kc_l_12_52 (hts (.fieldLink RX10 150 "NotEndedModel" "fault" "I") (List.mem_cons_of_mem _ (List.mem_append_left _ (List.mem_of_getElem? (i := 0) rfl)))) (fun _ h9 => h9) rfl dX10_takes_1 ?_
  refine lv_iconst (v := (-1)) hx hb dX10_takes_4 kc_i_m1 ?_
  refine lv_icmp_ne (tgt := 16) hx hb dX10_takes_5 kc_t_5_11 (fun c_1 => absurd (by decide) c_1) (fun c_1 => ?_)
  refine lv_aload_n hx hb dX10_takes_8 rfl (lv_at hl 0 rfl) ?_
  have bd_2 : be + en ≤ nT := by omega
  have hCu := kCut (wc := [(jM, .inr (10, [v0, v1, v2, v3, .ref lt, .ref tx, v6, v7, v8, .int (nI (be)), .int (nI (en)), .int (nI (a)), .int (-1), v13, v14, v15, .ref q6, .ref q7, v18, v19, v20, v21, v22, v23, v24, v25, v26, v27, v28, v29, v30, v31, v32, v33, v34, v35, v36, v37, v38, v39, v40, v41, v42, v43, v44, v45, v46, v47, v48, v49, v50, v51])), (tx, .inl (cT, nT, .inl gT))]) hP hD hS hA [0, 1] rfl kc_nd_434 rfl
  have hPc := hCu.1
  have hDc := hCu.2.1
  have hFc := hCu.2.2
  have hKc := hK.sb (tys2 := [(cT, .byte)]) [0] rfl
  refine va_calli (va_runV (As := []) (rest := []) ⟨hx, hb, hml, hown, hts⟩ (s_look10x l dC dI jM (v0 : Value) (v1 : Value) (v2 : Value) (v3 : Value) (v6 : Value) (v7 : Value) (v8 : Value) (.int (-1) : Value) (v13 : Value) (v14 : Value) (v15 : Value) (v18 : Value) (v19 : Value) (v20 : Value) (v21 : Value) (v22 : Value) (v23 : Value) (v24 : Value) (v25 : Value) (v26 : Value) (v27 : Value) (v28 : Value) (v29 : Value) (v30 : Value) (v31 : Value) (v32 : Value) (v33 : Value) (v34 : Value) (v35 : Value) (v36 : Value) (v37 : Value) (v38 : Value) (v39 : Value) (v40 : Value) (v41 : Value) (v42 : Value) (v43 : Value) (v44 : Value) (v45 : Value) (v46 : Value) (v47 : Value) (v48 : Value) (v49 : Value) (v50 : Value) (v51 : Value) lt q6 q7 tx cT nT gT be en a bd_2 hnT ha bt hbr hb8 hb1 hen9 s.heap.size) (cwV 0 hts (kG (List.forall_mem_cons.mpr ⟨(List.mem_cons_of_mem _ (List.mem_append_left _ (List.mem_of_getElem? (i := 4) rfl))), (List.forall_mem_cons.mpr ⟨(List.mem_cons_of_mem _ (List.mem_append_left _ (List.mem_of_getElem? (i := 3) rfl))), (List.forall_mem_cons.mpr ⟨(List.mem_cons_of_mem _ (List.mem_append_left _ (List.mem_of_getElem? (i := 2) rfl))), (List.forall_mem_cons.mpr ⟨(List.mem_cons_of_mem _ (List.mem_append_left _ (List.mem_of_getElem? (i := 1) rfl))), (fun _ h => absurd h List.not_mem_nil)⟩)⟩)⟩)⟩) (kGV _ _ _ _) (fun _ h => List.mem_cons_of_mem _ (List.mem_append_right _ (List.mem_append_right _ (List.mem_append_left _ h)))) gw_s_look10x) rfl rfl rfl ⟨rfl, hd_X10_look⟩ ⟨(Nat.le_of_ble_eq_true rfl), (Nat.le_of_ble_eq_true rfl)⟩) (kW_V kT_blind kT_give (va_recv hKc hPc (ci := 10) (q0 := 0) rfl rfl) hPc hKc hDc) rfl rfl hl.1 rfl (lv_room (Nat.le_of_ble_eq_true rfl)) dX10_takes_9 ⟨(Nat.le_of_ble_eq_true rfl), (Nat.le_of_ble_eq_true rfl)⟩) hS (fun q _ h => hFc q h) hFc (fun r_3 => kU2 (fun a1_4 ch_5 t H_6 locs ht hvm hw hB hz1 hk1 hS => ?_))
  try dsimp only at hw
  have hPD : kPD dC dI A [(jM, .inr (10, [(v0 : Value), (v1 : Value), (v2 : Value), (v3 : Value), .ref lt, .ref tx, (v6 : Value), (v7 : Value), (v8 : Value), .int (nI (be)), .int (nI (en)), .int (nI (a1_4)), .int (-1), (v13 : Value), (v14 : Value), (v15 : Value), .ref q6, .ref q7, (v18 : Value), (v19 : Value), (v20 : Value), (v21 : Value), (v22 : Value), (v23 : Value), (v24 : Value), (v25 : Value), (v26 : Value), (v27 : Value), (v28 : Value), (v29 : Value), (v30 : Value), (v31 : Value), (v32 : Value), (v33 : Value), (v34 : Value), (v35 : Value), (v36 : Value), (v37 : Value), (v38 : Value), (v39 : Value), (v40 : Value), (v41 : Value), (v42 : Value), (v43 : Value), (v44 : Value), (v45 : Value), (v46 : Value), (v47 : Value), (v48 : Value), (v49 : Value), (v50 : Value), (v51 : Value)])), (tx, .inl (cT, nT, .inl gT))] H_6 := kJoinX hP hD [0, 1] rfl hk1 hFc hB.1 ht hB.2.2 rfl [some 0, some 1] rfl rfl
  obtain ⟨hP, hD⟩ := hPD
  have hw_7 := hw
  have hw_7_0 := hw_7.1
  have hw_7_1 := hw_7.2.1
  have hw_7_2 := hw_7.2.2.1
  have hw_7_3 := hw_7.2.2.2.1
  have hw_7_4 := hw_7.2.2.2.2.1
  have hw_7_5 := hw_7.2.2.2.2.2.1
  have hw_7_6 := hw_7.2.2.2.2.2.2.1
  have hw_7_7 := hw_7.2.2.2.2.2.2.2
  clear hw_7
  refine lv_iload_n hx hb dX10_takes_12 rfl (lv_at hl 1 rfl) ?_
  refine lv_icmp_eq (tgt := 21) hx hb dX10_takes_13 kc_t_13_8 (fun c_8 => ?_) (fun c_8 => ?_)
  · have hk_9 := kLr_e hw_7_0 (by omega) (k := 63) (by decide) c_8
    refine lv_aload_n hx hb dX10_takes_21 rfl (lv_at hl 0 rfl) ?_
    refine lv_dup hx hb dX10_takes_22 rfl ?_
    refine va_get (D := (dC, dI)) (ci := 10) (v := .int (nI (a1_4))) (C := RX10) (T := TX10) (N := 52) hx hb hts (fun _ h => List.mem_cons_of_mem _ (List.mem_append_right _ (List.mem_append_left _ h))) hown hK hP 0 rfl rfl 11 kc_l_11_52 (hts (.fieldLink RX10 141 "NotEndedModel" "at" "I") (List.mem_cons_of_mem _ (List.mem_append_left _ (List.mem_of_getElem? (i := 5) rfl)))) (fun _ h9 => h9) rfl dX10_takes_23 ?_
    refine lv_iconst (v := 1) hx hb dX10_takes_26 kc_i_1 ?_
    refine lv_iadd hx hb dX10_takes_27 ?_
    refine lv_topi (fun y_10 ey_10 => ?_)
    obtain rfl : y_10 = nI (a1_4 + 1) := ey_10.trans (nI_add (a1_4) (1))
    refine va_put (D := (dC, dI)) (ci := 10) (v := .int (nI (a1_4 + 1))) (ty := tyX10 11) (C := RX10) (T := TX10) (N := 52) hx hb hts (fun _ h => List.mem_cons_of_mem _ (List.mem_append_right _ (List.mem_append_left _ h))) tyX10 tyX10_ok nmX10 hown hK hP hD hS 0 rfl rfl 11 kc_l_11_52 (hts (.fieldLink RX10 141 "NotEndedModel" "at" "I") (List.mem_cons_of_mem _ (List.mem_append_left _ (List.mem_of_getElem? (i := 5) rfl)))) (fun _ h9 => h9) rfl (tyX10_ok 11 kc_l_11_52) rfl rfl (Nat.le_of_ble_eq_true rfl) dX10_takes_28 (fun H locs hP hD hS => ?_)
    have hPD : kPD dC dI A [(jM, .inr (10, [(v0 : Value), (v1 : Value), (v2 : Value), (v3 : Value), .ref lt, .ref tx, (v6 : Value), (v7 : Value), (v8 : Value), .int (nI (be)), .int (nI (en)), .int (nI (a1_4 + 1)), .int (-1), (v13 : Value), (v14 : Value), (v15 : Value), .ref q6, .ref q7, (v18 : Value), (v19 : Value), (v20 : Value), (v21 : Value), (v22 : Value), (v23 : Value), (v24 : Value), (v25 : Value), (v26 : Value), (v27 : Value), (v28 : Value), (v29 : Value), (v30 : Value), (v31 : Value), (v32 : Value), (v33 : Value), (v34 : Value), (v35 : Value), (v36 : Value), (v37 : Value), (v38 : Value), (v39 : Value), (v40 : Value), (v41 : Value), (v42 : Value), (v43 : Value), (v44 : Value), (v45 : Value), (v46 : Value), (v47 : Value), (v48 : Value), (v49 : Value), (v50 : Value), (v51 : Value)])), (tx, .inl (cT, nT, .inl gT))] H := ⟨hP, hD⟩
    obtain ⟨hP, hD⟩ := hPD
    refine lv_iconst (v := 1) hx hb dX10_takes_31 kc_i_1 ?_
    have hP9 := hP
    have hD9 := hD
    have hK9 := hK
    rw [hQ]
    exact W.zret (v := 1) hx hb hr rfl (fun t ht hW => ⟨⟨1, ((a1_4 + 1), (-1), true), rfl, ⟨rfl, by unfold kTk; rw [← hw_7_1, ← hw_7_2, if_pos (by omega)], by omega, by omega, fun _ => ⟨rfl, by omega⟩, fun z9 => absurd z9 (by decide)⟩,  by rw [ht]; exact hP9, va_K.moved hW.alike hK9, hD9⟩, hS.F ht⟩) hS.2.2 dX10_takes_32
  · have hk_11 := kLr_n hw_7_0 (by omega) (k := 63) (by decide) c_8
    refine lv_aload_n hx hb dX10_takes_16 rfl (lv_at hl 0 rfl) ?_
    have bd_12 : a1_4 ≤ en := by omega
    have bd_13 : en ≤ 1680 := by omega
    have hCu := kCut (wc := [(jM, .inr (10, [(v0 : Value), (v1 : Value), (v2 : Value), (v3 : Value), .ref lt, .ref tx, (v6 : Value), (v7 : Value), (v8 : Value), .int (nI (be)), .int (nI (en)), .int (nI (a1_4)), .int (-1), (v13 : Value), (v14 : Value), (v15 : Value), .ref q6, .ref q7, (v18 : Value), (v19 : Value), (v20 : Value), (v21 : Value), (v22 : Value), (v23 : Value), (v24 : Value), (v25 : Value), (v26 : Value), (v27 : Value), (v28 : Value), (v29 : Value), (v30 : Value), (v31 : Value), (v32 : Value), (v33 : Value), (v34 : Value), (v35 : Value), (v36 : Value), (v37 : Value), (v38 : Value), (v39 : Value), (v40 : Value), (v41 : Value), (v42 : Value), (v43 : Value), (v44 : Value), (v45 : Value), (v46 : Value), (v47 : Value), (v48 : Value), (v49 : Value), (v50 : Value), (v51 : Value)]))]) hP hD hS hA [0] rfl kc_nd_603 rfl
    have hPc := hCu.1
    have hDc := hCu.2.1
    have hFc := hCu.2.2
    have hKc := hK.sb (tys2 := []) [] rfl
    refine va_calli (va_runV (As := []) (rest := []) ⟨hx, hb, hml, hown, hts⟩ (s_fails10x l dC dI jM ((v0 : Value) : Value) ((v1 : Value) : Value) ((v2 : Value) : Value) ((v3 : Value) : Value) ((v6 : Value) : Value) ((v7 : Value) : Value) ((v8 : Value) : Value) ((v13 : Value) : Value) ((v14 : Value) : Value) ((v15 : Value) : Value) ((v18 : Value) : Value) ((v19 : Value) : Value) ((v20 : Value) : Value) ((v21 : Value) : Value) ((v22 : Value) : Value) ((v23 : Value) : Value) ((v24 : Value) : Value) ((v25 : Value) : Value) ((v26 : Value) : Value) ((v27 : Value) : Value) ((v28 : Value) : Value) ((v29 : Value) : Value) ((v30 : Value) : Value) ((v31 : Value) : Value) ((v32 : Value) : Value) ((v33 : Value) : Value) ((v34 : Value) : Value) ((v35 : Value) : Value) ((v36 : Value) : Value) ((v37 : Value) : Value) ((v38 : Value) : Value) ((v39 : Value) : Value) ((v40 : Value) : Value) ((v41 : Value) : Value) ((v42 : Value) : Value) ((v43 : Value) : Value) ((v44 : Value) : Value) ((v45 : Value) : Value) ((v46 : Value) : Value) ((v47 : Value) : Value) ((v48 : Value) : Value) ((v49 : Value) : Value) ((v50 : Value) : Value) ((v51 : Value) : Value) lt q6 q7 tx be en a1_4 bd_12 bd_13 H_6.size) (cwV 0 hts (kG (List.forall_mem_cons.mpr ⟨(List.mem_cons_of_mem _ (List.mem_append_left _ (List.mem_of_getElem? (i := 8) rfl))), (List.forall_mem_cons.mpr ⟨(List.mem_cons_of_mem _ (List.mem_append_left _ (List.mem_of_getElem? (i := 7) rfl))), (List.forall_mem_cons.mpr ⟨(List.mem_cons_of_mem _ (List.mem_append_left _ (List.mem_of_getElem? (i := 6) rfl))), (List.forall_mem_cons.mpr ⟨(List.mem_cons_of_mem _ (List.mem_append_left _ (List.mem_of_getElem? (i := 1) rfl))), (fun _ h => absurd h List.not_mem_nil)⟩)⟩)⟩)⟩) (kGV _ _ _ _) (fun _ h => List.mem_cons_of_mem _ (List.mem_append_right _ (List.mem_append_right _ (List.mem_append_right _ h)))) gw_s_fails10x) rfl rfl rfl ⟨rfl, hd_X10_fails⟩ ⟨(Nat.le_of_ble_eq_true rfl), (Nat.le_of_ble_eq_true rfl)⟩) (kW_V kT_blind kT_give (va_recv hKc hPc (ci := 10) (q0 := 0) rfl rfl) hPc hKc hDc) rfl rfl hl.1 rfl (lv_room (Nat.le_of_ble_eq_true rfl)) dX10_takes_17 ⟨(Nat.le_of_ble_eq_true rfl), (Nat.le_of_ble_eq_true rfl)⟩) hS (fun q _ h => hFc q h) hFc (fun r_14 _ t H_15 locs ht hvm hw hB hz1 hk1 hS => ?_)
    try dsimp only at hw
    have hPD : kPD dC dI A [(jM, .inr (10, [((v0 : Value) : Value), ((v1 : Value) : Value), ((v2 : Value) : Value), ((v3 : Value) : Value), .ref lt, .ref tx, ((v6 : Value) : Value), ((v7 : Value) : Value), ((v8 : Value) : Value), .int (nI (be)), .int (nI (en)), .int (nI (a1_4)), .int (nI (a1_4)), ((v13 : Value) : Value), ((v14 : Value) : Value), ((v15 : Value) : Value), .ref q6, .ref q7, ((v18 : Value) : Value), ((v19 : Value) : Value), ((v20 : Value) : Value), ((v21 : Value) : Value), ((v22 : Value) : Value), ((v23 : Value) : Value), ((v24 : Value) : Value), ((v25 : Value) : Value), ((v26 : Value) : Value), ((v27 : Value) : Value), ((v28 : Value) : Value), ((v29 : Value) : Value), ((v30 : Value) : Value), ((v31 : Value) : Value), ((v32 : Value) : Value), ((v33 : Value) : Value), ((v34 : Value) : Value), ((v35 : Value) : Value), ((v36 : Value) : Value), ((v37 : Value) : Value), ((v38 : Value) : Value), ((v39 : Value) : Value), ((v40 : Value) : Value), ((v41 : Value) : Value), ((v42 : Value) : Value), ((v43 : Value) : Value), ((v44 : Value) : Value), ((v45 : Value) : Value), ((v46 : Value) : Value), ((v47 : Value) : Value), ((v48 : Value) : Value), ((v49 : Value) : Value), ((v50 : Value) : Value), ((v51 : Value) : Value)])), (tx, .inl (cT, nT, .inl gT))] H_15 := kJoinX hP hD [0] rfl hk1 hFc hB.1 ht hB.2.2 rfl [some 0, none] rfl rfl
    obtain ⟨hP, hD⟩ := hPD
    obtain rfl : r_14 = 0 := hw
    have hP9 := hP
    have hD9 := hD
    have hK9 := hK
    rw [hQ]
    exact W.zret (v := 0) hx hb hr rfl (fun t ht hW => ⟨⟨0, (a1_4, (nI (a1_4)), false), rfl, ⟨rfl, by unfold kTk; rw [← hw_7_1, ← hw_7_2, if_neg (by omega)], by omega, by omega, fun z9 => absurd z9 (by decide), fun _ => rfl⟩,  by rw [ht]; exact hP9, va_K.moved hW.alike hK9, hD9⟩, hS.F ht⟩) hS.2.2 dX10_takes_20

def w_s_takes10x_41 : List Cond := .code yX10_takes cX10_takes 2 (some .boolean) :: ([.fieldLink RX10 150 "NotEndedModel" "fault" "I", .initialized RX10, .selects RX10 yX10_look yX10_look, .instanceMethod yX10_look, .methodLink RX10 160 yX10_look, .fieldLink RX10 141 "NotEndedModel" "at" "I", .selects RX10 yX10_fails yX10_fails, .instanceMethod yX10_fails, .methodLink RX10 156 yX10_fails] ++ (wsX100 ++ (w_s_look10x ++ (w_s_fails10x))))
theorem gw_s_takes10x_41 : (w_s_takes10x_41).all goodWord = true := kGc rfl (kGa (by decide +kernel) (kGa gw_wsX100 (kGa gw_s_look10x gw_s_fails10x)))
set_option maxHeartbeats 4000000 in
set_option maxRecDepth 100000 in
theorem s_takes10x_41 (l : Launch) (dC : Nat → ClassId) (dI : Nat → Nat → Nat) (jM : Nat) (v0 : Value) (v1 : Value) (v2 : Value) (v3 : Value) (v6 : Value) (v7 : Value) (v8 : Value) (v13 : Value) (v14 : Value) (v15 : Value) (v18 : Value) (v19 : Value) (v20 : Value) (v21 : Value) (v22 : Value) (v23 : Value) (v24 : Value) (v25 : Value) (v26 : Value) (v27 : Value) (v28 : Value) (v29 : Value) (v30 : Value) (v31 : Value) (v32 : Value) (v33 : Value) (v34 : Value) (v35 : Value) (v36 : Value) (v37 : Value) (v38 : Value) (v39 : Value) (v40 : Value) (v41 : Value) (v42 : Value) (v43 : Value) (v44 : Value) (v45 : Value) (v46 : Value) (v47 : Value) (v48 : Value) (v49 : Value) (v50 : Value) (v51 : Value) (lt : Nat) (q6 : Nat) (q7 : Nat) (tx : Nat) (cT : ClassId) (nT : Nat) (gT : Nat → Int32) (be : Nat) (en : Nat) (a : Nat) (hbe : be + en ≤ nT) (hnT : nT ≤ 1680) (ha : a ≤ en) (bt : Nat → Nat) (hbr : ∀ j : Nat, j < en → gT (be + j) = kSg (bt j)) (hb8 : ∀ j : Nat, bt j < 256) (hb1 : ∀ j : Nat, j < en → 1 ≤ bt j) (hen9 : en ≤ 120) (sz : Nat) : Met l yX10_takes w_s_takes10x_41 ({ frames := 2, cells := 0, slots := 0, locals := 120 }) (kW dC dI [.ref jM, .int 41] [(jM, .inr (10, [v0, v1, v2, v3, .ref lt, .ref tx, v6, v7, v8, .int (nI (be)), .int (nI (en)), .int (nI (a)), .int (-1), v13, v14, v15, .ref q6, .ref q7, v18, v19, v20, v21, v22, v23, v24, v25, v26, v27, v28, v29, v30, v31, v32, v33, v34, v35, v36, v37, v38, v39, v40, v41, v42, v43, v44, v45, v46, v47, v48, v49, v50, v51])), (tx, .inl (cT, nT, .inl gT))] [(cT, .byte)] kT sz) (va_Qi (fun (r : Int32) (u : Nat × Int32 × Bool) => match u with | (a1, xf, xo) => (r = kBo xo ∧ kTk bt en 41 a [] = (xo, a1, []) ∧ a ≤ a1 ∧ a1 ≤ en ∧ (xo = true → xf = -1 ∧ a < a1) ∧ (xo = false → xf = nI a1))) (fun (u : Nat × Int32 × Bool) => match u with | (a1, xf, xo) => fun t : State => kB dC dI [(jM, .inr (10, [v0, v1, v2, v3, .ref lt, .ref tx, v6, v7, v8, .int (nI (be)), .int (nI (en)), .int (nI (a1)), .int xf, v13, v14, v15, .ref q6, .ref q7, v18, v19, v20, v21, v22, v23, v24, v25, v26, v27, v28, v29, v30, v31, v32, v33, v34, v35, v36, v37, v38, v39, v40, v41, v42, v43, v44, v45, v46, v47, v48, v49, v50, v51])), (tx, .inl (cT, nT, .inl gT))] [(cT, .byte)] (va_A [(jM, .inr (10, [v0, v1, v2, v3, .ref lt, .ref tx, v6, v7, v8, .int (nI (be)), .int (nI (en)), .int (nI (a)), .int (-1), v13, v14, v15, .ref q6, .ref q7, v18, v19, v20, v21, v22, v23, v24, v25, v26, v27, v28, v29, v30, v31, v32, v33, v34, v35, v36, v37, v38, v39, v40, v41, v42, v43, v44, v45, v46, v47, v48, v49, v50, v51])), (tx, .inl (cT, nT, .inl gT))] sz) t) (va_A [(jM, .inr (10, [v0, v1, v2, v3, .ref lt, .ref tx, v6, v7, v8, .int (nI (be)), .int (nI (en)), .int (nI (a)), .int (-1), v13, v14, v15, .ref q6, .ref q7, v18, v19, v20, v21, v22, v23, v24, v25, v26, v27, v28, v29, v30, v31, v32, v33, v34, v35, v36, v37, v38, v39, v40, v41, v42, v43, v44, v45, v46, v47, v48, v49, v50, v51])), (tx, .inl (cT, nT, .inl gT))] sz)) 0 0 (va_A [(jM, .inr (10, [v0, v1, v2, v3, .ref lt, .ref tx, v6, v7, v8, .int (nI (be)), .int (nI (en)), .int (nI (a)), .int (-1), v13, v14, v15, .ref q6, .ref q7, v18, v19, v20, v21, v22, v23, v24, v25, v26, v27, v28, v29, v30, v31, v32, v33, v34, v35, v36, v37, v38, v39, v40, v41, v42, v43, v44, v45, v46, v47, v48, v49, v50, v51])), (tx, .inl (cT, nT, .inl gT))] sz) := by
  refine Met.ofW (cc := cX10_takes) (maxL := 2) (ret := (some .boolean)) (by decide) rfl ?_
  intro p e s m args below meth c s₁ B hml hv
  obtain ⟨rfl, hsz, hP, hK, hD0, hX⟩ := hv
  have hx := B.exec
  have hb := B.bytes
  have hr := B.returns
  have hts := atoms_spec (ws := w_s_takes10x_41) B.pre
  have hown : s.vm.findClass RX10 = some m.cls := findClass_of_methodNamed B.named
  have hlocks := B.notSynchronized
  subst hsz
  have hD := hD0.self (sz := s.heap.size)
  generalize hAe : va_A [(jM, .inr (10, [v0, v1, v2, v3, .ref lt, .ref tx, v6, v7, v8, .int (nI (be)), .int (nI (en)), .int (nI (a)), .int (-1), v13, v14, v15, .ref q6, .ref q7, v18, v19, v20, v21, v22, v23, v24, v25, v26, v27, v28, v29, v30, v31, v32, v33, v34, v35, v36, v37, v38, v39, v40, v41, v42, v43, v44, v45, v46, v47, v48, v49, v50, v51])), (tx, .inl (cT, nT, .inl gT))] s.heap.size = A at hD ⊢
  have hA : ∀ q : Nat, s.heap.size ≤ q → A q := fun q h => by rw [← hAe]; exact Or.inr h
  have hS : va_S A s.heap s.heap [] := va_S.rf
  have hP : va_P (dC, dI) vwCl [(jM, .inr (10, [v0, v1, v2, v3, .ref lt, .ref tx, v6, v7, v8, .int (nI (be)), .int (nI (en)), .int (nI (a)), .int (-1), v13, v14, v15, .ref q6, .ref q7, v18, v19, v20, v21, v22, v23, v24, v25, v26, v27, v28, v29, v30, v31, v32, v33, v34, v35, v36, v37, v38, v39, v40, v41, v42, v43, v44, v45, v46, v47, v48, v49, v50, v51])), (tx, .inl (cT, nT, .inl gT))] s.heap := hP
  have hl := lv_entry ([.ref jM, .int 41]) (n := 2) (Nat.le_of_ble_eq_true rfl)
  rw [lg_entry_eq]
  generalize (lg_sl ([.ref jM, .int 41]) ++ List.replicate (2 - (lg_sl ([.ref jM, .int 41])).length) Slot.unset).toArray = ls at hl ⊢
  have hl : lv_has ls 2 [(0, .ref jM), (1, .int 41)] := hl
  refine kQ (fun Q hQ => ?_)
  refine lv_aload_n hx hb dX10_takes_0 rfl (lv_at hl 0 rfl) ?_
  refine va_get (D := (dC, dI)) (ci := 10) (v := .int (-1)) (C := RX10) (T := TX10) (N := 52) hx hb hts (fun _ h => List.mem_cons_of_mem _ (List.mem_append_right _ (List.mem_append_left _ h))) hown hK hP 0 rfl rfl 12 kc_l_12_52 (hts (.fieldLink RX10 150 "NotEndedModel" "fault" "I") (List.mem_cons_of_mem _ (List.mem_append_left _ (List.mem_of_getElem? (i := 0) rfl)))) (fun _ h9 => h9) rfl dX10_takes_1 ?_
  refine lv_iconst (v := (-1)) hx hb dX10_takes_4 kc_i_m1 ?_
  refine lv_icmp_ne (tgt := 16) hx hb dX10_takes_5 kc_t_5_11 (fun c_1 => absurd (by decide) c_1) (fun c_1 => ?_)
  refine lv_aload_n hx hb dX10_takes_8 rfl (lv_at hl 0 rfl) ?_
  have bd_2 : be + en ≤ nT := by omega
  have hCu := kCut (wc := [(jM, .inr (10, [v0, v1, v2, v3, .ref lt, .ref tx, v6, v7, v8, .int (nI (be)), .int (nI (en)), .int (nI (a)), .int (-1), v13, v14, v15, .ref q6, .ref q7, v18, v19, v20, v21, v22, v23, v24, v25, v26, v27, v28, v29, v30, v31, v32, v33, v34, v35, v36, v37, v38, v39, v40, v41, v42, v43, v44, v45, v46, v47, v48, v49, v50, v51])), (tx, .inl (cT, nT, .inl gT))]) hP hD hS hA [0, 1] rfl kc_nd_434 rfl
  have hPc := hCu.1
  have hDc := hCu.2.1
  have hFc := hCu.2.2
  have hKc := hK.sb (tys2 := [(cT, .byte)]) [0] rfl
  refine va_calli (va_runV (As := []) (rest := []) ⟨hx, hb, hml, hown, hts⟩ (s_look10x l dC dI jM (v0 : Value) (v1 : Value) (v2 : Value) (v3 : Value) (v6 : Value) (v7 : Value) (v8 : Value) (.int (-1) : Value) (v13 : Value) (v14 : Value) (v15 : Value) (v18 : Value) (v19 : Value) (v20 : Value) (v21 : Value) (v22 : Value) (v23 : Value) (v24 : Value) (v25 : Value) (v26 : Value) (v27 : Value) (v28 : Value) (v29 : Value) (v30 : Value) (v31 : Value) (v32 : Value) (v33 : Value) (v34 : Value) (v35 : Value) (v36 : Value) (v37 : Value) (v38 : Value) (v39 : Value) (v40 : Value) (v41 : Value) (v42 : Value) (v43 : Value) (v44 : Value) (v45 : Value) (v46 : Value) (v47 : Value) (v48 : Value) (v49 : Value) (v50 : Value) (v51 : Value) lt q6 q7 tx cT nT gT be en a bd_2 hnT ha bt hbr hb8 hb1 hen9 s.heap.size) (cwV 0 hts (kG (List.forall_mem_cons.mpr ⟨(List.mem_cons_of_mem _ (List.mem_append_left _ (List.mem_of_getElem? (i := 4) rfl))), (List.forall_mem_cons.mpr ⟨(List.mem_cons_of_mem _ (List.mem_append_left _ (List.mem_of_getElem? (i := 3) rfl))), (List.forall_mem_cons.mpr ⟨(List.mem_cons_of_mem _ (List.mem_append_left _ (List.mem_of_getElem? (i := 2) rfl))), (List.forall_mem_cons.mpr ⟨(List.mem_cons_of_mem _ (List.mem_append_left _ (List.mem_of_getElem? (i := 1) rfl))), (fun _ h => absurd h List.not_mem_nil)⟩)⟩)⟩)⟩) (kGV _ _ _ _) (fun _ h => List.mem_cons_of_mem _ (List.mem_append_right _ (List.mem_append_right _ (List.mem_append_left _ h)))) gw_s_look10x) rfl rfl rfl ⟨rfl, hd_X10_look⟩ ⟨(Nat.le_of_ble_eq_true rfl), (Nat.le_of_ble_eq_true rfl)⟩) (kW_V kT_blind kT_give (va_recv hKc hPc (ci := 10) (q0 := 0) rfl rfl) hPc hKc hDc) rfl rfl hl.1 rfl (lv_room (Nat.le_of_ble_eq_true rfl)) dX10_takes_9 ⟨(Nat.le_of_ble_eq_true rfl), (Nat.le_of_ble_eq_true rfl)⟩) hS (fun q _ h => hFc q h) hFc (fun r_3 => kU2 (fun a1_4 ch_5 t H_6 locs ht hvm hw hB hz1 hk1 hS => ?_))
  try dsimp only at hw
  have hPD : kPD dC dI A [(jM, .inr (10, [(v0 : Value), (v1 : Value), (v2 : Value), (v3 : Value), .ref lt, .ref tx, (v6 : Value), (v7 : Value), (v8 : Value), .int (nI (be)), .int (nI (en)), .int (nI (a1_4)), .int (-1), (v13 : Value), (v14 : Value), (v15 : Value), .ref q6, .ref q7, (v18 : Value), (v19 : Value), (v20 : Value), (v21 : Value), (v22 : Value), (v23 : Value), (v24 : Value), (v25 : Value), (v26 : Value), (v27 : Value), (v28 : Value), (v29 : Value), (v30 : Value), (v31 : Value), (v32 : Value), (v33 : Value), (v34 : Value), (v35 : Value), (v36 : Value), (v37 : Value), (v38 : Value), (v39 : Value), (v40 : Value), (v41 : Value), (v42 : Value), (v43 : Value), (v44 : Value), (v45 : Value), (v46 : Value), (v47 : Value), (v48 : Value), (v49 : Value), (v50 : Value), (v51 : Value)])), (tx, .inl (cT, nT, .inl gT))] H_6 := kJoinX hP hD [0, 1] rfl hk1 hFc hB.1 ht hB.2.2 rfl [some 0, some 1] rfl rfl
  obtain ⟨hP, hD⟩ := hPD
  have hw_7 := hw
  have hw_7_0 := hw_7.1
  have hw_7_1 := hw_7.2.1
  have hw_7_2 := hw_7.2.2.1
  have hw_7_3 := hw_7.2.2.2.1
  have hw_7_4 := hw_7.2.2.2.2.1
  have hw_7_5 := hw_7.2.2.2.2.2.1
  have hw_7_6 := hw_7.2.2.2.2.2.2.1
  have hw_7_7 := hw_7.2.2.2.2.2.2.2
  clear hw_7
  refine lv_iload_n hx hb dX10_takes_12 rfl (lv_at hl 1 rfl) ?_
  refine lv_icmp_eq (tgt := 21) hx hb dX10_takes_13 kc_t_13_8 (fun c_8 => ?_) (fun c_8 => ?_)
  · have hk_9 := kLr_e hw_7_0 (by omega) (k := 41) (by decide) c_8
    refine lv_aload_n hx hb dX10_takes_21 rfl (lv_at hl 0 rfl) ?_
    refine lv_dup hx hb dX10_takes_22 rfl ?_
    refine va_get (D := (dC, dI)) (ci := 10) (v := .int (nI (a1_4))) (C := RX10) (T := TX10) (N := 52) hx hb hts (fun _ h => List.mem_cons_of_mem _ (List.mem_append_right _ (List.mem_append_left _ h))) hown hK hP 0 rfl rfl 11 kc_l_11_52 (hts (.fieldLink RX10 141 "NotEndedModel" "at" "I") (List.mem_cons_of_mem _ (List.mem_append_left _ (List.mem_of_getElem? (i := 5) rfl)))) (fun _ h9 => h9) rfl dX10_takes_23 ?_
    refine lv_iconst (v := 1) hx hb dX10_takes_26 kc_i_1 ?_
    refine lv_iadd hx hb dX10_takes_27 ?_
    refine lv_topi (fun y_10 ey_10 => ?_)
    obtain rfl : y_10 = nI (a1_4 + 1) := ey_10.trans (nI_add (a1_4) (1))
    refine va_put (D := (dC, dI)) (ci := 10) (v := .int (nI (a1_4 + 1))) (ty := tyX10 11) (C := RX10) (T := TX10) (N := 52) hx hb hts (fun _ h => List.mem_cons_of_mem _ (List.mem_append_right _ (List.mem_append_left _ h))) tyX10 tyX10_ok nmX10 hown hK hP hD hS 0 rfl rfl 11 kc_l_11_52 (hts (.fieldLink RX10 141 "NotEndedModel" "at" "I") (List.mem_cons_of_mem _ (List.mem_append_left _ (List.mem_of_getElem? (i := 5) rfl)))) (fun _ h9 => h9) rfl (tyX10_ok 11 kc_l_11_52) rfl rfl (Nat.le_of_ble_eq_true rfl) dX10_takes_28 (fun H locs hP hD hS => ?_)
    have hPD : kPD dC dI A [(jM, .inr (10, [(v0 : Value), (v1 : Value), (v2 : Value), (v3 : Value), .ref lt, .ref tx, (v6 : Value), (v7 : Value), (v8 : Value), .int (nI (be)), .int (nI (en)), .int (nI (a1_4 + 1)), .int (-1), (v13 : Value), (v14 : Value), (v15 : Value), .ref q6, .ref q7, (v18 : Value), (v19 : Value), (v20 : Value), (v21 : Value), (v22 : Value), (v23 : Value), (v24 : Value), (v25 : Value), (v26 : Value), (v27 : Value), (v28 : Value), (v29 : Value), (v30 : Value), (v31 : Value), (v32 : Value), (v33 : Value), (v34 : Value), (v35 : Value), (v36 : Value), (v37 : Value), (v38 : Value), (v39 : Value), (v40 : Value), (v41 : Value), (v42 : Value), (v43 : Value), (v44 : Value), (v45 : Value), (v46 : Value), (v47 : Value), (v48 : Value), (v49 : Value), (v50 : Value), (v51 : Value)])), (tx, .inl (cT, nT, .inl gT))] H := ⟨hP, hD⟩
    obtain ⟨hP, hD⟩ := hPD
    refine lv_iconst (v := 1) hx hb dX10_takes_31 kc_i_1 ?_
    have hP9 := hP
    have hD9 := hD
    have hK9 := hK
    rw [hQ]
    exact W.zret (v := 1) hx hb hr rfl (fun t ht hW => ⟨⟨1, ((a1_4 + 1), (-1), true), rfl, ⟨rfl, by unfold kTk; rw [← hw_7_1, ← hw_7_2, if_pos (by omega)], by omega, by omega, fun _ => ⟨rfl, by omega⟩, fun z9 => absurd z9 (by decide)⟩,  by rw [ht]; exact hP9, va_K.moved hW.alike hK9, hD9⟩, hS.F ht⟩) hS.2.2 dX10_takes_32
  · have hk_11 := kLr_n hw_7_0 (by omega) (k := 41) (by decide) c_8
    refine lv_aload_n hx hb dX10_takes_16 rfl (lv_at hl 0 rfl) ?_
    have bd_12 : a1_4 ≤ en := by omega
    have bd_13 : en ≤ 1680 := by omega
    have hCu := kCut (wc := [(jM, .inr (10, [(v0 : Value), (v1 : Value), (v2 : Value), (v3 : Value), .ref lt, .ref tx, (v6 : Value), (v7 : Value), (v8 : Value), .int (nI (be)), .int (nI (en)), .int (nI (a1_4)), .int (-1), (v13 : Value), (v14 : Value), (v15 : Value), .ref q6, .ref q7, (v18 : Value), (v19 : Value), (v20 : Value), (v21 : Value), (v22 : Value), (v23 : Value), (v24 : Value), (v25 : Value), (v26 : Value), (v27 : Value), (v28 : Value), (v29 : Value), (v30 : Value), (v31 : Value), (v32 : Value), (v33 : Value), (v34 : Value), (v35 : Value), (v36 : Value), (v37 : Value), (v38 : Value), (v39 : Value), (v40 : Value), (v41 : Value), (v42 : Value), (v43 : Value), (v44 : Value), (v45 : Value), (v46 : Value), (v47 : Value), (v48 : Value), (v49 : Value), (v50 : Value), (v51 : Value)]))]) hP hD hS hA [0] rfl kc_nd_603 rfl
    have hPc := hCu.1
    have hDc := hCu.2.1
    have hFc := hCu.2.2
    have hKc := hK.sb (tys2 := []) [] rfl
    refine va_calli (va_runV (As := []) (rest := []) ⟨hx, hb, hml, hown, hts⟩ (s_fails10x l dC dI jM ((v0 : Value) : Value) ((v1 : Value) : Value) ((v2 : Value) : Value) ((v3 : Value) : Value) ((v6 : Value) : Value) ((v7 : Value) : Value) ((v8 : Value) : Value) ((v13 : Value) : Value) ((v14 : Value) : Value) ((v15 : Value) : Value) ((v18 : Value) : Value) ((v19 : Value) : Value) ((v20 : Value) : Value) ((v21 : Value) : Value) ((v22 : Value) : Value) ((v23 : Value) : Value) ((v24 : Value) : Value) ((v25 : Value) : Value) ((v26 : Value) : Value) ((v27 : Value) : Value) ((v28 : Value) : Value) ((v29 : Value) : Value) ((v30 : Value) : Value) ((v31 : Value) : Value) ((v32 : Value) : Value) ((v33 : Value) : Value) ((v34 : Value) : Value) ((v35 : Value) : Value) ((v36 : Value) : Value) ((v37 : Value) : Value) ((v38 : Value) : Value) ((v39 : Value) : Value) ((v40 : Value) : Value) ((v41 : Value) : Value) ((v42 : Value) : Value) ((v43 : Value) : Value) ((v44 : Value) : Value) ((v45 : Value) : Value) ((v46 : Value) : Value) ((v47 : Value) : Value) ((v48 : Value) : Value) ((v49 : Value) : Value) ((v50 : Value) : Value) ((v51 : Value) : Value) lt q6 q7 tx be en a1_4 bd_12 bd_13 H_6.size) (cwV 0 hts (kG (List.forall_mem_cons.mpr ⟨(List.mem_cons_of_mem _ (List.mem_append_left _ (List.mem_of_getElem? (i := 8) rfl))), (List.forall_mem_cons.mpr ⟨(List.mem_cons_of_mem _ (List.mem_append_left _ (List.mem_of_getElem? (i := 7) rfl))), (List.forall_mem_cons.mpr ⟨(List.mem_cons_of_mem _ (List.mem_append_left _ (List.mem_of_getElem? (i := 6) rfl))), (List.forall_mem_cons.mpr ⟨(List.mem_cons_of_mem _ (List.mem_append_left _ (List.mem_of_getElem? (i := 1) rfl))), (fun _ h => absurd h List.not_mem_nil)⟩)⟩)⟩)⟩) (kGV _ _ _ _) (fun _ h => List.mem_cons_of_mem _ (List.mem_append_right _ (List.mem_append_right _ (List.mem_append_right _ h)))) gw_s_fails10x) rfl rfl rfl ⟨rfl, hd_X10_fails⟩ ⟨(Nat.le_of_ble_eq_true rfl), (Nat.le_of_ble_eq_true rfl)⟩) (kW_V kT_blind kT_give (va_recv hKc hPc (ci := 10) (q0 := 0) rfl rfl) hPc hKc hDc) rfl rfl hl.1 rfl (lv_room (Nat.le_of_ble_eq_true rfl)) dX10_takes_17 ⟨(Nat.le_of_ble_eq_true rfl), (Nat.le_of_ble_eq_true rfl)⟩) hS (fun q _ h => hFc q h) hFc (fun r_14 _ t H_15 locs ht hvm hw hB hz1 hk1 hS => ?_)
    try dsimp only at hw
    have hPD : kPD dC dI A [(jM, .inr (10, [((v0 : Value) : Value), ((v1 : Value) : Value), ((v2 : Value) : Value), ((v3 : Value) : Value), .ref lt, .ref tx, ((v6 : Value) : Value), ((v7 : Value) : Value), ((v8 : Value) : Value), .int (nI (be)), .int (nI (en)), .int (nI (a1_4)), .int (nI (a1_4)), ((v13 : Value) : Value), ((v14 : Value) : Value), ((v15 : Value) : Value), .ref q6, .ref q7, ((v18 : Value) : Value), ((v19 : Value) : Value), ((v20 : Value) : Value), ((v21 : Value) : Value), ((v22 : Value) : Value), ((v23 : Value) : Value), ((v24 : Value) : Value), ((v25 : Value) : Value), ((v26 : Value) : Value), ((v27 : Value) : Value), ((v28 : Value) : Value), ((v29 : Value) : Value), ((v30 : Value) : Value), ((v31 : Value) : Value), ((v32 : Value) : Value), ((v33 : Value) : Value), ((v34 : Value) : Value), ((v35 : Value) : Value), ((v36 : Value) : Value), ((v37 : Value) : Value), ((v38 : Value) : Value), ((v39 : Value) : Value), ((v40 : Value) : Value), ((v41 : Value) : Value), ((v42 : Value) : Value), ((v43 : Value) : Value), ((v44 : Value) : Value), ((v45 : Value) : Value), ((v46 : Value) : Value), ((v47 : Value) : Value), ((v48 : Value) : Value), ((v49 : Value) : Value), ((v50 : Value) : Value), ((v51 : Value) : Value)])), (tx, .inl (cT, nT, .inl gT))] H_15 := kJoinX hP hD [0] rfl hk1 hFc hB.1 ht hB.2.2 rfl [some 0, none] rfl rfl
    obtain ⟨hP, hD⟩ := hPD
    obtain rfl : r_14 = 0 := hw
    have hP9 := hP
    have hD9 := hD
    have hK9 := hK
    rw [hQ]
    exact W.zret (v := 0) hx hb hr rfl (fun t ht hW => ⟨⟨0, (a1_4, (nI (a1_4)), false), rfl, ⟨rfl, by unfold kTk; rw [← hw_7_1, ← hw_7_2, if_neg (by omega)], by omega, by omega, fun z9 => absurd z9 (by decide), fun _ => rfl⟩,  by rw [ht]; exact hP9, va_K.moved hW.alike hK9, hD9⟩, hS.F ht⟩) hS.2.2 dX10_takes_20

def w_s_takes10x_93 : List Cond := .code yX10_takes cX10_takes 2 (some .boolean) :: ([.fieldLink RX10 150 "NotEndedModel" "fault" "I", .initialized RX10, .selects RX10 yX10_look yX10_look, .instanceMethod yX10_look, .methodLink RX10 160 yX10_look, .fieldLink RX10 141 "NotEndedModel" "at" "I", .selects RX10 yX10_fails yX10_fails, .instanceMethod yX10_fails, .methodLink RX10 156 yX10_fails] ++ (wsX100 ++ (w_s_look10x ++ (w_s_fails10x))))
theorem gw_s_takes10x_93 : (w_s_takes10x_93).all goodWord = true := kGc rfl (kGa (by decide +kernel) (kGa gw_wsX100 (kGa gw_s_look10x gw_s_fails10x)))
set_option maxHeartbeats 4000000 in
set_option maxRecDepth 100000 in
theorem s_takes10x_93 (l : Launch) (dC : Nat → ClassId) (dI : Nat → Nat → Nat) (jM : Nat) (v0 : Value) (v1 : Value) (v2 : Value) (v3 : Value) (v6 : Value) (v7 : Value) (v8 : Value) (v13 : Value) (v14 : Value) (v15 : Value) (v18 : Value) (v19 : Value) (v20 : Value) (v21 : Value) (v22 : Value) (v23 : Value) (v24 : Value) (v25 : Value) (v26 : Value) (v27 : Value) (v28 : Value) (v29 : Value) (v30 : Value) (v31 : Value) (v32 : Value) (v33 : Value) (v34 : Value) (v35 : Value) (v36 : Value) (v37 : Value) (v38 : Value) (v39 : Value) (v40 : Value) (v41 : Value) (v42 : Value) (v43 : Value) (v44 : Value) (v45 : Value) (v46 : Value) (v47 : Value) (v48 : Value) (v49 : Value) (v50 : Value) (v51 : Value) (lt : Nat) (q6 : Nat) (q7 : Nat) (tx : Nat) (cT : ClassId) (nT : Nat) (gT : Nat → Int32) (be : Nat) (en : Nat) (a : Nat) (hbe : be + en ≤ nT) (hnT : nT ≤ 1680) (ha : a ≤ en) (bt : Nat → Nat) (hbr : ∀ j : Nat, j < en → gT (be + j) = kSg (bt j)) (hb8 : ∀ j : Nat, bt j < 256) (hb1 : ∀ j : Nat, j < en → 1 ≤ bt j) (hen9 : en ≤ 120) (sz : Nat) : Met l yX10_takes w_s_takes10x_93 ({ frames := 2, cells := 0, slots := 0, locals := 120 }) (kW dC dI [.ref jM, .int 93] [(jM, .inr (10, [v0, v1, v2, v3, .ref lt, .ref tx, v6, v7, v8, .int (nI (be)), .int (nI (en)), .int (nI (a)), .int (-1), v13, v14, v15, .ref q6, .ref q7, v18, v19, v20, v21, v22, v23, v24, v25, v26, v27, v28, v29, v30, v31, v32, v33, v34, v35, v36, v37, v38, v39, v40, v41, v42, v43, v44, v45, v46, v47, v48, v49, v50, v51])), (tx, .inl (cT, nT, .inl gT))] [(cT, .byte)] kT sz) (va_Qi (fun (r : Int32) (u : Nat × Int32 × Bool) => match u with | (a1, xf, xo) => (r = kBo xo ∧ kTk bt en 93 a [] = (xo, a1, []) ∧ a ≤ a1 ∧ a1 ≤ en ∧ (xo = true → xf = -1 ∧ a < a1) ∧ (xo = false → xf = nI a1))) (fun (u : Nat × Int32 × Bool) => match u with | (a1, xf, xo) => fun t : State => kB dC dI [(jM, .inr (10, [v0, v1, v2, v3, .ref lt, .ref tx, v6, v7, v8, .int (nI (be)), .int (nI (en)), .int (nI (a1)), .int xf, v13, v14, v15, .ref q6, .ref q7, v18, v19, v20, v21, v22, v23, v24, v25, v26, v27, v28, v29, v30, v31, v32, v33, v34, v35, v36, v37, v38, v39, v40, v41, v42, v43, v44, v45, v46, v47, v48, v49, v50, v51])), (tx, .inl (cT, nT, .inl gT))] [(cT, .byte)] (va_A [(jM, .inr (10, [v0, v1, v2, v3, .ref lt, .ref tx, v6, v7, v8, .int (nI (be)), .int (nI (en)), .int (nI (a)), .int (-1), v13, v14, v15, .ref q6, .ref q7, v18, v19, v20, v21, v22, v23, v24, v25, v26, v27, v28, v29, v30, v31, v32, v33, v34, v35, v36, v37, v38, v39, v40, v41, v42, v43, v44, v45, v46, v47, v48, v49, v50, v51])), (tx, .inl (cT, nT, .inl gT))] sz) t) (va_A [(jM, .inr (10, [v0, v1, v2, v3, .ref lt, .ref tx, v6, v7, v8, .int (nI (be)), .int (nI (en)), .int (nI (a)), .int (-1), v13, v14, v15, .ref q6, .ref q7, v18, v19, v20, v21, v22, v23, v24, v25, v26, v27, v28, v29, v30, v31, v32, v33, v34, v35, v36, v37, v38, v39, v40, v41, v42, v43, v44, v45, v46, v47, v48, v49, v50, v51])), (tx, .inl (cT, nT, .inl gT))] sz)) 0 0 (va_A [(jM, .inr (10, [v0, v1, v2, v3, .ref lt, .ref tx, v6, v7, v8, .int (nI (be)), .int (nI (en)), .int (nI (a)), .int (-1), v13, v14, v15, .ref q6, .ref q7, v18, v19, v20, v21, v22, v23, v24, v25, v26, v27, v28, v29, v30, v31, v32, v33, v34, v35, v36, v37, v38, v39, v40, v41, v42, v43, v44, v45, v46, v47, v48, v49, v50, v51])), (tx, .inl (cT, nT, .inl gT))] sz) := by
  refine Met.ofW (cc := cX10_takes) (maxL := 2) (ret := (some .boolean)) (by decide) rfl ?_
  intro p e s m args below meth c s₁ B hml hv
  obtain ⟨rfl, hsz, hP, hK, hD0, hX⟩ := hv
  have hx := B.exec
  have hb := B.bytes
  have hr := B.returns
  have hts := atoms_spec (ws := w_s_takes10x_93) B.pre
  have hown : s.vm.findClass RX10 = some m.cls := findClass_of_methodNamed B.named
  have hlocks := B.notSynchronized
  subst hsz
  have hD := hD0.self (sz := s.heap.size)
  generalize hAe : va_A [(jM, .inr (10, [v0, v1, v2, v3, .ref lt, .ref tx, v6, v7, v8, .int (nI (be)), .int (nI (en)), .int (nI (a)), .int (-1), v13, v14, v15, .ref q6, .ref q7, v18, v19, v20, v21, v22, v23, v24, v25, v26, v27, v28, v29, v30, v31, v32, v33, v34, v35, v36, v37, v38, v39, v40, v41, v42, v43, v44, v45, v46, v47, v48, v49, v50, v51])), (tx, .inl (cT, nT, .inl gT))] s.heap.size = A at hD ⊢
  have hA : ∀ q : Nat, s.heap.size ≤ q → A q := fun q h => by rw [← hAe]; exact Or.inr h
  have hS : va_S A s.heap s.heap [] := va_S.rf
  have hP : va_P (dC, dI) vwCl [(jM, .inr (10, [v0, v1, v2, v3, .ref lt, .ref tx, v6, v7, v8, .int (nI (be)), .int (nI (en)), .int (nI (a)), .int (-1), v13, v14, v15, .ref q6, .ref q7, v18, v19, v20, v21, v22, v23, v24, v25, v26, v27, v28, v29, v30, v31, v32, v33, v34, v35, v36, v37, v38, v39, v40, v41, v42, v43, v44, v45, v46, v47, v48, v49, v50, v51])), (tx, .inl (cT, nT, .inl gT))] s.heap := hP
  have hl := lv_entry ([.ref jM, .int 93]) (n := 2) (Nat.le_of_ble_eq_true rfl)
  rw [lg_entry_eq]
  generalize (lg_sl ([.ref jM, .int 93]) ++ List.replicate (2 - (lg_sl ([.ref jM, .int 93])).length) Slot.unset).toArray = ls at hl ⊢
  have hl : lv_has ls 2 [(0, .ref jM), (1, .int 93)] := hl
  refine kQ (fun Q hQ => ?_)
  refine lv_aload_n hx hb dX10_takes_0 rfl (lv_at hl 0 rfl) ?_
  refine va_get (D := (dC, dI)) (ci := 10) (v := .int (-1)) (C := RX10) (T := TX10) (N := 52) hx hb hts (fun _ h => List.mem_cons_of_mem _ (List.mem_append_right _ (List.mem_append_left _ h))) hown hK hP 0 rfl rfl 12 kc_l_12_52 (hts (.fieldLink RX10 150 "NotEndedModel" "fault" "I") (List.mem_cons_of_mem _ (List.mem_append_left _ (List.mem_of_getElem? (i := 0) rfl)))) (fun _ h9 => h9) rfl dX10_takes_1 ?_
  refine lv_iconst (v := (-1)) hx hb dX10_takes_4 kc_i_m1 ?_
  refine lv_icmp_ne (tgt := 16) hx hb dX10_takes_5 kc_t_5_11 (fun c_1 => absurd (by decide) c_1) (fun c_1 => ?_)
  refine lv_aload_n hx hb dX10_takes_8 rfl (lv_at hl 0 rfl) ?_
  have bd_2 : be + en ≤ nT := by omega
  have hCu := kCut (wc := [(jM, .inr (10, [v0, v1, v2, v3, .ref lt, .ref tx, v6, v7, v8, .int (nI (be)), .int (nI (en)), .int (nI (a)), .int (-1), v13, v14, v15, .ref q6, .ref q7, v18, v19, v20, v21, v22, v23, v24, v25, v26, v27, v28, v29, v30, v31, v32, v33, v34, v35, v36, v37, v38, v39, v40, v41, v42, v43, v44, v45, v46, v47, v48, v49, v50, v51])), (tx, .inl (cT, nT, .inl gT))]) hP hD hS hA [0, 1] rfl kc_nd_434 rfl
  have hPc := hCu.1
  have hDc := hCu.2.1
  have hFc := hCu.2.2
  have hKc := hK.sb (tys2 := [(cT, .byte)]) [0] rfl
  refine va_calli (va_runV (As := []) (rest := []) ⟨hx, hb, hml, hown, hts⟩ (s_look10x l dC dI jM (v0 : Value) (v1 : Value) (v2 : Value) (v3 : Value) (v6 : Value) (v7 : Value) (v8 : Value) (.int (-1) : Value) (v13 : Value) (v14 : Value) (v15 : Value) (v18 : Value) (v19 : Value) (v20 : Value) (v21 : Value) (v22 : Value) (v23 : Value) (v24 : Value) (v25 : Value) (v26 : Value) (v27 : Value) (v28 : Value) (v29 : Value) (v30 : Value) (v31 : Value) (v32 : Value) (v33 : Value) (v34 : Value) (v35 : Value) (v36 : Value) (v37 : Value) (v38 : Value) (v39 : Value) (v40 : Value) (v41 : Value) (v42 : Value) (v43 : Value) (v44 : Value) (v45 : Value) (v46 : Value) (v47 : Value) (v48 : Value) (v49 : Value) (v50 : Value) (v51 : Value) lt q6 q7 tx cT nT gT be en a bd_2 hnT ha bt hbr hb8 hb1 hen9 s.heap.size) (cwV 0 hts (kG (List.forall_mem_cons.mpr ⟨(List.mem_cons_of_mem _ (List.mem_append_left _ (List.mem_of_getElem? (i := 4) rfl))), (List.forall_mem_cons.mpr ⟨(List.mem_cons_of_mem _ (List.mem_append_left _ (List.mem_of_getElem? (i := 3) rfl))), (List.forall_mem_cons.mpr ⟨(List.mem_cons_of_mem _ (List.mem_append_left _ (List.mem_of_getElem? (i := 2) rfl))), (List.forall_mem_cons.mpr ⟨(List.mem_cons_of_mem _ (List.mem_append_left _ (List.mem_of_getElem? (i := 1) rfl))), (fun _ h => absurd h List.not_mem_nil)⟩)⟩)⟩)⟩) (kGV _ _ _ _) (fun _ h => List.mem_cons_of_mem _ (List.mem_append_right _ (List.mem_append_right _ (List.mem_append_left _ h)))) gw_s_look10x) rfl rfl rfl ⟨rfl, hd_X10_look⟩ ⟨(Nat.le_of_ble_eq_true rfl), (Nat.le_of_ble_eq_true rfl)⟩) (kW_V kT_blind kT_give (va_recv hKc hPc (ci := 10) (q0 := 0) rfl rfl) hPc hKc hDc) rfl rfl hl.1 rfl (lv_room (Nat.le_of_ble_eq_true rfl)) dX10_takes_9 ⟨(Nat.le_of_ble_eq_true rfl), (Nat.le_of_ble_eq_true rfl)⟩) hS (fun q _ h => hFc q h) hFc (fun r_3 => kU2 (fun a1_4 ch_5 t H_6 locs ht hvm hw hB hz1 hk1 hS => ?_))
  try dsimp only at hw
  have hPD : kPD dC dI A [(jM, .inr (10, [(v0 : Value), (v1 : Value), (v2 : Value), (v3 : Value), .ref lt, .ref tx, (v6 : Value), (v7 : Value), (v8 : Value), .int (nI (be)), .int (nI (en)), .int (nI (a1_4)), .int (-1), (v13 : Value), (v14 : Value), (v15 : Value), .ref q6, .ref q7, (v18 : Value), (v19 : Value), (v20 : Value), (v21 : Value), (v22 : Value), (v23 : Value), (v24 : Value), (v25 : Value), (v26 : Value), (v27 : Value), (v28 : Value), (v29 : Value), (v30 : Value), (v31 : Value), (v32 : Value), (v33 : Value), (v34 : Value), (v35 : Value), (v36 : Value), (v37 : Value), (v38 : Value), (v39 : Value), (v40 : Value), (v41 : Value), (v42 : Value), (v43 : Value), (v44 : Value), (v45 : Value), (v46 : Value), (v47 : Value), (v48 : Value), (v49 : Value), (v50 : Value), (v51 : Value)])), (tx, .inl (cT, nT, .inl gT))] H_6 := kJoinX hP hD [0, 1] rfl hk1 hFc hB.1 ht hB.2.2 rfl [some 0, some 1] rfl rfl
  obtain ⟨hP, hD⟩ := hPD
  have hw_7 := hw
  have hw_7_0 := hw_7.1
  have hw_7_1 := hw_7.2.1
  have hw_7_2 := hw_7.2.2.1
  have hw_7_3 := hw_7.2.2.2.1
  have hw_7_4 := hw_7.2.2.2.2.1
  have hw_7_5 := hw_7.2.2.2.2.2.1
  have hw_7_6 := hw_7.2.2.2.2.2.2.1
  have hw_7_7 := hw_7.2.2.2.2.2.2.2
  clear hw_7
  refine lv_iload_n hx hb dX10_takes_12 rfl (lv_at hl 1 rfl) ?_
  refine lv_icmp_eq (tgt := 21) hx hb dX10_takes_13 kc_t_13_8 (fun c_8 => ?_) (fun c_8 => ?_)
  · have hk_9 := kLr_e hw_7_0 (by omega) (k := 93) (by decide) c_8
    refine lv_aload_n hx hb dX10_takes_21 rfl (lv_at hl 0 rfl) ?_
    refine lv_dup hx hb dX10_takes_22 rfl ?_
    refine va_get (D := (dC, dI)) (ci := 10) (v := .int (nI (a1_4))) (C := RX10) (T := TX10) (N := 52) hx hb hts (fun _ h => List.mem_cons_of_mem _ (List.mem_append_right _ (List.mem_append_left _ h))) hown hK hP 0 rfl rfl 11 kc_l_11_52 (hts (.fieldLink RX10 141 "NotEndedModel" "at" "I") (List.mem_cons_of_mem _ (List.mem_append_left _ (List.mem_of_getElem? (i := 5) rfl)))) (fun _ h9 => h9) rfl dX10_takes_23 ?_
    refine lv_iconst (v := 1) hx hb dX10_takes_26 kc_i_1 ?_
    refine lv_iadd hx hb dX10_takes_27 ?_
    refine lv_topi (fun y_10 ey_10 => ?_)
    obtain rfl : y_10 = nI (a1_4 + 1) := ey_10.trans (nI_add (a1_4) (1))
    refine va_put (D := (dC, dI)) (ci := 10) (v := .int (nI (a1_4 + 1))) (ty := tyX10 11) (C := RX10) (T := TX10) (N := 52) hx hb hts (fun _ h => List.mem_cons_of_mem _ (List.mem_append_right _ (List.mem_append_left _ h))) tyX10 tyX10_ok nmX10 hown hK hP hD hS 0 rfl rfl 11 kc_l_11_52 (hts (.fieldLink RX10 141 "NotEndedModel" "at" "I") (List.mem_cons_of_mem _ (List.mem_append_left _ (List.mem_of_getElem? (i := 5) rfl)))) (fun _ h9 => h9) rfl (tyX10_ok 11 kc_l_11_52) rfl rfl (Nat.le_of_ble_eq_true rfl) dX10_takes_28 (fun H locs hP hD hS => ?_)
    have hPD : kPD dC dI A [(jM, .inr (10, [(v0 : Value), (v1 : Value), (v2 : Value), (v3 : Value), .ref lt, .ref tx, (v6 : Value), (v7 : Value), (v8 : Value), .int (nI (be)), .int (nI (en)), .int (nI (a1_4 + 1)), .int (-1), (v13 : Value), (v14 : Value), (v15 : Value), .ref q6, .ref q7, (v18 : Value), (v19 : Value), (v20 : Value), (v21 : Value), (v22 : Value), (v23 : Value), (v24 : Value), (v25 : Value), (v26 : Value), (v27 : Value), (v28 : Value), (v29 : Value), (v30 : Value), (v31 : Value), (v32 : Value), (v33 : Value), (v34 : Value), (v35 : Value), (v36 : Value), (v37 : Value), (v38 : Value), (v39 : Value), (v40 : Value), (v41 : Value), (v42 : Value), (v43 : Value), (v44 : Value), (v45 : Value), (v46 : Value), (v47 : Value), (v48 : Value), (v49 : Value), (v50 : Value), (v51 : Value)])), (tx, .inl (cT, nT, .inl gT))] H := ⟨hP, hD⟩
    obtain ⟨hP, hD⟩ := hPD
    refine lv_iconst (v := 1) hx hb dX10_takes_31 kc_i_1 ?_
    have hP9 := hP
    have hD9 := hD
    have hK9 := hK
    rw [hQ]
    exact W.zret (v := 1) hx hb hr rfl (fun t ht hW => ⟨⟨1, ((a1_4 + 1), (-1), true), rfl, ⟨rfl, by unfold kTk; rw [← hw_7_1, ← hw_7_2, if_pos (by omega)], by omega, by omega, fun _ => ⟨rfl, by omega⟩, fun z9 => absurd z9 (by decide)⟩,  by rw [ht]; exact hP9, va_K.moved hW.alike hK9, hD9⟩, hS.F ht⟩) hS.2.2 dX10_takes_32
  · have hk_11 := kLr_n hw_7_0 (by omega) (k := 93) (by decide) c_8
    refine lv_aload_n hx hb dX10_takes_16 rfl (lv_at hl 0 rfl) ?_
    have bd_12 : a1_4 ≤ en := by omega
    have bd_13 : en ≤ 1680 := by omega
    have hCu := kCut (wc := [(jM, .inr (10, [(v0 : Value), (v1 : Value), (v2 : Value), (v3 : Value), .ref lt, .ref tx, (v6 : Value), (v7 : Value), (v8 : Value), .int (nI (be)), .int (nI (en)), .int (nI (a1_4)), .int (-1), (v13 : Value), (v14 : Value), (v15 : Value), .ref q6, .ref q7, (v18 : Value), (v19 : Value), (v20 : Value), (v21 : Value), (v22 : Value), (v23 : Value), (v24 : Value), (v25 : Value), (v26 : Value), (v27 : Value), (v28 : Value), (v29 : Value), (v30 : Value), (v31 : Value), (v32 : Value), (v33 : Value), (v34 : Value), (v35 : Value), (v36 : Value), (v37 : Value), (v38 : Value), (v39 : Value), (v40 : Value), (v41 : Value), (v42 : Value), (v43 : Value), (v44 : Value), (v45 : Value), (v46 : Value), (v47 : Value), (v48 : Value), (v49 : Value), (v50 : Value), (v51 : Value)]))]) hP hD hS hA [0] rfl kc_nd_603 rfl
    have hPc := hCu.1
    have hDc := hCu.2.1
    have hFc := hCu.2.2
    have hKc := hK.sb (tys2 := []) [] rfl
    refine va_calli (va_runV (As := []) (rest := []) ⟨hx, hb, hml, hown, hts⟩ (s_fails10x l dC dI jM ((v0 : Value) : Value) ((v1 : Value) : Value) ((v2 : Value) : Value) ((v3 : Value) : Value) ((v6 : Value) : Value) ((v7 : Value) : Value) ((v8 : Value) : Value) ((v13 : Value) : Value) ((v14 : Value) : Value) ((v15 : Value) : Value) ((v18 : Value) : Value) ((v19 : Value) : Value) ((v20 : Value) : Value) ((v21 : Value) : Value) ((v22 : Value) : Value) ((v23 : Value) : Value) ((v24 : Value) : Value) ((v25 : Value) : Value) ((v26 : Value) : Value) ((v27 : Value) : Value) ((v28 : Value) : Value) ((v29 : Value) : Value) ((v30 : Value) : Value) ((v31 : Value) : Value) ((v32 : Value) : Value) ((v33 : Value) : Value) ((v34 : Value) : Value) ((v35 : Value) : Value) ((v36 : Value) : Value) ((v37 : Value) : Value) ((v38 : Value) : Value) ((v39 : Value) : Value) ((v40 : Value) : Value) ((v41 : Value) : Value) ((v42 : Value) : Value) ((v43 : Value) : Value) ((v44 : Value) : Value) ((v45 : Value) : Value) ((v46 : Value) : Value) ((v47 : Value) : Value) ((v48 : Value) : Value) ((v49 : Value) : Value) ((v50 : Value) : Value) ((v51 : Value) : Value) lt q6 q7 tx be en a1_4 bd_12 bd_13 H_6.size) (cwV 0 hts (kG (List.forall_mem_cons.mpr ⟨(List.mem_cons_of_mem _ (List.mem_append_left _ (List.mem_of_getElem? (i := 8) rfl))), (List.forall_mem_cons.mpr ⟨(List.mem_cons_of_mem _ (List.mem_append_left _ (List.mem_of_getElem? (i := 7) rfl))), (List.forall_mem_cons.mpr ⟨(List.mem_cons_of_mem _ (List.mem_append_left _ (List.mem_of_getElem? (i := 6) rfl))), (List.forall_mem_cons.mpr ⟨(List.mem_cons_of_mem _ (List.mem_append_left _ (List.mem_of_getElem? (i := 1) rfl))), (fun _ h => absurd h List.not_mem_nil)⟩)⟩)⟩)⟩) (kGV _ _ _ _) (fun _ h => List.mem_cons_of_mem _ (List.mem_append_right _ (List.mem_append_right _ (List.mem_append_right _ h)))) gw_s_fails10x) rfl rfl rfl ⟨rfl, hd_X10_fails⟩ ⟨(Nat.le_of_ble_eq_true rfl), (Nat.le_of_ble_eq_true rfl)⟩) (kW_V kT_blind kT_give (va_recv hKc hPc (ci := 10) (q0 := 0) rfl rfl) hPc hKc hDc) rfl rfl hl.1 rfl (lv_room (Nat.le_of_ble_eq_true rfl)) dX10_takes_17 ⟨(Nat.le_of_ble_eq_true rfl), (Nat.le_of_ble_eq_true rfl)⟩) hS (fun q _ h => hFc q h) hFc (fun r_14 _ t H_15 locs ht hvm hw hB hz1 hk1 hS => ?_)
    try dsimp only at hw
    have hPD : kPD dC dI A [(jM, .inr (10, [((v0 : Value) : Value), ((v1 : Value) : Value), ((v2 : Value) : Value), ((v3 : Value) : Value), .ref lt, .ref tx, ((v6 : Value) : Value), ((v7 : Value) : Value), ((v8 : Value) : Value), .int (nI (be)), .int (nI (en)), .int (nI (a1_4)), .int (nI (a1_4)), ((v13 : Value) : Value), ((v14 : Value) : Value), ((v15 : Value) : Value), .ref q6, .ref q7, ((v18 : Value) : Value), ((v19 : Value) : Value), ((v20 : Value) : Value), ((v21 : Value) : Value), ((v22 : Value) : Value), ((v23 : Value) : Value), ((v24 : Value) : Value), ((v25 : Value) : Value), ((v26 : Value) : Value), ((v27 : Value) : Value), ((v28 : Value) : Value), ((v29 : Value) : Value), ((v30 : Value) : Value), ((v31 : Value) : Value), ((v32 : Value) : Value), ((v33 : Value) : Value), ((v34 : Value) : Value), ((v35 : Value) : Value), ((v36 : Value) : Value), ((v37 : Value) : Value), ((v38 : Value) : Value), ((v39 : Value) : Value), ((v40 : Value) : Value), ((v41 : Value) : Value), ((v42 : Value) : Value), ((v43 : Value) : Value), ((v44 : Value) : Value), ((v45 : Value) : Value), ((v46 : Value) : Value), ((v47 : Value) : Value), ((v48 : Value) : Value), ((v49 : Value) : Value), ((v50 : Value) : Value), ((v51 : Value) : Value)])), (tx, .inl (cT, nT, .inl gT))] H_15 := kJoinX hP hD [0] rfl hk1 hFc hB.1 ht hB.2.2 rfl [some 0, none] rfl rfl
    obtain ⟨hP, hD⟩ := hPD
    obtain rfl : r_14 = 0 := hw
    have hP9 := hP
    have hD9 := hD
    have hK9 := hK
    rw [hQ]
    exact W.zret (v := 0) hx hb hr rfl (fun t ht hW => ⟨⟨0, (a1_4, (nI (a1_4)), false), rfl, ⟨rfl, by unfold kTk; rw [← hw_7_1, ← hw_7_2, if_neg (by omega)], by omega, by omega, fun z9 => absurd z9 (by decide), fun _ => rfl⟩,  by rw [ht]; exact hP9, va_K.moved hW.alike hK9, hD9⟩, hS.F ht⟩) hS.2.2 dX10_takes_20

def w_s_fails10f : List Cond := .code yX10_fails cX10_fails 1 (some .boolean) :: ([.fieldLink RX10 150 "NotEndedModel" "fault" "I"] ++ (wsX100))
theorem gw_s_fails10f : (w_s_fails10f).all goodWord = true := kGc rfl (kGa (by decide +kernel) gw_wsX100)
set_option maxHeartbeats 4000000 in
set_option maxRecDepth 100000 in
theorem s_fails10f (l : Launch) (dC : Nat → ClassId) (dI : Nat → Nat → Nat) (jM : Nat) (v0 : Value) (v1 : Value) (v2 : Value) (v3 : Value) (v6 : Value) (v7 : Value) (v8 : Value) (v13 : Value) (v14 : Value) (v15 : Value) (v18 : Value) (v19 : Value) (v20 : Value) (v21 : Value) (v22 : Value) (v23 : Value) (v24 : Value) (v25 : Value) (v26 : Value) (v27 : Value) (v28 : Value) (v29 : Value) (v30 : Value) (v31 : Value) (v32 : Value) (v33 : Value) (v34 : Value) (v35 : Value) (v36 : Value) (v37 : Value) (v38 : Value) (v39 : Value) (v40 : Value) (v41 : Value) (v42 : Value) (v43 : Value) (v44 : Value) (v45 : Value) (v46 : Value) (v47 : Value) (v48 : Value) (v49 : Value) (v50 : Value) (v51 : Value) (lt : Nat) (q6 : Nat) (q7 : Nat) (tx : Nat) (be : Nat) (en : Nat) (a : Nat) (ha : a ≤ en) (hen : en ≤ 1680) (fp : Nat) (hfp : fp ≤ 120) (sz : Nat) : Met l yX10_fails w_s_fails10f ({ frames := 1, cells := 0, slots := 0, locals := 60 }) (kW dC dI [.ref jM] [(jM, .inr (10, [v0, v1, v2, v3, .ref lt, .ref tx, v6, v7, v8, .int (nI (be)), .int (nI (en)), .int (nI (a)), .int (nI (fp)), v13, v14, v15, .ref q6, .ref q7, v18, v19, v20, v21, v22, v23, v24, v25, v26, v27, v28, v29, v30, v31, v32, v33, v34, v35, v36, v37, v38, v39, v40, v41, v42, v43, v44, v45, v46, v47, v48, v49, v50, v51]))] [] kT sz) (va_Qi (fun (r : Int32) (_ : Unit) => r = 0) (fun (_ : Unit) => fun t : State => kB dC dI [(jM, .inr (10, [v0, v1, v2, v3, .ref lt, .ref tx, v6, v7, v8, .int (nI (be)), .int (nI (en)), .int (nI (a)), .int (nI (fp)), v13, v14, v15, .ref q6, .ref q7, v18, v19, v20, v21, v22, v23, v24, v25, v26, v27, v28, v29, v30, v31, v32, v33, v34, v35, v36, v37, v38, v39, v40, v41, v42, v43, v44, v45, v46, v47, v48, v49, v50, v51]))] [] (va_A [(jM, .inr (10, [v0, v1, v2, v3, .ref lt, .ref tx, v6, v7, v8, .int (nI (be)), .int (nI (en)), .int (nI (a)), .int (nI (fp)), v13, v14, v15, .ref q6, .ref q7, v18, v19, v20, v21, v22, v23, v24, v25, v26, v27, v28, v29, v30, v31, v32, v33, v34, v35, v36, v37, v38, v39, v40, v41, v42, v43, v44, v45, v46, v47, v48, v49, v50, v51]))] sz) t) (va_A [(jM, .inr (10, [v0, v1, v2, v3, .ref lt, .ref tx, v6, v7, v8, .int (nI (be)), .int (nI (en)), .int (nI (a)), .int (nI (fp)), v13, v14, v15, .ref q6, .ref q7, v18, v19, v20, v21, v22, v23, v24, v25, v26, v27, v28, v29, v30, v31, v32, v33, v34, v35, v36, v37, v38, v39, v40, v41, v42, v43, v44, v45, v46, v47, v48, v49, v50, v51]))] sz)) 0 0 (va_A [(jM, .inr (10, [v0, v1, v2, v3, .ref lt, .ref tx, v6, v7, v8, .int (nI (be)), .int (nI (en)), .int (nI (a)), .int (nI (fp)), v13, v14, v15, .ref q6, .ref q7, v18, v19, v20, v21, v22, v23, v24, v25, v26, v27, v28, v29, v30, v31, v32, v33, v34, v35, v36, v37, v38, v39, v40, v41, v42, v43, v44, v45, v46, v47, v48, v49, v50, v51]))] sz) := by
  refine Met.ofW (cc := cX10_fails) (maxL := 1) (ret := (some .boolean)) (by decide) rfl ?_
  intro p e s m args below meth c s₁ B hml hv
  obtain ⟨rfl, hsz, hP, hK, hD0, hX⟩ := hv
  have hx := B.exec
  have hb := B.bytes
  have hr := B.returns
  have hts := atoms_spec (ws := w_s_fails10f) B.pre
  have hown : s.vm.findClass RX10 = some m.cls := findClass_of_methodNamed B.named
  have hlocks := B.notSynchronized
  subst hsz
  have hD := hD0.self (sz := s.heap.size)
  generalize hAe : va_A [(jM, .inr (10, [v0, v1, v2, v3, .ref lt, .ref tx, v6, v7, v8, .int (nI (be)), .int (nI (en)), .int (nI (a)), .int (nI (fp)), v13, v14, v15, .ref q6, .ref q7, v18, v19, v20, v21, v22, v23, v24, v25, v26, v27, v28, v29, v30, v31, v32, v33, v34, v35, v36, v37, v38, v39, v40, v41, v42, v43, v44, v45, v46, v47, v48, v49, v50, v51]))] s.heap.size = A at hD ⊢
  have hA : ∀ q : Nat, s.heap.size ≤ q → A q := fun q h => by rw [← hAe]; exact Or.inr h
  have hS : va_S A s.heap s.heap [] := va_S.rf
  have hP : va_P (dC, dI) vwCl [(jM, .inr (10, [v0, v1, v2, v3, .ref lt, .ref tx, v6, v7, v8, .int (nI (be)), .int (nI (en)), .int (nI (a)), .int (nI (fp)), v13, v14, v15, .ref q6, .ref q7, v18, v19, v20, v21, v22, v23, v24, v25, v26, v27, v28, v29, v30, v31, v32, v33, v34, v35, v36, v37, v38, v39, v40, v41, v42, v43, v44, v45, v46, v47, v48, v49, v50, v51]))] s.heap := hP
  have hl := lv_entry ([.ref jM]) (n := 1) (Nat.le_of_ble_eq_true rfl)
  rw [lg_entry_eq]
  generalize (lg_sl ([.ref jM]) ++ List.replicate (1 - (lg_sl ([.ref jM])).length) Slot.unset).toArray = ls at hl ⊢
  have hl : lv_has ls 1 [(0, .ref jM)] := hl
  refine kQ (fun Q hQ => ?_)
  refine lv_aload_n hx hb dX10_fails_0 rfl (lv_at hl 0 rfl) ?_
  refine va_get (D := (dC, dI)) (ci := 10) (v := .int (nI (fp))) (C := RX10) (T := TX10) (N := 52) hx hb hts (fun _ h => List.mem_cons_of_mem _ (List.mem_append_right _ h)) hown hK hP 0 rfl rfl 12 kc_l_12_52 (hts (.fieldLink RX10 150 "NotEndedModel" "fault" "I") (List.mem_cons_of_mem _ (List.mem_append_left _ (List.mem_of_getElem? (i := 0) rfl)))) (fun _ h9 => h9) rfl dX10_fails_1 ?_
  refine lv_iconst (v := (-1)) hx hb dX10_fails_4 kc_i_m1 ?_
  refine lv_icmp_ne (tgt := 16) hx hb dX10_fails_5 kc_t_5_11 (fun c_1 => ?_) (fun c_1 => absurd c_1 (kNeM (n := fp) (by omega)))
  refine lv_iconst (v := 0) hx hb dX10_fails_16 kc_i_0 ?_
  have hP9 := hP
  have hD9 := hD
  have hK9 := hK
  rw [hQ]
  exact W.zret (v := 0) hx hb hr rfl (fun t ht hW => ⟨⟨0, (), rfl, rfl,  by rw [ht]; exact hP9, va_K.moved hW.alike hK9, hD9⟩, hS.F ht⟩) hS.2.2 dX10_fails_17

def w_s_takes10f : List Cond := .code yX10_takes cX10_takes 2 (some .boolean) :: ([.fieldLink RX10 150 "NotEndedModel" "fault" "I", .initialized RX10, .selects RX10 yX10_fails yX10_fails, .instanceMethod yX10_fails, .methodLink RX10 156 yX10_fails] ++ (wsX100 ++ (w_s_fails10f)))
theorem gw_s_takes10f : (w_s_takes10f).all goodWord = true := kGc rfl (kGa (by decide +kernel) (kGa gw_wsX100 gw_s_fails10f))
set_option maxHeartbeats 4000000 in
set_option maxRecDepth 100000 in
theorem s_takes10f (l : Launch) (dC : Nat → ClassId) (dI : Nat → Nat → Nat) (jM : Nat) (v0 : Value) (v1 : Value) (v2 : Value) (v3 : Value) (v6 : Value) (v7 : Value) (v8 : Value) (v13 : Value) (v14 : Value) (v15 : Value) (v18 : Value) (v19 : Value) (v20 : Value) (v21 : Value) (v22 : Value) (v23 : Value) (v24 : Value) (v25 : Value) (v26 : Value) (v27 : Value) (v28 : Value) (v29 : Value) (v30 : Value) (v31 : Value) (v32 : Value) (v33 : Value) (v34 : Value) (v35 : Value) (v36 : Value) (v37 : Value) (v38 : Value) (v39 : Value) (v40 : Value) (v41 : Value) (v42 : Value) (v43 : Value) (v44 : Value) (v45 : Value) (v46 : Value) (v47 : Value) (v48 : Value) (v49 : Value) (v50 : Value) (v51 : Value) (lt : Nat) (q6 : Nat) (q7 : Nat) (tx : Nat) (be : Nat) (en : Nat) (a : Nat) (ha : a ≤ en) (hen : en ≤ 1680) (fp : Nat) (hfp : fp ≤ 120) (p0 : Int32) (sz : Nat) : Met l yX10_takes w_s_takes10f ({ frames := 2, cells := 0, slots := 0, locals := 120 }) (kW dC dI [.ref jM, .int p0] [(jM, .inr (10, [v0, v1, v2, v3, .ref lt, .ref tx, v6, v7, v8, .int (nI (be)), .int (nI (en)), .int (nI (a)), .int (nI (fp)), v13, v14, v15, .ref q6, .ref q7, v18, v19, v20, v21, v22, v23, v24, v25, v26, v27, v28, v29, v30, v31, v32, v33, v34, v35, v36, v37, v38, v39, v40, v41, v42, v43, v44, v45, v46, v47, v48, v49, v50, v51]))] [] kT sz) (va_Qi (fun (r : Int32) (_ : Unit) => r = 0) (fun (_ : Unit) => fun t : State => kB dC dI [(jM, .inr (10, [v0, v1, v2, v3, .ref lt, .ref tx, v6, v7, v8, .int (nI (be)), .int (nI (en)), .int (nI (a)), .int (nI (fp)), v13, v14, v15, .ref q6, .ref q7, v18, v19, v20, v21, v22, v23, v24, v25, v26, v27, v28, v29, v30, v31, v32, v33, v34, v35, v36, v37, v38, v39, v40, v41, v42, v43, v44, v45, v46, v47, v48, v49, v50, v51]))] [] (va_A [(jM, .inr (10, [v0, v1, v2, v3, .ref lt, .ref tx, v6, v7, v8, .int (nI (be)), .int (nI (en)), .int (nI (a)), .int (nI (fp)), v13, v14, v15, .ref q6, .ref q7, v18, v19, v20, v21, v22, v23, v24, v25, v26, v27, v28, v29, v30, v31, v32, v33, v34, v35, v36, v37, v38, v39, v40, v41, v42, v43, v44, v45, v46, v47, v48, v49, v50, v51]))] sz) t) (va_A [(jM, .inr (10, [v0, v1, v2, v3, .ref lt, .ref tx, v6, v7, v8, .int (nI (be)), .int (nI (en)), .int (nI (a)), .int (nI (fp)), v13, v14, v15, .ref q6, .ref q7, v18, v19, v20, v21, v22, v23, v24, v25, v26, v27, v28, v29, v30, v31, v32, v33, v34, v35, v36, v37, v38, v39, v40, v41, v42, v43, v44, v45, v46, v47, v48, v49, v50, v51]))] sz)) 0 0 (va_A [(jM, .inr (10, [v0, v1, v2, v3, .ref lt, .ref tx, v6, v7, v8, .int (nI (be)), .int (nI (en)), .int (nI (a)), .int (nI (fp)), v13, v14, v15, .ref q6, .ref q7, v18, v19, v20, v21, v22, v23, v24, v25, v26, v27, v28, v29, v30, v31, v32, v33, v34, v35, v36, v37, v38, v39, v40, v41, v42, v43, v44, v45, v46, v47, v48, v49, v50, v51]))] sz) := by
  refine Met.ofW (cc := cX10_takes) (maxL := 2) (ret := (some .boolean)) (by decide) rfl ?_
  intro p e s m args below meth c s₁ B hml hv
  obtain ⟨rfl, hsz, hP, hK, hD0, hX⟩ := hv
  have hx := B.exec
  have hb := B.bytes
  have hr := B.returns
  have hts := atoms_spec (ws := w_s_takes10f) B.pre
  have hown : s.vm.findClass RX10 = some m.cls := findClass_of_methodNamed B.named
  have hlocks := B.notSynchronized
  subst hsz
  have hD := hD0.self (sz := s.heap.size)
  generalize hAe : va_A [(jM, .inr (10, [v0, v1, v2, v3, .ref lt, .ref tx, v6, v7, v8, .int (nI (be)), .int (nI (en)), .int (nI (a)), .int (nI (fp)), v13, v14, v15, .ref q6, .ref q7, v18, v19, v20, v21, v22, v23, v24, v25, v26, v27, v28, v29, v30, v31, v32, v33, v34, v35, v36, v37, v38, v39, v40, v41, v42, v43, v44, v45, v46, v47, v48, v49, v50, v51]))] s.heap.size = A at hD ⊢
  have hA : ∀ q : Nat, s.heap.size ≤ q → A q := fun q h => by rw [← hAe]; exact Or.inr h
  have hS : va_S A s.heap s.heap [] := va_S.rf
  have hP : va_P (dC, dI) vwCl [(jM, .inr (10, [v0, v1, v2, v3, .ref lt, .ref tx, v6, v7, v8, .int (nI (be)), .int (nI (en)), .int (nI (a)), .int (nI (fp)), v13, v14, v15, .ref q6, .ref q7, v18, v19, v20, v21, v22, v23, v24, v25, v26, v27, v28, v29, v30, v31, v32, v33, v34, v35, v36, v37, v38, v39, v40, v41, v42, v43, v44, v45, v46, v47, v48, v49, v50, v51]))] s.heap := hP
  have hl := lv_entry ([.ref jM, .int p0]) (n := 2) (Nat.le_of_ble_eq_true rfl)
  rw [lg_entry_eq]
  generalize (lg_sl ([.ref jM, .int p0]) ++ List.replicate (2 - (lg_sl ([.ref jM, .int p0])).length) Slot.unset).toArray = ls at hl ⊢
  have hl : lv_has ls 2 [(0, .ref jM), (1, .int p0)] := hl
  refine kQ (fun Q hQ => ?_)
  refine lv_aload_n hx hb dX10_takes_0 rfl (lv_at hl 0 rfl) ?_
  refine va_get (D := (dC, dI)) (ci := 10) (v := .int (nI (fp))) (C := RX10) (T := TX10) (N := 52) hx hb hts (fun _ h => List.mem_cons_of_mem _ (List.mem_append_right _ (List.mem_append_left _ h))) hown hK hP 0 rfl rfl 12 kc_l_12_52 (hts (.fieldLink RX10 150 "NotEndedModel" "fault" "I") (List.mem_cons_of_mem _ (List.mem_append_left _ (List.mem_of_getElem? (i := 0) rfl)))) (fun _ h9 => h9) rfl dX10_takes_1 ?_
  refine lv_iconst (v := (-1)) hx hb dX10_takes_4 kc_i_m1 ?_
  refine lv_icmp_ne (tgt := 16) hx hb dX10_takes_5 kc_t_5_11 (fun c_1 => ?_) (fun c_1 => absurd c_1 (kNeM (n := fp) (by omega)))
  refine lv_aload_n hx hb dX10_takes_16 rfl (lv_at hl 0 rfl) ?_
  have hCu := kCut (wc := [(jM, .inr (10, [v0, v1, v2, v3, .ref lt, .ref tx, v6, v7, v8, .int (nI (be)), .int (nI (en)), .int (nI (a)), .int (nI (fp)), v13, v14, v15, .ref q6, .ref q7, v18, v19, v20, v21, v22, v23, v24, v25, v26, v27, v28, v29, v30, v31, v32, v33, v34, v35, v36, v37, v38, v39, v40, v41, v42, v43, v44, v45, v46, v47, v48, v49, v50, v51]))]) hP hD hS hA [0] rfl kc_nd_603 rfl
  have hPc := hCu.1
  have hDc := hCu.2.1
  have hFc := hCu.2.2
  have hKc := hK.sb (tys2 := []) [] rfl
  refine va_calli (va_runV (As := []) (rest := []) ⟨hx, hb, hml, hown, hts⟩ (s_fails10f l dC dI jM (v0 : Value) (v1 : Value) (v2 : Value) (v3 : Value) (v6 : Value) (v7 : Value) (v8 : Value) (v13 : Value) (v14 : Value) (v15 : Value) (v18 : Value) (v19 : Value) (v20 : Value) (v21 : Value) (v22 : Value) (v23 : Value) (v24 : Value) (v25 : Value) (v26 : Value) (v27 : Value) (v28 : Value) (v29 : Value) (v30 : Value) (v31 : Value) (v32 : Value) (v33 : Value) (v34 : Value) (v35 : Value) (v36 : Value) (v37 : Value) (v38 : Value) (v39 : Value) (v40 : Value) (v41 : Value) (v42 : Value) (v43 : Value) (v44 : Value) (v45 : Value) (v46 : Value) (v47 : Value) (v48 : Value) (v49 : Value) (v50 : Value) (v51 : Value) lt q6 q7 tx be en a ha hen fp hfp s.heap.size) (cwV 0 hts (kG (List.forall_mem_cons.mpr ⟨(List.mem_cons_of_mem _ (List.mem_append_left _ (List.mem_of_getElem? (i := 4) rfl))), (List.forall_mem_cons.mpr ⟨(List.mem_cons_of_mem _ (List.mem_append_left _ (List.mem_of_getElem? (i := 3) rfl))), (List.forall_mem_cons.mpr ⟨(List.mem_cons_of_mem _ (List.mem_append_left _ (List.mem_of_getElem? (i := 2) rfl))), (List.forall_mem_cons.mpr ⟨(List.mem_cons_of_mem _ (List.mem_append_left _ (List.mem_of_getElem? (i := 1) rfl))), (fun _ h => absurd h List.not_mem_nil)⟩)⟩)⟩)⟩) (kGV _ _ _ _) (fun _ h => List.mem_cons_of_mem _ (List.mem_append_right _ (List.mem_append_right _ h))) gw_s_fails10f) rfl rfl rfl ⟨rfl, hd_X10_fails⟩ ⟨(Nat.le_of_ble_eq_true rfl), (Nat.le_of_ble_eq_true rfl)⟩) (kW_V kT_blind kT_give (va_recv hKc hPc (ci := 10) (q0 := 0) rfl rfl) hPc hKc hDc) rfl rfl hl.1 rfl (lv_room (Nat.le_of_ble_eq_true rfl)) dX10_takes_17 ⟨(Nat.le_of_ble_eq_true rfl), (Nat.le_of_ble_eq_true rfl)⟩) hS (fun q _ h => hFc q h) hFc (fun r_2 _ t H_3 locs ht hvm hw hB hz1 hk1 hS => ?_)
  try dsimp only at hw
  have hPD : kPD dC dI A [(jM, .inr (10, [(v0 : Value), (v1 : Value), (v2 : Value), (v3 : Value), .ref lt, .ref tx, (v6 : Value), (v7 : Value), (v8 : Value), .int (nI (be)), .int (nI (en)), .int (nI (a)), .int (nI (fp)), (v13 : Value), (v14 : Value), (v15 : Value), .ref q6, .ref q7, (v18 : Value), (v19 : Value), (v20 : Value), (v21 : Value), (v22 : Value), (v23 : Value), (v24 : Value), (v25 : Value), (v26 : Value), (v27 : Value), (v28 : Value), (v29 : Value), (v30 : Value), (v31 : Value), (v32 : Value), (v33 : Value), (v34 : Value), (v35 : Value), (v36 : Value), (v37 : Value), (v38 : Value), (v39 : Value), (v40 : Value), (v41 : Value), (v42 : Value), (v43 : Value), (v44 : Value), (v45 : Value), (v46 : Value), (v47 : Value), (v48 : Value), (v49 : Value), (v50 : Value), (v51 : Value)]))] H_3 := kJoinX hP hD [0] rfl hk1 hFc hB.1 ht hB.2.2 rfl [some 0] rfl rfl
  obtain ⟨hP, hD⟩ := hPD
  obtain rfl : r_2 = 0 := hw
  have hP9 := hP
  have hD9 := hD
  have hK9 := hK
  rw [hQ]
  exact W.zret (v := 0) hx hb hr rfl (fun t ht hW => ⟨⟨0, (), rfl, rfl,  by rw [ht]; exact hP9, va_K.moved hW.alike hK9, hD9⟩, hS.F ht⟩) hS.2.2 dX10_takes_20

def w_s_isDigit10x : List Cond := .code yX10_isDigit cX10_isDigit 1 (some .boolean) :: ([.fieldLink RX10 141 "NotEndedModel" "at" "I", .fieldLink RX10 144 "NotEndedModel" "ends" "I", .fieldLink RX10 23 "NotEndedModel" "text" "[B", .fieldLink RX10 147 "NotEndedModel" "begins" "I"] ++ (wsX100))
theorem gw_s_isDigit10x : (w_s_isDigit10x).all goodWord = true := kGc rfl (kGa (by decide +kernel) gw_wsX100)
set_option maxHeartbeats 4000000 in
set_option maxRecDepth 100000 in
theorem s_isDigit10x (l : Launch) (dC : Nat → ClassId) (dI : Nat → Nat → Nat) (jM : Nat) (v0 : Value) (v1 : Value) (v2 : Value) (v3 : Value) (v6 : Value) (v7 : Value) (v8 : Value) (v12 : Value) (v13 : Value) (v14 : Value) (v15 : Value) (v18 : Value) (v19 : Value) (v20 : Value) (v21 : Value) (v22 : Value) (v23 : Value) (v24 : Value) (v25 : Value) (v26 : Value) (v27 : Value) (v28 : Value) (v29 : Value) (v30 : Value) (v31 : Value) (v32 : Value) (v33 : Value) (v34 : Value) (v35 : Value) (v36 : Value) (v37 : Value) (v38 : Value) (v39 : Value) (v40 : Value) (v41 : Value) (v42 : Value) (v43 : Value) (v44 : Value) (v45 : Value) (v46 : Value) (v47 : Value) (v48 : Value) (v49 : Value) (v50 : Value) (v51 : Value) (lt : Nat) (q6 : Nat) (q7 : Nat) (tx : Nat) (cT : ClassId) (nT : Nat) (gT : Nat → Int32) (be : Nat) (en : Nat) (a : Nat) (hbe : be + en ≤ nT) (hnT : nT ≤ 1680) (ha : a ≤ en) (bt : Nat → Nat) (hbr : ∀ j : Nat, j < en → gT (be + j) = kSg (bt j)) (hb8 : ∀ j : Nat, bt j < 256) (hb1 : ∀ j : Nat, j < en → 1 ≤ bt j) (hen9 : en ≤ 120) : Met l yX10_isDigit w_s_isDigit10x ({ frames := 1, cells := 0, slots := 0, locals := 60 }) (kR dC dI [.ref jM] [(jM, .inr (10, [v0, v1, v2, v3, .ref lt, .ref tx, v6, v7, v8, .int (nI (be)), .int (nI (en)), .int (nI (a)), v12, v13, v14, v15, .ref q6, .ref q7, v18, v19, v20, v21, v22, v23, v24, v25, v26, v27, v28, v29, v30, v31, v32, v33, v34, v35, v36, v37, v38, v39, v40, v41, v42, v43, v44, v45, v46, v47, v48, v49, v50, v51])), (tx, .inl (cT, nT, .inl gT))] [(cT, .byte)] kT) (vp_Si (fun r : Int32 => ((r = 0 ∨ r = 1) ∧ (¬ r = 0 ↔ 48 ≤ kAt bt en a ∧ kAt bt en a ≤ 57)))) 0 0 (fun _ => False) := by
  refine Met.ofW (cc := cX10_isDigit) (maxL := 1) (ret := (some .boolean)) (by decide) rfl ?_
  intro p e s m args below meth c s₁ B hml hv
  obtain ⟨rfl, hP, hK, hX⟩ := hv
  have hx := B.exec
  have hb := B.bytes
  have hr := B.returns
  have hts := atoms_spec (ws := w_s_isDigit10x) B.pre
  have hown : s.vm.findClass RX10 = some m.cls := findClass_of_methodNamed B.named
  have hlocks := B.notSynchronized
  have hP : va_P (dC, dI) vwCl [(jM, .inr (10, [v0, v1, v2, v3, .ref lt, .ref tx, v6, v7, v8, .int (nI (be)), .int (nI (en)), .int (nI (a)), v12, v13, v14, v15, .ref q6, .ref q7, v18, v19, v20, v21, v22, v23, v24, v25, v26, v27, v28, v29, v30, v31, v32, v33, v34, v35, v36, v37, v38, v39, v40, v41, v42, v43, v44, v45, v46, v47, v48, v49, v50, v51])), (tx, .inl (cT, nT, .inl gT))] s.heap := hP
  have hl := lv_entry ([.ref jM]) (n := 1) (Nat.le_of_ble_eq_true rfl)
  rw [lg_entry_eq]
  generalize (lg_sl ([.ref jM]) ++ List.replicate (1 - (lg_sl ([.ref jM])).length) Slot.unset).toArray = ls at hl ⊢
  have hl : lv_has ls 1 [(0, .ref jM)] := hl
  refine kQ (fun Q hQ => ?_)
  refine lv_aload_n hx hb dX10_isDigit_0 rfl (lv_at hl 0 rfl) ?_
  refine va_get (D := (dC, dI)) (ci := 10) (v := .int (nI (a))) (C := RX10) (T := TX10) (N := 52) hx hb hts (fun _ h => List.mem_cons_of_mem _ (List.mem_append_right _ h)) hown hK hP 0 rfl rfl 11 kc_l_11_52 (hts (.fieldLink RX10 141 "NotEndedModel" "at" "I") (List.mem_cons_of_mem _ (List.mem_append_left _ (List.mem_of_getElem? (i := 0) rfl)))) (fun _ h9 => h9) rfl dX10_isDigit_1 ?_
  refine lv_aload_n hx hb dX10_isDigit_4 rfl (lv_at hl 0 rfl) ?_
  refine va_get (D := (dC, dI)) (ci := 10) (v := .int (nI (en))) (C := RX10) (T := TX10) (N := 52) hx hb hts (fun _ h => List.mem_cons_of_mem _ (List.mem_append_right _ h)) hown hK hP 0 rfl rfl 10 kc_l_10_52 (hts (.fieldLink RX10 144 "NotEndedModel" "ends" "I") (List.mem_cons_of_mem _ (List.mem_append_left _ (List.mem_of_getElem? (i := 1) rfl)))) (fun _ h9 => h9) rfl dX10_isDigit_5 ?_
  refine lv_icmp_ge (tgt := 53) hx hb dX10_isDigit_8 kc_t_8_45 (fun c_1 => ?_) (fun c_1 => ?_)
  · have bd_3 : en < 2147483648 := by omega
    have bd_4 : a < 2147483648 := by omega
    have hn_2 := kle (a := en) (b := a) bd_3 bd_4 c_1
    refine lv_iconst (v := 0) hx hb dX10_isDigit_53 kc_i_0 ?_
    rw [hQ]
    exact W.zret (v := 0) hx hb hr rfl (fun t ht hW => ⟨0, rfl, ⟨Or.inl rfl, ⟨fun z9 => absurd rfl z9, fun z9 => by rw [kAt_ge (by omega)] at z9; exfalso; omega⟩⟩, ht⟩) (fun _ h => nomatch h) dX10_isDigit_54
  · have bd_6 : en < 2147483648 := by omega
    have bd_7 : a < 2147483648 := by omega
    have hn_5 := knle (a := en) (b := a) bd_6 bd_7 c_1
    refine lv_aload_n hx hb dX10_isDigit_11 rfl (lv_at hl 0 rfl) ?_
    refine va_get (D := (dC, dI)) (ci := 10) (v := .ref tx) (C := RX10) (T := TX10) (N := 52) hx hb hts (fun _ h => List.mem_cons_of_mem _ (List.mem_append_right _ h)) hown hK hP 0 rfl rfl 5 kc_l_5_52 (hts (.fieldLink RX10 23 "NotEndedModel" "text" "[B") (List.mem_cons_of_mem _ (List.mem_append_left _ (List.mem_of_getElem? (i := 2) rfl)))) (fun _ h9 => h9) rfl dX10_isDigit_12 ?_
    refine lv_aload_n hx hb dX10_isDigit_15 rfl (lv_at hl 0 rfl) ?_
    refine va_get (D := (dC, dI)) (ci := 10) (v := .int (nI (be))) (C := RX10) (T := TX10) (N := 52) hx hb hts (fun _ h => List.mem_cons_of_mem _ (List.mem_append_right _ h)) hown hK hP 0 rfl rfl 9 kc_l_9_52 (hts (.fieldLink RX10 147 "NotEndedModel" "begins" "I") (List.mem_cons_of_mem _ (List.mem_append_left _ (List.mem_of_getElem? (i := 3) rfl)))) (fun _ h9 => h9) rfl dX10_isDigit_16 ?_
    refine lv_aload_n hx hb dX10_isDigit_19 rfl (lv_at hl 0 rfl) ?_
    refine va_get (D := (dC, dI)) (ci := 10) (v := .int (nI (a))) (C := RX10) (T := TX10) (N := 52) hx hb hts (fun _ h => List.mem_cons_of_mem _ (List.mem_append_right _ h)) hown hK hP 0 rfl rfl 11 kc_l_11_52 (hts (.fieldLink RX10 141 "NotEndedModel" "at" "I") (List.mem_cons_of_mem _ (List.mem_append_left _ (List.mem_of_getElem? (i := 0) rfl)))) (fun _ h9 => h9) rfl dX10_isDigit_20 ?_
    refine lv_iadd hx hb dX10_isDigit_23 ?_
    refine lv_topi (fun y_8 ey_8 => ?_)
    obtain rfl : y_8 = nI (be + a) := ey_8.trans (nI_add (be) (a))
    have bd_9 : be + a < nT := by omega
    have bd_10 : nT < 2147483648 := by omega
    refine va_bald hx hb hK hP 1 0 rfl rfl (vp_in_nI (n := be + a) (N := nT) bd_9 bd_10) dX10_isDigit_24 ?_
    refine lv_topi (fun x_11 ex_11 => ?_)
    refine lv_bipush (v := 48) hx hb dX10_isDigit_25 kc_b_48 ?_
    refine lv_icmp_lt (tgt := 53) hx hb dX10_isDigit_27 kc_t_27_26 (fun c_12 => ?_) (fun c_12 => ?_)
    · refine lv_iconst (v := 0) hx hb dX10_isDigit_53 kc_i_0 ?_
      rw [hQ]
      exact W.zret (v := 0) hx hb hr rfl (fun t ht hW => ⟨0, rfl, ⟨Or.inl rfl, ⟨fun z9 => absurd rfl z9, fun z9 => by rw [kAt_in (by omega)] at z9; exact absurd (by rw [ex_11, nI_clamp (n := be + a) (by omega), hbr a (by omega)] at c_12; exact c_12) ((kSgL (hb8 a)).mpr z9).1⟩⟩, ht⟩) (fun _ h => nomatch h) dX10_isDigit_54
    · refine lv_aload_n hx hb dX10_isDigit_30 rfl (lv_at hl 0 rfl) ?_
      refine va_get (D := (dC, dI)) (ci := 10) (v := .ref tx) (C := RX10) (T := TX10) (N := 52) hx hb hts (fun _ h => List.mem_cons_of_mem _ (List.mem_append_right _ h)) hown hK hP 0 rfl rfl 5 kc_l_5_52 (hts (.fieldLink RX10 23 "NotEndedModel" "text" "[B") (List.mem_cons_of_mem _ (List.mem_append_left _ (List.mem_of_getElem? (i := 2) rfl)))) (fun _ h9 => h9) rfl dX10_isDigit_31 ?_
      refine lv_aload_n hx hb dX10_isDigit_34 rfl (lv_at hl 0 rfl) ?_
      refine va_get (D := (dC, dI)) (ci := 10) (v := .int (nI (be))) (C := RX10) (T := TX10) (N := 52) hx hb hts (fun _ h => List.mem_cons_of_mem _ (List.mem_append_right _ h)) hown hK hP 0 rfl rfl 9 kc_l_9_52 (hts (.fieldLink RX10 147 "NotEndedModel" "begins" "I") (List.mem_cons_of_mem _ (List.mem_append_left _ (List.mem_of_getElem? (i := 3) rfl)))) (fun _ h9 => h9) rfl dX10_isDigit_35 ?_
      refine lv_aload_n hx hb dX10_isDigit_38 rfl (lv_at hl 0 rfl) ?_
      refine va_get (D := (dC, dI)) (ci := 10) (v := .int (nI (a))) (C := RX10) (T := TX10) (N := 52) hx hb hts (fun _ h => List.mem_cons_of_mem _ (List.mem_append_right _ h)) hown hK hP 0 rfl rfl 11 kc_l_11_52 (hts (.fieldLink RX10 141 "NotEndedModel" "at" "I") (List.mem_cons_of_mem _ (List.mem_append_left _ (List.mem_of_getElem? (i := 0) rfl)))) (fun _ h9 => h9) rfl dX10_isDigit_39 ?_
      refine lv_iadd hx hb dX10_isDigit_42 ?_
      refine lv_topi (fun y_13 ey_13 => ?_)
      obtain rfl : y_13 = nI (be + a) := ey_13.trans (nI_add (be) (a))
      refine va_bald hx hb hK hP 1 0 rfl rfl (vp_in_nI (n := be + a) (N := nT) bd_9 bd_10) dX10_isDigit_43 ?_
      refine lv_topi (fun x_14 ex_14 => ?_)
      refine lv_bipush (v := 57) hx hb dX10_isDigit_44 kc_b_57 ?_
      refine lv_icmp_gt (tgt := 53) hx hb dX10_isDigit_46 kc_t_46_7 (fun c_15 => ?_) (fun c_15 => ?_)
      · refine lv_iconst (v := 0) hx hb dX10_isDigit_53 kc_i_0 ?_
        rw [hQ]
        exact W.zret (v := 0) hx hb hr rfl (fun t ht hW => ⟨0, rfl, ⟨Or.inl rfl, ⟨fun z9 => absurd rfl z9, fun z9 => by rw [kAt_in (by omega)] at z9; exact absurd (by rw [ex_14, nI_clamp (n := be + a) (by omega), hbr a (by omega)] at c_15; exact c_15) ((kSgL (hb8 a)).mpr z9).2⟩⟩, ht⟩) (fun _ h => nomatch h) dX10_isDigit_54
      · refine lv_iconst (v := 1) hx hb dX10_isDigit_49 kc_i_1 ?_
        refine lv_goto (tgt := 54) hx hb dX10_isDigit_50 kc_t_50_4 ?_
        rw [hQ]
        exact W.zret (v := 1) hx hb hr rfl (fun t ht hW => ⟨1, rfl, ⟨Or.inr rfl, ⟨fun _ => by rw [kAt_in (by omega)]; exact (kSgL (hb8 a)).mp ⟨by rw [← hbr a (by omega), ← nI_clamp (n := be + a) (by omega), ← ex_11]; exact c_12, by rw [← hbr a (by omega), ← nI_clamp (n := be + a) (by omega), ← ex_14]; exact c_15⟩, fun _ => by decide⟩⟩, ht⟩) (fun _ h => nomatch h) dX10_isDigit_54

def w_s_t_char1x : List Cond := .code yJ1_charAt_3b067 cJ1_charAt_3b067 2 (some .char) :: ([.initialized RJ0, .static yJ0_checkIndex_df160, .methodLink RJ1 9 yJ0_checkIndex_df160] ++ (w_s_t_chk0))
theorem gw_s_t_char1x : (w_s_t_char1x).all goodWord = true := kGc rfl (kGa (by decide +kernel) gw_s_t_chk0)
set_option maxHeartbeats 4000000 in
set_option maxRecDepth 100000 in
theorem s_t_char1x (l : Launch) (dC : Nat → ClassId) (dI : Nat → Nat → Nat) (q : Nat) (b : Nat) (n : Nat) (g : Nat → Int32) (hn : n ≤ 8) (A : Nat → Prop) (hg : ∀ k : Nat, ∃ v : Nat, v < 128 ∧ g k = nI v) (pj : Nat) (hpj : pj < n) : Met l yJ1_charAt_3b067 w_s_t_char1x ({ frames := 3, cells := 0, slots := 0, locals := 180 }) (kR dC dI [.ref b, .int (nI (pj))] [] [] (kSt q b n g A)) (vp_Si (fun r : Int32 => (∃ v : Nat, v < 128 ∧ r = nI v ∧ g pj = nI v))) 0 0 (fun _ => False) := by
  refine Met.ofW (cc := cJ1_charAt_3b067) (maxL := 2) (ret := (some .char)) (by decide) rfl ?_
  intro p e s m args below meth c s₁ B hml hv
  obtain ⟨rfl, hP, hK, hX⟩ := hv
  have hx := B.exec
  have hb := B.bytes
  have hr := B.returns
  have hts := atoms_spec (ws := w_s_t_char1x) B.pre
  have hown : s.vm.findClass RJ1 = some m.cls := findClass_of_methodNamed B.named
  have hlocks := B.notSynchronized
  have hS : va_S A s.heap s.heap [] := va_S.rf
  have hP : va_P (dC, dI) vwCl [] s.heap := hP
  have hl := lv_entry ([.ref b, .int (nI (pj))]) (n := 2) (Nat.le_of_ble_eq_true rfl)
  rw [lg_entry_eq]
  generalize (lg_sl ([.ref b, .int (nI (pj))]) ++ List.replicate (2 - (lg_sl ([.ref b, .int (nI (pj))])).length) Slot.unset).toArray = ls at hl ⊢
  have hl : lv_has ls 2 [(0, .ref b), (1, .int (nI (pj)))] := hl
  refine kQ (fun Q hQ => ?_)
  refine lv_iload_n hx hb dJ1_charAt_3b067_0 rfl (lv_at hl 1 rfl) ?_
  refine lv_aload_n hx hb dJ1_charAt_3b067_1 rfl (lv_at hl 0 rfl) ?_
  refine va_tlen hx hb hX.2.2.2.1 hS (v := nI (n)) rfl dJ1_charAt_3b067_2 ?_
  have hPc := hP.sb (ws2 := []) [] rfl
  have hKc := hK.sb (tys2 := []) [] rfl
  refine va_csv (va_runS (As := [.int (nI (pj)), .int (nI (n))]) (rest := []) ⟨hx, hb, hml, hown, hts⟩ (s_t_chk0 l dC dI q b n g hn A hg pj hpj) (va_cwS 2 hts (kG (List.forall_mem_cons.mpr ⟨(List.mem_cons_of_mem _ (List.mem_append_left _ (List.mem_of_getElem? (i := 2) rfl))), (List.forall_mem_cons.mpr ⟨(List.mem_cons_of_mem _ (List.mem_append_left _ (List.mem_of_getElem? (i := 1) rfl))), (List.forall_mem_cons.mpr ⟨(List.mem_cons_of_mem _ (List.mem_append_left _ (List.mem_of_getElem? (i := 0) rfl))), (fun _ h => absurd h List.not_mem_nil)⟩)⟩)⟩) (kGS _ _ _) (fun _ h => List.mem_cons_of_mem _ (List.mem_append_right _ h)) gw_s_t_chk0) rfl rfl rfl hd_J0_checkIndex_df160 ⟨(Nat.le_of_ble_eq_true rfl), (Nat.le_of_ble_eq_true rfl)⟩) (kR_S kSt_blind (kSt_give hX hS) hPc hKc) rfl rfl hl.1 rfl (lv_room (Nat.le_of_ble_eq_true rfl)) dJ1_charAt_3b067_3 ⟨(Nat.le_of_ble_eq_true rfl), (Nat.le_of_ble_eq_true rfl)⟩).run (fun hw => ?_)
  refine lv_aload_n hx hb dJ1_charAt_3b067_6 rfl (lv_at hl 0 rfl) ?_
  refine lv_iload_n hx hb dJ1_charAt_3b067_7 rfl (lv_at hl 1 rfl) ?_
  refine va_tb hx hb hX.2.2.2.1 hS (vp_in_nI (n := pj) (N := n) (by omega) (by omega)) (v := .int (g (Int32.toNatClampNeg (nI (pj))))) rfl dJ1_charAt_3b067_8 ?_
  refine lv_topi (fun x_3 ex_3 => ?_)
  obtain ⟨j_4, hj_4, ej_4⟩ := hg (Int32.toNatClampNeg (nI (pj)))
  rw [ej_4] at ex_3
  subst ex_3
  refine lv_sipush (v := 255) hx hb dJ1_charAt_3b067_9 kc_s_255 ?_
  refine lv_iand hx hb dJ1_charAt_3b067_12 ?_
  refine lv_topi (fun x_5 ex_5 => ?_)
  obtain rfl : x_5 = nI (j_4) := ex_5.trans (kA255 hj_4)
  obtain ⟨x_6, ex_6⟩ : ∃ z : Int32, z = (Int32.toUInt32 (nI (j_4)) % 65536).toInt32 := ⟨_, rfl⟩
  refine lv_i2c (v := x_6) hx hb dJ1_charAt_3b067_13 ex_6.symm ?_
  obtain rfl : x_6 = nI (j_4) := ex_6.trans (kI2c hj_4)
  rw [hQ]
  exact W.zret (v := nI (j_4)) hx hb hr (kNarC hj_4) (fun t ht hW => ⟨nI (j_4), rfl, ⟨_, hj_4, rfl, by rw [← ej_4, nI_clamp (n := pj) (by omega)]⟩, ht⟩) (fun _ h => nomatch h) dJ1_charAt_3b067_14

def w_s_t_charAtx : List Cond := .code yJ0_charAt_5068e cJ0_charAt_5068e 2 (some .char) :: ([.initialized RJ0, .selects RJ0 yJ0_isLatin1_aae02 yJ0_isLatin1_aae02, .instanceMethod yJ0_isLatin1_aae02, .methodLink RJ0 492 yJ0_isLatin1_aae02, .fieldLink RJ0 9 "java/lang/String" "value" "[B", .initialized RJ1, .static yJ1_charAt_3b067, .methodLink RJ0 495 yJ1_charAt_3b067] ++ (w_s_t_latin ++ (w_s_t_char1x)))
theorem gw_s_t_charAtx : (w_s_t_charAtx).all goodWord = true := kGc rfl (kGa (by decide +kernel) (kGa gw_s_t_latin gw_s_t_char1x))
set_option maxHeartbeats 4000000 in
set_option maxRecDepth 100000 in
theorem s_t_charAtx (l : Launch) (dC : Nat → ClassId) (dI : Nat → Nat → Nat) (q : Nat) (b : Nat) (n : Nat) (g : Nat → Int32) (hn : n ≤ 8) (A : Nat → Prop) (hg : ∀ k : Nat, ∃ v : Nat, v < 128 ∧ g k = nI v) (pj : Nat) (hpj : pj < n) : Met l yJ0_charAt_5068e w_s_t_charAtx ({ frames := 4, cells := 0, slots := 0, locals := 240 }) (kR dC dI [.ref q, .int (nI (pj))] [] [] (kSt q b n g A)) (vp_Si (fun r : Int32 => (∃ v : Nat, v < 128 ∧ r = nI v ∧ g pj = nI v))) 0 0 (fun _ => False) := by
  refine Met.ofW (cc := cJ0_charAt_5068e) (maxL := 2) (ret := (some .char)) (by decide) rfl ?_
  intro p e s m args below meth c s₁ B hml hv
  obtain ⟨rfl, hP, hK, hX⟩ := hv
  have hx := B.exec
  have hb := B.bytes
  have hr := B.returns
  have hts := atoms_spec (ws := w_s_t_charAtx) B.pre
  have hown : s.vm.findClass RJ0 = some m.cls := findClass_of_methodNamed B.named
  have hlocks := B.notSynchronized
  have hS : va_S A s.heap s.heap [] := va_S.rf
  have hP : va_P (dC, dI) vwCl [] s.heap := hP
  have hl := lv_entry ([.ref q, .int (nI (pj))]) (n := 2) (Nat.le_of_ble_eq_true rfl)
  rw [lg_entry_eq]
  generalize (lg_sl ([.ref q, .int (nI (pj))]) ++ List.replicate (2 - (lg_sl ([.ref q, .int (nI (pj))])).length) Slot.unset).toArray = ls at hl ⊢
  have hl : lv_has ls 2 [(0, .ref q), (1, .int (nI (pj)))] := hl
  refine kQ (fun Q hQ => ?_)
  refine lv_aload_n hx hb dJ0_charAt_5068e_0 rfl (lv_at hl 0 rfl) ?_
  have hPc := hP.sb (ws2 := []) [] rfl
  have hKc := hK.sb (tys2 := []) [] rfl
  refine vp_callSi (va_runV (As := []) (rest := []) ⟨hx, hb, hml, hown, hts⟩ (s_t_latin l dC dI q b n g hn A) (cwV 0 hts (kG (List.forall_mem_cons.mpr ⟨(List.mem_cons_of_mem _ (List.mem_append_left _ (List.mem_of_getElem? (i := 3) rfl))), (List.forall_mem_cons.mpr ⟨(List.mem_cons_of_mem _ (List.mem_append_left _ (List.mem_of_getElem? (i := 2) rfl))), (List.forall_mem_cons.mpr ⟨(List.mem_cons_of_mem _ (List.mem_append_left _ (List.mem_of_getElem? (i := 1) rfl))), (List.forall_mem_cons.mpr ⟨(List.mem_cons_of_mem _ (List.mem_append_left _ (List.mem_of_getElem? (i := 0) rfl))), (fun _ h => absurd h List.not_mem_nil)⟩)⟩)⟩)⟩) (kGV _ _ _ _) (fun _ h => List.mem_cons_of_mem _ (List.mem_append_right _ (List.mem_append_left _ h))) gw_s_t_latin) rfl rfl rfl ⟨rfl, hd_J0_isLatin1_aae02⟩ ⟨(Nat.le_of_ble_eq_true rfl), (Nat.le_of_ble_eq_true rfl)⟩) (kR_V kSt_blind (kSt_give hX hS) (kSt_recv hX hS) hPc hKc) rfl rfl hl.1 rfl (lv_room (Nat.le_of_ble_eq_true rfl)) dJ0_charAt_5068e_1 ⟨(Nat.le_of_ble_eq_true rfl), (Nat.le_of_ble_eq_true rfl)⟩).run (fun r_1 hw => ?_)
  obtain rfl : r_1 = 1 := hw
  refine lv_if_eq (tgt := 16) hx hb dJ0_charAt_5068e_4 kc_t_4_12 (fun c_2 => absurd c_2 (by decide)) (fun c_2 => ?_)
  refine lv_aload_n hx hb dJ0_charAt_5068e_7 rfl (lv_at hl 0 rfl) ?_
  refine vk_getf hx hb hX.2.2.1 hS hown (hts (.fieldLink RJ0 9 "java/lang/String" "value" "[B") (List.mem_cons_of_mem _ (List.mem_append_left _ (List.mem_of_getElem? (i := 4) rfl)))) (fun _ h9 => h9) dJ0_charAt_5068e_8 ?_
  refine lv_iload_n hx hb dJ0_charAt_5068e_11 rfl (lv_at hl 1 rfl) ?_
  have hPc := hP.sb (ws2 := []) [] rfl
  have hKc := hK.sb (tys2 := []) [] rfl
  refine vp_callSi (va_runS (As := [.ref b, .int (nI (pj))]) (rest := []) ⟨hx, hb, hml, hown, hts⟩ (s_t_char1x l dC dI q b n g hn A hg pj hpj) (va_cwS 2 hts (kG (List.forall_mem_cons.mpr ⟨(List.mem_cons_of_mem _ (List.mem_append_left _ (List.mem_of_getElem? (i := 7) rfl))), (List.forall_mem_cons.mpr ⟨(List.mem_cons_of_mem _ (List.mem_append_left _ (List.mem_of_getElem? (i := 6) rfl))), (List.forall_mem_cons.mpr ⟨(List.mem_cons_of_mem _ (List.mem_append_left _ (List.mem_of_getElem? (i := 5) rfl))), (fun _ h => absurd h List.not_mem_nil)⟩)⟩)⟩) (kGS _ _ _) (fun _ h => List.mem_cons_of_mem _ (List.mem_append_right _ (List.mem_append_right _ h))) gw_s_t_char1x) rfl rfl rfl hd_J1_charAt_3b067 ⟨(Nat.le_of_ble_eq_true rfl), (Nat.le_of_ble_eq_true rfl)⟩) (kR_S kSt_blind (kSt_give hX hS) hPc hKc) rfl rfl hl.1 rfl (lv_room (Nat.le_of_ble_eq_true rfl)) dJ0_charAt_5068e_12 ⟨(Nat.le_of_ble_eq_true rfl), (Nat.le_of_ble_eq_true rfl)⟩).run (fun r_3 hw => ?_)
  have hw_4 := hw
  rw [hQ]
  exact W.zret (v := r_3) hx hb hr (by obtain ⟨v9, hv9, e9, _⟩ := hw_4; rw [e9]; exact kNarC hv9) (fun t ht hW => ⟨r_3, rfl, hw_4, ht⟩) (fun _ h => nomatch h) dJ0_charAt_5068e_15

def w_s_among10x : List Cond := .code yX10_isAmong cX10_isAmong 3 (some .boolean) :: ([.initialized RJ0, .selects RJ0 yJ0_length_8abf5 yJ0_length_8abf5, .instanceMethod yJ0_length_8abf5, .methodLink RX10 121 yJ0_length_8abf5, .selects RJ0 yJ0_charAt_5068e yJ0_charAt_5068e, .instanceMethod yJ0_charAt_5068e, .methodLink RX10 127 yJ0_charAt_5068e] ++ (w_s_t_length ++ (w_s_t_charAtx)))
theorem gw_s_among10x : (w_s_among10x).all goodWord = true := kGc rfl (kGa (by decide +kernel) (kGa gw_s_t_length gw_s_t_charAtx))
set_option maxHeartbeats 4000000 in
set_option maxRecDepth 100000 in
theorem s_among10x (l : Launch) (dC : Nat → ClassId) (dI : Nat → Nat → Nat) (q : Nat) (b : Nat) (n : Nat) (g : Nat → Int32) (hn : n ≤ 8) (A : Nat → Prop) (hg : ∀ k : Nat, ∃ v : Nat, v < 128 ∧ g k = nI v) (p0 : Int32) : Met l yX10_isAmong w_s_among10x ({ frames := 5, cells := 0, slots := 0, locals := 300 }) (kR dC dI [.ref q, .int p0] [] [] (kSt q b n g A)) (vp_Si (fun r : Int32 => ((¬ r = 0 ↔ kIx g n p0 < n) ∧ (¬ r = 0 → ∃ j : Nat, j < 128 ∧ p0 = nI j)))) 0 0 (fun _ => False) := by
  refine Met.ofW (cc := cX10_isAmong) (maxL := 3) (ret := (some .boolean)) (by decide) rfl ?_
  intro p e s m args below meth c s₁ B hml hv
  obtain ⟨rfl, hP, hK, hX⟩ := hv
  have hx := B.exec
  have hb := B.bytes
  have hr := B.returns
  have hts := atoms_spec (ws := w_s_among10x) B.pre
  have hown : s.vm.findClass RX10 = some m.cls := findClass_of_methodNamed B.named
  have hlocks := B.notSynchronized
  have hS : va_S A s.heap s.heap [] := va_S.rf
  have hP : va_P (dC, dI) vwCl [] s.heap := hP
  have hl := lv_entry ([.ref q, .int p0]) (n := 3) (Nat.le_of_ble_eq_true rfl)
  rw [lg_entry_eq]
  generalize (lg_sl ([.ref q, .int p0]) ++ List.replicate (3 - (lg_sl ([.ref q, .int p0])).length) Slot.unset).toArray = ls at hl ⊢
  have hl : lv_has ls 3 [(0, .ref q), (1, .int p0)] := hl
  refine kQ (fun Q hQ => ?_)
  refine lv_iconst (v := 0) hx hb dX10_isAmong_0 kc_i_0 ?_
  refine lv_istore_n hx hb dX10_isAmong_1 rfl hl kc_l_2_3 (kTo [(2, .int 0), (0, .ref q), (1, .int p0)]) (fun ls hl => ?_)
  have lp_k_1 : ∀ (n9 : Nat) (i : Nat) (ivk_1_0 : i ≤ n) (ivk_1_1 : kFd g p0 (n - i) i = kIx g n p0) (ls : Array Slot) (_ : lv_has ls 3 [(2, .int (nI (i))), (0, .ref q), (1, .int p0)]) (_ : n - i < n9), W p l e (headSpec w_s_among10x ({ frames := 5, cells := 0, slots := 0, locals := 300 })).room s m (#[.ref q, .int p0] : Array Value) below meth c s.heap [] 0 0 Q (F0 m 2 ls []) := by
    intro n9
    induction n9 with
    | zero => intro i ivk_1_0 ivk_1_1 ls hl hm9; exact absurd hm9 (Nat.not_lt_zero _)
    | succ n9 ih_k_1 =>
      intro i ivk_1_0 ivk_1_1 ls hl hm9
      refine lv_iload_n hx hb dX10_isAmong_2 rfl (lv_at hl 0 rfl) ?_
      refine lv_aload_n hx hb dX10_isAmong_3 rfl (lv_at hl 1 rfl) ?_
      have hPc := hP.sb (ws2 := []) [] rfl
      have hKc := hK.sb (tys2 := []) [] rfl
      refine vp_callSi (va_runV (As := []) (rest := [.int (nI (i))]) ⟨hx, hb, hml, hown, hts⟩ (s_t_length l dC dI q b n g hn A) (cwV 0 hts (kG (List.forall_mem_cons.mpr ⟨(List.mem_cons_of_mem _ (List.mem_append_left _ (List.mem_of_getElem? (i := 3) rfl))), (List.forall_mem_cons.mpr ⟨(List.mem_cons_of_mem _ (List.mem_append_left _ (List.mem_of_getElem? (i := 2) rfl))), (List.forall_mem_cons.mpr ⟨(List.mem_cons_of_mem _ (List.mem_append_left _ (List.mem_of_getElem? (i := 1) rfl))), (List.forall_mem_cons.mpr ⟨(List.mem_cons_of_mem _ (List.mem_append_left _ (List.mem_of_getElem? (i := 0) rfl))), (fun _ h => absurd h List.not_mem_nil)⟩)⟩)⟩)⟩) (kGV _ _ _ _) (fun _ h => List.mem_cons_of_mem _ (List.mem_append_right _ (List.mem_append_left _ h))) gw_s_t_length) rfl rfl rfl ⟨rfl, hd_J0_length_8abf5⟩ ⟨(Nat.le_of_ble_eq_true rfl), (Nat.le_of_ble_eq_true rfl)⟩) (kR_V kSt_blind (kSt_give hX hS) (kSt_recv hX hS) hPc hKc) rfl rfl hl.1 rfl (lv_room (Nat.le_of_ble_eq_true rfl)) dX10_isAmong_4 ⟨(Nat.le_of_ble_eq_true rfl), (Nat.le_of_ble_eq_true rfl)⟩).run (fun r_2 hw => ?_)
      obtain rfl : r_2 = nI (n) := hw
      refine lv_icmp_ge (tgt := 27) hx hb dX10_isAmong_7 kc_t_7_20 (fun c_3 => ?_) (fun c_3 => ?_)
      · have bd_5 : n < 2147483648 := by omega
        have bd_6 : i < 2147483648 := by omega
        have hn_4 := kle (a := n) (b := i) bd_5 bd_6 c_3
        refine lv_iconst (v := 0) hx hb dX10_isAmong_27 kc_i_0 ?_
        rw [hQ]
        exact W.zret (v := 0) hx hb hr rfl (fun t ht hW => ⟨0, rfl, ⟨⟨fun z => absurd rfl z, fun z => by rw [← ivk_1_1, show n - i = 0 by omega] at z; have z8 : i < n := z; exfalso; omega⟩, fun z => absurd rfl z⟩, ht⟩) (fun _ h => nomatch h) dX10_isAmong_28
      · have bd_8 : n < 2147483648 := by omega
        have bd_9 : i < 2147483648 := by omega
        have hn_7 := knle (a := n) (b := i) bd_8 bd_9 c_3
        refine lv_aload_n hx hb dX10_isAmong_10 rfl (lv_at hl 1 rfl) ?_
        refine lv_iload_n hx hb dX10_isAmong_11 rfl (lv_at hl 0 rfl) ?_
        have bd_10 : i < n := by omega
        have hPc := hP.sb (ws2 := []) [] rfl
        have hKc := hK.sb (tys2 := []) [] rfl
        refine vp_callSi (va_runV (As := [.int (nI (i))]) (rest := []) ⟨hx, hb, hml, hown, hts⟩ (s_t_charAtx l dC dI q b n g hn A hg i bd_10) (cwV 1 hts (kG (List.forall_mem_cons.mpr ⟨(List.mem_cons_of_mem _ (List.mem_append_left _ (List.mem_of_getElem? (i := 6) rfl))), (List.forall_mem_cons.mpr ⟨(List.mem_cons_of_mem _ (List.mem_append_left _ (List.mem_of_getElem? (i := 5) rfl))), (List.forall_mem_cons.mpr ⟨(List.mem_cons_of_mem _ (List.mem_append_left _ (List.mem_of_getElem? (i := 4) rfl))), (List.forall_mem_cons.mpr ⟨(List.mem_cons_of_mem _ (List.mem_append_left _ (List.mem_of_getElem? (i := 0) rfl))), (fun _ h => absurd h List.not_mem_nil)⟩)⟩)⟩)⟩) (kGV _ _ _ _) (fun _ h => List.mem_cons_of_mem _ (List.mem_append_right _ (List.mem_append_right _ h))) gw_s_t_charAtx) rfl rfl rfl ⟨rfl, hd_J0_charAt_5068e⟩ ⟨(Nat.le_of_ble_eq_true rfl), (Nat.le_of_ble_eq_true rfl)⟩) (kR_V kSt_blind (kSt_give hX hS) (kSt_recv hX hS) hPc hKc) rfl rfl hl.1 rfl (lv_room (Nat.le_of_ble_eq_true rfl)) dX10_isAmong_12 ⟨(Nat.le_of_ble_eq_true rfl), (Nat.le_of_ble_eq_true rfl)⟩).run (fun r_11 hw => ?_)
        have hw_12 := hw
        refine lv_iload_n hx hb dX10_isAmong_15 rfl (lv_at hl 2 rfl) ?_
        refine lv_icmp_ne (tgt := 21) hx hb dX10_isAmong_16 kc_t_16_5 (fun c_13 => ?_) (fun c_13 => ?_)
        · refine lv_iinc (v := nI (i + 1)) hx hb dX10_isAmong_21 hl (k := 0) rfl (kInc _ 1) kc_l_2_3 (kTo [(2, .int (nI (i + 1))), (0, .ref q), (1, .int p0)]) (fun ls hl => ?_)
          refine lv_goto (tgt := 2) hx hb dX10_isAmong_24 kc_t_24_m22 ?_
          exact ih_k_1 (i + 1) (by omega) (by obtain ⟨v9, hv9, e9, g9⟩ := hw_12; rw [← ivk_1_1, show n - i = (n - (i + 1)) + 1 by omega]; exact (kFd_s (fun z => c_13 (e9.trans (g9.symm.trans z)))).symm) ls (lv_sub hl [0, 1, 2] rfl) (by omega)
        · refine lv_iconst (v := 1) hx hb dX10_isAmong_19 kc_i_1 ?_
          rw [hQ]
          exact W.zret (v := 1) hx hb hr rfl (fun t ht hW => ⟨1, rfl, (by obtain ⟨v9, hv9, e9, g9⟩ := hw_12; have e8 : g i = p0 := g9.trans (e9.symm.trans c_13); exact ⟨⟨fun _ => by rw [← ivk_1_1, show n - i = (n - (i + 1)) + 1 by omega, kFd_h e8]; omega, fun _ => by decide⟩, fun _ => ⟨v9, hv9, c_13.symm.trans e9⟩⟩), ht⟩) (fun _ h => nomatch h) dX10_isAmong_20
  exact lp_k_1 (n - 0 + 1) 0 (by omega) rfl ls (lv_sub hl [0, 1, 2] rfl) (by omega)

def w_s_isSign10x : List Cond := .code yX10_isSign cX10_isSign 1 (some .boolean) :: ([])
theorem gw_s_isSign10x : (w_s_isSign10x).all goodWord = true := kGc rfl kGn
set_option maxHeartbeats 4000000 in
set_option maxRecDepth 100000 in
theorem s_isSign10x (l : Launch) (dC : Nat → ClassId) (dI : Nat → Nat → Nat) (p0 : Int32) : Met l yX10_isSign w_s_isSign10x ({ frames := 1, cells := 0, slots := 0, locals := 60 }) (kR dC dI [.int p0] [] [] kT) (vp_Si (fun r : Int32 => (¬ r = 0 ↔ p0 = 61 ∨ p0 = 60 ∨ p0 = 62))) 0 0 (fun _ => False) := by
  refine Met.ofW (cc := cX10_isSign) (maxL := 1) (ret := (some .boolean)) (by decide) rfl ?_
  intro p e s m args below meth c s₁ B hml hv
  obtain ⟨rfl, hP, hK, hX⟩ := hv
  have hx := B.exec
  have hb := B.bytes
  have hr := B.returns
  have hts := atoms_spec (ws := w_s_isSign10x) B.pre
  have hown : s.vm.findClass RX10 = some m.cls := findClass_of_methodNamed B.named
  have hlocks := B.notSynchronized
  have hP : va_P (dC, dI) vwCl [] s.heap := hP
  have hl := lv_entry ([.int p0]) (n := 1) (Nat.le_of_ble_eq_true rfl)
  rw [lg_entry_eq]
  generalize (lg_sl ([.int p0]) ++ List.replicate (1 - (lg_sl ([.int p0])).length) Slot.unset).toArray = ls at hl ⊢
  have hl : lv_has ls 1 [(0, .int p0)] := hl
  refine kQ (fun Q hQ => ?_)
  refine lv_iload_n hx hb dX10_isSign_0 rfl (lv_at hl 0 rfl) ?_
  refine lv_bipush (v := 61) hx hb dX10_isSign_1 kc_b_61 ?_
  refine lv_icmp_eq (tgt := 18) hx hb dX10_isSign_3 kc_t_3_15 (fun c_1 => ?_) (fun c_1 => ?_)
  · refine lv_iconst (v := 1) hx hb dX10_isSign_18 kc_i_1 ?_
    refine lv_goto (tgt := 23) hx hb dX10_isSign_19 kc_t_19_4 ?_
    rw [hQ]
    exact W.zret (v := 1) hx hb hr rfl (fun t ht hW => ⟨1, rfl, ⟨fun _ => Or.inl c_1, fun _ => by decide⟩, ht⟩) (fun _ h => nomatch h) dX10_isSign_23
  · refine lv_iload_n hx hb dX10_isSign_6 rfl (lv_at hl 0 rfl) ?_
    refine lv_bipush (v := 60) hx hb dX10_isSign_7 kc_b_60 ?_
    refine lv_icmp_eq (tgt := 18) hx hb dX10_isSign_9 kc_t_9_9 (fun c_2 => ?_) (fun c_2 => ?_)
    · refine lv_iconst (v := 1) hx hb dX10_isSign_18 kc_i_1 ?_
      refine lv_goto (tgt := 23) hx hb dX10_isSign_19 kc_t_19_4 ?_
      rw [hQ]
      exact W.zret (v := 1) hx hb hr rfl (fun t ht hW => ⟨1, rfl, ⟨fun _ => Or.inr (Or.inl c_2), fun _ => by decide⟩, ht⟩) (fun _ h => nomatch h) dX10_isSign_23
    · refine lv_iload_n hx hb dX10_isSign_12 rfl (lv_at hl 0 rfl) ?_
      refine lv_bipush (v := 62) hx hb dX10_isSign_13 kc_b_62 ?_
      refine lv_icmp_ne (tgt := 22) hx hb dX10_isSign_15 kc_t_15_7 (fun c_3 => ?_) (fun c_3 => ?_)
      · refine lv_iconst (v := 0) hx hb dX10_isSign_22 kc_i_0 ?_
        rw [hQ]
        exact W.zret (v := 0) hx hb hr rfl (fun t ht hW => ⟨0, rfl, ⟨fun z => absurd rfl z, fun z => by rcases z with z | z | z; exact absurd z c_1; exact absurd z c_2; exact absurd z c_3⟩, ht⟩) (fun _ h => nomatch h) dX10_isSign_23
      · refine lv_iconst (v := 1) hx hb dX10_isSign_18 kc_i_1 ?_
        refine lv_goto (tgt := 23) hx hb dX10_isSign_19 kc_t_19_4 ?_
        rw [hQ]
        exact W.zret (v := 1) hx hb hr rfl (fun t ht hW => ⟨1, rfl, ⟨fun _ => Or.inr (Or.inr c_3), fun _ => by decide⟩, ht⟩) (fun _ h => nomatch h) dX10_isSign_23

def w_s_within10x : List Cond := .code yX10_within cX10_within 2 (some .int) :: ([.constantLong RX10 163 (-1000000), .constantLong RX10 165 (1000000), .methodLink RX10 167 Lib.MathLoose.min_long.x, .static Lib.MathLoose.min_long.x, .initialized RJ9, .code Lib.MathLoose.min_long.x Lib.MathLoose.min_long.code 4 (some .long), .methodLink RX10 173 Lib.MathLoose.max_long.x, .static Lib.MathLoose.max_long.x, .code Lib.MathLoose.max_long.x Lib.MathLoose.max_long.code 4 (some .long)] ++ [])
theorem gw_s_within10x : (w_s_within10x).all goodWord = true := kGc rfl (kGa (by decide +kernel) kGn)
set_option maxHeartbeats 4000000 in
set_option maxRecDepth 100000 in
theorem s_within10x (l : Launch) (dC : Nat → ClassId) (dI : Nat → Nat → Nat) (p0 : Int64) : Met l yX10_within w_s_within10x ({ frames := 2, cells := 0, slots := 0, locals := 120 }) (kR dC dI [.long p0] [] [] kT) (vp_Si (fun r : Int32 => r = kClm (Int64.toInt p0))) 0 0 (fun _ => False) := by
  refine Met.ofW (cc := cX10_within) (maxL := 2) (ret := (some .int)) (by decide) rfl ?_
  intro p e s m args below meth c s₁ B hml hv
  obtain ⟨rfl, hP, hK, hX⟩ := hv
  have hx := B.exec
  have hb := B.bytes
  have hr := B.returns
  have hts := atoms_spec (ws := w_s_within10x) B.pre
  have hown : s.vm.findClass RX10 = some m.cls := findClass_of_methodNamed B.named
  have hlocks := B.notSynchronized
  have hP : va_P (dC, dI) vwCl [] s.heap := hP
  have hl := lv_entry ([.long p0]) (n := 2) (Nat.le_of_ble_eq_true rfl)
  rw [lg_entry_eq]
  generalize (lg_sl ([.long p0]) ++ List.replicate (2 - (lg_sl ([.long p0])).length) Slot.unset).toArray = ls at hl ⊢
  have hl : lv_has ls 2 [(0, .long p0)] := hl
  refine kQ (fun Q hQ => ?_)
  refine lv_ldc2 (v := (-1000000)) hx hb hown (hts (.constantLong RX10 163 (-1000000)) (List.mem_cons_of_mem _ (List.mem_append_left _ (List.mem_of_getElem? (i := 0) rfl)))) dX10_within_0 ?_
  refine lv_ldc2 (v := 1000000) hx hb hown (hts (.constantLong RX10 165 (1000000)) (List.mem_cons_of_mem _ (List.mem_append_left _ (List.mem_of_getElem? (i := 1) rfl)))) dX10_within_3 ?_
  refine lv_lload_n hx hb dX10_within_6 rfl (lv_at hl 0 rfl) ?_
  refine va_mmin_long hx hb (hml.trans hl.1.symm) hown (hts (.methodLink RX10 167 Lib.MathLoose.min_long.x) (List.mem_cons_of_mem _ (List.mem_append_left _ (List.mem_of_getElem? (i := 2) rfl)))) (hts (.static Lib.MathLoose.min_long.x) (List.mem_cons_of_mem _ (List.mem_append_left _ (List.mem_of_getElem? (i := 3) rfl)))) (hts (.initialized RJ9) (List.mem_cons_of_mem _ (List.mem_append_left _ (List.mem_of_getElem? (i := 4) rfl)))) (hts (.code Lib.MathLoose.min_long.x Lib.MathLoose.min_long.code 4 (some .long)) (List.mem_cons_of_mem _ (List.mem_append_left _ (List.mem_of_getElem? (i := 5) rfl)))) (Nat.le_of_ble_eq_true rfl) (Nat.le_of_ble_eq_true rfl) (Nat.le_of_ble_eq_true rfl) (Nat.le_of_ble_eq_true rfl) dX10_within_7 ?_
  refine lv_topl (fun z_1 ez_1 => ?_)
  refine va_mmax_long hx hb (hml.trans hl.1.symm) hown (hts (.methodLink RX10 173 Lib.MathLoose.max_long.x) (List.mem_cons_of_mem _ (List.mem_append_left _ (List.mem_of_getElem? (i := 6) rfl)))) (hts (.static Lib.MathLoose.max_long.x) (List.mem_cons_of_mem _ (List.mem_append_left _ (List.mem_of_getElem? (i := 7) rfl)))) (hts (.initialized RJ9) (List.mem_cons_of_mem _ (List.mem_append_left _ (List.mem_of_getElem? (i := 4) rfl)))) (hts (.code Lib.MathLoose.max_long.x Lib.MathLoose.max_long.code 4 (some .long)) (List.mem_cons_of_mem _ (List.mem_append_left _ (List.mem_of_getElem? (i := 8) rfl)))) (Nat.le_of_ble_eq_true rfl) (Nat.le_of_ble_eq_true rfl) (Nat.le_of_ble_eq_true rfl) (Nat.le_of_ble_eq_true rfl) dX10_within_10 ?_
  refine lv_topl (fun z_2 ez_2 => ?_)
  obtain ⟨x_3, ex_3⟩ : ∃ z : Int32, z = Int64.toInt32 z_2 := ⟨_, rfl⟩
  refine lv_l2i (v := x_3) hx hb dX10_within_13 ex_3.symm ?_
  rw [hQ]
  exact W.iret (v := x_3) hx hb hr (fun t ht hW => ⟨x_3, rfl, (kWit ez_1 ez_2 ex_3), ht⟩) (fun _ h => nomatch h) dX10_within_14

def w_s_goesIn10x_g : List Cond := .code yX10_goesIn cX10_goesIn 1 (some .boolean) :: ([.fieldLink RX10 153 "NotEndedModel" "deep" "I", .fieldLink RX10 141 "NotEndedModel" "at" "I"] ++ (wsX100))
theorem gw_s_goesIn10x_g : (w_s_goesIn10x_g).all goodWord = true := kGc rfl (kGa (by decide +kernel) gw_wsX100)
set_option maxHeartbeats 4000000 in
set_option maxRecDepth 100000 in
theorem s_goesIn10x_g (l : Launch) (dC : Nat → ClassId) (dI : Nat → Nat → Nat) (jM : Nat) (v0 : Value) (v1 : Value) (v2 : Value) (v3 : Value) (v6 : Value) (v7 : Value) (v8 : Value) (v12 : Value) (v14 : Value) (v15 : Value) (v18 : Value) (v19 : Value) (v20 : Value) (v21 : Value) (v22 : Value) (v23 : Value) (v24 : Value) (v25 : Value) (v26 : Value) (v27 : Value) (v28 : Value) (v29 : Value) (v30 : Value) (v31 : Value) (v32 : Value) (v33 : Value) (v34 : Value) (v35 : Value) (v36 : Value) (v37 : Value) (v38 : Value) (v39 : Value) (v40 : Value) (v41 : Value) (v42 : Value) (v43 : Value) (v44 : Value) (v45 : Value) (v46 : Value) (v47 : Value) (v48 : Value) (v49 : Value) (v50 : Value) (v51 : Value) (lt : Nat) (q6 : Nat) (q7 : Nat) (tx : Nat) (be : Nat) (en : Nat) (a : Nat) (ha : a ≤ en) (hen : en ≤ 1680) (hlt : a < en) (dd : Nat) (hd6 : dd < 6) (sz : Nat) : Met l yX10_goesIn w_s_goesIn10x_g ({ frames := 2, cells := 0, slots := 0, locals := 120 }) (kW dC dI [.ref jM] [(jM, .inr (10, [v0, v1, v2, v3, .ref lt, .ref tx, v6, v7, v8, .int (nI (be)), .int (nI (en)), .int (nI (a)), v12, .int (nI (dd)), v14, v15, .ref q6, .ref q7, v18, v19, v20, v21, v22, v23, v24, v25, v26, v27, v28, v29, v30, v31, v32, v33, v34, v35, v36, v37, v38, v39, v40, v41, v42, v43, v44, v45, v46, v47, v48, v49, v50, v51]))] [] kT sz) (va_Qi (fun (r : Int32) (_ : Unit) => r = 1) (fun (_ : Unit) => fun t : State => kB dC dI [(jM, .inr (10, [v0, v1, v2, v3, .ref lt, .ref tx, v6, v7, v8, .int (nI (be)), .int (nI (en)), .int (nI (a + 1)), v12, .int (nI (dd + 1)), v14, v15, .ref q6, .ref q7, v18, v19, v20, v21, v22, v23, v24, v25, v26, v27, v28, v29, v30, v31, v32, v33, v34, v35, v36, v37, v38, v39, v40, v41, v42, v43, v44, v45, v46, v47, v48, v49, v50, v51]))] [] (va_A [(jM, .inr (10, [v0, v1, v2, v3, .ref lt, .ref tx, v6, v7, v8, .int (nI (be)), .int (nI (en)), .int (nI (a)), v12, .int (nI (dd)), v14, v15, .ref q6, .ref q7, v18, v19, v20, v21, v22, v23, v24, v25, v26, v27, v28, v29, v30, v31, v32, v33, v34, v35, v36, v37, v38, v39, v40, v41, v42, v43, v44, v45, v46, v47, v48, v49, v50, v51]))] sz) t) (va_A [(jM, .inr (10, [v0, v1, v2, v3, .ref lt, .ref tx, v6, v7, v8, .int (nI (be)), .int (nI (en)), .int (nI (a)), v12, .int (nI (dd)), v14, v15, .ref q6, .ref q7, v18, v19, v20, v21, v22, v23, v24, v25, v26, v27, v28, v29, v30, v31, v32, v33, v34, v35, v36, v37, v38, v39, v40, v41, v42, v43, v44, v45, v46, v47, v48, v49, v50, v51]))] sz)) 0 0 (va_A [(jM, .inr (10, [v0, v1, v2, v3, .ref lt, .ref tx, v6, v7, v8, .int (nI (be)), .int (nI (en)), .int (nI (a)), v12, .int (nI (dd)), v14, v15, .ref q6, .ref q7, v18, v19, v20, v21, v22, v23, v24, v25, v26, v27, v28, v29, v30, v31, v32, v33, v34, v35, v36, v37, v38, v39, v40, v41, v42, v43, v44, v45, v46, v47, v48, v49, v50, v51]))] sz) := by
  refine Met.ofW (cc := cX10_goesIn) (maxL := 1) (ret := (some .boolean)) (by decide) rfl ?_
  intro p e s m args below meth c s₁ B hml hv
  obtain ⟨rfl, hsz, hP, hK, hD0, hX⟩ := hv
  have hx := B.exec
  have hb := B.bytes
  have hr := B.returns
  have hts := atoms_spec (ws := w_s_goesIn10x_g) B.pre
  have hown : s.vm.findClass RX10 = some m.cls := findClass_of_methodNamed B.named
  have hlocks := B.notSynchronized
  subst hsz
  have hD := hD0.self (sz := s.heap.size)
  generalize hAe : va_A [(jM, .inr (10, [v0, v1, v2, v3, .ref lt, .ref tx, v6, v7, v8, .int (nI (be)), .int (nI (en)), .int (nI (a)), v12, .int (nI (dd)), v14, v15, .ref q6, .ref q7, v18, v19, v20, v21, v22, v23, v24, v25, v26, v27, v28, v29, v30, v31, v32, v33, v34, v35, v36, v37, v38, v39, v40, v41, v42, v43, v44, v45, v46, v47, v48, v49, v50, v51]))] s.heap.size = A at hD ⊢
  have hA : ∀ q : Nat, s.heap.size ≤ q → A q := fun q h => by rw [← hAe]; exact Or.inr h
  have hS : va_S A s.heap s.heap [] := va_S.rf
  have hP : va_P (dC, dI) vwCl [(jM, .inr (10, [v0, v1, v2, v3, .ref lt, .ref tx, v6, v7, v8, .int (nI (be)), .int (nI (en)), .int (nI (a)), v12, .int (nI (dd)), v14, v15, .ref q6, .ref q7, v18, v19, v20, v21, v22, v23, v24, v25, v26, v27, v28, v29, v30, v31, v32, v33, v34, v35, v36, v37, v38, v39, v40, v41, v42, v43, v44, v45, v46, v47, v48, v49, v50, v51]))] s.heap := hP
  have hl := lv_entry ([.ref jM]) (n := 1) (Nat.le_of_ble_eq_true rfl)
  rw [lg_entry_eq]
  generalize (lg_sl ([.ref jM]) ++ List.replicate (1 - (lg_sl ([.ref jM])).length) Slot.unset).toArray = ls at hl ⊢
  have hl : lv_has ls 1 [(0, .ref jM)] := hl
  refine kQ (fun Q hQ => ?_)
  refine lv_aload_n hx hb dX10_goesIn_0 rfl (lv_at hl 0 rfl) ?_
  refine va_get (D := (dC, dI)) (ci := 10) (v := .int (nI (dd))) (C := RX10) (T := TX10) (N := 52) hx hb hts (fun _ h => List.mem_cons_of_mem _ (List.mem_append_right _ h)) hown hK hP 0 rfl rfl 13 kc_l_13_52 (hts (.fieldLink RX10 153 "NotEndedModel" "deep" "I") (List.mem_cons_of_mem _ (List.mem_append_left _ (List.mem_of_getElem? (i := 0) rfl)))) (fun _ h9 => h9) rfl dX10_goesIn_1 ?_
  refine lv_bipush (v := 6) hx hb dX10_goesIn_4 kc_b_6 ?_
  refine lv_icmp_ne (tgt := 14) hx hb dX10_goesIn_6 kc_t_6_8 (fun c_1 => ?_) (fun c_1 => absurd c_1 (kNe6 (by omega)))
  refine lv_aload_n hx hb dX10_goesIn_14 rfl (lv_at hl 0 rfl) ?_
  refine lv_dup hx hb dX10_goesIn_15 rfl ?_
  refine va_get (D := (dC, dI)) (ci := 10) (v := .int (nI (dd))) (C := RX10) (T := TX10) (N := 52) hx hb hts (fun _ h => List.mem_cons_of_mem _ (List.mem_append_right _ h)) hown hK hP 0 rfl rfl 13 kc_l_13_52 (hts (.fieldLink RX10 153 "NotEndedModel" "deep" "I") (List.mem_cons_of_mem _ (List.mem_append_left _ (List.mem_of_getElem? (i := 0) rfl)))) (fun _ h9 => h9) rfl dX10_goesIn_16 ?_
  refine lv_iconst (v := 1) hx hb dX10_goesIn_19 kc_i_1 ?_
  refine lv_iadd hx hb dX10_goesIn_20 ?_
  refine lv_topi (fun y_2 ey_2 => ?_)
  obtain rfl : y_2 = nI (dd + 1) := ey_2.trans (nI_add (dd) (1))
  refine va_put (D := (dC, dI)) (ci := 10) (v := .int (nI (dd + 1))) (ty := tyX10 13) (C := RX10) (T := TX10) (N := 52) hx hb hts (fun _ h => List.mem_cons_of_mem _ (List.mem_append_right _ h)) tyX10 tyX10_ok nmX10 hown hK hP hD hS 0 rfl rfl 13 kc_l_13_52 (hts (.fieldLink RX10 153 "NotEndedModel" "deep" "I") (List.mem_cons_of_mem _ (List.mem_append_left _ (List.mem_of_getElem? (i := 0) rfl)))) (fun _ h9 => h9) rfl (tyX10_ok 13 kc_l_13_52) rfl rfl (Nat.le_of_ble_eq_true rfl) dX10_goesIn_21 (fun H locs hP hD hS => ?_)
  have hPD : kPD dC dI A [(jM, .inr (10, [v0, v1, v2, v3, .ref lt, .ref tx, v6, v7, v8, .int (nI (be)), .int (nI (en)), .int (nI (a)), v12, .int (nI (dd + 1)), v14, v15, .ref q6, .ref q7, v18, v19, v20, v21, v22, v23, v24, v25, v26, v27, v28, v29, v30, v31, v32, v33, v34, v35, v36, v37, v38, v39, v40, v41, v42, v43, v44, v45, v46, v47, v48, v49, v50, v51]))] H := ⟨hP, hD⟩
  obtain ⟨hP, hD⟩ := hPD
  refine lv_aload_n hx hb dX10_goesIn_24 rfl (lv_at hl 0 rfl) ?_
  refine lv_dup hx hb dX10_goesIn_25 rfl ?_
  refine va_get (D := (dC, dI)) (ci := 10) (v := .int (nI (a))) (C := RX10) (T := TX10) (N := 52) hx hb hts (fun _ h => List.mem_cons_of_mem _ (List.mem_append_right _ h)) hown hK hP 0 rfl rfl 11 kc_l_11_52 (hts (.fieldLink RX10 141 "NotEndedModel" "at" "I") (List.mem_cons_of_mem _ (List.mem_append_left _ (List.mem_of_getElem? (i := 1) rfl)))) (fun _ h9 => h9) rfl dX10_goesIn_26 ?_
  refine lv_iconst (v := 1) hx hb dX10_goesIn_29 kc_i_1 ?_
  refine lv_iadd hx hb dX10_goesIn_30 ?_
  refine lv_topi (fun y_3 ey_3 => ?_)
  obtain rfl : y_3 = nI (a + 1) := ey_3.trans (nI_add (a) (1))
  refine va_put (D := (dC, dI)) (ci := 10) (v := .int (nI (a + 1))) (ty := tyX10 11) (C := RX10) (T := TX10) (N := 52) hx hb hts (fun _ h => List.mem_cons_of_mem _ (List.mem_append_right _ h)) tyX10 tyX10_ok nmX10 hown hK hP hD hS 0 rfl rfl 11 kc_l_11_52 (hts (.fieldLink RX10 141 "NotEndedModel" "at" "I") (List.mem_cons_of_mem _ (List.mem_append_left _ (List.mem_of_getElem? (i := 1) rfl)))) (fun _ h9 => h9) rfl (tyX10_ok 11 kc_l_11_52) rfl rfl (Nat.le_of_ble_eq_true rfl) dX10_goesIn_31 (fun H locs hP hD hS => ?_)
  have hPD : kPD dC dI A [(jM, .inr (10, [v0, v1, v2, v3, .ref lt, .ref tx, v6, v7, v8, .int (nI (be)), .int (nI (en)), .int (nI (a + 1)), v12, .int (nI (dd + 1)), v14, v15, .ref q6, .ref q7, v18, v19, v20, v21, v22, v23, v24, v25, v26, v27, v28, v29, v30, v31, v32, v33, v34, v35, v36, v37, v38, v39, v40, v41, v42, v43, v44, v45, v46, v47, v48, v49, v50, v51]))] H := ⟨hP, hD⟩
  obtain ⟨hP, hD⟩ := hPD
  refine lv_iconst (v := 1) hx hb dX10_goesIn_34 kc_i_1 ?_
  have hP9 := hP
  have hD9 := hD
  have hK9 := hK
  rw [hQ]
  exact W.zret (v := 1) hx hb hr rfl (fun t ht hW => ⟨⟨1, (), rfl, rfl,  by rw [ht]; exact hP9, va_K.moved hW.alike hK9, hD9⟩, hS.F ht⟩) hS.2.2 dX10_goesIn_35

def wf_mq : List Cond := [.initialized RX10, .selects RX10 yX10_look yX10_look, .instanceMethod yX10_look, .methodLink RX10 160 yX10_look, .fieldLink RX10 34 "NotEndedModel" "allowed" "Ljava/lang/String;", .static yX10_isAmong, .methodLink RX10 176 yX10_isAmong, .selects RX10 yX10_isDigit yX10_isDigit, .instanceMethod yX10_isDigit, .methodLink RX10 190 yX10_isDigit, .fieldLink RX10 150 "NotEndedModel" "fault" "I", .fieldLink RX10 23 "NotEndedModel" "text" "[B", .fieldLink RX10 147 "NotEndedModel" "begins" "I", .fieldLink RX10 141 "NotEndedModel" "at" "I", .selects RX10 yX10_fails yX10_fails, .instanceMethod yX10_fails, .methodLink RX10 156 yX10_fails, .selects RX10 yX10_goesIn yX10_goesIn, .instanceMethod yX10_goesIn, .methodLink RX10 180 yX10_goesIn, .fieldLink RX10 20 "NotEndedModel" "letters" "[I", .code yX10_atom cX10_atom 4 (some .int), .selects RX10 yX10_atom yX10_atom, .instanceMethod yX10_atom, .methodLink RX10 193 yX10_atom, .static yX10_within, .methodLink RX10 196 yX10_within, .code yX10_term cX10_term 5 (some .int), .selects RX10 yX10_term yX10_term, .instanceMethod yX10_term, .methodLink RX10 200 yX10_term, .code yX10_sum cX10_sum 5 (some .int), .selects RX10 yX10_sum yX10_sum, .instanceMethod yX10_sum, .methodLink RX10 183 yX10_sum, .static yX10_isSign, .methodLink RX10 203 yX10_isSign, .code yX10_compares cX10_compares 6 (some .boolean), .selects RX10 yX10_compares yX10_compares, .instanceMethod yX10_compares, .methodLink RX10 213 yX10_compares, .code yX10_unit cX10_unit 3 (some .boolean), .selects RX10 yX10_unit yX10_unit, .instanceMethod yX10_unit, .methodLink RX10 206 yX10_unit, .code yX10_part cX10_part 5 (some .boolean), .selects RX10 yX10_part yX10_part, .instanceMethod yX10_part, .methodLink RX10 216 yX10_part, .selects RX10 yX10_takes yX10_takes, .instanceMethod yX10_takes, .methodLink RX10 186 yX10_takes, .fieldLink RX10 153 "NotEndedModel" "deep" "I", .code yX10_condition cX10_condition 5 (some .boolean), .selects RX10 yX10_condition yX10_condition, .instanceMethod yX10_condition, .methodLink RX10 209 yX10_condition, .fieldLink RX10 28 "NotEndedModel" "labels" "Ljava/lang/String;", .fieldLink RX10 219 "NotEndedModel" "hasFound" "Z", .fieldLink RX10 223 "NotEndedModel" "label" "I", .fieldLink RX10 226 "NotEndedModel" "found" "I"] ++ (w_s_look10x ++ (wsX100 ++ (w_s_among10x ++ (w_s_isDigit10x ++ (w_s_fails10x ++ (w_s_goesIn10x_6 ++ (w_s_within10x ++ (w_s_isSign10x ++ (w_s_goesIn10x_g ++ (w_s_takes10x_93 ++ (w_s_takes10f ++ (w_s_takes10x_41 ++ (w_s_takes10x_58 ++ (w_s_takes10x_63))))))))))))))
theorem gf_mq : (wf_mq).all goodWord = true := by decide +kernel
