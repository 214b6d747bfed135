theorem dX5_setLetter_0 : decode cX5_setLetter 0 = .ok (.iload_n 1, 1) := kDs0 kf_27 (by decide +kernel)
theorem dX5_setLetter_1 : decode cX5_setLetter 1 = .ok (.ifCond .lt 19, 3) := kDs4 kf_155 (by decide +kernel)
theorem dX5_setLetter_20 : decode cX5_setLetter 20 = .ok (.return_, 1) := kDs0 kf_177 (by decide +kernel)
theorem dX5_setLetter_4 : decode cX5_setLetter 4 = .ok (.iload_n 1, 1) := kDs0 kf_27 (by decide +kernel)
theorem dX5_setLetter_5 : decode cX5_setLetter 5 = .ok (.aload_n 0, 1) := kDs0 kf_42 (by decide +kernel)
theorem dX5_setLetter_6 : decode cX5_setLetter 6 = .ok (.getfield 9, 3) := kDs2 kf_180 (by decide +kernel)
theorem dX5_setLetter_9 : decode cX5_setLetter 9 = .ok (.arraylength, 1) := kDs0 kf_190 (by decide +kernel)
theorem dX5_setLetter_10 : decode cX5_setLetter 10 = .ok (.if_icmp .ge 10, 3) := kDs4 kf_162 (by decide +kernel)
theorem dX5_setLetter_13 : decode cX5_setLetter 13 = .ok (.aload_n 0, 1) := kDs0 kf_42 (by decide +kernel)
theorem dX5_setLetter_14 : decode cX5_setLetter 14 = .ok (.getfield 9, 3) := kDs2 kf_180 (by decide +kernel)
theorem dX5_setLetter_17 : decode cX5_setLetter 17 = .ok (.iload_n 1, 1) := kDs0 kf_27 (by decide +kernel)
theorem dX5_setLetter_18 : decode cX5_setLetter 18 = .ok (.iload_n 2, 1) := kDs0 kf_28 (by decide +kernel)
theorem dX5_setLetter_19 : decode cX5_setLetter 19 = .ok (.iastore, 1) := kDs0 kf_79 (by decide +kernel)
def w_s_setLetter5 : List Cond := .code yX5_setLetter cX5_setLetter 3 none :: ([.fieldLink RX5 9 "NotEnded$Reckoner" "letters" "[I"] ++ (wsX50))
theorem gw_s_setLetter5 : (w_s_setLetter5).all goodWord = true := kGc rfl (kGa (by decide +kernel) gw_wsX50)
theorem hd_X5_setLetter : yX5_setLetter.cls ≠ "java/lang/invoke/MethodHandle" ∧ yX5_setLetter.cls ≠ "java/lang/invoke/VarHandle" ∧ (parseMethodDescriptor yX5_setLetter.desc).map (fun d => d.parameters.length) = some 2 := by decide +kernel
set_option maxHeartbeats 4000000 in
set_option maxRecDepth 100000 in
theorem s_setLetter5 (l : Launch) (dC : Nat → ClassId) (dI : Nat → Nat → Nat) (jK : Nat) (k0 : Nat) (k1 : Nat) (cK : ClassId) (cO : ClassId) (l0 : Nat → Int32) (l1 : Nat → Int32) (p0 : Int32) (p1 : Int32) (sz : Nat) : Met l yX5_setLetter w_s_setLetter5 ({ frames := 1, cells := 0, slots := 0, locals := 60 }) (kW dC dI [.ref jK, .int p0, .int p1] [(jK, .inr (5, [.ref k0, .ref k1])), (k0, .inl (cK, 8, .inl l0)), (k1, .inl (cO, 32, .inl l1))] [(cK, .int), (cO, .int)] kT sz) (va_Qv (fun (m0 : (Nat → Int32)) => True) (fun (m0 : (Nat → Int32)) => fun t : State => kB dC dI [(jK, .inr (5, [.ref k0, .ref k1])), (k0, .inl (cK, 8, .inl m0)), (k1, .inl (cO, 32, .inl l1))] [(cK, .int), (cO, .int)] (va_A [(jK, .inr (5, [.ref k0, .ref k1])), (k0, .inl (cK, 8, .inl l0)), (k1, .inl (cO, 32, .inl l1))] sz) t) (va_A [(jK, .inr (5, [.ref k0, .ref k1])), (k0, .inl (cK, 8, .inl l0)), (k1, .inl (cO, 32, .inl l1))] sz)) 0 0 (va_A [(jK, .inr (5, [.ref k0, .ref k1])), (k0, .inl (cK, 8, .inl l0)), (k1, .inl (cO, 32, .inl l1))] sz) := by
  refine Met.ofW (cc := cX5_setLetter) (maxL := 3) (ret := none) (by decide) rfl ?_
  intro p e s m args below meth c s₁ B hml hv
  obtain ⟨rfl, hsz, hP, hK, hD0, hX⟩ := hv
  have hx := B.exec
  have hb := B.bytes
  have hr := B.returns
  have hts := atoms_spec (ws := w_s_setLetter5) B.pre
  have hown : s.vm.findClass RX5 = some m.cls := findClass_of_methodNamed B.named
  have hlocks := B.notSynchronized
  subst hsz
  have hD := hD0.self (sz := s.heap.size)
  generalize hAe : va_A [(jK, .inr (5, [.ref k0, .ref k1])), (k0, .inl (cK, 8, .inl l0)), (k1, .inl (cO, 32, .inl l1))] s.heap.size = A at hD ⊢
  have hA : ∀ q : Nat, s.heap.size ≤ q → A q := fun q h => by rw [← hAe]; exact Or.inr h
  have hS : va_S A s.heap s.heap [] := va_S.rf
  have hP : va_P (dC, dI) vwCl [(jK, .inr (5, [.ref k0, .ref k1])), (k0, .inl (cK, 8, .inl l0)), (k1, .inl (cO, 32, .inl l1))] s.heap := hP
  have hl := lv_entry ([.ref jK, .int p0, .int p1]) (n := 3) (Nat.le_of_ble_eq_true rfl)
  rw [lg_entry_eq]
  generalize (lg_sl ([.ref jK, .int p0, .int p1]) ++ List.replicate (3 - (lg_sl ([.ref jK, .int p0, .int p1])).length) Slot.unset).toArray = ls at hl ⊢
  have hl : lv_has ls 3 [(0, .ref jK), (1, .int p0), (2, .int p1)] := hl
  refine kQ (fun Q hQ => ?_)
  refine lv_iload_n hx hb dX5_setLetter_0 rfl (lv_at hl 1 rfl) ?_
  refine lv_if_lt (tgt := 20) hx hb dX5_setLetter_1 kc_t_1_19 (fun c_1 => ?_) (fun c_1 => ?_)
  · have hP9 := hP
    have hD9 := hD
    have hK9 := hK
    rw [hQ]
    exact W.vret hx hb hr (fun t ht hW => ⟨⟨l0, rfl, trivial,  by rw [ht]; exact hP9, va_K.moved hW.alike hK9, hD9⟩, hS.F ht⟩) hS.2.2 dX5_setLetter_20
  · obtain ⟨j_2, hj_2, ej_2⟩ := nI_of c_1
    subst ej_2
    refine lv_iload_n hx hb dX5_setLetter_4 rfl (lv_at hl 1 rfl) ?_
    refine lv_aload_n hx hb dX5_setLetter_5 rfl (lv_at hl 0 rfl) ?_
    refine va_get (D := (dC, dI)) (ci := 5) (v := .ref k0) (C := RX5) (T := TX5) (N := 2) hx hb hts (fun _ h => List.mem_cons_of_mem _ (List.mem_append_right _ h)) hown hK hP 0 rfl rfl 0 kc_l_0_2 (hts (.fieldLink RX5 9 "NotEnded$Reckoner" "letters" "[I") (List.mem_cons_of_mem _ (List.mem_append_left _ (List.mem_of_getElem? (i := 0) rfl)))) (fun _ h9 => h9) rfl dX5_setLetter_6 ?_
    refine va_alen hx hb hK hP 1 0 rfl rfl (v := 8) rfl dX5_setLetter_9 ?_
    refine lv_icmp_ge (tgt := 20) hx hb dX5_setLetter_10 kc_t_10_10 (fun c_3 => ?_) (fun c_3 => ?_)
    · have bd_5 : j_2 < 2147483648 := by omega
      have hn_4 := kle (a := 8) (b := j_2) kc_31_8 bd_5 c_3
      have hP9 := hP
      have hD9 := hD
      have hK9 := hK
      rw [hQ]
      exact W.vret hx hb hr (fun t ht hW => ⟨⟨l0, rfl, trivial,  by rw [ht]; exact hP9, va_K.moved hW.alike hK9, hD9⟩, hS.F ht⟩) hS.2.2 dX5_setLetter_20
    · have bd_7 : j_2 < 2147483648 := by omega
      have hn_6 := knle (a := 8) (b := j_2) kc_31_8 bd_7 c_3
      refine lv_aload_n hx hb dX5_setLetter_13 rfl (lv_at hl 0 rfl) ?_
      refine va_get (D := (dC, dI)) (ci := 5) (v := .ref k0) (C := RX5) (T := TX5) (N := 2) hx hb hts (fun _ h => List.mem_cons_of_mem _ (List.mem_append_right _ h)) hown hK hP 0 rfl rfl 0 kc_l_0_2 (hts (.fieldLink RX5 9 "NotEnded$Reckoner" "letters" "[I") (List.mem_cons_of_mem _ (List.mem_append_left _ (List.mem_of_getElem? (i := 0) rfl)))) (fun _ h9 => h9) rfl dX5_setLetter_14 ?_
      refine lv_iload_n hx hb dX5_setLetter_17 rfl (lv_at hl 1 rfl) ?_
      refine lv_iload_n hx hb dX5_setLetter_18 rfl (lv_at hl 2 rfl) ?_
      have bd_9 : j_2 < 8 := by omega
      refine va_iast hx hb hK hP hD hS 1 0 rfl rfl (vp_in_nI (n := j_2) (N := 8) bd_9 kc_31_8) dX5_setLetter_19 (fun H locs hP hD hS => ?_)
      obtain ⟨f_8, ef_8⟩ : ∃ gg9 : Nat → Int32, gg9 = upd l0 (Int32.toNatClampNeg (nI (j_2))) p1 := ⟨_, rfl⟩
      have hPD : kPD dC dI A [(jK, .inr (5, [.ref k0, .ref k1])), (k0, .inl (cK, 8, .inl f_8)), (k1, .inl (cO, 32, .inl l1))] H := by rw [ef_8]; exact ⟨hP, hD⟩
      have hP := hPD.1
      have hD := hPD.2
      have hP9 := hP
      have hD9 := hD
      have hK9 := hK
      rw [hQ]
      exact W.vret hx hb hr (fun t ht hW => ⟨⟨f_8, rfl, trivial,  by rw [ht]; exact hP9, va_K.moved hW.alike hK9, hD9⟩, hS.F ht⟩) hS.2.2 dX5_setLetter_20

theorem dX5_valueOf_0 : decode cX5_valueOf 0 = .ok (.iload_n 1, 1) := kDs0 kf_27 (by decide +kernel)
theorem dX5_valueOf_1 : decode cX5_valueOf 1 = .ok (.sipush 10000, 3) := kDs4 kf_17 (by decide +kernel)
theorem dX5_valueOf_4 : decode cX5_valueOf 4 = .ok (.isub, 1) := kDs0 kf_100 (by decide +kernel)
theorem dX5_valueOf_5 : decode cX5_valueOf 5 = .ok (.istore_n 2, 1) := kDs0 kf_61 (by decide +kernel)
theorem dX5_valueOf_6 : decode cX5_valueOf 6 = .ok (.iload_n 2, 1) := kDs0 kf_28 (by decide +kernel)
theorem dX5_valueOf_7 : decode cX5_valueOf 7 = .ok (.ifCond .lt 21, 3) := kDs4 kf_155 (by decide +kernel)
theorem dX5_valueOf_28 : decode cX5_valueOf 28 = .ok (.iload_n 1, 1) := kDs0 kf_27 (by decide +kernel)
theorem dX5_valueOf_29 : decode cX5_valueOf 29 = .ok (.ireturn, 1) := kDs0 kf_172 (by decide +kernel)
theorem dX5_valueOf_10 : decode cX5_valueOf 10 = .ok (.iload_n 2, 1) := kDs0 kf_28 (by decide +kernel)
theorem dX5_valueOf_11 : decode cX5_valueOf 11 = .ok (.aload_n 0, 1) := kDs0 kf_42 (by decide +kernel)
theorem dX5_valueOf_12 : decode cX5_valueOf 12 = .ok (.getfield 9, 3) := kDs2 kf_180 (by decide +kernel)
theorem dX5_valueOf_15 : decode cX5_valueOf 15 = .ok (.arraylength, 1) := kDs0 kf_190 (by decide +kernel)
theorem dX5_valueOf_16 : decode cX5_valueOf 16 = .ok (.if_icmp .ge 12, 3) := kDs4 kf_162 (by decide +kernel)
theorem dX5_valueOf_19 : decode cX5_valueOf 19 = .ok (.aload_n 0, 1) := kDs0 kf_42 (by decide +kernel)
theorem dX5_valueOf_20 : decode cX5_valueOf 20 = .ok (.getfield 9, 3) := kDs2 kf_180 (by decide +kernel)
theorem dX5_valueOf_23 : decode cX5_valueOf 23 = .ok (.iload_n 2, 1) := kDs0 kf_28 (by decide +kernel)
theorem dX5_valueOf_24 : decode cX5_valueOf 24 = .ok (.iaload, 1) := kDs0 kf_46 (by decide +kernel)
theorem dX5_valueOf_25 : decode cX5_valueOf 25 = .ok (.goto 4, 3) := kDs4 kf_167 (by decide +kernel)
def w_s_valueOf5 : List Cond := .code yX5_valueOf cX5_valueOf 3 (some .int) :: ([.fieldLink RX5 9 "NotEnded$Reckoner" "letters" "[I"] ++ (wsX50))
theorem gw_s_valueOf5 : (w_s_valueOf5).all goodWord = true := kGc rfl (kGa (by decide +kernel) gw_wsX50)
theorem hd_X5_valueOf : yX5_valueOf.cls ≠ "java/lang/invoke/MethodHandle" ∧ yX5_valueOf.cls ≠ "java/lang/invoke/VarHandle" ∧ (parseMethodDescriptor yX5_valueOf.desc).map (fun d => d.parameters.length) = some 1 := by decide +kernel
set_option maxHeartbeats 4000000 in
set_option maxRecDepth 100000 in
theorem s_valueOf5 (l : Launch) (dC : Nat → ClassId) (dI : Nat → Nat → Nat) (jK : Nat) (k0 : Nat) (k1 : Nat) (cK : ClassId) (cO : ClassId) (l0 : Nat → Int32) (l1 : Nat → Int32) (p0 : Int32) : Met l yX5_valueOf w_s_valueOf5 ({ frames := 1, cells := 0, slots := 0, locals := 60 }) (kR dC dI [.ref jK, .int p0] [(jK, .inr (5, [.ref k0, .ref k1])), (k0, .inl (cK, 8, .inl l0)), (k1, .inl (cO, 32, .inl l1))] [(cK, .int), (cO, .int)] kT) (vp_Si (fun r : Int32 => True)) 0 0 (fun _ => False) := by
  refine Met.ofW (cc := cX5_valueOf) (maxL := 3) (ret := (some .int)) (by decide) rfl ?_
  intro p e s m args below meth c s₁ B hml hv
  obtain ⟨rfl, hP, hK, hX⟩ := hv
  have hx := B.exec
  have hb := B.bytes
  have hr := B.returns
  have hts := atoms_spec (ws := w_s_valueOf5) B.pre
  have hown : s.vm.findClass RX5 = some m.cls := findClass_of_methodNamed B.named
  have hlocks := B.notSynchronized
  have hP : va_P (dC, dI) vwCl [(jK, .inr (5, [.ref k0, .ref k1])), (k0, .inl (cK, 8, .inl l0)), (k1, .inl (cO, 32, .inl l1))] s.heap := hP
  have hl := lv_entry ([.ref jK, .int p0]) (n := 3) (Nat.le_of_ble_eq_true rfl)
  rw [lg_entry_eq]
  generalize (lg_sl ([.ref jK, .int p0]) ++ List.replicate (3 - (lg_sl ([.ref jK, .int p0])).length) Slot.unset).toArray = ls at hl ⊢
  have hl : lv_has ls 3 [(0, .ref jK), (1, .int p0)] := hl
  refine kQ (fun Q hQ => ?_)
  refine lv_iload_n hx hb dX5_valueOf_0 rfl (lv_at hl 1 rfl) ?_
  refine lv_sipush (v := 10000) hx hb dX5_valueOf_1 kc_s_10000 ?_
  refine lv_isub hx hb dX5_valueOf_4 ?_
  refine lv_topi (fun x_1 ex_1 => ?_)
  refine lv_istore_n hx hb dX5_valueOf_5 rfl hl kc_l_2_3 (kTo [(2, .int x_1), (0, .ref jK), (1, .int p0)]) (fun ls hl => ?_)
  refine lv_iload_n hx hb dX5_valueOf_6 rfl (lv_at hl 0 rfl) ?_
  refine lv_if_lt (tgt := 28) hx hb dX5_valueOf_7 kc_t_7_21 (fun c_2 => ?_) (fun c_2 => ?_)
  · refine lv_iload_n hx hb dX5_valueOf_28 rfl (lv_at hl 2 rfl) ?_
    rw [hQ]
    exact W.iret (v := p0) hx hb hr (fun t ht hW => ⟨p0, rfl, trivial, ht⟩) (fun _ h => nomatch h) dX5_valueOf_29
  · obtain ⟨j_3, hj_3, ej_3⟩ := nI_of c_2
    subst ej_3
    refine lv_iload_n hx hb dX5_valueOf_10 rfl (lv_at hl 0 rfl) ?_
    refine lv_aload_n hx hb dX5_valueOf_11 rfl (lv_at hl 1 rfl) ?_
    refine va_get (D := (dC, dI)) (ci := 5) (v := .ref k0) (C := RX5) (T := TX5) (N := 2) hx hb hts (fun _ h => List.mem_cons_of_mem _ (List.mem_append_right _ h)) hown hK hP 0 rfl rfl 0 kc_l_0_2 (hts (.fieldLink RX5 9 "NotEnded$Reckoner" "letters" "[I") (List.mem_cons_of_mem _ (List.mem_append_left _ (List.mem_of_getElem? (i := 0) rfl)))) (fun _ h9 => h9) rfl dX5_valueOf_12 ?_
    refine va_alen hx hb hK hP 1 0 rfl rfl (v := 8) rfl dX5_valueOf_15 ?_
    refine lv_icmp_ge (tgt := 28) hx hb dX5_valueOf_16 kc_t_16_12 (fun c_4 => ?_) (fun c_4 => ?_)
    · have bd_6 : j_3 < 2147483648 := by omega
      have hn_5 := kle (a := 8) (b := j_3) kc_31_8 bd_6 c_4
      refine lv_iload_n hx hb dX5_valueOf_28 rfl (lv_at hl 2 rfl) ?_
      rw [hQ]
      exact W.iret (v := p0) hx hb hr (fun t ht hW => ⟨p0, rfl, trivial, ht⟩) (fun _ h => nomatch h) dX5_valueOf_29
    · have bd_8 : j_3 < 2147483648 := by omega
      have hn_7 := knle (a := 8) (b := j_3) kc_31_8 bd_8 c_4
      refine lv_aload_n hx hb dX5_valueOf_19 rfl (lv_at hl 1 rfl) ?_
      refine va_get (D := (dC, dI)) (ci := 5) (v := .ref k0) (C := RX5) (T := TX5) (N := 2) hx hb hts (fun _ h => List.mem_cons_of_mem _ (List.mem_append_right _ h)) hown hK hP 0 rfl rfl 0 kc_l_0_2 (hts (.fieldLink RX5 9 "NotEnded$Reckoner" "letters" "[I") (List.mem_cons_of_mem _ (List.mem_append_left _ (List.mem_of_getElem? (i := 0) rfl)))) (fun _ h9 => h9) rfl dX5_valueOf_20 ?_
      refine lv_iload_n hx hb dX5_valueOf_23 rfl (lv_at hl 0 rfl) ?_
      have bd_9 : j_3 < 8 := by omega
      refine va_iald hx hb hK hP 1 0 rfl rfl (vp_in_nI (n := j_3) (N := 8) bd_9 kc_31_8) dX5_valueOf_24 ?_
      refine lv_topi (fun x_10 ex_10 => ?_)
      refine lv_goto (tgt := 29) hx hb dX5_valueOf_25 kc_t_25_4 ?_
      rw [hQ]
      exact W.iret (v := x_10) hx hb hr (fun t ht hW => ⟨x_10, rfl, trivial, ht⟩) (fun _ h => nomatch h) dX5_valueOf_29

theorem dX5_join_0 : decode cX5_join 0 = .ok (.iload_n 0, 1) := kDs0 kf_26 (by decide +kernel)
theorem dX5_join_1 : decode cX5_join 1 = .ok (.tableswitch 184 38 62 #[179, 184, 184, 184, 127, 115, 184, 121, 184, 133, 184, 184, 184, 184, 184, 184, 184, 184, 184, 184, 184, 184, 157, 146, 168], 115) := by decide +kernel
theorem dX5_join_180 : decode cX5_join 180 = .ok (.iload_n 1, 1) := kDs0 kf_27 (by decide +kernel)
theorem dX5_join_181 : decode cX5_join 181 = .ok (.iload_n 2, 1) := kDs0 kf_28 (by decide +kernel)
theorem dX5_join_182 : decode cX5_join 182 = .ok (.iand, 1) := kDs0 kf_126 (by decide +kernel)
theorem dX5_join_183 : decode cX5_join 183 = .ok (.i2l, 1) := kDs0 kf_133 (by decide +kernel)
theorem dX5_join_184 : decode cX5_join 184 = .ok (.lreturn, 1) := kDs0 kf_173 (by decide +kernel)
theorem dX5_join_185 : decode cX5_join 185 = .ok (.iload_n 1, 1) := kDs0 kf_27 (by decide +kernel)
theorem dX5_join_186 : decode cX5_join 186 = .ok (.iload_n 2, 1) := kDs0 kf_28 (by decide +kernel)
theorem dX5_join_187 : decode cX5_join 187 = .ok (.ior, 1) := kDs0 kf_128 (by decide +kernel)
theorem dX5_join_188 : decode cX5_join 188 = .ok (.i2l, 1) := kDs0 kf_133 (by decide +kernel)
theorem dX5_join_189 : decode cX5_join 189 = .ok (.lreturn, 1) := kDs0 kf_173 (by decide +kernel)
theorem dX5_join_128 : decode cX5_join 128 = .ok (.iload_n 1, 1) := kDs0 kf_27 (by decide +kernel)
theorem dX5_join_129 : decode cX5_join 129 = .ok (.i2l, 1) := kDs0 kf_133 (by decide +kernel)
theorem dX5_join_130 : decode cX5_join 130 = .ok (.iload_n 2, 1) := kDs0 kf_28 (by decide +kernel)
theorem dX5_join_131 : decode cX5_join 131 = .ok (.i2l, 1) := kDs0 kf_133 (by decide +kernel)
theorem dX5_join_132 : decode cX5_join 132 = .ok (.lmul, 1) := kDs0 kf_105 (by decide +kernel)
theorem dX5_join_133 : decode cX5_join 133 = .ok (.lreturn, 1) := kDs0 kf_173 (by decide +kernel)
theorem dX5_join_116 : decode cX5_join 116 = .ok (.iload_n 1, 1) := kDs0 kf_27 (by decide +kernel)
theorem dX5_join_117 : decode cX5_join 117 = .ok (.i2l, 1) := kDs0 kf_133 (by decide +kernel)
theorem dX5_join_118 : decode cX5_join 118 = .ok (.iload_n 2, 1) := kDs0 kf_28 (by decide +kernel)
theorem dX5_join_119 : decode cX5_join 119 = .ok (.i2l, 1) := kDs0 kf_133 (by decide +kernel)
theorem dX5_join_120 : decode cX5_join 120 = .ok (.ladd, 1) := kDs0 kf_97 (by decide +kernel)
theorem dX5_join_121 : decode cX5_join 121 = .ok (.lreturn, 1) := kDs0 kf_173 (by decide +kernel)
theorem dX5_join_122 : decode cX5_join 122 = .ok (.iload_n 1, 1) := kDs0 kf_27 (by decide +kernel)
theorem dX5_join_123 : decode cX5_join 123 = .ok (.i2l, 1) := kDs0 kf_133 (by decide +kernel)
theorem dX5_join_124 : decode cX5_join 124 = .ok (.iload_n 2, 1) := kDs0 kf_28 (by decide +kernel)
theorem dX5_join_125 : decode cX5_join 125 = .ok (.i2l, 1) := kDs0 kf_133 (by decide +kernel)
theorem dX5_join_126 : decode cX5_join 126 = .ok (.lsub, 1) := kDs0 kf_101 (by decide +kernel)
theorem dX5_join_127 : decode cX5_join 127 = .ok (.lreturn, 1) := kDs0 kf_173 (by decide +kernel)
theorem dX5_join_134 : decode cX5_join 134 = .ok (.iload_n 2, 1) := kDs0 kf_28 (by decide +kernel)
theorem dX5_join_135 : decode cX5_join 135 = .ok (.ifCond .ne 7, 3) := kDs4 kf_154 (by decide +kernel)
theorem dX5_join_142 : decode cX5_join 142 = .ok (.iload_n 1, 1) := kDs0 kf_27 (by decide +kernel)
theorem dX5_join_143 : decode cX5_join 143 = .ok (.iload_n 2, 1) := kDs0 kf_28 (by decide +kernel)
theorem dX5_join_144 : decode cX5_join 144 = .ok (.idiv, 1) := kDs0 kf_108 (by decide +kernel)
theorem dX5_join_145 : decode cX5_join 145 = .ok (.i2l, 1) := kDs0 kf_133 (by decide +kernel)
theorem dX5_join_146 : decode cX5_join 146 = .ok (.lreturn, 1) := kDs0 kf_173 (by decide +kernel)
theorem dX5_join_138 : decode cX5_join 138 = .ok (.lconst 0, 1) := kDs0 kf_9 (by decide +kernel)
theorem dX5_join_139 : decode cX5_join 139 = .ok (.goto 7, 3) := kDs4 kf_167 (by decide +kernel)
theorem dX5_join_158 : decode cX5_join 158 = .ok (.iload_n 1, 1) := kDs0 kf_27 (by decide +kernel)
theorem dX5_join_159 : decode cX5_join 159 = .ok (.iload_n 2, 1) := kDs0 kf_28 (by decide +kernel)
theorem dX5_join_160 : decode cX5_join 160 = .ok (.if_icmp .ge 7, 3) := kDs4 kf_162 (by decide +kernel)
theorem dX5_join_167 : decode cX5_join 167 = .ok (.lconst 0, 1) := kDs0 kf_9 (by decide +kernel)
theorem dX5_join_168 : decode cX5_join 168 = .ok (.lreturn, 1) := kDs0 kf_173 (by decide +kernel)
theorem dX5_join_163 : decode cX5_join 163 = .ok (.lconst 1, 1) := kDs0 kf_10 (by decide +kernel)
theorem dX5_join_164 : decode cX5_join 164 = .ok (.goto 4, 3) := kDs4 kf_167 (by decide +kernel)
theorem dX5_join_147 : decode cX5_join 147 = .ok (.iload_n 1, 1) := kDs0 kf_27 (by decide +kernel)
theorem dX5_join_148 : decode cX5_join 148 = .ok (.iload_n 2, 1) := kDs0 kf_28 (by decide +kernel)
theorem dX5_join_149 : decode cX5_join 149 = .ok (.if_icmp .ne 7, 3) := kDs4 kf_160 (by decide +kernel)
theorem dX5_join_156 : decode cX5_join 156 = .ok (.lconst 0, 1) := kDs0 kf_9 (by decide +kernel)
theorem dX5_join_157 : decode cX5_join 157 = .ok (.lreturn, 1) := kDs0 kf_173 (by decide +kernel)
theorem dX5_join_152 : decode cX5_join 152 = .ok (.lconst 1, 1) := kDs0 kf_10 (by decide +kernel)
theorem dX5_join_153 : decode cX5_join 153 = .ok (.goto 4, 3) := kDs4 kf_167 (by decide +kernel)
theorem dX5_join_169 : decode cX5_join 169 = .ok (.iload_n 1, 1) := kDs0 kf_27 (by decide +kernel)
theorem dX5_join_170 : decode cX5_join 170 = .ok (.iload_n 2, 1) := kDs0 kf_28 (by decide +kernel)
theorem dX5_join_171 : decode cX5_join 171 = .ok (.if_icmp .le 7, 3) := kDs4 kf_164 (by decide +kernel)
theorem dX5_join_178 : decode cX5_join 178 = .ok (.lconst 0, 1) := kDs0 kf_9 (by decide +kernel)
theorem dX5_join_179 : decode cX5_join 179 = .ok (.lreturn, 1) := kDs0 kf_173 (by decide +kernel)
theorem dX5_join_174 : decode cX5_join 174 = .ok (.lconst 1, 1) := kDs0 kf_10 (by decide +kernel)
theorem dX5_join_175 : decode cX5_join 175 = .ok (.goto 4, 3) := kDs4 kf_167 (by decide +kernel)
def w_s_join5 : List Cond := .code yX5_join cX5_join 3 (some .long) :: ([])
theorem gw_s_join5 : (w_s_join5).all goodWord = true := kGc rfl kGn
theorem hd_X5_join : yX5_join.cls ≠ "java/lang/invoke/MethodHandle" ∧ yX5_join.cls ≠ "java/lang/invoke/VarHandle" ∧ (parseMethodDescriptor yX5_join.desc).map (fun d => d.parameters.length) = some 3 := by decide +kernel
set_option maxHeartbeats 4000000 in
set_option maxRecDepth 100000 in
theorem s_join5 (l : Launch) (dC : Nat → ClassId) (dI : Nat → Nat → Nat) (p0 : Int32) (p1 : Int32) (p2 : Int32) : Met l yX5_join w_s_join5 ({ frames := 1, cells := 0, slots := 0, locals := 60 }) (kR dC dI [.int p0, .int p1, .int p2] [] [] kT) (vp_Sl (fun r : Int64 => True)) 0 0 (fun _ => False) := by
  refine Met.ofW (cc := cX5_join) (maxL := 3) (ret := (some .long)) (by decide) rfl ?_
  intro p e s m args below meth c s₁ B hml hv
  obtain ⟨rfl, hP, hK, hX⟩ := hv
  have hx := B.exec
  have hb := B.bytes
  have hr := B.returns
  have hts := atoms_spec (ws := w_s_join5) B.pre
  have hown : s.vm.findClass RX5 = some m.cls := findClass_of_methodNamed B.named
  have hlocks := B.notSynchronized
  have hP : va_P (dC, dI) vwCl [] s.heap := hP
  have hl := lv_entry ([.int p0, .int p1, .int p2]) (n := 3) (Nat.le_of_ble_eq_true rfl)
  rw [lg_entry_eq]
  generalize (lg_sl ([.int p0, .int p1, .int p2]) ++ List.replicate (3 - (lg_sl ([.int p0, .int p1, .int p2])).length) Slot.unset).toArray = ls at hl ⊢
  have hl : lv_has ls 3 [(0, .int p0), (1, .int p1), (2, .int p2)] := hl
  refine kQ (fun Q hQ => ?_)
  refine lv_iload_n hx hb dX5_join_0 rfl (lv_at hl 0 rfl) ?_
  rcases kSw38 p0 with rfl | rfl | rfl | rfl | rfl | rfl | rfl | rfl | rfl | rfl | rfl | rfl | rfl | rfl | rfl | rfl | rfl | rfl | rfl | rfl | rfl | rfl | rfl | rfl | rfl | h_1
  · refine lv_tableIn (tgt := 180) hx hb dX5_join_1 (by decide) (by decide) rfl (by decide) ?_
    refine lv_iload_n hx hb dX5_join_180 rfl (lv_at hl 1 rfl) ?_
    refine lv_iload_n hx hb dX5_join_181 rfl (lv_at hl 2 rfl) ?_
    refine lv_iand hx hb dX5_join_182 ?_
    refine lv_topi (fun x_2 ex_2 => ?_)
    obtain ⟨z_3, ez_3⟩ : ∃ z : Int64, z = Int32.toInt64 x_2 := ⟨_, rfl⟩
    refine lv_i2l (v := z_3) hx hb dX5_join_183 ez_3.symm ?_
    rw [hQ]
    exact W.lret (v := z_3) hx hb hr (fun t ht hW => ⟨z_3, rfl, trivial, ht⟩) (fun _ h => nomatch h) dX5_join_184
  · refine lv_tableIn (tgt := 185) hx hb dX5_join_1 (by decide) (by decide) rfl (by decide) ?_
    refine lv_iload_n hx hb dX5_join_185 rfl (lv_at hl 1 rfl) ?_
    refine lv_iload_n hx hb dX5_join_186 rfl (lv_at hl 2 rfl) ?_
    refine lv_ior hx hb dX5_join_187 ?_
    refine lv_topi (fun x_4 ex_4 => ?_)
    obtain ⟨z_5, ez_5⟩ : ∃ z : Int64, z = Int32.toInt64 x_4 := ⟨_, rfl⟩
    refine lv_i2l (v := z_5) hx hb dX5_join_188 ez_5.symm ?_
    rw [hQ]
    exact W.lret (v := z_5) hx hb hr (fun t ht hW => ⟨z_5, rfl, trivial, ht⟩) (fun _ h => nomatch h) dX5_join_189
  · refine lv_tableIn (tgt := 185) hx hb dX5_join_1 (by decide) (by decide) rfl (by decide) ?_
    refine lv_iload_n hx hb dX5_join_185 rfl (lv_at hl 1 rfl) ?_
    refine lv_iload_n hx hb dX5_join_186 rfl (lv_at hl 2 rfl) ?_
    refine lv_ior hx hb dX5_join_187 ?_
    refine lv_topi (fun x_6 ex_6 => ?_)
    obtain ⟨z_7, ez_7⟩ : ∃ z : Int64, z = Int32.toInt64 x_6 := ⟨_, rfl⟩
    refine lv_i2l (v := z_7) hx hb dX5_join_188 ez_7.symm ?_
    rw [hQ]
    exact W.lret (v := z_7) hx hb hr (fun t ht hW => ⟨z_7, rfl, trivial, ht⟩) (fun _ h => nomatch h) dX5_join_189
  · refine lv_tableIn (tgt := 185) hx hb dX5_join_1 (by decide) (by decide) rfl (by decide) ?_
    refine lv_iload_n hx hb dX5_join_185 rfl (lv_at hl 1 rfl) ?_
    refine lv_iload_n hx hb dX5_join_186 rfl (lv_at hl 2 rfl) ?_
    refine lv_ior hx hb dX5_join_187 ?_
    refine lv_topi (fun x_8 ex_8 => ?_)
    obtain ⟨z_9, ez_9⟩ : ∃ z : Int64, z = Int32.toInt64 x_8 := ⟨_, rfl⟩
    refine lv_i2l (v := z_9) hx hb dX5_join_188 ez_9.symm ?_
    rw [hQ]
    exact W.lret (v := z_9) hx hb hr (fun t ht hW => ⟨z_9, rfl, trivial, ht⟩) (fun _ h => nomatch h) dX5_join_189
  · refine lv_tableIn (tgt := 128) hx hb dX5_join_1 (by decide) (by decide) rfl (by decide) ?_
    refine lv_iload_n hx hb dX5_join_128 rfl (lv_at hl 1 rfl) ?_
    obtain ⟨z_10, ez_10⟩ : ∃ z : Int64, z = Int32.toInt64 p1 := ⟨_, rfl⟩
    refine lv_i2l (v := z_10) hx hb dX5_join_129 ez_10.symm ?_
    refine lv_iload_n hx hb dX5_join_130 rfl (lv_at hl 2 rfl) ?_
    obtain ⟨z_11, ez_11⟩ : ∃ z : Int64, z = Int32.toInt64 p2 := ⟨_, rfl⟩
    refine lv_i2l (v := z_11) hx hb dX5_join_131 ez_11.symm ?_
    refine lv_lmul hx hb dX5_join_132 ?_
    refine lv_topl (fun z_12 ez_12 => ?_)
    rw [hQ]
    exact W.lret (v := z_12) hx hb hr (fun t ht hW => ⟨z_12, rfl, trivial, ht⟩) (fun _ h => nomatch h) dX5_join_133
  · refine lv_tableIn (tgt := 116) hx hb dX5_join_1 (by decide) (by decide) rfl (by decide) ?_
    refine lv_iload_n hx hb dX5_join_116 rfl (lv_at hl 1 rfl) ?_
    obtain ⟨z_13, ez_13⟩ : ∃ z : Int64, z = Int32.toInt64 p1 := ⟨_, rfl⟩
    refine lv_i2l (v := z_13) hx hb dX5_join_117 ez_13.symm ?_
    refine lv_iload_n hx hb dX5_join_118 rfl (lv_at hl 2 rfl) ?_
    obtain ⟨z_14, ez_14⟩ : ∃ z : Int64, z = Int32.toInt64 p2 := ⟨_, rfl⟩
    refine lv_i2l (v := z_14) hx hb dX5_join_119 ez_14.symm ?_
    refine lv_ladd hx hb dX5_join_120 ?_
    refine lv_topl (fun z_15 ez_15 => ?_)
    rw [hQ]
    exact W.lret (v := z_15) hx hb hr (fun t ht hW => ⟨z_15, rfl, trivial, ht⟩) (fun _ h => nomatch h) dX5_join_121
  · refine lv_tableIn (tgt := 185) hx hb dX5_join_1 (by decide) (by decide) rfl (by decide) ?_
    refine lv_iload_n hx hb dX5_join_185 rfl (lv_at hl 1 rfl) ?_
    refine lv_iload_n hx hb dX5_join_186 rfl (lv_at hl 2 rfl) ?_
    refine lv_ior hx hb dX5_join_187 ?_
    refine lv_topi (fun x_16 ex_16 => ?_)
    obtain ⟨z_17, ez_17⟩ : ∃ z : Int64, z = Int32.toInt64 x_16 := ⟨_, rfl⟩
    refine lv_i2l (v := z_17) hx hb dX5_join_188 ez_17.symm ?_
    rw [hQ]
    exact W.lret (v := z_17) hx hb hr (fun t ht hW => ⟨z_17, rfl, trivial, ht⟩) (fun _ h => nomatch h) dX5_join_189
  · refine lv_tableIn (tgt := 122) hx hb dX5_join_1 (by decide) (by decide) rfl (by decide) ?_
    refine lv_iload_n hx hb dX5_join_122 rfl (lv_at hl 1 rfl) ?_
    obtain ⟨z_18, ez_18⟩ : ∃ z : Int64, z = Int32.toInt64 p1 := ⟨_, rfl⟩
    refine lv_i2l (v := z_18) hx hb dX5_join_123 ez_18.symm ?_
    refine lv_iload_n hx hb dX5_join_124 rfl (lv_at hl 2 rfl) ?_
    obtain ⟨z_19, ez_19⟩ : ∃ z : Int64, z = Int32.toInt64 p2 := ⟨_, rfl⟩
    refine lv_i2l (v := z_19) hx hb dX5_join_125 ez_19.symm ?_
    refine lv_lsub hx hb dX5_join_126 ?_
    refine lv_topl (fun z_20 ez_20 => ?_)
    rw [hQ]
    exact W.lret (v := z_20) hx hb hr (fun t ht hW => ⟨z_20, rfl, trivial, ht⟩) (fun _ h => nomatch h) dX5_join_127
  · refine lv_tableIn (tgt := 185) hx hb dX5_join_1 (by decide) (by decide) rfl (by decide) ?_
    refine lv_iload_n hx hb dX5_join_185 rfl (lv_at hl 1 rfl) ?_
    refine lv_iload_n hx hb dX5_join_186 rfl (lv_at hl 2 rfl) ?_
    refine lv_ior hx hb dX5_join_187 ?_
    refine lv_topi (fun x_21 ex_21 => ?_)
    obtain ⟨z_22, ez_22⟩ : ∃ z : Int64, z = Int32.toInt64 x_21 := ⟨_, rfl⟩
    refine lv_i2l (v := z_22) hx hb dX5_join_188 ez_22.symm ?_
    rw [hQ]
    exact W.lret (v := z_22) hx hb hr (fun t ht hW => ⟨z_22, rfl, trivial, ht⟩) (fun _ h => nomatch h) dX5_join_189
  · refine lv_tableIn (tgt := 134) hx hb dX5_join_1 (by decide) (by decide) rfl (by decide) ?_
    refine lv_iload_n hx hb dX5_join_134 rfl (lv_at hl 2 rfl) ?_
    refine lv_if_ne (tgt := 142) hx hb dX5_join_135 kc_t_135_7 (fun c_23 => ?_) (fun c_23 => ?_)
    · refine lv_iload_n hx hb dX5_join_142 rfl (lv_at hl 1 rfl) ?_
      refine lv_iload_n hx hb dX5_join_143 rfl (lv_at hl 2 rfl) ?_
      refine lv_idiv hx hb dX5_join_144 (by assumption) ?_
      refine lv_topi (fun x_24 ex_24 => ?_)
      obtain ⟨z_25, ez_25⟩ : ∃ z : Int64, z = Int32.toInt64 x_24 := ⟨_, rfl⟩
      refine lv_i2l (v := z_25) hx hb dX5_join_145 ez_25.symm ?_
      rw [hQ]
      exact W.lret (v := z_25) hx hb hr (fun t ht hW => ⟨z_25, rfl, trivial, ht⟩) (fun _ h => nomatch h) dX5_join_146
    · refine lv_lconst (v := 0) hx hb dX5_join_138 (by decide) ?_
      refine lv_goto (tgt := 146) hx hb dX5_join_139 kc_t_139_7 ?_
      rw [hQ]
      exact W.lret (v := 0) hx hb hr (fun t ht hW => ⟨0, rfl, trivial, ht⟩) (fun _ h => nomatch h) dX5_join_146
  · refine lv_tableIn (tgt := 185) hx hb dX5_join_1 (by decide) (by decide) rfl (by decide) ?_
    refine lv_iload_n hx hb dX5_join_185 rfl (lv_at hl 1 rfl) ?_
    refine lv_iload_n hx hb dX5_join_186 rfl (lv_at hl 2 rfl) ?_
    refine lv_ior hx hb dX5_join_187 ?_
    refine lv_topi (fun x_26 ex_26 => ?_)
    obtain ⟨z_27, ez_27⟩ : ∃ z : Int64, z = Int32.toInt64 x_26 := ⟨_, rfl⟩
    refine lv_i2l (v := z_27) hx hb dX5_join_188 ez_27.symm ?_
    rw [hQ]
    exact W.lret (v := z_27) hx hb hr (fun t ht hW => ⟨z_27, rfl, trivial, ht⟩) (fun _ h => nomatch h) dX5_join_189
  · refine lv_tableIn (tgt := 185) hx hb dX5_join_1 (by decide) (by decide) rfl (by decide) ?_
    refine lv_iload_n hx hb dX5_join_185 rfl (lv_at hl 1 rfl) ?_
    refine lv_iload_n hx hb dX5_join_186 rfl (lv_at hl 2 rfl) ?_
    refine lv_ior hx hb dX5_join_187 ?_
    refine lv_topi (fun x_28 ex_28 => ?_)
    obtain ⟨z_29, ez_29⟩ : ∃ z : Int64, z = Int32.toInt64 x_28 := ⟨_, rfl⟩
    refine lv_i2l (v := z_29) hx hb dX5_join_188 ez_29.symm ?_
    rw [hQ]
    exact W.lret (v := z_29) hx hb hr (fun t ht hW => ⟨z_29, rfl, trivial, ht⟩) (fun _ h => nomatch h) dX5_join_189
  · refine lv_tableIn (tgt := 185) hx hb dX5_join_1 (by decide) (by decide) rfl (by decide) ?_
    refine lv_iload_n hx hb dX5_join_185 rfl (lv_at hl 1 rfl) ?_
    refine lv_iload_n hx hb dX5_join_186 rfl (lv_at hl 2 rfl) ?_
    refine lv_ior hx hb dX5_join_187 ?_
    refine lv_topi (fun x_30 ex_30 => ?_)
    obtain ⟨z_31, ez_31⟩ : ∃ z : Int64, z = Int32.toInt64 x_30 := ⟨_, rfl⟩
    refine lv_i2l (v := z_31) hx hb dX5_join_188 ez_31.symm ?_
    rw [hQ]
    exact W.lret (v := z_31) hx hb hr (fun t ht hW => ⟨z_31, rfl, trivial, ht⟩) (fun _ h => nomatch h) dX5_join_189
  · refine lv_tableIn (tgt := 185) hx hb dX5_join_1 (by decide) (by decide) rfl (by decide) ?_
    refine lv_iload_n hx hb dX5_join_185 rfl (lv_at hl 1 rfl) ?_
    refine lv_iload_n hx hb dX5_join_186 rfl (lv_at hl 2 rfl) ?_
    refine lv_ior hx hb dX5_join_187 ?_
    refine lv_topi (fun x_32 ex_32 => ?_)
    obtain ⟨z_33, ez_33⟩ : ∃ z : Int64, z = Int32.toInt64 x_32 := ⟨_, rfl⟩
    refine lv_i2l (v := z_33) hx hb dX5_join_188 ez_33.symm ?_
    rw [hQ]
    exact W.lret (v := z_33) hx hb hr (fun t ht hW => ⟨z_33, rfl, trivial, ht⟩) (fun _ h => nomatch h) dX5_join_189
  · refine lv_tableIn (tgt := 185) hx hb dX5_join_1 (by decide) (by decide) rfl (by decide) ?_
    refine lv_iload_n hx hb dX5_join_185 rfl (lv_at hl 1 rfl) ?_
    refine lv_iload_n hx hb dX5_join_186 rfl (lv_at hl 2 rfl) ?_
    refine lv_ior hx hb dX5_join_187 ?_
    refine lv_topi (fun x_34 ex_34 => ?_)
    obtain ⟨z_35, ez_35⟩ : ∃ z : Int64, z = Int32.toInt64 x_34 := ⟨_, rfl⟩
    refine lv_i2l (v := z_35) hx hb dX5_join_188 ez_35.symm ?_
    rw [hQ]
    exact W.lret (v := z_35) hx hb hr (fun t ht hW => ⟨z_35, rfl, trivial, ht⟩) (fun _ h => nomatch h) dX5_join_189
  · refine lv_tableIn (tgt := 185) hx hb dX5_join_1 (by decide) (by decide) rfl (by decide) ?_
    refine lv_iload_n hx hb dX5_join_185 rfl (lv_at hl 1 rfl) ?_
    refine lv_iload_n hx hb dX5_join_186 rfl (lv_at hl 2 rfl) ?_
    refine lv_ior hx hb dX5_join_187 ?_
    refine lv_topi (fun x_36 ex_36 => ?_)
    obtain ⟨z_37, ez_37⟩ : ∃ z : Int64, z = Int32.toInt64 x_36 := ⟨_, rfl⟩
    refine lv_i2l (v := z_37) hx hb dX5_join_188 ez_37.symm ?_
    rw [hQ]
    exact W.lret (v := z_37) hx hb hr (fun t ht hW => ⟨z_37, rfl, trivial, ht⟩) (fun _ h => nomatch h) dX5_join_189
  · refine lv_tableIn (tgt := 185) hx hb dX5_join_1 (by decide) (by decide) rfl (by decide) ?_
    refine lv_iload_n hx hb dX5_join_185 rfl (lv_at hl 1 rfl) ?_
    refine lv_iload_n hx hb dX5_join_186 rfl (lv_at hl 2 rfl) ?_
    refine lv_ior hx hb dX5_join_187 ?_
    refine lv_topi (fun x_38 ex_38 => ?_)
    obtain ⟨z_39, ez_39⟩ : ∃ z : Int64, z = Int32.toInt64 x_38 := ⟨_, rfl⟩
    refine lv_i2l (v := z_39) hx hb dX5_join_188 ez_39.symm ?_
    rw [hQ]
    exact W.lret (v := z_39) hx hb hr (fun t ht hW => ⟨z_39, rfl, trivial, ht⟩) (fun _ h => nomatch h) dX5_join_189
  · refine lv_tableIn (tgt := 185) hx hb dX5_join_1 (by decide) (by decide) rfl (by decide) ?_
    refine lv_iload_n hx hb dX5_join_185 rfl (lv_at hl 1 rfl) ?_
    refine lv_iload_n hx hb dX5_join_186 rfl (lv_at hl 2 rfl) ?_
    refine lv_ior hx hb dX5_join_187 ?_
    refine lv_topi (fun x_40 ex_40 => ?_)
    obtain ⟨z_41, ez_41⟩ : ∃ z : Int64, z = Int32.toInt64 x_40 := ⟨_, rfl⟩
    refine lv_i2l (v := z_41) hx hb dX5_join_188 ez_41.symm ?_
    rw [hQ]
    exact W.lret (v := z_41) hx hb hr (fun t ht hW => ⟨z_41, rfl, trivial, ht⟩) (fun _ h => nomatch h) dX5_join_189
  · refine lv_tableIn (tgt := 185) hx hb dX5_join_1 (by decide) (by decide) rfl (by decide) ?_
    refine lv_iload_n hx hb dX5_join_185 rfl (lv_at hl 1 rfl) ?_
    refine lv_iload_n hx hb dX5_join_186 rfl (lv_at hl 2 rfl) ?_
    refine lv_ior hx hb dX5_join_187 ?_
    refine lv_topi (fun x_42 ex_42 => ?_)
    obtain ⟨z_43, ez_43⟩ : ∃ z : Int64, z = Int32.toInt64 x_42 := ⟨_, rfl⟩
    refine lv_i2l (v := z_43) hx hb dX5_join_188 ez_43.symm ?_
    rw [hQ]
    exact W.lret (v := z_43) hx hb hr (fun t ht hW => ⟨z_43, rfl, trivial, ht⟩) (fun _ h => nomatch h) dX5_join_189
  · refine lv_tableIn (tgt := 185) hx hb dX5_join_1 (by decide) (by decide) rfl (by decide) ?_
    refine lv_iload_n hx hb dX5_join_185 rfl (lv_at hl 1 rfl) ?_
    refine lv_iload_n hx hb dX5_join_186 rfl (lv_at hl 2 rfl) ?_
    refine lv_ior hx hb dX5_join_187 ?_
    refine lv_topi (fun x_44 ex_44 => ?_)
    obtain ⟨z_45, ez_45⟩ : ∃ z : Int64, z = Int32.toInt64 x_44 := ⟨_, rfl⟩
    refine lv_i2l (v := z_45) hx hb dX5_join_188 ez_45.symm ?_
    rw [hQ]
    exact W.lret (v := z_45) hx hb hr (fun t ht hW => ⟨z_45, rfl, trivial, ht⟩) (fun _ h => nomatch h) dX5_join_189
  · refine lv_tableIn (tgt := 185) hx hb dX5_join_1 (by decide) (by decide) rfl (by decide) ?_
    refine lv_iload_n hx hb dX5_join_185 rfl (lv_at hl 1 rfl) ?_
    refine lv_iload_n hx hb dX5_join_186 rfl (lv_at hl 2 rfl) ?_
    refine lv_ior hx hb dX5_join_187 ?_
    refine lv_topi (fun x_46 ex_46 => ?_)
    obtain ⟨z_47, ez_47⟩ : ∃ z : Int64, z = Int32.toInt64 x_46 := ⟨_, rfl⟩
    refine lv_i2l (v := z_47) hx hb dX5_join_188 ez_47.symm ?_
    rw [hQ]
    exact W.lret (v := z_47) hx hb hr (fun t ht hW => ⟨z_47, rfl, trivial, ht⟩) (fun _ h => nomatch h) dX5_join_189
  · refine lv_tableIn (tgt := 185) hx hb dX5_join_1 (by decide) (by decide) rfl (by decide) ?_
    refine lv_iload_n hx hb dX5_join_185 rfl (lv_at hl 1 rfl) ?_
    refine lv_iload_n hx hb dX5_join_186 rfl (lv_at hl 2 rfl) ?_
    refine lv_ior hx hb dX5_join_187 ?_
    refine lv_topi (fun x_48 ex_48 => ?_)
    obtain ⟨z_49, ez_49⟩ : ∃ z : Int64, z = Int32.toInt64 x_48 := ⟨_, rfl⟩
    refine lv_i2l (v := z_49) hx hb dX5_join_188 ez_49.symm ?_
    rw [hQ]
    exact W.lret (v := z_49) hx hb hr (fun t ht hW => ⟨z_49, rfl, trivial, ht⟩) (fun _ h => nomatch h) dX5_join_189
  · refine lv_tableIn (tgt := 158) hx hb dX5_join_1 (by decide) (by decide) rfl (by decide) ?_
    refine lv_iload_n hx hb dX5_join_158 rfl (lv_at hl 1 rfl) ?_
    refine lv_iload_n hx hb dX5_join_159 rfl (lv_at hl 2 rfl) ?_
    refine lv_icmp_ge (tgt := 167) hx hb dX5_join_160 kc_t_160_7 (fun c_50 => ?_) (fun c_50 => ?_)
    · refine lv_lconst (v := 0) hx hb dX5_join_167 (by decide) ?_
      rw [hQ]
      exact W.lret (v := 0) hx hb hr (fun t ht hW => ⟨0, rfl, trivial, ht⟩) (fun _ h => nomatch h) dX5_join_168
    · refine lv_lconst (v := 1) hx hb dX5_join_163 (by decide) ?_
      refine lv_goto (tgt := 168) hx hb dX5_join_164 kc_t_164_4 ?_
      rw [hQ]
      exact W.lret (v := 1) hx hb hr (fun t ht hW => ⟨1, rfl, trivial, ht⟩) (fun _ h => nomatch h) dX5_join_168
  · refine lv_tableIn (tgt := 147) hx hb dX5_join_1 (by decide) (by decide) rfl (by decide) ?_
    refine lv_iload_n hx hb dX5_join_147 rfl (lv_at hl 1 rfl) ?_
    refine lv_iload_n hx hb dX5_join_148 rfl (lv_at hl 2 rfl) ?_
    refine lv_icmp_ne (tgt := 156) hx hb dX5_join_149 kc_t_149_7 (fun c_51 => ?_) (fun c_51 => ?_)
    · refine lv_lconst (v := 0) hx hb dX5_join_156 (by decide) ?_
      rw [hQ]
      exact W.lret (v := 0) hx hb hr (fun t ht hW => ⟨0, rfl, trivial, ht⟩) (fun _ h => nomatch h) dX5_join_157
    · refine lv_lconst (v := 1) hx hb dX5_join_152 (by decide) ?_
      refine lv_goto (tgt := 157) hx hb dX5_join_153 kc_t_153_4 ?_
      rw [hQ]
      exact W.lret (v := 1) hx hb hr (fun t ht hW => ⟨1, rfl, trivial, ht⟩) (fun _ h => nomatch h) dX5_join_157
  · refine lv_tableIn (tgt := 169) hx hb dX5_join_1 (by decide) (by decide) rfl (by decide) ?_
    refine lv_iload_n hx hb dX5_join_169 rfl (lv_at hl 1 rfl) ?_
    refine lv_iload_n hx hb dX5_join_170 rfl (lv_at hl 2 rfl) ?_
    refine lv_icmp_le (tgt := 178) hx hb dX5_join_171 kc_t_171_7 (fun c_52 => ?_) (fun c_52 => ?_)
    · refine lv_lconst (v := 0) hx hb dX5_join_178 (by decide) ?_
      rw [hQ]
      exact W.lret (v := 0) hx hb hr (fun t ht hW => ⟨0, rfl, trivial, ht⟩) (fun _ h => nomatch h) dX5_join_179
    · refine lv_lconst (v := 1) hx hb dX5_join_174 (by decide) ?_
      refine lv_goto (tgt := 179) hx hb dX5_join_175 kc_t_175_4 ?_
      rw [hQ]
      exact W.lret (v := 1) hx hb hr (fun t ht hW => ⟨1, rfl, trivial, ht⟩) (fun _ h => nomatch h) dX5_join_179
  · refine lv_tableOut (tgt := 185) hx hb dX5_join_1 h_1 (by decide) ?_
    refine lv_iload_n hx hb dX5_join_185 rfl (lv_at hl 1 rfl) ?_
    refine lv_iload_n hx hb dX5_join_186 rfl (lv_at hl 2 rfl) ?_
    refine lv_ior hx hb dX5_join_187 ?_
    refine lv_topi (fun x_53 ex_53 => ?_)
    obtain ⟨z_54, ez_54⟩ : ∃ z : Int64, z = Int32.toInt64 x_53 := ⟨_, rfl⟩
    refine lv_i2l (v := z_54) hx hb dX5_join_188 ez_54.symm ?_
    rw [hQ]
    exact W.lret (v := z_54) hx hb hr (fun t ht hW => ⟨z_54, rfl, trivial, ht⟩) (fun _ h => nomatch h) dX5_join_189

theorem dX5_bounded_0 : decode cX5_bounded 0 = .ok (.lload_n 0, 1) := kDs0 kf_30 (by decide +kernel)
theorem dX5_bounded_1 : decode cX5_bounded 1 = .ok (.ldc2_w 48, 3) := kDs2 kf_20 (by decide +kernel)
theorem dX5_bounded_4 : decode cX5_bounded 4 = .ok (.lcmp, 1) := kDs0 kf_148 (by decide +kernel)
theorem dX5_bounded_5 : decode cX5_bounded 5 = .ok (.ifCond .le 6, 3) := kDs4 kf_158 (by decide +kernel)
theorem dX5_bounded_11 : decode cX5_bounded 11 = .ok (.lload_n 0, 1) := kDs0 kf_30 (by decide +kernel)
theorem dX5_bounded_12 : decode cX5_bounded 12 = .ok (.ldc2_w 51, 3) := kDs2 kf_20 (by decide +kernel)
theorem dX5_bounded_15 : decode cX5_bounded 15 = .ok (.lcmp, 1) := kDs0 kf_148 (by decide +kernel)
theorem dX5_bounded_16 : decode cX5_bounded 16 = .ok (.ifCond .ge 8, 3) := kDs4 kf_156 (by decide +kernel)
theorem dX5_bounded_24 : decode cX5_bounded 24 = .ok (.lload_n 0, 1) := kDs0 kf_30 (by decide +kernel)
theorem dX5_bounded_25 : decode cX5_bounded 25 = .ok (.l2i, 1) := kDs0 kf_136 (by decide +kernel)
theorem dX5_bounded_26 : decode cX5_bounded 26 = .ok (.ireturn, 1) := kDs0 kf_172 (by decide +kernel)
theorem dX5_bounded_19 : decode cX5_bounded 19 = .ok (.ldc 53, 2) := kDs1 kf_18 (by decide +kernel)
theorem dX5_bounded_21 : decode cX5_bounded 21 = .ok (.goto 5, 3) := kDs4 kf_167 (by decide +kernel)
theorem dX5_bounded_8 : decode cX5_bounded 8 = .ok (.ldc 50, 2) := kDs1 kf_18 (by decide +kernel)
theorem dX5_bounded_10 : decode cX5_bounded 10 = .ok (.ireturn, 1) := kDs0 kf_172 (by decide +kernel)
def w_s_bounded5 : List Cond := .code yX5_bounded cX5_bounded 2 (some .int) :: ([.constantLong RX5 48 (1000000), .constantLong RX5 51 (-1000000), .constant RX5 53 (-1000000), .constant RX5 50 (1000000)] ++ [])
theorem gw_s_bounded5 : (w_s_bounded5).all goodWord = true := kGc rfl (kGa (by decide +kernel) kGn)
theorem hd_X5_bounded : yX5_bounded.cls ≠ "java/lang/invoke/MethodHandle" ∧ yX5_bounded.cls ≠ "java/lang/invoke/VarHandle" ∧ (parseMethodDescriptor yX5_bounded.desc).map (fun d => d.parameters.length) = some 1 := by decide +kernel
set_option maxHeartbeats 4000000 in
set_option maxRecDepth 100000 in
theorem s_bounded5 (l : Launch) (dC : Nat → ClassId) (dI : Nat → Nat → Nat) (p0 : Int64) : Met l yX5_bounded w_s_bounded5 ({ frames := 1, cells := 0, slots := 0, locals := 60 }) (kR dC dI [.long p0] [] [] kT) (vp_Si (fun r : Int32 => True)) 0 0 (fun _ => False) := by
  refine Met.ofW (cc := cX5_bounded) (maxL := 2) (ret := (some .int)) (by decide) rfl ?_
  intro p e s m args below meth c s₁ B hml hv
  obtain ⟨rfl, hP, hK, hX⟩ := hv
  have hx := B.exec
  have hb := B.bytes
  have hr := B.returns
  have hts := atoms_spec (ws := w_s_bounded5) B.pre
  have hown : s.vm.findClass RX5 = some m.cls := findClass_of_methodNamed B.named
  have hlocks := B.notSynchronized
  have hP : va_P (dC, dI) vwCl [] s.heap := hP
  have hl := lv_entry ([.long p0]) (n := 2) (Nat.le_of_ble_eq_true rfl)
  rw [lg_entry_eq]
  generalize (lg_sl ([.long p0]) ++ List.replicate (2 - (lg_sl ([.long p0])).length) Slot.unset).toArray = ls at hl ⊢
  have hl : lv_has ls 2 [(0, .long p0)] := hl
  refine kQ (fun Q hQ => ?_)
  refine lv_lload_n hx hb dX5_bounded_0 rfl (lv_at hl 0 rfl) ?_
  refine lv_ldc2 (v := 1000000) hx hb hown (hts (.constantLong RX5 48 (1000000)) (List.mem_cons_of_mem _ (List.mem_append_left _ (List.mem_of_getElem? (i := 0) rfl)))) dX5_bounded_1 ?_
  refine W.lcmp hx hb dX5_bounded_4 ?_
  refine lv_topi (fun x_1 ex_1 => ?_)
  refine lv_if_le (tgt := 11) hx hb dX5_bounded_5 kc_t_5_6 (fun c_2 => ?_) (fun c_2 => ?_)
  · refine lv_lload_n hx hb dX5_bounded_11 rfl (lv_at hl 0 rfl) ?_
    refine lv_ldc2 (v := (-1000000)) hx hb hown (hts (.constantLong RX5 51 (-1000000)) (List.mem_cons_of_mem _ (List.mem_append_left _ (List.mem_of_getElem? (i := 1) rfl)))) dX5_bounded_12 ?_
    refine W.lcmp hx hb dX5_bounded_15 ?_
    refine lv_topi (fun x_3 ex_3 => ?_)
    refine lv_if_ge (tgt := 24) hx hb dX5_bounded_16 kc_t_16_8 (fun c_4 => ?_) (fun c_4 => ?_)
    · refine lv_lload_n hx hb dX5_bounded_24 rfl (lv_at hl 0 rfl) ?_
      obtain ⟨x_5, ex_5⟩ : ∃ z : Int32, z = Int64.toInt32 p0 := ⟨_, rfl⟩
      refine lv_l2i (v := x_5) hx hb dX5_bounded_25 ex_5.symm ?_
      rw [hQ]
      exact W.iret (v := x_5) hx hb hr (fun t ht hW => ⟨x_5, rfl, trivial, ht⟩) (fun _ h => nomatch h) dX5_bounded_26
    · refine lv_ldc (v := (-1000000)) hx hb hown (hts (.constant RX5 53 (-1000000)) (List.mem_cons_of_mem _ (List.mem_append_left _ (List.mem_of_getElem? (i := 2) rfl)))) dX5_bounded_19 ?_
      refine lv_goto (tgt := 26) hx hb dX5_bounded_21 kc_t_21_5 ?_
      rw [hQ]
      exact W.iret (v := (-1000000)) hx hb hr (fun t ht hW => ⟨(-1000000), rfl, trivial, ht⟩) (fun _ h => nomatch h) dX5_bounded_26
  · refine lv_ldc (v := 1000000) hx hb hown (hts (.constant RX5 50 (1000000)) (List.mem_cons_of_mem _ (List.mem_append_left _ (List.mem_of_getElem? (i := 3) rfl)))) dX5_bounded_8 ?_
    rw [hQ]
    exact W.iret (v := 1000000) hx hb hr (fun t ht hW => ⟨1000000, rfl, trivial, ht⟩) (fun _ h => nomatch h) dX5_bounded_10

theorem dX5_reckon_0 : decode cX5_reckon 0 = .ok (.iconst 0, 1) := kDs0 kf_3 (by decide +kernel)
theorem dX5_reckon_1 : decode cX5_reckon 1 = .ok (.istore 4, 2) := kDs1 kf_54 (by decide +kernel)
theorem dX5_reckon_3 : decode cX5_reckon 3 = .ok (.iload_n 2, 1) := kDs0 kf_28 (by decide +kernel)
theorem dX5_reckon_4 : decode cX5_reckon 4 = .ok (.iconst 0, 1) := kDs0 kf_3 (by decide +kernel)
theorem dX5_reckon_5 : decode cX5_reckon 5 = .ok (.invokestatic 30, 3) := kDs2 kf_184 (by decide +kernel)
theorem dX5_reckon_8 : decode cX5_reckon 8 = .ok (.istore 5, 2) := kDs1 kf_54 (by decide +kernel)
theorem dX5_reckon_10 : decode cX5_reckon 10 = .ok (.iload 5, 2) := kDs1 kf_21 (by decide +kernel)
theorem dX5_reckon_12 : decode cX5_reckon 12 = .ok (.iload_n 3, 1) := kDs0 kf_29 (by decide +kernel)
theorem dX5_reckon_13 : decode cX5_reckon 13 = .ok (.if_icmp .ge 147, 3) := kDs4 kf_162 (by decide +kernel)
theorem dX5_reckon_160 : decode cX5_reckon 160 = .ok (.iload 4, 2) := kDs1 kf_21 (by decide +kernel)
theorem dX5_reckon_162 : decode cX5_reckon 162 = .ok (.ifCond .le 12, 3) := kDs4 kf_158 (by decide +kernel)
theorem dX5_reckon_174 : decode cX5_reckon 174 = .ok (.iconst 0, 1) := kDs0 kf_3 (by decide +kernel)
theorem dX5_reckon_175 : decode cX5_reckon 175 = .ok (.ireturn, 1) := kDs0 kf_172 (by decide +kernel)
theorem dX5_reckon_165 : decode cX5_reckon 165 = .ok (.aload_n 0, 1) := kDs0 kf_42 (by decide +kernel)
theorem dX5_reckon_166 : decode cX5_reckon 166 = .ok (.getfield 15, 3) := kDs2 kf_180 (by decide +kernel)
theorem dX5_reckon_169 : decode cX5_reckon 169 = .ok (.iconst 0, 1) := kDs0 kf_3 (by decide +kernel)
theorem dX5_reckon_170 : decode cX5_reckon 170 = .ok (.iaload, 1) := kDs0 kf_46 (by decide +kernel)
theorem dX5_reckon_171 : decode cX5_reckon 171 = .ok (.goto 4, 3) := kDs4 kf_167 (by decide +kernel)
theorem dX5_reckon_16 : decode cX5_reckon 16 = .ok (.iload 5, 2) := kDs1 kf_21 (by decide +kernel)
theorem dX5_reckon_18 : decode cX5_reckon 18 = .ok (.aload_n 1, 1) := kDs0 kf_43 (by decide +kernel)
theorem dX5_reckon_19 : decode cX5_reckon 19 = .ok (.arraylength, 1) := kDs0 kf_190 (by decide +kernel)
theorem dX5_reckon_20 : decode cX5_reckon 20 = .ok (.if_icmp .ge 140, 3) := kDs4 kf_162 (by decide +kernel)
theorem dX5_reckon_23 : decode cX5_reckon 23 = .ok (.aload_n 1, 1) := kDs0 kf_43 (by decide +kernel)
theorem dX5_reckon_24 : decode cX5_reckon 24 = .ok (.iload 5, 2) := kDs1 kf_21 (by decide +kernel)
theorem dX5_reckon_26 : decode cX5_reckon 26 = .ok (.iaload, 1) := kDs0 kf_46 (by decide +kernel)
theorem dX5_reckon_27 : decode cX5_reckon 27 = .ok (.istore 6, 2) := kDs1 kf_54 (by decide +kernel)
theorem dX5_reckon_29 : decode cX5_reckon 29 = .ok (.iload 6, 2) := kDs1 kf_21 (by decide +kernel)
theorem dX5_reckon_31 : decode cX5_reckon 31 = .ok (.sipush 20000, 3) := kDs4 kf_17 (by decide +kernel)
theorem dX5_reckon_34 : decode cX5_reckon 34 = .ok (.if_icmp .ge 32, 3) := kDs4 kf_162 (by decide +kernel)
theorem dX5_reckon_66 : decode cX5_reckon 66 = .ok (.iload 6, 2) := kDs1 kf_21 (by decide +kernel)
theorem dX5_reckon_68 : decode cX5_reckon 68 = .ok (.sipush 20033, 3) := kDs4 kf_17 (by decide +kernel)
theorem dX5_reckon_71 : decode cX5_reckon 71 = .ok (.if_icmp .ne 37, 3) := kDs4 kf_160 (by decide +kernel)
theorem dX5_reckon_108 : decode cX5_reckon 108 = .ok (.iload 4, 2) := kDs1 kf_21 (by decide +kernel)
theorem dX5_reckon_110 : decode cX5_reckon 110 = .ok (.iconst 1, 1) := kDs0 kf_4 (by decide +kernel)
theorem dX5_reckon_111 : decode cX5_reckon 111 = .ok (.if_icmp .le 43, 3) := kDs4 kf_164 (by decide +kernel)
theorem dX5_reckon_154 : decode cX5_reckon 154 = .ok (.iinc 5 1, 3) := kDs5 kf_132 (by decide +kernel)
theorem dX5_reckon_157 : decode cX5_reckon 157 = .ok (.goto (-147), 3) := kDs4 kf_167 (by decide +kernel)
theorem dX5_reckon_114 : decode cX5_reckon 114 = .ok (.iinc 4 (-1), 3) := kDs5 kf_132 (by decide +kernel)
theorem dX5_reckon_117 : decode cX5_reckon 117 = .ok (.aload_n 0, 1) := kDs0 kf_42 (by decide +kernel)
theorem dX5_reckon_118 : decode cX5_reckon 118 = .ok (.getfield 15, 3) := kDs2 kf_180 (by decide +kernel)
theorem dX5_reckon_121 : decode cX5_reckon 121 = .ok (.iload 4, 2) := kDs1 kf_21 (by decide +kernel)
theorem dX5_reckon_123 : decode cX5_reckon 123 = .ok (.iconst 1, 1) := kDs0 kf_4 (by decide +kernel)
theorem dX5_reckon_124 : decode cX5_reckon 124 = .ok (.isub, 1) := kDs0 kf_100 (by decide +kernel)
theorem dX5_reckon_125 : decode cX5_reckon 125 = .ok (.iload 6, 2) := kDs1 kf_21 (by decide +kernel)
theorem dX5_reckon_127 : decode cX5_reckon 127 = .ok (.sipush 20000, 3) := kDs4 kf_17 (by decide +kernel)
theorem dX5_reckon_130 : decode cX5_reckon 130 = .ok (.isub, 1) := kDs0 kf_100 (by decide +kernel)
theorem dX5_reckon_131 : decode cX5_reckon 131 = .ok (.aload_n 0, 1) := kDs0 kf_42 (by decide +kernel)
theorem dX5_reckon_132 : decode cX5_reckon 132 = .ok (.getfield 15, 3) := kDs2 kf_180 (by decide +kernel)
theorem dX5_reckon_135 : decode cX5_reckon 135 = .ok (.iload 4, 2) := kDs1 kf_21 (by decide +kernel)
theorem dX5_reckon_137 : decode cX5_reckon 137 = .ok (.iconst 1, 1) := kDs0 kf_4 (by decide +kernel)
theorem dX5_reckon_138 : decode cX5_reckon 138 = .ok (.isub, 1) := kDs0 kf_100 (by decide +kernel)
theorem dX5_reckon_139 : decode cX5_reckon 139 = .ok (.iaload, 1) := kDs0 kf_46 (by decide +kernel)
theorem dX5_reckon_140 : decode cX5_reckon 140 = .ok (.aload_n 0, 1) := kDs0 kf_42 (by decide +kernel)
theorem dX5_reckon_141 : decode cX5_reckon 141 = .ok (.getfield 15, 3) := kDs2 kf_180 (by decide +kernel)
theorem dX5_reckon_144 : decode cX5_reckon 144 = .ok (.iload 4, 2) := kDs1 kf_21 (by decide +kernel)
theorem dX5_reckon_146 : decode cX5_reckon 146 = .ok (.iaload, 1) := kDs0 kf_46 (by decide +kernel)
theorem dX5_reckon_147 : decode cX5_reckon 147 = .ok (.invokestatic 40, 3) := kDs2 kf_184 (by decide +kernel)
theorem dX5_reckon_150 : decode cX5_reckon 150 = .ok (.invokestatic 44, 3) := kDs2 kf_184 (by decide +kernel)
theorem dX5_reckon_153 : decode cX5_reckon 153 = .ok (.iastore, 1) := kDs0 kf_79 (by decide +kernel)
theorem dX5_reckon_74 : decode cX5_reckon 74 = .ok (.iload 4, 2) := kDs1 kf_21 (by decide +kernel)
theorem dX5_reckon_76 : decode cX5_reckon 76 = .ok (.ifCond .le 78, 3) := kDs4 kf_158 (by decide +kernel)
theorem dX5_reckon_79 : decode cX5_reckon 79 = .ok (.aload_n 0, 1) := kDs0 kf_42 (by decide +kernel)
theorem dX5_reckon_80 : decode cX5_reckon 80 = .ok (.getfield 15, 3) := kDs2 kf_180 (by decide +kernel)
theorem dX5_reckon_83 : decode cX5_reckon 83 = .ok (.iload 4, 2) := kDs1 kf_21 (by decide +kernel)
theorem dX5_reckon_85 : decode cX5_reckon 85 = .ok (.iconst 1, 1) := kDs0 kf_4 (by decide +kernel)
theorem dX5_reckon_86 : decode cX5_reckon 86 = .ok (.isub, 1) := kDs0 kf_100 (by decide +kernel)
theorem dX5_reckon_87 : decode cX5_reckon 87 = .ok (.aload_n 0, 1) := kDs0 kf_42 (by decide +kernel)
theorem dX5_reckon_88 : decode cX5_reckon 88 = .ok (.getfield 15, 3) := kDs2 kf_180 (by decide +kernel)
theorem dX5_reckon_91 : decode cX5_reckon 91 = .ok (.iload 4, 2) := kDs1 kf_21 (by decide +kernel)
theorem dX5_reckon_93 : decode cX5_reckon 93 = .ok (.iconst 1, 1) := kDs0 kf_4 (by decide +kernel)
theorem dX5_reckon_94 : decode cX5_reckon 94 = .ok (.isub, 1) := kDs0 kf_100 (by decide +kernel)
theorem dX5_reckon_95 : decode cX5_reckon 95 = .ok (.iaload, 1) := kDs0 kf_46 (by decide +kernel)
theorem dX5_reckon_96 : decode cX5_reckon 96 = .ok (.ifCond .ne 7, 3) := kDs4 kf_154 (by decide +kernel)
theorem dX5_reckon_103 : decode cX5_reckon 103 = .ok (.iconst 0, 1) := kDs0 kf_3 (by decide +kernel)
theorem dX5_reckon_104 : decode cX5_reckon 104 = .ok (.iastore, 1) := kDs0 kf_79 (by decide +kernel)
theorem dX5_reckon_105 : decode cX5_reckon 105 = .ok (.goto 49, 3) := kDs4 kf_167 (by decide +kernel)
theorem dX5_reckon_99 : decode cX5_reckon 99 = .ok (.iconst 1, 1) := kDs0 kf_4 (by decide +kernel)
theorem dX5_reckon_100 : decode cX5_reckon 100 = .ok (.goto 4, 3) := kDs4 kf_167 (by decide +kernel)
theorem dX5_reckon_37 : decode cX5_reckon 37 = .ok (.iload 4, 2) := kDs1 kf_21 (by decide +kernel)
theorem dX5_reckon_39 : decode cX5_reckon 39 = .ok (.aload_n 0, 1) := kDs0 kf_42 (by decide +kernel)
theorem dX5_reckon_40 : decode cX5_reckon 40 = .ok (.getfield 15, 3) := kDs2 kf_180 (by decide +kernel)
theorem dX5_reckon_43 : decode cX5_reckon 43 = .ok (.arraylength, 1) := kDs0 kf_190 (by decide +kernel)
theorem dX5_reckon_44 : decode cX5_reckon 44 = .ok (.if_icmp .ge 110, 3) := kDs4 kf_162 (by decide +kernel)
theorem dX5_reckon_47 : decode cX5_reckon 47 = .ok (.aload_n 0, 1) := kDs0 kf_42 (by decide +kernel)
theorem dX5_reckon_48 : decode cX5_reckon 48 = .ok (.getfield 15, 3) := kDs2 kf_180 (by decide +kernel)
theorem dX5_reckon_51 : decode cX5_reckon 51 = .ok (.iload 4, 2) := kDs1 kf_21 (by decide +kernel)
theorem dX5_reckon_53 : decode cX5_reckon 53 = .ok (.aload_n 0, 1) := kDs0 kf_42 (by decide +kernel)
theorem dX5_reckon_54 : decode cX5_reckon 54 = .ok (.iload 6, 2) := kDs1 kf_21 (by decide +kernel)
theorem dX5_reckon_56 : decode cX5_reckon 56 = .ok (.invokevirtual 36, 3) := kDs2 kf_182 (by decide +kernel)
theorem dX5_reckon_59 : decode cX5_reckon 59 = .ok (.iastore, 1) := kDs0 kf_79 (by decide +kernel)
theorem dX5_reckon_60 : decode cX5_reckon 60 = .ok (.iinc 4 1, 3) := kDs5 kf_132 (by decide +kernel)
theorem dX5_reckon_63 : decode cX5_reckon 63 = .ok (.goto 91, 3) := kDs4 kf_167 (by decide +kernel)
def w_s_reckon5 : List Cond := .code yX5_reckon cX5_reckon 7 (some .int) :: ([.methodLink RX5 30 Lib.Math.max.name, .static Lib.Math.max.name, .initialized RJ9, .code Lib.Math.max.name Lib.Math.max.code 2 (some .int), .fieldLink RX5 15 "NotEnded$Reckoner" "open" "[I", .initialized RX5, .static yX5_join, .methodLink RX5 40 yX5_join, .static yX5_bounded, .methodLink RX5 44 yX5_bounded, .selects RX5 yX5_valueOf yX5_valueOf, .instanceMethod yX5_valueOf, .methodLink RX5 36 yX5_valueOf] ++ (wsX50 ++ (w_s_join5 ++ (w_s_bounded5 ++ (w_s_valueOf5)))))
theorem gw_s_reckon5 : (w_s_reckon5).all goodWord = true := kGc rfl (kGa (by decide +kernel) (kGa gw_wsX50 (kGa gw_s_join5 (kGa gw_s_bounded5 gw_s_valueOf5))))
theorem hd_X5_reckon : yX5_reckon.cls ≠ "java/lang/invoke/MethodHandle" ∧ yX5_reckon.cls ≠ "java/lang/invoke/VarHandle" ∧ (parseMethodDescriptor yX5_reckon.desc).map (fun d => d.parameters.length) = some 3 := by decide +kernel
set_option maxHeartbeats 4000000 in
set_option maxRecDepth 100000 in
theorem s_reckon5 (l : Launch) (dC : Nat → ClassId) (dI : Nat → Nat → Nat) (jK : Nat) (k0 : Nat) (k1 : Nat) (cK : ClassId) (cO : ClassId) (l0 : Nat → Int32) (l1 : Nat → Int32) (ru : Nat) (sA : Nat) (cl : Nat) (cS : ClassId) (cc : ClassId) (nS : Nat) (nC : Nat) (gS : Nat → Int32) (gC : Nat → Int32) (hnS : nS ≤ 200) (hnC : nC ≤ 200) (p1 : Int32) (p2 : Int32) (sz : Nat) : Met l yX5_reckon w_s_reckon5 ({ frames := 2, cells := 0, slots := 0, locals := 120 }) (kW dC dI [.ref jK, .ref sA, .int p1, .int p2] [(jK, .inr (5, [.ref k0, .ref k1])), (k0, .inl (cK, 8, .inl l0)), (k1, .inl (cO, 32, .inl l1))] [(cK, .int), (cO, .int), (cS, .int), (cc, .int)] (kNF dC dI [(ru, .inr (6, [.ref sA, .ref cl])), (sA, .inl (cS, nS, .inl gS)), (cl, .inl (cc, nC, .inl gC))] (va_A [(jK, .inr (5, [.ref k0, .ref k1])), (k0, .inl (cK, 8, .inl l0)), (k1, .inl (cO, 32, .inl l1))] sz)) sz) (va_Qi (fun (r : Int32) (m1 : (Nat → Int32)) => True) (fun (m1 : (Nat → Int32)) => fun t : State => kB dC dI [(jK, .inr (5, [.ref k0, .ref k1])), (k0, .inl (cK, 8, .inl l0)), (k1, .inl (cO, 32, .inl m1))] [(cK, .int), (cO, .int), (cS, .int), (cc, .int)] (va_A [(jK, .inr (5, [.ref k0, .ref k1])), (k0, .inl (cK, 8, .inl l0)), (k1, .inl (cO, 32, .inl l1))] sz) t) (va_A [(jK, .inr (5, [.ref k0, .ref k1])), (k0, .inl (cK, 8, .inl l0)), (k1, .inl (cO, 32, .inl l1))] sz)) 0 0 (va_A [(jK, .inr (5, [.ref k0, .ref k1])), (k0, .inl (cK, 8, .inl l0)), (k1, .inl (cO, 32, .inl l1))] sz) := by
  refine Met.ofW (cc := cX5_reckon) (maxL := 7) (ret := (some .int)) (by decide) rfl ?_
  intro p e s m args below meth c s₁ B hml hv
  obtain ⟨rfl, hsz, hP, hK, hD0, hX⟩ := hv
  have hx := B.exec
  have hb := B.bytes
  have hr := B.returns
  have hts := atoms_spec (ws := w_s_reckon5) B.pre
  have hown : s.vm.findClass RX5 = some m.cls := findClass_of_methodNamed B.named
  have hlocks := B.notSynchronized
  subst hsz
  have hD := hD0.self (sz := s.heap.size)
  generalize hAe : va_A [(jK, .inr (5, [.ref k0, .ref k1])), (k0, .inl (cK, 8, .inl l0)), (k1, .inl (cO, 32, .inl l1))] s.heap.size = A at hD hX ⊢
  have hA : ∀ q : Nat, s.heap.size ≤ q → A q := fun q h => by rw [← hAe]; exact Or.inr h
  have hS : va_S A s.heap s.heap [] := va_S.rf
  have hP : va_P (dC, dI) vwCl [(jK, .inr (5, [.ref k0, .ref k1])), (k0, .inl (cK, 8, .inl l0)), (k1, .inl (cO, 32, .inl l1))] s.heap := hP
  have hl := lv_entry ([.ref jK, .ref sA, .int p1, .int p2]) (n := 7) (Nat.le_of_ble_eq_true rfl)
  rw [lg_entry_eq]
  generalize (lg_sl ([.ref jK, .ref sA, .int p1, .int p2]) ++ List.replicate (7 - (lg_sl ([.ref jK, .ref sA, .int p1, .int p2])).length) Slot.unset).toArray = ls at hl ⊢
  have hl : lv_has ls 7 [(0, .ref jK), (1, .ref sA), (2, .int p1), (3, .int p2)] := hl
  refine kQ (fun Q hQ => ?_)
  refine lv_iconst (v := 0) hx hb dX5_reckon_0 kc_i_0 ?_
  refine lv_istore hx hb dX5_reckon_1 hl kc_l_4_7 (kTo [(4, .int 0), (0, .ref jK), (1, .ref sA), (2, .int p1), (3, .int p2)]) (fun ls hl => ?_)
  refine lv_iload_n hx hb dX5_reckon_3 rfl (lv_at hl 3 rfl) ?_
  refine lv_iconst (v := 0) hx hb dX5_reckon_4 kc_i_0 ?_
  refine va_mmax hx hb (hml.trans hl.1.symm) hown (hts (.methodLink RX5 30 Lib.Math.max.name) (List.mem_cons_of_mem _ (List.mem_append_left _ (List.mem_of_getElem? (i := 0) rfl)))) (hts (.static Lib.Math.max.name) (List.mem_cons_of_mem _ (List.mem_append_left _ (List.mem_of_getElem? (i := 1) rfl)))) (hts (.initialized RJ9) (List.mem_cons_of_mem _ (List.mem_append_left _ (List.mem_of_getElem? (i := 2) rfl)))) (hts (.code Lib.Math.max.name Lib.Math.max.code 2 (some .int)) (List.mem_cons_of_mem _ (List.mem_append_left _ (List.mem_of_getElem? (i := 3) rfl)))) (Nat.le_of_ble_eq_true rfl) (Nat.le_of_ble_eq_true rfl) (Nat.le_of_ble_eq_true rfl) (Nat.le_of_ble_eq_true rfl) dX5_reckon_5 ?_
  refine lv_topi (fun x_1 ex_1 => ?_)
  obtain ⟨j_2, hj_2, ej_2⟩ := kMax0 ex_1
  rw [ej_2]
  refine lv_istore hx hb dX5_reckon_8 hl kc_l_5_7 (kTo [(5, .int (nI (j_2))), (4, .int 0), (0, .ref jK), (1, .ref sA), (2, .int p1), (3, .int p2)]) (fun ls hl => ?_)
  have lp_k_3 : ∀ (n9 : Nat) (tp : Nat) (i : Nat) (m9 : Nat → Int32) (ivk_3_0 : tp ≤ 32) (ivk_3_1 : i < 2147483648) (H : Heap) (locs : List Loc) (_ : va_P (dC, dI) vwCl [(jK, .inr (5, [.ref k0, .ref k1])), (k0, .inl (cK, 8, .inl l0)), (k1, .inl (cO, 32, .inl m9))] H) (_ : va_D A [(jK, .inr (5, [.ref k0, .ref k1])), (k0, .inl (cK, 8, .inl l0)), (k1, .inl (cO, 32, .inl m9))]) (_ : va_S A s.heap H locs) (ls : Array Slot) (_ : lv_has ls 7 [(5, .int (nI (i))), (4, .int (nI (tp))), (0, .ref jK), (1, .ref sA), (2, .int p1), (3, .int p2)]) (_ : nS - i < n9), W p l e (headSpec w_s_reckon5 ({ frames := 2, cells := 0, slots := 0, locals := 120 })).room s m (#[.ref jK, .ref sA, .int p1, .int p2] : Array Value) below meth c H locs 0 0 Q (F0 m 10 ls []) := by
    intro n9
    induction n9 with
    | zero => intro tp i m9 ivk_3_0 ivk_3_1 H locs hP hD hS ls hl hm9; exact absurd hm9 (Nat.not_lt_zero _)
    | succ n9 ih_k_3 =>
      intro tp i m9 ivk_3_0 ivk_3_1 H locs hP hD hS ls hl hm9
      refine lv_iload hx hb dX5_reckon_10 (lv_at hl 0 rfl) ?_
      refine lv_iload_n hx hb dX5_reckon_12 rfl (lv_at hl 5 rfl) ?_
      refine lv_icmp_ge (tgt := 160) hx hb dX5_reckon_13 kc_t_13_147 (fun c_4 => ?_) (fun c_4 => ?_)
      · refine lv_iload hx hb dX5_reckon_160 (lv_at hl 1 rfl) ?_
        refine lv_if_le (tgt := 174) hx hb dX5_reckon_162 kc_t_162_12 (fun c_5 => ?_) (fun c_5 => ?_)
        · have bd_7 : tp < 2147483648 := by omega
          have hn_6 := kle (a := tp) (b := 0) bd_7 kc_31_0 c_5
          refine lv_iconst (v := 0) hx hb dX5_reckon_174 kc_i_0 ?_
          have hP9 := hP
          have hD9 := hD
          have hK9 := hK
          rw [hQ]
          exact W.iret (v := 0) hx hb hr (fun t ht hW => ⟨⟨0, m9, rfl, trivial,  by rw [ht]; exact hP9, va_K.moved hW.alike hK9, hD9⟩, hS.F ht⟩) hS.2.2 dX5_reckon_175
        · have bd_9 : tp < 2147483648 := by omega
          have hn_8 := knle (a := tp) (b := 0) bd_9 kc_31_0 c_5
          refine lv_aload_n hx hb dX5_reckon_165 rfl (lv_at hl 2 rfl) ?_
          refine va_get (D := (dC, dI)) (ci := 5) (v := .ref k1) (C := RX5) (T := TX5) (N := 2) hx hb hts (fun _ h => List.mem_cons_of_mem _ (List.mem_append_right _ (List.mem_append_left _ h))) hown hK hP 0 rfl rfl 1 kc_l_1_2 (hts (.fieldLink RX5 15 "NotEnded$Reckoner" "open" "[I") (List.mem_cons_of_mem _ (List.mem_append_left _ (List.mem_of_getElem? (i := 4) rfl)))) (fun _ h9 => h9) rfl dX5_reckon_166 ?_
          refine lv_iconst (v := 0) hx hb dX5_reckon_169 kc_i_0 ?_
          refine va_iald hx hb hK hP 2 1 rfl rfl kc_in_0_32 dX5_reckon_170 ?_
          refine lv_topi (fun x_10 ex_10 => ?_)
          refine lv_goto (tgt := 175) hx hb dX5_reckon_171 kc_t_171_4 ?_
          have hP9 := hP
          have hD9 := hD
          have hK9 := hK
          rw [hQ]
          exact W.iret (v := x_10) hx hb hr (fun t ht hW => ⟨⟨x_10, m9, rfl, trivial,  by rw [ht]; exact hP9, va_K.moved hW.alike hK9, hD9⟩, hS.F ht⟩) hS.2.2 dX5_reckon_175
      · refine lv_iload hx hb dX5_reckon_16 (lv_at hl 0 rfl) ?_
        refine lv_aload_n hx hb dX5_reckon_18 rfl (lv_at hl 3 rfl) ?_
        have hPR := kFz_at hX.1 hS
        refine va_alen hx hb hK hPR 1 2 rfl rfl (v := nI (nS)) rfl dX5_reckon_19 ?_
        refine lv_icmp_ge (tgt := 160) hx hb dX5_reckon_20 kc_t_20_140 (fun c_11 => ?_) (fun c_11 => ?_)
        · have bd_13 : nS < 2147483648 := by omega
          have bd_14 : i < 2147483648 := by omega
          have hn_12 := kle (a := nS) (b := i) bd_13 bd_14 c_11
          refine lv_iload hx hb dX5_reckon_160 (lv_at hl 1 rfl) ?_
          refine lv_if_le (tgt := 174) hx hb dX5_reckon_162 kc_t_162_12 (fun c_15 => ?_) (fun c_15 => ?_)
          · have bd_17 : tp < 2147483648 := by omega
            have hn_16 := kle (a := tp) (b := 0) bd_17 kc_31_0 c_15
            refine lv_iconst (v := 0) hx hb dX5_reckon_174 kc_i_0 ?_
            have hP9 := hP
            have hD9 := hD
            have hK9 := hK
            rw [hQ]
            exact W.iret (v := 0) hx hb hr (fun t ht hW => ⟨⟨0, m9, rfl, trivial,  by rw [ht]; exact hP9, va_K.moved hW.alike hK9, hD9⟩, hS.F ht⟩) hS.2.2 dX5_reckon_175
          · have bd_19 : tp < 2147483648 := by omega
            have hn_18 := knle (a := tp) (b := 0) bd_19 kc_31_0 c_15
            refine lv_aload_n hx hb dX5_reckon_165 rfl (lv_at hl 2 rfl) ?_
            refine va_get (D := (dC, dI)) (ci := 5) (v := .ref k1) (C := RX5) (T := TX5) (N := 2) hx hb hts (fun _ h => List.mem_cons_of_mem _ (List.mem_append_right _ (List.mem_append_left _ h))) hown hK hP 0 rfl rfl 1 kc_l_1_2 (hts (.fieldLink RX5 15 "NotEnded$Reckoner" "open" "[I") (List.mem_cons_of_mem _ (List.mem_append_left _ (List.mem_of_getElem? (i := 4) rfl)))) (fun _ h9 => h9) rfl dX5_reckon_166 ?_
            refine lv_iconst (v := 0) hx hb dX5_reckon_169 kc_i_0 ?_
            refine va_iald hx hb hK hP 2 1 rfl rfl kc_in_0_32 dX5_reckon_170 ?_
            refine lv_topi (fun x_20 ex_20 => ?_)
            refine lv_goto (tgt := 175) hx hb dX5_reckon_171 kc_t_171_4 ?_
            have hP9 := hP
            have hD9 := hD
            have hK9 := hK
            rw [hQ]
            exact W.iret (v := x_20) hx hb hr (fun t ht hW => ⟨⟨x_20, m9, rfl, trivial,  by rw [ht]; exact hP9, va_K.moved hW.alike hK9, hD9⟩, hS.F ht⟩) hS.2.2 dX5_reckon_175
        · have bd_22 : nS < 2147483648 := by omega
          have bd_23 : i < 2147483648 := by omega
          have hn_21 := knle (a := nS) (b := i) bd_22 bd_23 c_11
          refine lv_aload_n hx hb dX5_reckon_23 rfl (lv_at hl 3 rfl) ?_
          refine lv_iload hx hb dX5_reckon_24 (lv_at hl 0 rfl) ?_
          have hPR := kFz_at hX.1 hS
          have bd_24 : i < nS := by omega
          refine va_iald hx hb hK hPR 1 2 rfl rfl (vp_in_nI (n := i) (N := nS) bd_24 bd_22) dX5_reckon_26 ?_
          refine lv_topi (fun x_25 ex_25 => ?_)
          refine lv_istore hx hb dX5_reckon_27 hl kc_l_6_7 (kTo [(6, .int x_25), (5, .int (nI (i))), (4, .int (nI (tp))), (0, .ref jK), (1, .ref sA), (2, .int p1), (3, .int p2)]) (fun ls hl => ?_)
          refine lv_iload hx hb dX5_reckon_29 (lv_at hl 0 rfl) ?_
          refine lv_sipush (v := 20000) hx hb dX5_reckon_31 kc_s_20000 ?_
          refine lv_icmp_ge (tgt := 66) hx hb dX5_reckon_34 kc_t_34_32 (fun c_26 => ?_) (fun c_26 => ?_)
          · refine lv_iload hx hb dX5_reckon_66 (lv_at hl 0 rfl) ?_
            refine lv_sipush (v := 20033) hx hb dX5_reckon_68 kc_s_20033 ?_
            refine lv_icmp_ne (tgt := 108) hx hb dX5_reckon_71 kc_t_71_37 (fun c_27 => ?_) (fun c_27 => ?_)
            · refine lv_iload hx hb dX5_reckon_108 (lv_at hl 2 rfl) ?_
              refine lv_iconst (v := 1) hx hb dX5_reckon_110 kc_i_1 ?_
              refine lv_icmp_le (tgt := 154) hx hb dX5_reckon_111 kc_t_111_43 (fun c_28 => ?_) (fun c_28 => ?_)
              · have bd_30 : tp < 2147483648 := by omega
                have hn_29 := kle (a := tp) (b := 1) bd_30 kc_31_1 c_28
                refine lv_iinc (v := nI (i + 1)) hx hb dX5_reckon_154 hl (k := 1) rfl (kInc _ 1) kc_l_5_7 (kTo [(5, .int (nI (i + 1))), (6, .int x_25), (4, .int (nI (tp))), (0, .ref jK), (1, .ref sA), (2, .int p1), (3, .int p2)]) (fun ls hl => ?_)
                refine lv_goto (tgt := 10) hx hb dX5_reckon_157 kc_t_157_m147 ?_
                exact ih_k_3 tp (i + 1) m9 (by omega) (by omega) _ _ hP hD hS ls (lv_sub hl [0, 2, 3, 4, 5, 6] rfl) (by omega)
              · have bd_32 : tp < 2147483648 := by omega
                have hn_31 := knle (a := tp) (b := 1) bd_32 kc_31_1 c_28
                refine lv_iinc (v := nI (tp - 1)) hx hb dX5_reckon_114 hl (k := 2) rfl (kDec (a := tp) 1 (by omega)) kc_l_4_7 (kTo [(4, .int (nI (tp - 1))), (6, .int x_25), (5, .int (nI (i))), (0, .ref jK), (1, .ref sA), (2, .int p1), (3, .int p2)]) (fun ls hl => ?_)
                refine lv_aload_n hx hb dX5_reckon_117 rfl (lv_at hl 3 rfl) ?_
                refine va_get (D := (dC, dI)) (ci := 5) (v := .ref k1) (C := RX5) (T := TX5) (N := 2) hx hb hts (fun _ h => List.mem_cons_of_mem _ (List.mem_append_right _ (List.mem_append_left _ h))) hown hK hP 0 rfl rfl 1 kc_l_1_2 (hts (.fieldLink RX5 15 "NotEnded$Reckoner" "open" "[I") (List.mem_cons_of_mem _ (List.mem_append_left _ (List.mem_of_getElem? (i := 4) rfl)))) (fun _ h9 => h9) rfl dX5_reckon_118 ?_
                refine lv_iload hx hb dX5_reckon_121 (lv_at hl 0 rfl) ?_
                refine lv_iconst (v := 1) hx hb dX5_reckon_123 kc_i_1 ?_
                refine lv_isub hx hb dX5_reckon_124 ?_
                refine lv_topi (fun y_33 ey_33 => ?_)
                obtain rfl : y_33 = nI ((tp - 1) - 1) := ey_33.trans (pk_sub (a := tp - 1) (b := 1) (by omega))
                refine lv_iload hx hb dX5_reckon_125 (lv_at hl 1 rfl) ?_
                refine lv_sipush (v := 20000) hx hb dX5_reckon_127 kc_s_20000 ?_
                refine lv_isub hx hb dX5_reckon_130 ?_
                refine lv_topi (fun x_34 ex_34 => ?_)
                refine lv_aload_n hx hb dX5_reckon_131 rfl (lv_at hl 3 rfl) ?_
                refine va_get (D := (dC, dI)) (ci := 5) (v := .ref k1) (C := RX5) (T := TX5) (N := 2) hx hb hts (fun _ h => List.mem_cons_of_mem _ (List.mem_append_right _ (List.mem_append_left _ h))) hown hK hP 0 rfl rfl 1 kc_l_1_2 (hts (.fieldLink RX5 15 "NotEnded$Reckoner" "open" "[I") (List.mem_cons_of_mem _ (List.mem_append_left _ (List.mem_of_getElem? (i := 4) rfl)))) (fun _ h9 => h9) rfl dX5_reckon_132 ?_
                refine lv_iload hx hb dX5_reckon_135 (lv_at hl 0 rfl) ?_
                refine lv_iconst (v := 1) hx hb dX5_reckon_137 kc_i_1 ?_
                refine lv_isub hx hb dX5_reckon_138 ?_
                refine lv_topi (fun y_35 ey_35 => ?_)
                obtain rfl : y_35 = nI ((tp - 1) - 1) := ey_35.trans (pk_sub (a := tp - 1) (b := 1) (by omega))
                have bd_36 : (tp - 1) - 1 < 32 := by omega
                refine va_iald hx hb hK hP 2 1 rfl rfl (vp_in_nI (n := (tp - 1) - 1) (N := 32) bd_36 kc_31_32) dX5_reckon_139 ?_
                refine lv_topi (fun x_37 ex_37 => ?_)
                refine lv_aload_n hx hb dX5_reckon_140 rfl (lv_at hl 3 rfl) ?_
                refine va_get (D := (dC, dI)) (ci := 5) (v := .ref k1) (C := RX5) (T := TX5) (N := 2) hx hb hts (fun _ h => List.mem_cons_of_mem _ (List.mem_append_right _ (List.mem_append_left _ h))) hown hK hP 0 rfl rfl 1 kc_l_1_2 (hts (.fieldLink RX5 15 "NotEnded$Reckoner" "open" "[I") (List.mem_cons_of_mem _ (List.mem_append_left _ (List.mem_of_getElem? (i := 4) rfl)))) (fun _ h9 => h9) rfl dX5_reckon_141 ?_
                refine lv_iload hx hb dX5_reckon_144 (lv_at hl 0 rfl) ?_
                have bd_38 : tp - 1 < 32 := by omega
                refine va_iald hx hb hK hP 2 1 rfl rfl (vp_in_nI (n := tp - 1) (N := 32) bd_38 kc_31_32) dX5_reckon_146 ?_
                refine lv_topi (fun x_39 ex_39 => ?_)
                have hPc := hP.sb (ws2 := []) [] rfl
                have hKc := hK.sb (tys2 := []) [] rfl
                refine vp_callSl (va_runS (As := [.int x_34, .int x_37, .int x_39]) (rest := [.int (nI ((tp - 1) - 1)), .ref k1]) ⟨hx, hb, hml, hown, hts⟩ (s_join5 l dC dI x_34 x_37 x_39) (va_cwS 3 hts (kG (List.forall_mem_cons.mpr ⟨(List.mem_cons_of_mem _ (List.mem_append_left _ (List.mem_of_getElem? (i := 7) rfl))), (List.forall_mem_cons.mpr ⟨(List.mem_cons_of_mem _ (List.mem_append_left _ (List.mem_of_getElem? (i := 6) rfl))), (List.forall_mem_cons.mpr ⟨(List.mem_cons_of_mem _ (List.mem_append_left _ (List.mem_of_getElem? (i := 5) rfl))), (fun _ h => absurd h List.not_mem_nil)⟩)⟩)⟩) (kGS _ _ _) (fun _ h => List.mem_cons_of_mem _ (List.mem_append_right _ (List.mem_append_right _ (List.mem_append_left _ h)))) gw_s_join5) rfl rfl rfl hd_X5_join ⟨(Nat.le_of_ble_eq_true rfl), (Nat.le_of_ble_eq_true rfl)⟩) (kR_S kT_blind kT_give hPc hKc) rfl rfl hl.1 rfl (lv_room (Nat.le_of_ble_eq_true rfl)) dX5_reckon_147 ⟨(Nat.le_of_ble_eq_true rfl), (Nat.le_of_ble_eq_true rfl)⟩).run (fun r_40 hw => ?_)
                have hPc := hP.sb (ws2 := []) [] rfl
                have hKc := hK.sb (tys2 := []) [] rfl
                refine vp_callSi (va_runS (As := [.long r_40]) (rest := [.int (nI ((tp - 1) - 1)), .ref k1]) ⟨hx, hb, hml, hown, hts⟩ (s_bounded5 l dC dI r_40) (va_cwS 1 hts (kG (List.forall_mem_cons.mpr ⟨(List.mem_cons_of_mem _ (List.mem_append_left _ (List.mem_of_getElem? (i := 9) rfl))), (List.forall_mem_cons.mpr ⟨(List.mem_cons_of_mem _ (List.mem_append_left _ (List.mem_of_getElem? (i := 8) rfl))), (List.forall_mem_cons.mpr ⟨(List.mem_cons_of_mem _ (List.mem_append_left _ (List.mem_of_getElem? (i := 5) rfl))), (fun _ h => absurd h List.not_mem_nil)⟩)⟩)⟩) (kGS _ _ _) (fun _ h => List.mem_cons_of_mem _ (List.mem_append_right _ (List.mem_append_right _ (List.mem_append_right _ (List.mem_append_left _ h))))) gw_s_bounded5) rfl rfl rfl hd_X5_bounded ⟨(Nat.le_of_ble_eq_true rfl), (Nat.le_of_ble_eq_true rfl)⟩) (kR_S kT_blind kT_give hPc hKc) rfl rfl hl.1 rfl (lv_room (Nat.le_of_ble_eq_true rfl)) dX5_reckon_150 ⟨(Nat.le_of_ble_eq_true rfl), (Nat.le_of_ble_eq_true rfl)⟩).run (fun r_41 hw => ?_)
                refine va_iast hx hb hK hP hD hS 2 1 rfl rfl (vp_in_nI (n := (tp - 1) - 1) (N := 32) bd_36 kc_31_32) dX5_reckon_153 (fun H locs hP hD hS => ?_)
                obtain ⟨f_42, ef_42⟩ : ∃ gg9 : Nat → Int32, gg9 = upd m9 (Int32.toNatClampNeg (nI ((tp - 1) - 1))) r_41 := ⟨_, rfl⟩
                have hPD : kPD dC dI A [(jK, .inr (5, [.ref k0, .ref k1])), (k0, .inl (cK, 8, .inl l0)), (k1, .inl (cO, 32, .inl f_42))] H := by rw [ef_42]; exact ⟨hP, hD⟩
                have hP := hPD.1
                have hD := hPD.2
                refine lv_iinc (v := nI (i + 1)) hx hb dX5_reckon_154 hl (k := 2) rfl (kInc _ 1) kc_l_5_7 (kTo [(5, .int (nI (i + 1))), (4, .int (nI (tp - 1))), (6, .int x_25), (0, .ref jK), (1, .ref sA), (2, .int p1), (3, .int p2)]) (fun ls hl => ?_)
                refine lv_goto (tgt := 10) hx hb dX5_reckon_157 kc_t_157_m147 ?_
                exact ih_k_3 (tp - 1) (i + 1) f_42 (by omega) (by omega) _ _ hP hD hS ls (lv_sub hl [0, 1, 3, 4, 5, 6] rfl) (by omega)
            · refine lv_iload hx hb dX5_reckon_74 (lv_at hl 2 rfl) ?_
              refine lv_if_le (tgt := 154) hx hb dX5_reckon_76 kc_t_76_78 (fun c_43 => ?_) (fun c_43 => ?_)
              · have bd_45 : tp < 2147483648 := by omega
                have hn_44 := kle (a := tp) (b := 0) bd_45 kc_31_0 c_43
                refine lv_iinc (v := nI (i + 1)) hx hb dX5_reckon_154 hl (k := 1) rfl (kInc _ 1) kc_l_5_7 (kTo [(5, .int (nI (i + 1))), (6, .int x_25), (4, .int (nI (tp))), (0, .ref jK), (1, .ref sA), (2, .int p1), (3, .int p2)]) (fun ls hl => ?_)
                refine lv_goto (tgt := 10) hx hb dX5_reckon_157 kc_t_157_m147 ?_
                exact ih_k_3 tp (i + 1) m9 (by omega) (by omega) _ _ hP hD hS ls (lv_sub hl [0, 2, 3, 4, 5, 6] rfl) (by omega)
              · have bd_47 : tp < 2147483648 := by omega
                have hn_46 := knle (a := tp) (b := 0) bd_47 kc_31_0 c_43
                refine lv_aload_n hx hb dX5_reckon_79 rfl (lv_at hl 3 rfl) ?_
                refine va_get (D := (dC, dI)) (ci := 5) (v := .ref k1) (C := RX5) (T := TX5) (N := 2) hx hb hts (fun _ h => List.mem_cons_of_mem _ (List.mem_append_right _ (List.mem_append_left _ h))) hown hK hP 0 rfl rfl 1 kc_l_1_2 (hts (.fieldLink RX5 15 "NotEnded$Reckoner" "open" "[I") (List.mem_cons_of_mem _ (List.mem_append_left _ (List.mem_of_getElem? (i := 4) rfl)))) (fun _ h9 => h9) rfl dX5_reckon_80 ?_
                refine lv_iload hx hb dX5_reckon_83 (lv_at hl 2 rfl) ?_
                refine lv_iconst (v := 1) hx hb dX5_reckon_85 kc_i_1 ?_
                refine lv_isub hx hb dX5_reckon_86 ?_
                refine lv_topi (fun y_48 ey_48 => ?_)
                obtain rfl : y_48 = nI (tp - 1) := ey_48.trans (pk_sub (a := tp) (b := 1) (by omega))
                refine lv_aload_n hx hb dX5_reckon_87 rfl (lv_at hl 3 rfl) ?_
                refine va_get (D := (dC, dI)) (ci := 5) (v := .ref k1) (C := RX5) (T := TX5) (N := 2) hx hb hts (fun _ h => List.mem_cons_of_mem _ (List.mem_append_right _ (List.mem_append_left _ h))) hown hK hP 0 rfl rfl 1 kc_l_1_2 (hts (.fieldLink RX5 15 "NotEnded$Reckoner" "open" "[I") (List.mem_cons_of_mem _ (List.mem_append_left _ (List.mem_of_getElem? (i := 4) rfl)))) (fun _ h9 => h9) rfl dX5_reckon_88 ?_
                refine lv_iload hx hb dX5_reckon_91 (lv_at hl 2 rfl) ?_
                refine lv_iconst (v := 1) hx hb dX5_reckon_93 kc_i_1 ?_
                refine lv_isub hx hb dX5_reckon_94 ?_
                refine lv_topi (fun y_49 ey_49 => ?_)
                obtain rfl : y_49 = nI (tp - 1) := ey_49.trans (pk_sub (a := tp) (b := 1) (by omega))
                have bd_50 : tp - 1 < 32 := by omega
                refine va_iald hx hb hK hP 2 1 rfl rfl (vp_in_nI (n := tp - 1) (N := 32) bd_50 kc_31_32) dX5_reckon_95 ?_
                refine lv_topi (fun x_51 ex_51 => ?_)
                refine lv_if_ne (tgt := 103) hx hb dX5_reckon_96 kc_t_96_7 (fun c_52 => ?_) (fun c_52 => ?_)
                · refine lv_iconst (v := 0) hx hb dX5_reckon_103 kc_i_0 ?_
                  refine va_iast hx hb hK hP hD hS 2 1 rfl rfl (vp_in_nI (n := tp - 1) (N := 32) bd_50 kc_31_32) dX5_reckon_104 (fun H locs hP hD hS => ?_)
                  obtain ⟨f_53, ef_53⟩ : ∃ gg9 : Nat → Int32, gg9 = upd m9 (Int32.toNatClampNeg (nI (tp - 1))) 0 := ⟨_, rfl⟩
                  have hPD : kPD dC dI A [(jK, .inr (5, [.ref k0, .ref k1])), (k0, .inl (cK, 8, .inl l0)), (k1, .inl (cO, 32, .inl f_53))] H := by rw [ef_53]; exact ⟨hP, hD⟩
                  have hP := hPD.1
                  have hD := hPD.2
                  refine lv_goto (tgt := 154) hx hb dX5_reckon_105 kc_t_105_49 ?_
                  refine lv_iinc (v := nI (i + 1)) hx hb dX5_reckon_154 hl (k := 1) rfl (kInc _ 1) kc_l_5_7 (kTo [(5, .int (nI (i + 1))), (6, .int x_25), (4, .int (nI (tp))), (0, .ref jK), (1, .ref sA), (2, .int p1), (3, .int p2)]) (fun ls hl => ?_)
                  refine lv_goto (tgt := 10) hx hb dX5_reckon_157 kc_t_157_m147 ?_
                  exact ih_k_3 tp (i + 1) f_53 (by omega) (by omega) _ _ hP hD hS ls (lv_sub hl [0, 2, 3, 4, 5, 6] rfl) (by omega)
                · refine lv_iconst (v := 1) hx hb dX5_reckon_99 kc_i_1 ?_
                  refine lv_goto (tgt := 104) hx hb dX5_reckon_100 kc_t_100_4 ?_
                  refine va_iast hx hb hK hP hD hS 2 1 rfl rfl (vp_in_nI (n := tp - 1) (N := 32) bd_50 kc_31_32) dX5_reckon_104 (fun H locs hP hD hS => ?_)
                  obtain ⟨f_54, ef_54⟩ : ∃ gg9 : Nat → Int32, gg9 = upd m9 (Int32.toNatClampNeg (nI (tp - 1))) 1 := ⟨_, rfl⟩
                  have hPD : kPD dC dI A [(jK, .inr (5, [.ref k0, .ref k1])), (k0, .inl (cK, 8, .inl l0)), (k1, .inl (cO, 32, .inl f_54))] H := by rw [ef_54]; exact ⟨hP, hD⟩
                  have hP := hPD.1
                  have hD := hPD.2
                  refine lv_goto (tgt := 154) hx hb dX5_reckon_105 kc_t_105_49 ?_
                  refine lv_iinc (v := nI (i + 1)) hx hb dX5_reckon_154 hl (k := 1) rfl (kInc _ 1) kc_l_5_7 (kTo [(5, .int (nI (i + 1))), (6, .int x_25), (4, .int (nI (tp))), (0, .ref jK), (1, .ref sA), (2, .int p1), (3, .int p2)]) (fun ls hl => ?_)
                  refine lv_goto (tgt := 10) hx hb dX5_reckon_157 kc_t_157_m147 ?_
                  exact ih_k_3 tp (i + 1) f_54 (by omega) (by omega) _ _ hP hD hS ls (lv_sub hl [0, 2, 3, 4, 5, 6] rfl) (by omega)
          · refine lv_iload hx hb dX5_reckon_37 (lv_at hl 2 rfl) ?_
            refine lv_aload_n hx hb dX5_reckon_39 rfl (lv_at hl 3 rfl) ?_
            refine va_get (D := (dC, dI)) (ci := 5) (v := .ref k1) (C := RX5) (T := TX5) (N := 2) hx hb hts (fun _ h => List.mem_cons_of_mem _ (List.mem_append_right _ (List.mem_append_left _ h))) hown hK hP 0 rfl rfl 1 kc_l_1_2 (hts (.fieldLink RX5 15 "NotEnded$Reckoner" "open" "[I") (List.mem_cons_of_mem _ (List.mem_append_left _ (List.mem_of_getElem? (i := 4) rfl)))) (fun _ h9 => h9) rfl dX5_reckon_40 ?_
            refine va_alen hx hb hK hP 2 1 rfl rfl (v := 32) rfl dX5_reckon_43 ?_
            refine lv_icmp_ge (tgt := 154) hx hb dX5_reckon_44 kc_t_44_110 (fun c_55 => ?_) (fun c_55 => ?_)
            · have bd_57 : tp < 2147483648 := by omega
              have hn_56 := kle (a := 32) (b := tp) kc_31_32 bd_57 c_55
              refine lv_iinc (v := nI (i + 1)) hx hb dX5_reckon_154 hl (k := 1) rfl (kInc _ 1) kc_l_5_7 (kTo [(5, .int (nI (i + 1))), (6, .int x_25), (4, .int (nI (tp))), (0, .ref jK), (1, .ref sA), (2, .int p1), (3, .int p2)]) (fun ls hl => ?_)
              refine lv_goto (tgt := 10) hx hb dX5_reckon_157 kc_t_157_m147 ?_
              exact ih_k_3 tp (i + 1) m9 (by omega) (by omega) _ _ hP hD hS ls (lv_sub hl [0, 2, 3, 4, 5, 6] rfl) (by omega)
            · have bd_59 : tp < 2147483648 := by omega
              have hn_58 := knle (a := 32) (b := tp) kc_31_32 bd_59 c_55
              refine lv_aload_n hx hb dX5_reckon_47 rfl (lv_at hl 3 rfl) ?_
              refine va_get (D := (dC, dI)) (ci := 5) (v := .ref k1) (C := RX5) (T := TX5) (N := 2) hx hb hts (fun _ h => List.mem_cons_of_mem _ (List.mem_append_right _ (List.mem_append_left _ h))) hown hK hP 0 rfl rfl 1 kc_l_1_2 (hts (.fieldLink RX5 15 "NotEnded$Reckoner" "open" "[I") (List.mem_cons_of_mem _ (List.mem_append_left _ (List.mem_of_getElem? (i := 4) rfl)))) (fun _ h9 => h9) rfl dX5_reckon_48 ?_
              refine lv_iload hx hb dX5_reckon_51 (lv_at hl 2 rfl) ?_
              refine lv_aload_n hx hb dX5_reckon_53 rfl (lv_at hl 3 rfl) ?_
              refine lv_iload hx hb dX5_reckon_54 (lv_at hl 0 rfl) ?_
              have hPc := hP.sb (ws2 := [(jK, .inr (5, [.ref k0, .ref k1])), (k0, .inl (cK, 8, .inl l0)), (k1, .inl (cO, 32, .inl m9))]) [0, 1, 2] rfl
              have hKc := hK.sb (tys2 := [(cK, .int), (cO, .int)]) [0, 1] rfl
              refine vp_callSi (va_runV (As := [.int x_25]) (rest := [.int (nI (tp)), .ref k1]) ⟨hx, hb, hml, hown, hts⟩ (s_valueOf5 l dC dI jK k0 k1 cK cO l0 m9 x_25) (cwV 1 hts (kG (List.forall_mem_cons.mpr ⟨(List.mem_cons_of_mem _ (List.mem_append_left _ (List.mem_of_getElem? (i := 12) rfl))), (List.forall_mem_cons.mpr ⟨(List.mem_cons_of_mem _ (List.mem_append_left _ (List.mem_of_getElem? (i := 11) rfl))), (List.forall_mem_cons.mpr ⟨(List.mem_cons_of_mem _ (List.mem_append_left _ (List.mem_of_getElem? (i := 10) rfl))), (List.forall_mem_cons.mpr ⟨(List.mem_cons_of_mem _ (List.mem_append_left _ (List.mem_of_getElem? (i := 5) rfl))), (fun _ h => absurd h List.not_mem_nil)⟩)⟩)⟩)⟩) (kGV _ _ _ _) (fun _ h => List.mem_cons_of_mem _ (List.mem_append_right _ (List.mem_append_right _ (List.mem_append_right _ (List.mem_append_right _ h))))) gw_s_valueOf5) rfl rfl rfl ⟨rfl, hd_X5_valueOf⟩ ⟨(Nat.le_of_ble_eq_true rfl), (Nat.le_of_ble_eq_true rfl)⟩) (kR_V kT_blind kT_give (va_recv hKc hPc (ci := 5) (q0 := 0) rfl rfl) hPc hKc) rfl rfl hl.1 rfl (lv_room (Nat.le_of_ble_eq_true rfl)) dX5_reckon_56 ⟨(Nat.le_of_ble_eq_true rfl), (Nat.le_of_ble_eq_true rfl)⟩).run (fun r_60 hw => ?_)
              have bd_62 : tp < 32 := by omega
              refine va_iast hx hb hK hP hD hS 2 1 rfl rfl (vp_in_nI (n := tp) (N := 32) bd_62 kc_31_32) dX5_reckon_59 (fun H locs hP hD hS => ?_)
              obtain ⟨f_61, ef_61⟩ : ∃ gg9 : Nat → Int32, gg9 = upd m9 (Int32.toNatClampNeg (nI (tp))) r_60 := ⟨_, rfl⟩
              have hPD : kPD dC dI A [(jK, .inr (5, [.ref k0, .ref k1])), (k0, .inl (cK, 8, .inl l0)), (k1, .inl (cO, 32, .inl f_61))] H := by rw [ef_61]; exact ⟨hP, hD⟩
              have hP := hPD.1
              have hD := hPD.2
              refine lv_iinc (v := nI (tp + 1)) hx hb dX5_reckon_60 hl (k := 2) rfl (kInc _ 1) kc_l_4_7 (kTo [(4, .int (nI (tp + 1))), (6, .int x_25), (5, .int (nI (i))), (0, .ref jK), (1, .ref sA), (2, .int p1), (3, .int p2)]) (fun ls hl => ?_)
              refine lv_goto (tgt := 154) hx hb dX5_reckon_63 kc_t_63_91 ?_
              refine lv_iinc (v := nI (i + 1)) hx hb dX5_reckon_154 hl (k := 2) rfl (kInc _ 1) kc_l_5_7 (kTo [(5, .int (nI (i + 1))), (4, .int (nI (tp + 1))), (6, .int x_25), (0, .ref jK), (1, .ref sA), (2, .int p1), (3, .int p2)]) (fun ls hl => ?_)
              refine lv_goto (tgt := 10) hx hb dX5_reckon_157 kc_t_157_m147 ?_
              exact ih_k_3 (tp + 1) (i + 1) f_61 (by omega) (by omega) _ _ hP hD hS ls (lv_sub hl [0, 1, 3, 4, 5, 6] rfl) (by omega)
  exact lp_k_3 (nS - j_2 + 1) 0 j_2 l1 (by omega) (by omega) _ _ hP hD hS ls (lv_sub hl [0, 1, 2, 3, 4, 5] rfl) (by omega)

theorem dX5_worthOf_0 : decode cX5_worthOf 0 = .ok (.aload_n 1, 1) := kDs0 kf_43 (by decide +kernel)
theorem dX5_worthOf_1 : decode cX5_worthOf 1 = .ok (.ifnonnull 5, 3) := kDs4 kf_199 (by decide +kernel)
theorem dX5_worthOf_6 : decode cX5_worthOf 6 = .ok (.aload_n 1, 1) := kDs0 kf_43 (by decide +kernel)
theorem dX5_worthOf_7 : decode cX5_worthOf 7 = .ok (.getfield 18, 3) := kDs2 kf_180 (by decide +kernel)
theorem dX5_worthOf_10 : decode cX5_worthOf 10 = .ok (.astore_n 3, 1) := kDs0 kf_78 (by decide +kernel)
theorem dX5_worthOf_11 : decode cX5_worthOf 11 = .ok (.iconst 0, 1) := kDs0 kf_3 (by decide +kernel)
theorem dX5_worthOf_12 : decode cX5_worthOf 12 = .ok (.istore 4, 2) := kDs1 kf_54 (by decide +kernel)
theorem dX5_worthOf_14 : decode cX5_worthOf 14 = .ok (.iload 4, 2) := kDs1 kf_21 (by decide +kernel)
theorem dX5_worthOf_16 : decode cX5_worthOf 16 = .ok (.iconst 4, 1) := kDs0 kf_7 (by decide +kernel)
theorem dX5_worthOf_17 : decode cX5_worthOf 17 = .ok (.iadd, 1) := kDs0 kf_96 (by decide +kernel)
theorem dX5_worthOf_18 : decode cX5_worthOf 18 = .ok (.aload_n 3, 1) := kDs0 kf_45 (by decide +kernel)
theorem dX5_worthOf_19 : decode cX5_worthOf 19 = .ok (.arraylength, 1) := kDs0 kf_190 (by decide +kernel)
theorem dX5_worthOf_20 : decode cX5_worthOf 20 = .ok (.if_icmp .gt 72, 3) := kDs4 kf_163 (by decide +kernel)
theorem dX5_worthOf_92 : decode cX5_worthOf 92 = .ok (.iconst 0, 1) := kDs0 kf_3 (by decide +kernel)
theorem dX5_worthOf_93 : decode cX5_worthOf 93 = .ok (.ireturn, 1) := kDs0 kf_172 (by decide +kernel)
theorem dX5_worthOf_23 : decode cX5_worthOf 23 = .ok (.aload_n 3, 1) := kDs0 kf_45 (by decide +kernel)
theorem dX5_worthOf_24 : decode cX5_worthOf 24 = .ok (.iload 4, 2) := kDs1 kf_21 (by decide +kernel)
theorem dX5_worthOf_26 : decode cX5_worthOf 26 = .ok (.iconst 1, 1) := kDs0 kf_4 (by decide +kernel)
theorem dX5_worthOf_27 : decode cX5_worthOf 27 = .ok (.iadd, 1) := kDs0 kf_96 (by decide +kernel)
theorem dX5_worthOf_28 : decode cX5_worthOf 28 = .ok (.iaload, 1) := kDs0 kf_46 (by decide +kernel)
theorem dX5_worthOf_29 : decode cX5_worthOf 29 = .ok (.istore 5, 2) := kDs1 kf_54 (by decide +kernel)
theorem dX5_worthOf_31 : decode cX5_worthOf 31 = .ok (.aload_n 3, 1) := kDs0 kf_45 (by decide +kernel)
theorem dX5_worthOf_32 : decode cX5_worthOf 32 = .ok (.iload 4, 2) := kDs1 kf_21 (by decide +kernel)
theorem dX5_worthOf_34 : decode cX5_worthOf 34 = .ok (.iconst 2, 1) := kDs0 kf_5 (by decide +kernel)
theorem dX5_worthOf_35 : decode cX5_worthOf 35 = .ok (.iadd, 1) := kDs0 kf_96 (by decide +kernel)
theorem dX5_worthOf_36 : decode cX5_worthOf 36 = .ok (.iaload, 1) := kDs0 kf_46 (by decide +kernel)
theorem dX5_worthOf_37 : decode cX5_worthOf 37 = .ok (.istore 6, 2) := kDs1 kf_54 (by decide +kernel)
theorem dX5_worthOf_39 : decode cX5_worthOf 39 = .ok (.aload_n 3, 1) := kDs0 kf_45 (by decide +kernel)
theorem dX5_worthOf_40 : decode cX5_worthOf 40 = .ok (.iload 4, 2) := kDs1 kf_21 (by decide +kernel)
theorem dX5_worthOf_42 : decode cX5_worthOf 42 = .ok (.iaload, 1) := kDs0 kf_46 (by decide +kernel)
theorem dX5_worthOf_43 : decode cX5_worthOf 43 = .ok (.iload_n 2, 1) := kDs0 kf_28 (by decide +kernel)
theorem dX5_worthOf_44 : decode cX5_worthOf 44 = .ok (.if_icmp .ne 42, 3) := kDs4 kf_160 (by decide +kernel)
theorem dX5_worthOf_86 : decode cX5_worthOf 86 = .ok (.iinc 4 4, 3) := kDs5 kf_132 (by decide +kernel)
theorem dX5_worthOf_89 : decode cX5_worthOf 89 = .ok (.goto (-75), 3) := kDs4 kf_167 (by decide +kernel)
theorem dX5_worthOf_47 : decode cX5_worthOf 47 = .ok (.iload 5, 2) := kDs1 kf_21 (by decide +kernel)
theorem dX5_worthOf_49 : decode cX5_worthOf 49 = .ok (.iload 6, 2) := kDs1 kf_21 (by decide +kernel)
theorem dX5_worthOf_51 : decode cX5_worthOf 51 = .ok (.if_icmp .eq 18, 3) := kDs4 kf_159 (by decide +kernel)
theorem dX5_worthOf_69 : decode cX5_worthOf 69 = .ok (.aload_n 0, 1) := kDs0 kf_42 (by decide +kernel)
theorem dX5_worthOf_70 : decode cX5_worthOf 70 = .ok (.aload_n 1, 1) := kDs0 kf_43 (by decide +kernel)
theorem dX5_worthOf_71 : decode cX5_worthOf 71 = .ok (.getfield 23, 3) := kDs2 kf_180 (by decide +kernel)
theorem dX5_worthOf_74 : decode cX5_worthOf 74 = .ok (.iload 6, 2) := kDs1 kf_21 (by decide +kernel)
theorem dX5_worthOf_76 : decode cX5_worthOf 76 = .ok (.aload_n 3, 1) := kDs0 kf_45 (by decide +kernel)
theorem dX5_worthOf_77 : decode cX5_worthOf 77 = .ok (.iload 4, 2) := kDs1 kf_21 (by decide +kernel)
theorem dX5_worthOf_79 : decode cX5_worthOf 79 = .ok (.iconst 3, 1) := kDs0 kf_6 (by decide +kernel)
theorem dX5_worthOf_80 : decode cX5_worthOf 80 = .ok (.iadd, 1) := kDs0 kf_96 (by decide +kernel)
theorem dX5_worthOf_81 : decode cX5_worthOf 81 = .ok (.iaload, 1) := kDs0 kf_46 (by decide +kernel)
theorem dX5_worthOf_82 : decode cX5_worthOf 82 = .ok (.invokevirtual 26, 3) := kDs2 kf_182 (by decide +kernel)
theorem dX5_worthOf_85 : decode cX5_worthOf 85 = .ok (.ireturn, 1) := kDs0 kf_172 (by decide +kernel)
theorem dX5_worthOf_54 : decode cX5_worthOf 54 = .ok (.aload_n 0, 1) := kDs0 kf_42 (by decide +kernel)
theorem dX5_worthOf_55 : decode cX5_worthOf 55 = .ok (.aload_n 1, 1) := kDs0 kf_43 (by decide +kernel)
theorem dX5_worthOf_56 : decode cX5_worthOf 56 = .ok (.getfield 23, 3) := kDs2 kf_180 (by decide +kernel)
theorem dX5_worthOf_59 : decode cX5_worthOf 59 = .ok (.iload 5, 2) := kDs1 kf_21 (by decide +kernel)
theorem dX5_worthOf_61 : decode cX5_worthOf 61 = .ok (.iload 6, 2) := kDs1 kf_21 (by decide +kernel)
theorem dX5_worthOf_63 : decode cX5_worthOf 63 = .ok (.invokevirtual 26, 3) := kDs2 kf_182 (by decide +kernel)
theorem dX5_worthOf_66 : decode cX5_worthOf 66 = .ok (.ifCond .eq 20, 3) := kDs4 kf_153 (by decide +kernel)
def w_s_worthOf5 : List Cond := .code yX5_worthOf cX5_worthOf 7 (some .int) :: ([.initialized RX5, .selects RX5 yX5_reckon yX5_reckon, .instanceMethod yX5_reckon, .methodLink RX5 26 yX5_reckon] ++ (wsX60 ++ (w_s_reckon5)))
theorem gw_s_worthOf5 : (w_s_worthOf5).all goodWord = true := kGc rfl (kGa (by decide +kernel) (kGa gw_wsX60 gw_s_reckon5))
theorem hd_X5_worthOf : yX5_worthOf.cls ≠ "java/lang/invoke/MethodHandle" ∧ yX5_worthOf.cls ≠ "java/lang/invoke/VarHandle" ∧ (parseMethodDescriptor yX5_worthOf.desc).map (fun d => d.parameters.length) = some 2 := by decide +kernel
set_option maxHeartbeats 4000000 in
set_option maxRecDepth 100000 in
theorem s_worthOf5 (l : Launch) (dC : Nat → ClassId) (dI : Nat → Nat → Nat) (jK : Nat) (k0 : Nat) (k1 : Nat) (cK : ClassId) (cO : ClassId) (l0 : Nat → Int32) (l1 : Nat → Int32) (ru : Nat) (sA : Nat) (cl : Nat) (cS : ClassId) (cc : ClassId) (nS : Nat) (nC : Nat) (gS : Nat → Int32) (gC : Nat → Int32) (hnS : nS ≤ 200) (hnC : nC ≤ 200) (p1 : Int32) (sz : Nat) : Met l yX5_worthOf w_s_worthOf5 ({ frames := 3, cells := 0, slots := 0, locals := 180 }) (kW dC dI [.ref jK, .ref ru, .int p1] [(jK, .inr (5, [.ref k0, .ref k1])), (k0, .inl (cK, 8, .inl l0)), (k1, .inl (cO, 32, .inl l1))] [(cK, .int), (cO, .int), (cS, .int), (cc, .int)] (kNF dC dI [(ru, .inr (6, [.ref sA, .ref cl])), (sA, .inl (cS, nS, .inl gS)), (cl, .inl (cc, nC, .inl gC))] (va_A [(jK, .inr (5, [.ref k0, .ref k1])), (k0, .inl (cK, 8, .inl l0)), (k1, .inl (cO, 32, .inl l1))] sz)) sz) (va_Qi (fun (r : Int32) (m1 : (Nat → Int32)) => True) (fun (m1 : (Nat → Int32)) => fun t : State => kB dC dI [(jK, .inr (5, [.ref k0, .ref k1])), (k0, .inl (cK, 8, .inl l0)), (k1, .inl (cO, 32, .inl m1))] [(cK, .int), (cO, .int), (cS, .int), (cc, .int)] (va_A [(jK, .inr (5, [.ref k0, .ref k1])), (k0, .inl (cK, 8, .inl l0)), (k1, .inl (cO, 32, .inl l1))] sz) t) (va_A [(jK, .inr (5, [.ref k0, .ref k1])), (k0, .inl (cK, 8, .inl l0)), (k1, .inl (cO, 32, .inl l1))] sz)) 0 0 (va_A [(jK, .inr (5, [.ref k0, .ref k1])), (k0, .inl (cK, 8, .inl l0)), (k1, .inl (cO, 32, .inl l1))] sz) := by
  refine Met.ofW (cc := cX5_worthOf) (maxL := 7) (ret := (some .int)) (by decide) rfl ?_
  intro p e s m args below meth c s₁ B hml hv
  obtain ⟨rfl, hsz, hP, hK, hD0, hX⟩ := hv
  have hx := B.exec
  have hb := B.bytes
  have hr := B.returns
  have hts := atoms_spec (ws := w_s_worthOf5) B.pre
  have hown : s.vm.findClass RX5 = some m.cls := findClass_of_methodNamed B.named
  have hlocks := B.notSynchronized
  subst hsz
  have hD := hD0.self (sz := s.heap.size)
  generalize hAe : va_A [(jK, .inr (5, [.ref k0, .ref k1])), (k0, .inl (cK, 8, .inl l0)), (k1, .inl (cO, 32, .inl l1))] s.heap.size = A at hD hX ⊢
  have hA : ∀ q : Nat, s.heap.size ≤ q → A q := fun q h => by rw [← hAe]; exact Or.inr h
  have hS : va_S A s.heap s.heap [] := va_S.rf
  have hP : va_P (dC, dI) vwCl [(jK, .inr (5, [.ref k0, .ref k1])), (k0, .inl (cK, 8, .inl l0)), (k1, .inl (cO, 32, .inl l1))] s.heap := hP
  have hl := lv_entry ([.ref jK, .ref ru, .int p1]) (n := 7) (Nat.le_of_ble_eq_true rfl)
  rw [lg_entry_eq]
  generalize (lg_sl ([.ref jK, .ref ru, .int p1]) ++ List.replicate (7 - (lg_sl ([.ref jK, .ref ru, .int p1])).length) Slot.unset).toArray = ls at hl ⊢
  have hl : lv_has ls 7 [(0, .ref jK), (1, .ref ru), (2, .int p1)] := hl
  refine kQ (fun Q hQ => ?_)
  refine lv_aload_n hx hb dX5_worthOf_0 rfl (lv_at hl 1 rfl) ?_
  refine lv_ifnonnull (tgt := 6) hx hb dX5_worthOf_1 kc_t_1_5 ?_
  refine lv_aload_n hx hb dX5_worthOf_6 rfl (lv_at hl 1 rfl) ?_
  have hPR := kFz_at hX.1 hS
  refine va_getN (D := (dC, dI)) (ci := 6) (v := .ref cl) (C := RX6) (T := TX6) (N := 2) hx hb hts (fun _ h => List.mem_cons_of_mem _ (List.mem_append_right _ (List.mem_append_left _ h))) hown hK hPR 0 rfl rfl 1 kc_l_1_2 (va_Nw.use rfl (hX.2 _ (List.mem_of_getElem? (i := 11) rfl))) (fun _ h9 => h9) rfl dX5_worthOf_7 ?_
  refine lv_astore_n hx hb dX5_worthOf_10 rfl hl kc_l_3_7 (kTo [(3, .ref cl), (0, .ref jK), (1, .ref ru), (2, .int p1)]) (fun ls hl => ?_)
  refine lv_iconst (v := 0) hx hb dX5_worthOf_11 kc_i_0 ?_
  refine lv_istore hx hb dX5_worthOf_12 hl kc_l_4_7 (kTo [(4, .int 0), (3, .ref cl), (0, .ref jK), (1, .ref ru), (2, .int p1)]) (fun ls hl => ?_)
  have lp_k_1 : ∀ (n9 : Nat) (i : Nat) (m9 : Nat → Int32) (ivk_1_0 : i ≤ 300) (H : Heap) (locs : List Loc) (_ : va_P (dC, dI) vwCl [(jK, .inr (5, [.ref k0, .ref k1])), (k0, .inl (cK, 8, .inl l0)), (k1, .inl (cO, 32, .inl m9))] H) (_ : va_D A [(jK, .inr (5, [.ref k0, .ref k1])), (k0, .inl (cK, 8, .inl l0)), (k1, .inl (cO, 32, .inl m9))]) (_ : va_S A s.heap H locs) (ls : Array Slot) (_ : lv_has ls 7 [(4, .int (nI (i))), (3, .ref cl), (0, .ref jK), (1, .ref ru), (2, .int p1)]) (_ : nC - i < n9), W p l e (headSpec w_s_worthOf5 ({ frames := 3, cells := 0, slots := 0, locals := 180 })).room s m (#[.ref jK, .ref ru, .int p1] : Array Value) below meth c H locs 0 0 Q (F0 m 14 ls []) := by
    intro n9
    induction n9 with
    | zero => intro i m9 ivk_1_0 H locs hP hD hS ls hl hm9; exact absurd hm9 (Nat.not_lt_zero _)
    | succ n9 ih_k_1 =>
      intro i m9 ivk_1_0 H locs hP hD hS ls hl hm9
      refine lv_iload hx hb dX5_worthOf_14 (lv_at hl 0 rfl) ?_
      refine lv_iconst (v := 4) hx hb dX5_worthOf_16 kc_i_4 ?_
      refine lv_iadd hx hb dX5_worthOf_17 ?_
      refine lv_topi (fun y_2 ey_2 => ?_)
      obtain rfl : y_2 = nI (i + 4) := ey_2.trans (nI_add (i) (4))
      refine lv_aload_n hx hb dX5_worthOf_18 rfl (lv_at hl 1 rfl) ?_
      have hPR := kFz_at hX.1 hS
      refine va_alen hx hb hK hPR 2 3 rfl rfl (v := nI (nC)) rfl dX5_worthOf_19 ?_
      refine lv_icmp_gt (tgt := 92) hx hb dX5_worthOf_20 kc_t_20_72 (fun c_3 => ?_) (fun c_3 => ?_)
      · have bd_5 : nC < 2147483648 := by omega
        have bd_6 : i + 4 < 2147483648 := by omega
        have hn_4 := klt (a := nC) (b := i + 4) bd_5 bd_6 c_3
        refine lv_iconst (v := 0) hx hb dX5_worthOf_92 kc_i_0 ?_
        have hP9 := hP
        have hD9 := hD
        have hK9 := hK
        rw [hQ]
        exact W.iret (v := 0) hx hb hr (fun t ht hW => ⟨⟨0, m9, rfl, trivial,  by rw [ht]; exact hP9, va_K.moved hW.alike hK9, hD9⟩, hS.F ht⟩) hS.2.2 dX5_worthOf_93
      · have bd_8 : nC < 2147483648 := by omega
        have bd_9 : i + 4 < 2147483648 := by omega
        have hn_7 := knlt (a := nC) (b := i + 4) bd_8 bd_9 c_3
        refine lv_aload_n hx hb dX5_worthOf_23 rfl (lv_at hl 1 rfl) ?_
        refine lv_iload hx hb dX5_worthOf_24 (lv_at hl 0 rfl) ?_
        refine lv_iconst (v := 1) hx hb dX5_worthOf_26 kc_i_1 ?_
        refine lv_iadd hx hb dX5_worthOf_27 ?_
        refine lv_topi (fun y_10 ey_10 => ?_)
        obtain rfl : y_10 = nI (i + 1) := ey_10.trans (nI_add (i) (1))
        have hPR := kFz_at hX.1 hS
        have bd_11 : i + 1 < nC := by omega
        refine va_iald hx hb hK hPR 2 3 rfl rfl (vp_in_nI (n := i + 1) (N := nC) bd_11 bd_8) dX5_worthOf_28 ?_
        refine lv_topi (fun x_12 ex_12 => ?_)
        refine lv_istore hx hb dX5_worthOf_29 hl kc_l_5_7 (kTo [(5, .int x_12), (4, .int (nI (i))), (3, .ref cl), (0, .ref jK), (1, .ref ru), (2, .int p1)]) (fun ls hl => ?_)
        refine lv_aload_n hx hb dX5_worthOf_31 rfl (lv_at hl 2 rfl) ?_
        refine lv_iload hx hb dX5_worthOf_32 (lv_at hl 1 rfl) ?_
        refine lv_iconst (v := 2) hx hb dX5_worthOf_34 kc_i_2 ?_
        refine lv_iadd hx hb dX5_worthOf_35 ?_
        refine lv_topi (fun y_13 ey_13 => ?_)
        obtain rfl : y_13 = nI (i + 2) := ey_13.trans (nI_add (i) (2))
        have hPR := kFz_at hX.1 hS
        have bd_14 : i + 2 < nC := by omega
        refine va_iald hx hb hK hPR 2 3 rfl rfl (vp_in_nI (n := i + 2) (N := nC) bd_14 bd_8) dX5_worthOf_36 ?_
        refine lv_topi (fun x_15 ex_15 => ?_)
        refine lv_istore hx hb dX5_worthOf_37 hl kc_l_6_7 (kTo [(6, .int x_15), (5, .int x_12), (4, .int (nI (i))), (3, .ref cl), (0, .ref jK), (1, .ref ru), (2, .int p1)]) (fun ls hl => ?_)
        refine lv_aload_n hx hb dX5_worthOf_39 rfl (lv_at hl 3 rfl) ?_
        refine lv_iload hx hb dX5_worthOf_40 (lv_at hl 2 rfl) ?_
        have hPR := kFz_at hX.1 hS
        have bd_16 : i < nC := by omega
        refine va_iald hx hb hK hPR 2 3 rfl rfl (vp_in_nI (n := i) (N := nC) bd_16 bd_8) dX5_worthOf_42 ?_
        refine lv_topi (fun x_17 ex_17 => ?_)
        refine lv_iload_n hx hb dX5_worthOf_43 rfl (lv_at hl 6 rfl) ?_
        refine lv_icmp_ne (tgt := 86) hx hb dX5_worthOf_44 kc_t_44_42 (fun c_18 => ?_) (fun c_18 => ?_)
        · refine lv_iinc (v := nI (i + 4)) hx hb dX5_worthOf_86 hl (k := 2) rfl (kInc _ 4) kc_l_4_7 (kTo [(4, .int (nI (i + 4))), (6, .int x_15), (5, .int x_12), (3, .ref cl), (0, .ref jK), (1, .ref ru), (2, .int p1)]) (fun ls hl => ?_)
          refine lv_goto (tgt := 14) hx hb dX5_worthOf_89 kc_t_89_m75 ?_
          exact ih_k_1 (i + 4) m9 (by omega) _ _ hP hD hS ls (lv_sub hl [0, 3, 4, 5, 6] rfl) (by omega)
        · refine lv_iload hx hb dX5_worthOf_47 (lv_at hl 1 rfl) ?_
          refine lv_iload hx hb dX5_worthOf_49 (lv_at hl 0 rfl) ?_
          refine lv_icmp_eq (tgt := 69) hx hb dX5_worthOf_51 kc_t_51_18 (fun c_19 => ?_) (fun c_19 => ?_)
          · refine lv_aload_n hx hb dX5_worthOf_69 rfl (lv_at hl 4 rfl) ?_
            refine lv_aload_n hx hb dX5_worthOf_70 rfl (lv_at hl 5 rfl) ?_
            have hPR := kFz_at hX.1 hS
            refine va_getN (D := (dC, dI)) (ci := 6) (v := .ref sA) (C := RX6) (T := TX6) (N := 2) hx hb hts (fun _ h => List.mem_cons_of_mem _ (List.mem_append_right _ (List.mem_append_left _ h))) hown hK hPR 0 rfl rfl 0 kc_l_0_2 (va_Nw.use rfl (hX.2 _ (List.mem_of_getElem? (i := 10) rfl))) (fun _ h9 => h9) rfl dX5_worthOf_71 ?_
            refine lv_iload hx hb dX5_worthOf_74 (lv_at hl 0 rfl) ?_
            refine lv_aload_n hx hb dX5_worthOf_76 rfl (lv_at hl 3 rfl) ?_
            refine lv_iload hx hb dX5_worthOf_77 (lv_at hl 2 rfl) ?_
            refine lv_iconst (v := 3) hx hb dX5_worthOf_79 kc_i_3 ?_
            refine lv_iadd hx hb dX5_worthOf_80 ?_
            refine lv_topi (fun y_20 ey_20 => ?_)
            obtain rfl : y_20 = nI (i + 3) := ey_20.trans (nI_add (i) (3))
            have hPR := kFz_at hX.1 hS
            have bd_21 : i + 3 < nC := by omega
            refine va_iald hx hb hK hPR 2 3 rfl rfl (vp_in_nI (n := i + 3) (N := nC) bd_21 bd_8) dX5_worthOf_81 ?_
            refine lv_topi (fun x_22 ex_22 => ?_)
            have hCu := kCut (wc := [(jK, .inr (5, [.ref k0, .ref k1])), (k0, .inl (cK, 8, .inl l0)), (k1, .inl (cO, 32, .inl m9))]) hP hD hS hA [0, 1, 2] rfl kc_nd_138 rfl
            have hPc := hCu.1
            have hDc := hCu.2.1
            have hFc := hCu.2.2
            have hKc := hK.sb (tys2 := [(cK, .int), (cO, .int), (cS, .int), (cc, .int)]) [0, 1, 2, 3] rfl
            refine va_calli (va_runV (As := [.ref sA, .int x_15, .int x_22]) (rest := []) ⟨hx, hb, hml, hown, hts⟩ (s_reckon5 l dC dI jK k0 k1 cK cO l0 m9 ru sA cl cS cc nS nC gS gC hnS hnC x_15 x_22 H.size) (cwV 3 hts (kG (List.forall_mem_cons.mpr ⟨(List.mem_cons_of_mem _ (List.mem_append_left _ (List.mem_of_getElem? (i := 3) rfl))), (List.forall_mem_cons.mpr ⟨(List.mem_cons_of_mem _ (List.mem_append_left _ (List.mem_of_getElem? (i := 2) rfl))), (List.forall_mem_cons.mpr ⟨(List.mem_cons_of_mem _ (List.mem_append_left _ (List.mem_of_getElem? (i := 1) rfl))), (List.forall_mem_cons.mpr ⟨(List.mem_cons_of_mem _ (List.mem_append_left _ (List.mem_of_getElem? (i := 0) rfl))), (fun _ h => absurd h List.not_mem_nil)⟩)⟩)⟩)⟩) (kGV _ _ _ _) (fun _ h => List.mem_cons_of_mem _ (List.mem_append_right _ (List.mem_append_right _ h))) gw_s_reckon5) rfl rfl rfl ⟨rfl, hd_X5_reckon⟩ ⟨(Nat.le_of_ble_eq_true rfl), (Nat.le_of_ble_eq_true rfl)⟩) (kW_V kNF_blind (kNF_give hX hS hFc) (va_recv hKc hPc (ci := 5) (q0 := 0) rfl rfl) hPc hKc hDc) rfl rfl hl.1 rfl (lv_room (Nat.le_of_ble_eq_true rfl)) dX5_worthOf_82 ⟨(Nat.le_of_ble_eq_true rfl), (Nat.le_of_ble_eq_true rfl)⟩) hS (fun q _ h => hFc q h) hFc (fun r_23 m1_24 t H_25 locs ht hvm hw hB hz1 hk1 hS => ?_)
            have hPD : kPD dC dI A [(jK, .inr (5, [.ref k0, .ref k1])), (k0, .inl (cK, 8, .inl l0)), (k1, .inl (cO, 32, .inl m1_24))] H_25 := kJoinX hP hD [0, 1, 2] rfl hk1 hFc hB.1 ht hB.2.2 rfl [some 0, some 1, some 2] rfl rfl
            have hP := hPD.1
            have hD := hPD.2
            have hP9 := hP
            have hD9 := hD
            have hK9 := hK
            rw [hQ]
            exact W.iret (v := r_23) hx hb hr (fun t ht hW => ⟨⟨r_23, m1_24, rfl, trivial,  by rw [ht]; exact hP9, va_K.moved hW.alike hK9, hD9⟩, hS.F ht⟩) hS.2.2 dX5_worthOf_85
          · refine lv_aload_n hx hb dX5_worthOf_54 rfl (lv_at hl 4 rfl) ?_
            refine lv_aload_n hx hb dX5_worthOf_55 rfl (lv_at hl 5 rfl) ?_
            have hPR := kFz_at hX.1 hS
            refine va_getN (D := (dC, dI)) (ci := 6) (v := .ref sA) (C := RX6) (T := TX6) (N := 2) hx hb hts (fun _ h => List.mem_cons_of_mem _ (List.mem_append_right _ (List.mem_append_left _ h))) hown hK hPR 0 rfl rfl 0 kc_l_0_2 (va_Nw.use rfl (hX.2 _ (List.mem_of_getElem? (i := 10) rfl))) (fun _ h9 => h9) rfl dX5_worthOf_56 ?_
            refine lv_iload hx hb dX5_worthOf_59 (lv_at hl 1 rfl) ?_
            refine lv_iload hx hb dX5_worthOf_61 (lv_at hl 0 rfl) ?_
            have hCu := kCut (wc := [(jK, .inr (5, [.ref k0, .ref k1])), (k0, .inl (cK, 8, .inl l0)), (k1, .inl (cO, 32, .inl m9))]) hP hD hS hA [0, 1, 2] rfl kc_nd_138 rfl
            have hPc := hCu.1
            have hDc := hCu.2.1
            have hFc := hCu.2.2
            have hKc := hK.sb (tys2 := [(cK, .int), (cO, .int), (cS, .int), (cc, .int)]) [0, 1, 2, 3] rfl
            refine va_calli (va_runV (As := [.ref sA, .int x_12, .int x_15]) (rest := []) ⟨hx, hb, hml, hown, hts⟩ (s_reckon5 l dC dI jK k0 k1 cK cO l0 m9 ru sA cl cS cc nS nC gS gC hnS hnC x_12 x_15 H.size) (cwV 3 hts (kG (List.forall_mem_cons.mpr ⟨(List.mem_cons_of_mem _ (List.mem_append_left _ (List.mem_of_getElem? (i := 3) rfl))), (List.forall_mem_cons.mpr ⟨(List.mem_cons_of_mem _ (List.mem_append_left _ (List.mem_of_getElem? (i := 2) rfl))), (List.forall_mem_cons.mpr ⟨(List.mem_cons_of_mem _ (List.mem_append_left _ (List.mem_of_getElem? (i := 1) rfl))), (List.forall_mem_cons.mpr ⟨(List.mem_cons_of_mem _ (List.mem_append_left _ (List.mem_of_getElem? (i := 0) rfl))), (fun _ h => absurd h List.not_mem_nil)⟩)⟩)⟩)⟩) (kGV _ _ _ _) (fun _ h => List.mem_cons_of_mem _ (List.mem_append_right _ (List.mem_append_right _ h))) gw_s_reckon5) rfl rfl rfl ⟨rfl, hd_X5_reckon⟩ ⟨(Nat.le_of_ble_eq_true rfl), (Nat.le_of_ble_eq_true rfl)⟩) (kW_V kNF_blind (kNF_give hX hS hFc) (va_recv hKc hPc (ci := 5) (q0 := 0) rfl rfl) hPc hKc hDc) rfl rfl hl.1 rfl (lv_room (Nat.le_of_ble_eq_true rfl)) dX5_worthOf_63 ⟨(Nat.le_of_ble_eq_true rfl), (Nat.le_of_ble_eq_true rfl)⟩) hS (fun q _ h => hFc q h) hFc (fun r_26 m1_27 t H_28 locs ht hvm hw hB hz1 hk1 hS => ?_)
            have hPD : kPD dC dI A [(jK, .inr (5, [.ref k0, .ref k1])), (k0, .inl (cK, 8, .inl l0)), (k1, .inl (cO, 32, .inl m1_27))] H_28 := kJoinX hP hD [0, 1, 2] rfl hk1 hFc hB.1 ht hB.2.2 rfl [some 0, some 1, some 2] rfl rfl
            have hP := hPD.1
            have hD := hPD.2
            refine lv_if_eq (tgt := 86) hx hb dX5_worthOf_66 kc_t_66_20 (fun c_29 => ?_) (fun c_29 => ?_)
            · refine lv_iinc (v := nI (i + 4)) hx hb dX5_worthOf_86 hl (k := 2) rfl (kInc _ 4) kc_l_4_7 (kTo [(4, .int (nI (i + 4))), (6, .int x_15), (5, .int x_12), (3, .ref cl), (0, .ref jK), (1, .ref ru), (2, .int p1)]) (fun ls hl => ?_)
              refine lv_goto (tgt := 14) hx hb dX5_worthOf_89 kc_t_89_m75 ?_
              exact ih_k_1 (i + 4) m1_27 (by omega) _ _ hP hD hS ls (lv_sub hl [0, 3, 4, 5, 6] rfl) (by omega)
            · refine lv_aload_n hx hb dX5_worthOf_69 rfl (lv_at hl 4 rfl) ?_
              refine lv_aload_n hx hb dX5_worthOf_70 rfl (lv_at hl 5 rfl) ?_
              have hPR := kFz_at hX.1 hS
              refine va_getN (D := (dC, dI)) (ci := 6) (v := .ref sA) (C := RX6) (T := TX6) (N := 2) hx hb hts (fun _ h => List.mem_cons_of_mem _ (List.mem_append_right _ (List.mem_append_left _ h))) hown hK hPR 0 rfl rfl 0 kc_l_0_2 (va_Nw.use rfl (hX.2 _ (List.mem_of_getElem? (i := 10) rfl))) (fun _ h9 => h9) rfl dX5_worthOf_71 ?_
              refine lv_iload hx hb dX5_worthOf_74 (lv_at hl 0 rfl) ?_
              refine lv_aload_n hx hb dX5_worthOf_76 rfl (lv_at hl 3 rfl) ?_
              refine lv_iload hx hb dX5_worthOf_77 (lv_at hl 2 rfl) ?_
              refine lv_iconst (v := 3) hx hb dX5_worthOf_79 kc_i_3 ?_
              refine lv_iadd hx hb dX5_worthOf_80 ?_
              refine lv_topi (fun y_30 ey_30 => ?_)
              obtain rfl : y_30 = nI (i + 3) := ey_30.trans (nI_add (i) (3))
              have hPR := kFz_at hX.1 hS
              have bd_31 : i + 3 < nC := by omega
              refine va_iald hx hb hK hPR 2 3 rfl rfl (vp_in_nI (n := i + 3) (N := nC) bd_31 bd_8) dX5_worthOf_81 ?_
              refine lv_topi (fun x_32 ex_32 => ?_)
              have hCu := kCut (wc := [(jK, .inr (5, [.ref k0, .ref k1])), (k0, .inl (cK, 8, .inl l0)), (k1, .inl (cO, 32, .inl m1_27))]) hP hD hS hA [0, 1, 2] rfl kc_nd_138 rfl
              have hPc := hCu.1
              have hDc := hCu.2.1
              have hFc := hCu.2.2
              have hKc := hK.sb (tys2 := [(cK, .int), (cO, .int), (cS, .int), (cc, .int)]) [0, 1, 2, 3] rfl
              refine va_calli (va_runV (As := [.ref sA, .int x_15, .int x_32]) (rest := []) ⟨hx, hb, hml, hown, hts⟩ (s_reckon5 l dC dI jK k0 k1 cK cO l0 m1_27 ru sA cl cS cc nS nC gS gC hnS hnC x_15 x_32 H_28.size) (cwV 3 hts (kG (List.forall_mem_cons.mpr ⟨(List.mem_cons_of_mem _ (List.mem_append_left _ (List.mem_of_getElem? (i := 3) rfl))), (List.forall_mem_cons.mpr ⟨(List.mem_cons_of_mem _ (List.mem_append_left _ (List.mem_of_getElem? (i := 2) rfl))), (List.forall_mem_cons.mpr ⟨(List.mem_cons_of_mem _ (List.mem_append_left _ (List.mem_of_getElem? (i := 1) rfl))), (List.forall_mem_cons.mpr ⟨(List.mem_cons_of_mem _ (List.mem_append_left _ (List.mem_of_getElem? (i := 0) rfl))), (fun _ h => absurd h List.not_mem_nil)⟩)⟩)⟩)⟩) (kGV _ _ _ _) (fun _ h => List.mem_cons_of_mem _ (List.mem_append_right _ (List.mem_append_right _ h))) gw_s_reckon5) rfl rfl rfl ⟨rfl, hd_X5_reckon⟩ ⟨(Nat.le_of_ble_eq_true rfl), (Nat.le_of_ble_eq_true rfl)⟩) (kW_V kNF_blind (kNF_give hX hS hFc) (va_recv hKc hPc (ci := 5) (q0 := 0) rfl rfl) hPc hKc hDc) rfl rfl hl.1 rfl (lv_room (Nat.le_of_ble_eq_true rfl)) dX5_worthOf_82 ⟨(Nat.le_of_ble_eq_true rfl), (Nat.le_of_ble_eq_true rfl)⟩) hS (fun q _ h => hFc q h) hFc (fun r_33 m1_34 t H_35 locs ht hvm hw hB hz1 hk1 hS => ?_)
              have hPD : kPD dC dI A [(jK, .inr (5, [.ref k0, .ref k1])), (k0, .inl (cK, 8, .inl l0)), (k1, .inl (cO, 32, .inl m1_34))] H_35 := kJoinX hP hD [0, 1, 2] rfl hk1 hFc hB.1 ht hB.2.2 rfl [some 0, some 1, some 2] rfl rfl
              have hP := hPD.1
              have hD := hPD.2
              have hP9 := hP
              have hD9 := hD
              have hK9 := hK
              rw [hQ]
              exact W.iret (v := r_33) hx hb hr (fun t ht hW => ⟨⟨r_33, m1_34, rfl, trivial,  by rw [ht]; exact hP9, va_K.moved hW.alike hK9, hD9⟩, hS.F ht⟩) hS.2.2 dX5_worthOf_85
  exact lp_k_1 (nC - 0 + 1) 0 l1 (by omega) _ _ hP hD hS ls (lv_sub hl [0, 1, 2, 3, 4] rfl) (by omega)

theorem dJ7_fill_53178_0 : decode cJ7_fill_53178 0 = .ok (.iconst 0, 1) := kDs0 kf_3 (by decide +kernel)
theorem dJ7_fill_53178_1 : decode cJ7_fill_53178 1 = .ok (.istore_n 2, 1) := kDs0 kf_61 (by decide +kernel)
theorem dJ7_fill_53178_2 : decode cJ7_fill_53178 2 = .ok (.aload_n 0, 1) := kDs0 kf_42 (by decide +kernel)
theorem dJ7_fill_53178_3 : decode cJ7_fill_53178 3 = .ok (.arraylength, 1) := kDs0 kf_190 (by decide +kernel)
theorem dJ7_fill_53178_4 : decode cJ7_fill_53178 4 = .ok (.istore_n 3, 1) := kDs0 kf_62 (by decide +kernel)
theorem dJ7_fill_53178_5 : decode cJ7_fill_53178 5 = .ok (.iload_n 2, 1) := kDs0 kf_28 (by decide +kernel)
theorem dJ7_fill_53178_6 : decode cJ7_fill_53178 6 = .ok (.iload_n 3, 1) := kDs0 kf_29 (by decide +kernel)
theorem dJ7_fill_53178_7 : decode cJ7_fill_53178 7 = .ok (.if_icmp .ge 13, 3) := kDs4 kf_162 (by decide +kernel)
theorem dJ7_fill_53178_20 : decode cJ7_fill_53178 20 = .ok (.return_, 1) := kDs0 kf_177 (by decide +kernel)
theorem dJ7_fill_53178_10 : decode cJ7_fill_53178 10 = .ok (.aload_n 0, 1) := kDs0 kf_42 (by decide +kernel)
theorem dJ7_fill_53178_11 : decode cJ7_fill_53178 11 = .ok (.iload_n 2, 1) := kDs0 kf_28 (by decide +kernel)
theorem dJ7_fill_53178_12 : decode cJ7_fill_53178 12 = .ok (.iload_n 1, 1) := kDs0 kf_27 (by decide +kernel)
theorem dJ7_fill_53178_13 : decode cJ7_fill_53178 13 = .ok (.iastore, 1) := kDs0 kf_79 (by decide +kernel)
theorem dJ7_fill_53178_14 : decode cJ7_fill_53178 14 = .ok (.iinc 2 1, 3) := kDs5 kf_132 (by decide +kernel)
theorem dJ7_fill_53178_17 : decode cJ7_fill_53178 17 = .ok (.goto (-12), 3) := kDs4 kf_167 (by decide +kernel)
def w_s_fill : List Cond := .code yJ7_fill_53178 cJ7_fill_53178 4 none :: ([])
theorem gw_s_fill : (w_s_fill).all goodWord = true := kGc rfl kGn
theorem hd_J7_fill_53178 : yJ7_fill_53178.cls ≠ "java/lang/invoke/MethodHandle" ∧ yJ7_fill_53178.cls ≠ "java/lang/invoke/VarHandle" ∧ (parseMethodDescriptor yJ7_fill_53178.desc).map (fun d => d.parameters.length) = some 2 := by decide +kernel
set_option maxHeartbeats 4000000 in
set_option maxRecDepth 100000 in
theorem s_fill (l : Launch) (dC : Nat → ClassId) (dI : Nat → Nat → Nat) (ar : Nat) (cI : ClassId) (n : Nat) (g : Nat → Int32) (hn : n ≤ 200) (p0 : Int32) (sz : Nat) : Met l yJ7_fill_53178 w_s_fill ({ frames := 1, cells := 0, slots := 0, locals := 60 }) (kW dC dI [.ref ar, .int p0] [(ar, .inl (cI, n, .inl g))] [(cI, .int)] kT sz) (va_Qv (fun (g1 : (Nat → Int32)) => True) (fun (g1 : (Nat → Int32)) => fun t : State => kB dC dI [(ar, .inl (cI, n, .inl g1))] [(cI, .int)] (va_A [(ar, .inl (cI, n, .inl g))] sz) t) (va_A [(ar, .inl (cI, n, .inl g))] sz)) 0 0 (va_A [(ar, .inl (cI, n, .inl g))] sz) := by
  refine Met.ofW (cc := cJ7_fill_53178) (maxL := 4) (ret := none) (by decide) rfl ?_
  intro p e s m args below meth c s₁ B hml hv
  obtain ⟨rfl, hsz, hP, hK, hD0, hX⟩ := hv
  have hx := B.exec
  have hb := B.bytes
  have hr := B.returns
  have hts := atoms_spec (ws := w_s_fill) B.pre
  have hown : s.vm.findClass RJ7 = some m.cls := findClass_of_methodNamed B.named
  have hlocks := B.notSynchronized
  subst hsz
  have hD := hD0.self (sz := s.heap.size)
  generalize hAe : va_A [(ar, .inl (cI, n, .inl g))] s.heap.size = A at hD ⊢
  have hA : ∀ q : Nat, s.heap.size ≤ q → A q := fun q h => by rw [← hAe]; exact Or.inr h
  have hS : va_S A s.heap s.heap [] := va_S.rf
  have hP : va_P (dC, dI) vwCl [(ar, .inl (cI, n, .inl g))] s.heap := hP
  have hl := lv_entry ([.ref ar, .int p0]) (n := 4) (Nat.le_of_ble_eq_true rfl)
  rw [lg_entry_eq]
  generalize (lg_sl ([.ref ar, .int p0]) ++ List.replicate (4 - (lg_sl ([.ref ar, .int p0])).length) Slot.unset).toArray = ls at hl ⊢
  have hl : lv_has ls 4 [(0, .ref ar), (1, .int p0)] := hl
  refine kQ (fun Q hQ => ?_)
  refine lv_iconst (v := 0) hx hb dJ7_fill_53178_0 kc_i_0 ?_
  refine lv_istore_n hx hb dJ7_fill_53178_1 rfl hl kc_l_2_4 (kTo [(2, .int 0), (0, .ref ar), (1, .int p0)]) (fun ls hl => ?_)
  refine lv_aload_n hx hb dJ7_fill_53178_2 rfl (lv_at hl 1 rfl) ?_
  refine va_alen hx hb hK hP 0 0 rfl rfl (v := nI (n)) rfl dJ7_fill_53178_3 ?_
  refine lv_istore_n hx hb dJ7_fill_53178_4 rfl hl kc_l_3_4 (kTo [(3, .int (nI (n))), (2, .int 0), (0, .ref ar), (1, .int p0)]) (fun ls hl => ?_)
  have lp_k_1 : ∀ (n9 : Nat) (i : Nat) (m9 : Nat → Int32) (ivk_1_0 : i ≤ n) (H : Heap) (locs : List Loc) (_ : va_P (dC, dI) vwCl [(ar, .inl (cI, n, .inl m9))] H) (_ : va_D A [(ar, .inl (cI, n, .inl m9))]) (_ : va_S A s.heap H locs) (ls : Array Slot) (_ : lv_has ls 4 [(3, .int (nI (n))), (2, .int (nI (i))), (0, .ref ar), (1, .int p0)]) (_ : n - i < n9), W p l e (headSpec w_s_fill ({ frames := 1, cells := 0, slots := 0, locals := 60 })).room s m (#[.ref ar, .int p0] : Array Value) below meth c H locs 0 0 Q (F0 m 5 ls []) := by
    intro n9
    induction n9 with
    | zero => intro i m9 ivk_1_0 H locs hP hD hS ls hl hm9; exact absurd hm9 (Nat.not_lt_zero _)
    | succ n9 ih_k_1 =>
      intro i m9 ivk_1_0 H locs hP hD hS ls hl hm9
      refine lv_iload_n hx hb dJ7_fill_53178_5 rfl (lv_at hl 1 rfl) ?_
      refine lv_iload_n hx hb dJ7_fill_53178_6 rfl (lv_at hl 0 rfl) ?_
      refine lv_icmp_ge (tgt := 20) hx hb dJ7_fill_53178_7 kc_t_7_13 (fun c_2 => ?_) (fun c_2 => ?_)
      · have bd_4 : n < 2147483648 := by omega
        have bd_5 : i < 2147483648 := by omega
        have hn_3 := kle (a := n) (b := i) bd_4 bd_5 c_2
        have hP9 := hP
        have hD9 := hD
        have hK9 := hK
        rw [hQ]
        exact W.vret hx hb hr (fun t ht hW => ⟨⟨m9, rfl, trivial,  by rw [ht]; exact hP9, va_K.moved hW.alike hK9, hD9⟩, hS.F ht⟩) hS.2.2 dJ7_fill_53178_20
      · have bd_7 : n < 2147483648 := by omega
        have bd_8 : i < 2147483648 := by omega
        have hn_6 := knle (a := n) (b := i) bd_7 bd_8 c_2
        refine lv_aload_n hx hb dJ7_fill_53178_10 rfl (lv_at hl 2 rfl) ?_
        refine lv_iload_n hx hb dJ7_fill_53178_11 rfl (lv_at hl 1 rfl) ?_
        refine lv_iload_n hx hb dJ7_fill_53178_12 rfl (lv_at hl 3 rfl) ?_
        have bd_10 : i < n := by omega
        refine va_iast hx hb hK hP hD hS 0 0 rfl rfl (vp_in_nI (n := i) (N := n) bd_10 bd_7) dJ7_fill_53178_13 (fun H locs hP hD hS => ?_)
        obtain ⟨f_9, ef_9⟩ : ∃ gg9 : Nat → Int32, gg9 = upd m9 (Int32.toNatClampNeg (nI (i))) p0 := ⟨_, rfl⟩
        have hPD : kPD dC dI A [(ar, .inl (cI, n, .inl f_9))] H := by rw [ef_9]; exact ⟨hP, hD⟩
        have hP := hPD.1
        have hD := hPD.2
        refine lv_iinc (v := nI (i + 1)) hx hb dJ7_fill_53178_14 hl (k := 1) rfl (kInc _ 1) kc_l_2_4 (kTo [(2, .int (nI (i + 1))), (3, .int (nI (n))), (0, .ref ar), (1, .int p0)]) (fun ls hl => ?_)
        refine lv_goto (tgt := 5) hx hb dJ7_fill_53178_17 kc_t_17_m12 ?_
        exact ih_k_1 (i + 1) f_9 (by omega) _ _ hP hD hS ls (lv_sub hl [1, 0, 2, 3] rfl) (by omega)
  exact lp_k_1 (n - 0 + 1) 0 g (by omega) _ _ hP hD hS ls (lv_sub hl [0, 1, 2, 3] rfl) (by omega)

theorem dJ7_fill_d0a16_0 : decode cJ7_fill_d0a16 0 = .ok (.iconst 0, 1) := kDs0 kf_3 (by decide +kernel)
theorem dJ7_fill_d0a16_1 : decode cJ7_fill_d0a16 1 = .ok (.istore_n 3, 1) := kDs0 kf_62 (by decide +kernel)
theorem dJ7_fill_d0a16_2 : decode cJ7_fill_d0a16 2 = .ok (.aload_n 0, 1) := kDs0 kf_42 (by decide +kernel)
theorem dJ7_fill_d0a16_3 : decode cJ7_fill_d0a16 3 = .ok (.arraylength, 1) := kDs0 kf_190 (by decide +kernel)
theorem dJ7_fill_d0a16_4 : decode cJ7_fill_d0a16 4 = .ok (.istore 4, 2) := kDs1 kf_54 (by decide +kernel)
theorem dJ7_fill_d0a16_6 : decode cJ7_fill_d0a16 6 = .ok (.iload_n 3, 1) := kDs0 kf_29 (by decide +kernel)
theorem dJ7_fill_d0a16_7 : decode cJ7_fill_d0a16 7 = .ok (.iload 4, 2) := kDs1 kf_21 (by decide +kernel)
theorem dJ7_fill_d0a16_9 : decode cJ7_fill_d0a16 9 = .ok (.if_icmp .ge 13, 3) := kDs4 kf_162 (by decide +kernel)
theorem dJ7_fill_d0a16_22 : decode cJ7_fill_d0a16 22 = .ok (.return_, 1) := kDs0 kf_177 (by decide +kernel)
theorem dJ7_fill_d0a16_12 : decode cJ7_fill_d0a16 12 = .ok (.aload_n 0, 1) := kDs0 kf_42 (by decide +kernel)
theorem dJ7_fill_d0a16_13 : decode cJ7_fill_d0a16 13 = .ok (.iload_n 3, 1) := kDs0 kf_29 (by decide +kernel)
theorem dJ7_fill_d0a16_14 : decode cJ7_fill_d0a16 14 = .ok (.lload_n 1, 1) := kDs0 kf_31 (by decide +kernel)
theorem dJ7_fill_d0a16_15 : decode cJ7_fill_d0a16 15 = .ok (.lastore, 1) := kDs0 kf_80 (by decide +kernel)
theorem dJ7_fill_d0a16_16 : decode cJ7_fill_d0a16 16 = .ok (.iinc 3 1, 3) := kDs5 kf_132 (by decide +kernel)
theorem dJ7_fill_d0a16_19 : decode cJ7_fill_d0a16 19 = .ok (.goto (-13), 3) := kDs4 kf_167 (by decide +kernel)
def w_s_fillL : List Cond := .code yJ7_fill_d0a16 cJ7_fill_d0a16 5 none :: ([])
theorem gw_s_fillL : (w_s_fillL).all goodWord = true := kGc rfl kGn
theorem hd_J7_fill_d0a16 : yJ7_fill_d0a16.cls ≠ "java/lang/invoke/MethodHandle" ∧ yJ7_fill_d0a16.cls ≠ "java/lang/invoke/VarHandle" ∧ (parseMethodDescriptor yJ7_fill_d0a16.desc).map (fun d => d.parameters.length) = some 2 := by decide +kernel
set_option maxHeartbeats 4000000 in
set_option maxRecDepth 100000 in
theorem s_fillL (l : Launch) (dC : Nat → ClassId) (dI : Nat → Nat → Nat) (ar : Nat) (cI : ClassId) (n : Nat) (g : Nat → Int64) (hn : n ≤ 200) (p0 : Int64) (sz : Nat) : Met l yJ7_fill_d0a16 w_s_fillL ({ frames := 1, cells := 0, slots := 0, locals := 60 }) (kW dC dI [.ref ar, .long p0] [(ar, .inl (cI, n, .inr (.inl g)))] [(cI, .long)] kT sz) (va_Qv (fun (g1 : (Nat → Int64)) => True) (fun (g1 : (Nat → Int64)) => fun t : State => kB dC dI [(ar, .inl (cI, n, .inr (.inl g1)))] [(cI, .long)] (va_A [(ar, .inl (cI, n, .inr (.inl g)))] sz) t) (va_A [(ar, .inl (cI, n, .inr (.inl g)))] sz)) 0 0 (va_A [(ar, .inl (cI, n, .inr (.inl g)))] sz) := by
  refine Met.ofW (cc := cJ7_fill_d0a16) (maxL := 5) (ret := none) (by decide) rfl ?_
  intro p e s m args below meth c s₁ B hml hv
  obtain ⟨rfl, hsz, hP, hK, hD0, hX⟩ := hv
  have hx := B.exec
  have hb := B.bytes
  have hr := B.returns
  have hts := atoms_spec (ws := w_s_fillL) B.pre
  have hown : s.vm.findClass RJ7 = some m.cls := findClass_of_methodNamed B.named
  have hlocks := B.notSynchronized
  subst hsz
  have hD := hD0.self (sz := s.heap.size)
  generalize hAe : va_A [(ar, .inl (cI, n, .inr (.inl g)))] s.heap.size = A at hD ⊢
  have hA : ∀ q : Nat, s.heap.size ≤ q → A q := fun q h => by rw [← hAe]; exact Or.inr h
  have hS : va_S A s.heap s.heap [] := va_S.rf
  have hP : va_P (dC, dI) vwCl [(ar, .inl (cI, n, .inr (.inl g)))] s.heap := hP
  have hl := lv_entry ([.ref ar, .long p0]) (n := 5) (Nat.le_of_ble_eq_true rfl)
  rw [lg_entry_eq]
  generalize (lg_sl ([.ref ar, .long p0]) ++ List.replicate (5 - (lg_sl ([.ref ar, .long p0])).length) Slot.unset).toArray = ls at hl ⊢
  have hl : lv_has ls 5 [(0, .ref ar), (1, .long p0)] := hl
  refine kQ (fun Q hQ => ?_)
  refine lv_iconst (v := 0) hx hb dJ7_fill_d0a16_0 kc_i_0 ?_
  refine lv_istore_n hx hb dJ7_fill_d0a16_1 rfl hl kc_l_3_5 (kTo [(3, .int 0), (0, .ref ar), (1, .long p0)]) (fun ls hl => ?_)
  refine lv_aload_n hx hb dJ7_fill_d0a16_2 rfl (lv_at hl 1 rfl) ?_
  refine va_alen hx hb hK hP 0 0 rfl rfl (v := nI (n)) rfl dJ7_fill_d0a16_3 ?_
  refine lv_istore hx hb dJ7_fill_d0a16_4 hl kc_l_4_5 (kTo [(4, .int (nI (n))), (3, .int 0), (0, .ref ar), (1, .long p0)]) (fun ls hl => ?_)
  have lp_k_1 : ∀ (n9 : Nat) (i : Nat) (m9 : Nat → Int64) (ivk_1_0 : i ≤ n) (H : Heap) (locs : List Loc) (_ : va_P (dC, dI) vwCl [(ar, .inl (cI, n, .inr (.inl m9)))] H) (_ : va_D A [(ar, .inl (cI, n, .inr (.inl m9)))]) (_ : va_S A s.heap H locs) (ls : Array Slot) (_ : lv_has ls 5 [(4, .int (nI (n))), (3, .int (nI (i))), (0, .ref ar), (1, .long p0)]) (_ : n - i < n9), W p l e (headSpec w_s_fillL ({ frames := 1, cells := 0, slots := 0, locals := 60 })).room s m (#[.ref ar, .long p0] : Array Value) below meth c H locs 0 0 Q (F0 m 6 ls []) := by
    intro n9
    induction n9 with
    | zero => intro i m9 ivk_1_0 H locs hP hD hS ls hl hm9; exact absurd hm9 (Nat.not_lt_zero _)
    | succ n9 ih_k_1 =>
      intro i m9 ivk_1_0 H locs hP hD hS ls hl hm9
      refine lv_iload_n hx hb dJ7_fill_d0a16_6 rfl (lv_at hl 1 rfl) ?_
      refine lv_iload hx hb dJ7_fill_d0a16_7 (lv_at hl 0 rfl) ?_
      refine lv_icmp_ge (tgt := 22) hx hb dJ7_fill_d0a16_9 kc_t_9_13 (fun c_2 => ?_) (fun c_2 => ?_)
      · have bd_4 : n < 2147483648 := by omega
        have bd_5 : i < 2147483648 := by omega
        have hn_3 := kle (a := n) (b := i) bd_4 bd_5 c_2
        have hP9 := hP
        have hD9 := hD
        have hK9 := hK
        rw [hQ]
        exact W.vret hx hb hr (fun t ht hW => ⟨⟨m9, rfl, trivial,  by rw [ht]; exact hP9, va_K.moved hW.alike hK9, hD9⟩, hS.F ht⟩) hS.2.2 dJ7_fill_d0a16_22
      · have bd_7 : n < 2147483648 := by omega
        have bd_8 : i < 2147483648 := by omega
        have hn_6 := knle (a := n) (b := i) bd_7 bd_8 c_2
        refine lv_aload_n hx hb dJ7_fill_d0a16_12 rfl (lv_at hl 2 rfl) ?_
        refine lv_iload_n hx hb dJ7_fill_d0a16_13 rfl (lv_at hl 1 rfl) ?_
        refine lv_lload_n hx hb dJ7_fill_d0a16_14 rfl (lv_at hl 3 rfl) ?_
        have bd_10 : i < n := by omega
        refine va_last hx hb hK hP hD hS 0 0 rfl rfl (vp_in_nI (n := i) (N := n) bd_10 bd_7) dJ7_fill_d0a16_15 (fun H locs hP hD hS => ?_)
        obtain ⟨f_9, ef_9⟩ : ∃ gg9 : Nat → Int64, gg9 = vp_updL m9 (Int32.toNatClampNeg (nI (i))) p0 := ⟨_, rfl⟩
        have hPD : kPD dC dI A [(ar, .inl (cI, n, .inr (.inl f_9)))] H := by rw [ef_9]; exact ⟨hP, hD⟩
        have hP := hPD.1
        have hD := hPD.2
        refine lv_iinc (v := nI (i + 1)) hx hb dJ7_fill_d0a16_16 hl (k := 1) rfl (kInc _ 1) kc_l_3_5 (kTo [(3, .int (nI (i + 1))), (4, .int (nI (n))), (0, .ref ar), (1, .long p0)]) (fun ls hl => ?_)
        refine lv_goto (tgt := 6) hx hb dJ7_fill_d0a16_19 kc_t_19_m13 ?_
        exact ih_k_1 (i + 1) f_9 (by omega) _ _ hP hD hS ls (lv_sub hl [1, 0, 2, 3] rfl) (by omega)
  exact lp_k_1 (n - 0 + 1) 0 g (by omega) _ _ hP hD hS ls (lv_sub hl [0, 1, 2, 3] rfl) (by omega)

theorem dX1_heldBy_0 : decode cX1_heldBy 0 = .ok (.aload_n 0, 1) := kDs0 kf_42 (by decide +kernel)
theorem dX1_heldBy_1 : decode cX1_heldBy 1 = .ok (.getfield 67, 3) := kDs2 kf_180 (by decide +kernel)
theorem dX1_heldBy_4 : decode cX1_heldBy 4 = .ok (.iload_n 1, 1) := kDs0 kf_27 (by decide +kernel)
theorem dX1_heldBy_5 : decode cX1_heldBy 5 = .ok (.invokevirtual 94, 3) := kDs2 kf_182 (by decide +kernel)
theorem dX1_heldBy_8 : decode cX1_heldBy 8 = .ok (.ifCond .eq 12, 3) := kDs4 kf_153 (by decide +kernel)
theorem dX1_heldBy_20 : decode cX1_heldBy 20 = .ok (.sipush (-1000), 3) := kDs4 kf_17 (by decide +kernel)
theorem dX1_heldBy_23 : decode cX1_heldBy 23 = .ok (.ireturn, 1) := kDs0 kf_172 (by decide +kernel)
theorem dX1_heldBy_11 : decode cX1_heldBy 11 = .ok (.aload_n 0, 1) := kDs0 kf_42 (by decide +kernel)
theorem dX1_heldBy_12 : decode cX1_heldBy 12 = .ok (.getfield 9, 3) := kDs2 kf_180 (by decide +kernel)
theorem dX1_heldBy_15 : decode cX1_heldBy 15 = .ok (.iload_n 1, 1) := kDs0 kf_27 (by decide +kernel)
theorem dX1_heldBy_16 : decode cX1_heldBy 16 = .ok (.iaload, 1) := kDs0 kf_46 (by decide +kernel)
theorem dX1_heldBy_17 : decode cX1_heldBy 17 = .ok (.goto 6, 3) := kDs4 kf_167 (by decide +kernel)
def w_s_heldBy1 : List Cond := .code yX1_heldBy cX1_heldBy 2 (some .int) :: ([.fieldLink RX1 67 "NotEnded$Course" "folk" "LNotEnded$Folk;", .initialized RX2, .selects RX2 yX2_has yX2_has, .instanceMethod yX2_has, .methodLink RX1 94 yX2_has, .fieldLink RX1 9 "NotEnded$Course" "held" "[I"] ++ (wsX10 ++ (w_s_has2)))
theorem gw_s_heldBy1 : (w_s_heldBy1).all goodWord = true := kGc rfl (kGa (by decide +kernel) (kGa gw_wsX10 gw_s_has2))
theorem hd_X1_heldBy : yX1_heldBy.cls ≠ "java/lang/invoke/MethodHandle" ∧ yX1_heldBy.cls ≠ "java/lang/invoke/VarHandle" ∧ (parseMethodDescriptor yX1_heldBy.desc).map (fun d => d.parameters.length) = some 1 := by decide +kernel
set_option maxHeartbeats 4000000 in
set_option maxRecDepth 100000 in
theorem s_heldBy1 (l : Launch) (dC : Nat → ClassId) (dI : Nat → Nat → Nat) (jC : Nat) (d2 : Nat) (d3 : Nat) (d4 : Nat) (d5 : Nat) (d6 : Nat) (d7 : Nat) (d8 : Nat) (d9 : Nat) (d10 : Nat) (d11 : Nat) (d12 : Nat) (d13 : Nat) (w2 : ClassId) (w3 : ClassId) (w4 : ClassId) (w5 : ClassId) (w6 : ClassId) (w7 : ClassId) (w8 : ClassId) (w9 : ClassId) (w10 : ClassId) (w11 : ClassId) (w12 : ClassId) (w13 : ClassId) (e2 : Nat → Int32) (e3 : Nat → Int32) (e4 : Nat → Int32) (e5 : Nat → Int32) (e6 : Nat → Int32) (e7 : Nat → Int32) (e8 : Nat → Int32) (e9 : Nat → Int32) (e10 : Nat → Int32) (e11 : Nat → Int32) (e12 : Nat → Int32) (e13 : Nat → Int64) (dr : Int64) (pr : Int32) (mo : Int32) (ho : Int32) (hF : Nat) (f0 : Nat) (f1 : Nat) (f2 : Nat) (f3 : Nat) (f4 : Nat) (z0 : ClassId) (z1 : ClassId) (z2 : ClassId) (z3 : ClassId) (z4 : ClassId) (g0 : Nat → Int32) (g1 : Nat → Int32) (g2 : Nat → Int32) (g3 : Nat → Int32) (g4 : Nat → Int32) (sn : Int32) (ks : Nat) (kw : Nat) (hks : ks ≤ 10) (hkw : kw ≤ 4) (jK : Nat) (k0 : Nat) (k1 : Nat) (cK : ClassId) (cO : ClassId) (l0 : Nat → Int32) (l1 : Nat → Int32) (ru : Nat) (sA : Nat) (cl : Nat) (cS : ClassId) (cc : ClassId) (nS : Nat) (nC : Nat) (gS : Nat → Int32) (gC : Nat → Int32) (hnS : nS ≤ 200) (hnC : nC ≤ 200) (A : Nat → Prop) (p0 : Int32) : Met l yX1_heldBy w_s_heldBy1 ({ frames := 3, cells := 0, slots := 0, locals := 180 }) (kR dC dI [.ref jC, .int p0] [(jC, .inr (1, [.ref hF, .ref jK, .ref d2, .ref d3, .ref d4, .ref d5, .ref d6, .ref d7, .ref d8, .ref d9, .ref d10, .ref d11, .ref d12, .ref d13, .ref ru, .long dr, .int pr, .int mo, .int ho])), (d2, .inl (w2, 10, .inl e2)), (d3, .inl (w3, 10, .inl e3)), (d4, .inl (w4, 10, .inl e4)), (d5, .inl (w5, 10, .inl e5)), (d6, .inl (w6, 10, .inl e6)), (d7, .inl (w7, 10, .inl e7)), (d8, .inl (w8, 10, .inl e8)), (d9, .inl (w9, 10, .inl e9)), (d10, .inl (w10, 4, .inl e10)), (d11, .inl (w11, 4, .inl e11)), (d12, .inl (w12, 4, .inl e12)), (d13, .inl (w13, 9, .inr (.inl e13))), (hF, .inr (2, [.ref f0, .ref f1, .ref f2, .ref f3, .ref f4, .int sn, .int (nI (ks)), .int (nI (kw))])), (f0, .inl (z0, 10, .inl g0)), (f1, .inl (z1, 10, .inl g1)), (f2, .inl (z2, 10, .inl g2)), (f3, .inl (z3, 10, .inl g3)), (f4, .inl (z4, 4, .inl g4)), (jK, .inr (5, [.ref k0, .ref k1])), (k0, .inl (cK, 8, .inl l0)), (k1, .inl (cO, 32, .inl l1))] [(w2, .int), (w3, .int), (w4, .int), (w5, .int), (w6, .int), (w7, .int), (w8, .int), (w9, .int), (w10, .int), (w11, .int), (w12, .int), (w13, .long), (z0, .int), (z1, .int), (z2, .int), (z3, .int), (z4, .int), (cK, .int), (cO, .int), (cS, .int), (cc, .int)] (kNF dC dI [(ru, .inr (6, [.ref sA, .ref cl])), (sA, .inl (cS, nS, .inl gS)), (cl, .inl (cc, nC, .inl gC))] A)) (vp_Si (fun r : Int32 => True)) 0 0 (fun _ => False) := by
  refine Met.ofW (cc := cX1_heldBy) (maxL := 2) (ret := (some .int)) (by decide) rfl ?_
  intro p e s m args below meth c s₁ B hml hv
  obtain ⟨rfl, hP, hK, hX⟩ := hv
  have hx := B.exec
  have hb := B.bytes
  have hr := B.returns
  have hts := atoms_spec (ws := w_s_heldBy1) B.pre
  have hown : s.vm.findClass RX1 = some m.cls := findClass_of_methodNamed B.named
  have hlocks := B.notSynchronized
  have hS : va_S A s.heap s.heap [] := va_S.rf
  have hP : va_P (dC, dI) vwCl [(jC, .inr (1, [.ref hF, .ref jK, .ref d2, .ref d3, .ref d4, .ref d5, .ref d6, .ref d7, .ref d8, .ref d9, .ref d10, .ref d11, .ref d12, .ref d13, .ref ru, .long dr, .int pr, .int mo, .int ho])), (d2, .inl (w2, 10, .inl e2)), (d3, .inl (w3, 10, .inl e3)), (d4, .inl (w4, 10, .inl e4)), (d5, .inl (w5, 10, .inl e5)), (d6, .inl (w6, 10, .inl e6)), (d7, .inl (w7, 10, .inl e7)), (d8, .inl (w8, 10, .inl e8)), (d9, .inl (w9, 10, .inl e9)), (d10, .inl (w10, 4, .inl e10)), (d11, .inl (w11, 4, .inl e11)), (d12, .inl (w12, 4, .inl e12)), (d13, .inl (w13, 9, .inr (.inl e13))), (hF, .inr (2, [.ref f0, .ref f1, .ref f2, .ref f3, .ref f4, .int sn, .int (nI (ks)), .int (nI (kw))])), (f0, .inl (z0, 10, .inl g0)), (f1, .inl (z1, 10, .inl g1)), (f2, .inl (z2, 10, .inl g2)), (f3, .inl (z3, 10, .inl g3)), (f4, .inl (z4, 4, .inl g4)), (jK, .inr (5, [.ref k0, .ref k1])), (k0, .inl (cK, 8, .inl l0)), (k1, .inl (cO, 32, .inl l1))] s.heap := hP
  have hl := lv_entry ([.ref jC, .int p0]) (n := 2) (Nat.le_of_ble_eq_true rfl)
  rw [lg_entry_eq]
  generalize (lg_sl ([.ref jC, .int p0]) ++ List.replicate (2 - (lg_sl ([.ref jC, .int p0])).length) Slot.unset).toArray = ls at hl ⊢
  have hl : lv_has ls 2 [(0, .ref jC), (1, .int p0)] := hl
  refine kQ (fun Q hQ => ?_)
  refine lv_aload_n hx hb dX1_heldBy_0 rfl (lv_at hl 0 rfl) ?_
  refine va_get (D := (dC, dI)) (ci := 1) (v := .ref hF) (C := RX1) (T := TX1) (N := 19) hx hb hts (fun _ h => List.mem_cons_of_mem _ (List.mem_append_right _ (List.mem_append_left _ h))) hown hK hP 0 rfl rfl 0 kc_l_0_19 (hts (.fieldLink RX1 67 "NotEnded$Course" "folk" "LNotEnded$Folk;") (List.mem_cons_of_mem _ (List.mem_append_left _ (List.mem_of_getElem? (i := 0) rfl)))) (fun _ h9 => h9) rfl dX1_heldBy_1 ?_
  refine lv_iload_n hx hb dX1_heldBy_4 rfl (lv_at hl 1 rfl) ?_
  have hPc := hP.sb (ws2 := [(hF, .inr (2, [.ref f0, .ref f1, .ref f2, .ref f3, .ref f4, .int sn, .int (nI (ks)), .int (nI (kw))])), (f0, .inl (z0, 10, .inl g0)), (f1, .inl (z1, 10, .inl g1)), (f2, .inl (z2, 10, .inl g2)), (f3, .inl (z3, 10, .inl g3)), (f4, .inl (z4, 4, .inl g4))]) [13, 14, 15, 16, 17, 18] rfl
  have hKc := hK.sb (tys2 := [(z0, .int), (z1, .int), (z2, .int), (z3, .int), (z4, .int)]) [12, 13, 14, 15, 16] rfl
  refine vp_callSi (va_runV (As := [.int p0]) (rest := []) ⟨hx, hb, hml, hown, hts⟩ (s_has2 l dC dI hF f0 f1 f2 f3 f4 z0 z1 z2 z3 z4 g0 g1 g2 g3 g4 sn ks kw hks hkw p0) (cwV 1 hts (kG (List.forall_mem_cons.mpr ⟨(List.mem_cons_of_mem _ (List.mem_append_left _ (List.mem_of_getElem? (i := 4) rfl))), (List.forall_mem_cons.mpr ⟨(List.mem_cons_of_mem _ (List.mem_append_left _ (List.mem_of_getElem? (i := 3) rfl))), (List.forall_mem_cons.mpr ⟨(List.mem_cons_of_mem _ (List.mem_append_left _ (List.mem_of_getElem? (i := 2) rfl))), (List.forall_mem_cons.mpr ⟨(List.mem_cons_of_mem _ (List.mem_append_left _ (List.mem_of_getElem? (i := 1) rfl))), (fun _ h => absurd h List.not_mem_nil)⟩)⟩)⟩)⟩) (kGV _ _ _ _) (fun _ h => List.mem_cons_of_mem _ (List.mem_append_right _ (List.mem_append_right _ h))) gw_s_has2) rfl rfl rfl ⟨rfl, hd_X2_has⟩ ⟨(Nat.le_of_ble_eq_true rfl), (Nat.le_of_ble_eq_true rfl)⟩) (kR_V kT_blind kT_give (va_recv hKc hPc (ci := 2) (q0 := 0) rfl rfl) hPc hKc) rfl rfl hl.1 rfl (lv_room (Nat.le_of_ble_eq_true rfl)) dX1_heldBy_5 ⟨(Nat.le_of_ble_eq_true rfl), (Nat.le_of_ble_eq_true rfl)⟩).run (fun r_1 hw => ?_)
  have hw_2 := hw
  refine lv_if_eq (tgt := 20) hx hb dX1_heldBy_8 kc_t_8_12 (fun c_3 => ?_) (fun c_3 => ?_)
  · refine lv_sipush (v := (-1000)) hx hb dX1_heldBy_20 kc_s_m1000 ?_
    rw [hQ]
    exact W.iret (v := (-1000)) hx hb hr (fun t ht hW => ⟨(-1000), rfl, trivial, ht⟩) (fun _ h => nomatch h) dX1_heldBy_23
  · obtain ⟨j_4, hj_4, ej_4⟩ := hw_2 c_3
    subst ej_4
    refine lv_aload_n hx hb dX1_heldBy_11 rfl (lv_at hl 0 rfl) ?_
    refine va_get (D := (dC, dI)) (ci := 1) (v := .ref d2) (C := RX1) (T := TX1) (N := 19) hx hb hts (fun _ h => List.mem_cons_of_mem _ (List.mem_append_right _ (List.mem_append_left _ h))) hown hK hP 0 rfl rfl 2 kc_l_2_19 (hts (.fieldLink RX1 9 "NotEnded$Course" "held" "[I") (List.mem_cons_of_mem _ (List.mem_append_left _ (List.mem_of_getElem? (i := 5) rfl)))) (fun _ h9 => h9) rfl dX1_heldBy_12 ?_
    refine lv_iload_n hx hb dX1_heldBy_15 rfl (lv_at hl 1 rfl) ?_
    have bd_5 : j_4 < 10 := by omega
    refine va_iald hx hb hK hP 1 0 rfl rfl (vp_in_nI (n := j_4) (N := 10) bd_5 kc_31_10) dX1_heldBy_16 ?_
    refine lv_topi (fun x_6 ex_6 => ?_)
    refine lv_goto (tgt := 23) hx hb dX1_heldBy_17 kc_t_17_6 ?_
    rw [hQ]
    exact W.iret (v := x_6) hx hb hr (fun t ht hW => ⟨x_6, rfl, trivial, ht⟩) (fun _ h => nomatch h) dX1_heldBy_23

theorem dX1_placeOf_0 : decode cX1_placeOf 0 = .ok (.aload_n 0, 1) := kDs0 kf_42 (by decide +kernel)
theorem dX1_placeOf_1 : decode cX1_placeOf 1 = .ok (.getfield 67, 3) := kDs2 kf_180 (by decide +kernel)
theorem dX1_placeOf_4 : decode cX1_placeOf 4 = .ok (.iload_n 1, 1) := kDs0 kf_27 (by decide +kernel)
theorem dX1_placeOf_5 : decode cX1_placeOf 5 = .ok (.invokevirtual 94, 3) := kDs2 kf_182 (by decide +kernel)
theorem dX1_placeOf_8 : decode cX1_placeOf 8 = .ok (.ifCond .eq 12, 3) := kDs4 kf_153 (by decide +kernel)
theorem dX1_placeOf_20 : decode cX1_placeOf 20 = .ok (.sipush (-1000), 3) := kDs4 kf_17 (by decide +kernel)
theorem dX1_placeOf_23 : decode cX1_placeOf 23 = .ok (.ireturn, 1) := kDs0 kf_172 (by decide +kernel)
theorem dX1_placeOf_11 : decode cX1_placeOf 11 = .ok (.aload_n 0, 1) := kDs0 kf_42 (by decide +kernel)
theorem dX1_placeOf_12 : decode cX1_placeOf 12 = .ok (.getfield 18, 3) := kDs2 kf_180 (by decide +kernel)
theorem dX1_placeOf_15 : decode cX1_placeOf 15 = .ok (.iload_n 1, 1) := kDs0 kf_27 (by decide +kernel)
theorem dX1_placeOf_16 : decode cX1_placeOf 16 = .ok (.iaload, 1) := kDs0 kf_46 (by decide +kernel)
theorem dX1_placeOf_17 : decode cX1_placeOf 17 = .ok (.goto 6, 3) := kDs4 kf_167 (by decide +kernel)
def w_s_placeOf1 : List Cond := .code yX1_placeOf cX1_placeOf 2 (some .int) :: ([.fieldLink RX1 67 "NotEnded$Course" "folk" "LNotEnded$Folk;", .initialized RX2, .selects RX2 yX2_has yX2_has, .instanceMethod yX2_has, .methodLink RX1 94 yX2_has, .fieldLink RX1 18 "NotEnded$Course" "places" "[I"] ++ (wsX10 ++ (w_s_has2)))
theorem gw_s_placeOf1 : (w_s_placeOf1).all goodWord = true := kGc rfl (kGa (by decide +kernel) (kGa gw_wsX10 gw_s_has2))
theorem hd_X1_placeOf : yX1_placeOf.cls ≠ "java/lang/invoke/MethodHandle" ∧ yX1_placeOf.cls ≠ "java/lang/invoke/VarHandle" ∧ (parseMethodDescriptor yX1_placeOf.desc).map (fun d => d.parameters.length) = some 1 := by decide +kernel
set_option maxHeartbeats 4000000 in
set_option maxRecDepth 100000 in
theorem s_placeOf1 (l : Launch) (dC : Nat → ClassId) (dI : Nat → Nat → Nat) (jC : Nat) (d2 : Nat) (d3 : Nat) (d4 : Nat) (d5 : Nat) (d6 : Nat) (d7 : Nat) (d8 : Nat) (d9 : Nat) (d10 : Nat) (d11 : Nat) (d12 : Nat) (d13 : Nat) (w2 : ClassId) (w3 : ClassId) (w4 : ClassId) (w5 : ClassId) (w6 : ClassId) (w7 : ClassId) (w8 : ClassId) (w9 : ClassId) (w10 : ClassId) (w11 : ClassId) (w12 : ClassId) (w13 : ClassId) (e2 : Nat → Int32) (e3 : Nat → Int32) (e4 : Nat → Int32) (e5 : Nat → Int32) (e6 : Nat → Int32) (e7 : Nat → Int32) (e8 : Nat → Int32) (e9 : Nat → Int32) (e10 : Nat → Int32) (e11 : Nat → Int32) (e12 : Nat → Int32) (e13 : Nat → Int64) (dr : Int64) (pr : Int32) (mo : Int32) (ho : Int32) (hF : Nat) (f0 : Nat) (f1 : Nat) (f2 : Nat) (f3 : Nat) (f4 : Nat) (z0 : ClassId) (z1 : ClassId) (z2 : ClassId) (z3 : ClassId) (z4 : ClassId) (g0 : Nat → Int32) (g1 : Nat → Int32) (g2 : Nat → Int32) (g3 : Nat → Int32) (g4 : Nat → Int32) (sn : Int32) (ks : Nat) (kw : Nat) (hks : ks ≤ 10) (hkw : kw ≤ 4) (jK : Nat) (k0 : Nat) (k1 : Nat) (cK : ClassId) (cO : ClassId) (l0 : Nat → Int32) (l1 : Nat → Int32) (ru : Nat) (sA : Nat) (cl : Nat) (cS : ClassId) (cc : ClassId) (nS : Nat) (nC : Nat) (gS : Nat → Int32) (gC : Nat → Int32) (hnS : nS ≤ 200) (hnC : nC ≤ 200) (A : Nat → Prop) (p0 : Int32) : Met l yX1_placeOf w_s_placeOf1 ({ frames := 3, cells := 0, slots := 0, locals := 180 }) (kR dC dI [.ref jC, .int p0] [(jC, .inr (1, [.ref hF, .ref jK, .ref d2, .ref d3, .ref d4, .ref d5, .ref d6, .ref d7, .ref d8, .ref d9, .ref d10, .ref d11, .ref d12, .ref d13, .ref ru, .long dr, .int pr, .int mo, .int ho])), (d2, .inl (w2, 10, .inl e2)), (d3, .inl (w3, 10, .inl e3)), (d4, .inl (w4, 10, .inl e4)), (d5, .inl (w5, 10, .inl e5)), (d6, .inl (w6, 10, .inl e6)), (d7, .inl (w7, 10, .inl e7)), (d8, .inl (w8, 10, .inl e8)), (d9, .inl (w9, 10, .inl e9)), (d10, .inl (w10, 4, .inl e10)), (d11, .inl (w11, 4, .inl e11)), (d12, .inl (w12, 4, .inl e12)), (d13, .inl (w13, 9, .inr (.inl e13))), (hF, .inr (2, [.ref f0, .ref f1, .ref f2, .ref f3, .ref f4, .int sn, .int (nI (ks)), .int (nI (kw))])), (f0, .inl (z0, 10, .inl g0)), (f1, .inl (z1, 10, .inl g1)), (f2, .inl (z2, 10, .inl g2)), (f3, .inl (z3, 10, .inl g3)), (f4, .inl (z4, 4, .inl g4)), (jK, .inr (5, [.ref k0, .ref k1])), (k0, .inl (cK, 8, .inl l0)), (k1, .inl (cO, 32, .inl l1))] [(w2, .int), (w3, .int), (w4, .int), (w5, .int), (w6, .int), (w7, .int), (w8, .int), (w9, .int), (w10, .int), (w11, .int), (w12, .int), (w13, .long), (z0, .int), (z1, .int), (z2, .int), (z3, .int), (z4, .int), (cK, .int), (cO, .int), (cS, .int), (cc, .int)] (kNF dC dI [(ru, .inr (6, [.ref sA, .ref cl])), (sA, .inl (cS, nS, .inl gS)), (cl, .inl (cc, nC, .inl gC))] A)) (vp_Si (fun r : Int32 => True)) 0 0 (fun _ => False) := by
  refine Met.ofW (cc := cX1_placeOf) (maxL := 2) (ret := (some .int)) (by decide) rfl ?_
  intro p e s m args below meth c s₁ B hml hv
  obtain ⟨rfl, hP, hK, hX⟩ := hv
  have hx := B.exec
  have hb := B.bytes
  have hr := B.returns
  have hts := atoms_spec (ws := w_s_placeOf1) B.pre
  have hown : s.vm.findClass RX1 = some m.cls := findClass_of_methodNamed B.named
  have hlocks := B.notSynchronized
  have hS : va_S A s.heap s.heap [] := va_S.rf
  have hP : va_P (dC, dI) vwCl [(jC, .inr (1, [.ref hF, .ref jK, .ref d2, .ref d3, .ref d4, .ref d5, .ref d6, .ref d7, .ref d8, .ref d9, .ref d10, .ref d11, .ref d12, .ref d13, .ref ru, .long dr, .int pr, .int mo, .int ho])), (d2, .inl (w2, 10, .inl e2)), (d3, .inl (w3, 10, .inl e3)), (d4, .inl (w4, 10, .inl e4)), (d5, .inl (w5, 10, .inl e5)), (d6, .inl (w6, 10, .inl e6)), (d7, .inl (w7, 10, .inl e7)), (d8, .inl (w8, 10, .inl e8)), (d9, .inl (w9, 10, .inl e9)), (d10, .inl (w10, 4, .inl e10)), (d11, .inl (w11, 4, .inl e11)), (d12, .inl (w12, 4, .inl e12)), (d13, .inl (w13, 9, .inr (.inl e13))), (hF, .inr (2, [.ref f0, .ref f1, .ref f2, .ref f3, .ref f4, .int sn, .int (nI (ks)), .int (nI (kw))])), (f0, .inl (z0, 10, .inl g0)), (f1, .inl (z1, 10, .inl g1)), (f2, .inl (z2, 10, .inl g2)), (f3, .inl (z3, 10, .inl g3)), (f4, .inl (z4, 4, .inl g4)), (jK, .inr (5, [.ref k0, .ref k1])), (k0, .inl (cK, 8, .inl l0)), (k1, .inl (cO, 32, .inl l1))] s.heap := hP
  have hl := lv_entry ([.ref jC, .int p0]) (n := 2) (Nat.le_of_ble_eq_true rfl)
  rw [lg_entry_eq]
  generalize (lg_sl ([.ref jC, .int p0]) ++ List.replicate (2 - (lg_sl ([.ref jC, .int p0])).length) Slot.unset).toArray = ls at hl ⊢
  have hl : lv_has ls 2 [(0, .ref jC), (1, .int p0)] := hl
  refine kQ (fun Q hQ => ?_)
  refine lv_aload_n hx hb dX1_placeOf_0 rfl (lv_at hl 0 rfl) ?_
  refine va_get (D := (dC, dI)) (ci := 1) (v := .ref hF) (C := RX1) (T := TX1) (N := 19) hx hb hts (fun _ h => List.mem_cons_of_mem _ (List.mem_append_right _ (List.mem_append_left _ h))) hown hK hP 0 rfl rfl 0 kc_l_0_19 (hts (.fieldLink RX1 67 "NotEnded$Course" "folk" "LNotEnded$Folk;") (List.mem_cons_of_mem _ (List.mem_append_left _ (List.mem_of_getElem? (i := 0) rfl)))) (fun _ h9 => h9) rfl dX1_placeOf_1 ?_
  refine lv_iload_n hx hb dX1_placeOf_4 rfl (lv_at hl 1 rfl) ?_
  have hPc := hP.sb (ws2 := [(hF, .inr (2, [.ref f0, .ref f1, .ref f2, .ref f3, .ref f4, .int sn, .int (nI (ks)), .int (nI (kw))])), (f0, .inl (z0, 10, .inl g0)), (f1, .inl (z1, 10, .inl g1)), (f2, .inl (z2, 10, .inl g2)), (f3, .inl (z3, 10, .inl g3)), (f4, .inl (z4, 4, .inl g4))]) [13, 14, 15, 16, 17, 18] rfl
  have hKc := hK.sb (tys2 := [(z0, .int), (z1, .int), (z2, .int), (z3, .int), (z4, .int)]) [12, 13, 14, 15, 16] rfl
  refine vp_callSi (va_runV (As := [.int p0]) (rest := []) ⟨hx, hb, hml, hown, hts⟩ (s_has2 l dC dI hF f0 f1 f2 f3 f4 z0 z1 z2 z3 z4 g0 g1 g2 g3 g4 sn ks kw hks hkw p0) (cwV 1 hts (kG (List.forall_mem_cons.mpr ⟨(List.mem_cons_of_mem _ (List.mem_append_left _ (List.mem_of_getElem? (i := 4) rfl))), (List.forall_mem_cons.mpr ⟨(List.mem_cons_of_mem _ (List.mem_append_left _ (List.mem_of_getElem? (i := 3) rfl))), (List.forall_mem_cons.mpr ⟨(List.mem_cons_of_mem _ (List.mem_append_left _ (List.mem_of_getElem? (i := 2) rfl))), (List.forall_mem_cons.mpr ⟨(List.mem_cons_of_mem _ (List.mem_append_left _ (List.mem_of_getElem? (i := 1) rfl))), (fun _ h => absurd h List.not_mem_nil)⟩)⟩)⟩)⟩) (kGV _ _ _ _) (fun _ h => List.mem_cons_of_mem _ (List.mem_append_right _ (List.mem_append_right _ h))) gw_s_has2) rfl rfl rfl ⟨rfl, hd_X2_has⟩ ⟨(Nat.le_of_ble_eq_true rfl), (Nat.le_of_ble_eq_true rfl)⟩) (kR_V kT_blind kT_give (va_recv hKc hPc (ci := 2) (q0 := 0) rfl rfl) hPc hKc) rfl rfl hl.1 rfl (lv_room (Nat.le_of_ble_eq_true rfl)) dX1_placeOf_5 ⟨(Nat.le_of_ble_eq_true rfl), (Nat.le_of_ble_eq_true rfl)⟩).run (fun r_1 hw => ?_)
  have hw_2 := hw
  refine lv_if_eq (tgt := 20) hx hb dX1_placeOf_8 kc_t_8_12 (fun c_3 => ?_) (fun c_3 => ?_)
  · refine lv_sipush (v := (-1000)) hx hb dX1_placeOf_20 kc_s_m1000 ?_
    rw [hQ]
    exact W.iret (v := (-1000)) hx hb hr (fun t ht hW => ⟨(-1000), rfl, trivial, ht⟩) (fun _ h => nomatch h) dX1_placeOf_23
  · obtain ⟨j_4, hj_4, ej_4⟩ := hw_2 c_3
    subst ej_4
    refine lv_aload_n hx hb dX1_placeOf_11 rfl (lv_at hl 0 rfl) ?_
    refine va_get (D := (dC, dI)) (ci := 1) (v := .ref d4) (C := RX1) (T := TX1) (N := 19) hx hb hts (fun _ h => List.mem_cons_of_mem _ (List.mem_append_right _ (List.mem_append_left _ h))) hown hK hP 0 rfl rfl 4 kc_l_4_19 (hts (.fieldLink RX1 18 "NotEnded$Course" "places" "[I") (List.mem_cons_of_mem _ (List.mem_append_left _ (List.mem_of_getElem? (i := 5) rfl)))) (fun _ h9 => h9) rfl dX1_placeOf_12 ?_
    refine lv_iload_n hx hb dX1_placeOf_15 rfl (lv_at hl 1 rfl) ?_
    have bd_5 : j_4 < 10 := by omega
    refine va_iald hx hb hK hP 3 2 rfl rfl (vp_in_nI (n := j_4) (N := 10) bd_5 kc_31_10) dX1_placeOf_16 ?_
    refine lv_topi (fun x_6 ex_6 => ?_)
    refine lv_goto (tgt := 23) hx hb dX1_placeOf_17 kc_t_17_6 ?_
    rw [hQ]
    exact W.iret (v := x_6) hx hb hr (fun t ht hW => ⟨x_6, rfl, trivial, ht⟩) (fun _ h => nomatch h) dX1_placeOf_23

theorem dX1_tellsSince_0 : decode cX1_tellsSince 0 = .ok (.aload_n 0, 1) := kDs0 kf_42 (by decide +kernel)
theorem dX1_tellsSince_1 : decode cX1_tellsSince 1 = .ok (.getfield 67, 3) := kDs2 kf_180 (by decide +kernel)
theorem dX1_tellsSince_4 : decode cX1_tellsSince 4 = .ok (.iload_n 1, 1) := kDs0 kf_27 (by decide +kernel)
theorem dX1_tellsSince_5 : decode cX1_tellsSince 5 = .ok (.invokevirtual 94, 3) := kDs2 kf_182 (by decide +kernel)
theorem dX1_tellsSince_8 : decode cX1_tellsSince 8 = .ok (.ifCond .eq 12, 3) := kDs4 kf_153 (by decide +kernel)
theorem dX1_tellsSince_23 : decode cX1_tellsSince 23 = .ok (.ireturn, 1) := kDs0 kf_172 (by decide +kernel)
theorem dX1_tellsSince_11 : decode cX1_tellsSince 11 = .ok (.aload_n 0, 1) := kDs0 kf_42 (by decide +kernel)
theorem dX1_tellsSince_12 : decode cX1_tellsSince 12 = .ok (.getfield 21, 3) := kDs2 kf_180 (by decide +kernel)
theorem dX1_tellsSince_15 : decode cX1_tellsSince 15 = .ok (.iload_n 1, 1) := kDs0 kf_27 (by decide +kernel)
theorem dX1_tellsSince_16 : decode cX1_tellsSince 16 = .ok (.iaload, 1) := kDs0 kf_46 (by decide +kernel)
theorem dX1_tellsSince_17 : decode cX1_tellsSince 17 = .ok (.goto 6, 3) := kDs4 kf_167 (by decide +kernel)
theorem hd_X1_tellsSince : yX1_tellsSince.cls ≠ "java/lang/invoke/MethodHandle" ∧ yX1_tellsSince.cls ≠ "java/lang/invoke/VarHandle" ∧ (parseMethodDescriptor yX1_tellsSince.desc).map (fun d => d.parameters.length) = some 1 := by decide +kernel
theorem dX1_howManyAreHome_0 : decode cX1_howManyAreHome 0 = .ok (.iconst 0, 1) := kDs0 kf_3 (by decide +kernel)
theorem dX1_howManyAreHome_1 : decode cX1_howManyAreHome 1 = .ok (.istore_n 1, 1) := kDs0 kf_60 (by decide +kernel)
theorem dX1_howManyAreHome_2 : decode cX1_howManyAreHome 2 = .ok (.iconst 0, 1) := kDs0 kf_3 (by decide +kernel)
theorem dX1_howManyAreHome_3 : decode cX1_howManyAreHome 3 = .ok (.istore_n 2, 1) := kDs0 kf_61 (by decide +kernel)
theorem dX1_howManyAreHome_4 : decode cX1_howManyAreHome 4 = .ok (.iload_n 2, 1) := kDs0 kf_28 (by decide +kernel)
theorem dX1_howManyAreHome_5 : decode cX1_howManyAreHome 5 = .ok (.aload_n 0, 1) := kDs0 kf_42 (by decide +kernel)
theorem dX1_howManyAreHome_6 : decode cX1_howManyAreHome 6 = .ok (.getfield 67, 3) := kDs2 kf_180 (by decide +kernel)
theorem dX1_howManyAreHome_9 : decode cX1_howManyAreHome 9 = .ok (.invokevirtual 84, 3) := kDs2 kf_182 (by decide +kernel)
theorem dX1_howManyAreHome_12 : decode cX1_howManyAreHome 12 = .ok (.if_icmp .ge 33, 3) := kDs4 kf_162 (by decide +kernel)
theorem dX1_howManyAreHome_45 : decode cX1_howManyAreHome 45 = .ok (.iload_n 1, 1) := kDs0 kf_27 (by decide +kernel)
theorem dX1_howManyAreHome_46 : decode cX1_howManyAreHome 46 = .ok (.ireturn, 1) := kDs0 kf_172 (by decide +kernel)
theorem dX1_howManyAreHome_15 : decode cX1_howManyAreHome 15 = .ok (.aload_n 0, 1) := kDs0 kf_42 (by decide +kernel)
theorem dX1_howManyAreHome_16 : decode cX1_howManyAreHome 16 = .ok (.getfield 57, 3) := kDs2 kf_180 (by decide +kernel)
theorem dX1_howManyAreHome_19 : decode cX1_howManyAreHome 19 = .ok (.iload_n 2, 1) := kDs0 kf_28 (by decide +kernel)
theorem dX1_howManyAreHome_20 : decode cX1_howManyAreHome 20 = .ok (.invokestatic 116, 3) := kDs2 kf_184 (by decide +kernel)
theorem dX1_howManyAreHome_23 : decode cX1_howManyAreHome 23 = .ok (.ifCond .eq 16, 3) := kDs4 kf_153 (by decide +kernel)
theorem dX1_howManyAreHome_39 : decode cX1_howManyAreHome 39 = .ok (.iinc 2 1, 3) := kDs5 kf_132 (by decide +kernel)
theorem dX1_howManyAreHome_42 : decode cX1_howManyAreHome 42 = .ok (.goto (-38), 3) := kDs4 kf_167 (by decide +kernel)
theorem dX1_howManyAreHome_26 : decode cX1_howManyAreHome 26 = .ok (.aload_n 0, 1) := kDs0 kf_42 (by decide +kernel)
theorem dX1_howManyAreHome_27 : decode cX1_howManyAreHome 27 = .ok (.getfield 18, 3) := kDs2 kf_180 (by decide +kernel)
theorem dX1_howManyAreHome_30 : decode cX1_howManyAreHome 30 = .ok (.iload_n 2, 1) := kDs0 kf_28 (by decide +kernel)
theorem dX1_howManyAreHome_31 : decode cX1_howManyAreHome 31 = .ok (.iaload, 1) := kDs0 kf_46 (by decide +kernel)
theorem dX1_howManyAreHome_32 : decode cX1_howManyAreHome 32 = .ok (.iconst (-1), 1) := kDs0 kf_2 (by decide +kernel)
theorem dX1_howManyAreHome_33 : decode cX1_howManyAreHome 33 = .ok (.if_icmp .ne 6, 3) := kDs4 kf_160 (by decide +kernel)
theorem dX1_howManyAreHome_36 : decode cX1_howManyAreHome 36 = .ok (.iinc 1 1, 3) := kDs5 kf_132 (by decide +kernel)
theorem hd_X1_howManyAreHome : yX1_howManyAreHome.cls ≠ "java/lang/invoke/MethodHandle" ∧ yX1_howManyAreHome.cls ≠ "java/lang/invoke/VarHandle" ∧ (parseMethodDescriptor yX1_howManyAreHome.desc).map (fun d => d.parameters.length) = some 0 := by decide +kernel
theorem dX1_whoGaveUp_0 : decode cX1_whoGaveUp 0 = .ok (.iconst 0, 1) := kDs0 kf_3 (by decide +kernel)
theorem dX1_whoGaveUp_1 : decode cX1_whoGaveUp 1 = .ok (.istore_n 1, 1) := kDs0 kf_60 (by decide +kernel)
theorem dX1_whoGaveUp_2 : decode cX1_whoGaveUp 2 = .ok (.iconst 0, 1) := kDs0 kf_3 (by decide +kernel)
theorem dX1_whoGaveUp_3 : decode cX1_whoGaveUp 3 = .ok (.istore_n 2, 1) := kDs0 kf_61 (by decide +kernel)
theorem dX1_whoGaveUp_4 : decode cX1_whoGaveUp 4 = .ok (.iload_n 2, 1) := kDs0 kf_28 (by decide +kernel)
theorem dX1_whoGaveUp_5 : decode cX1_whoGaveUp 5 = .ok (.aload_n 0, 1) := kDs0 kf_42 (by decide +kernel)
theorem dX1_whoGaveUp_6 : decode cX1_whoGaveUp 6 = .ok (.getfield 67, 3) := kDs2 kf_180 (by decide +kernel)
theorem dX1_whoGaveUp_9 : decode cX1_whoGaveUp 9 = .ok (.invokevirtual 84, 3) := kDs2 kf_182 (by decide +kernel)
theorem dX1_whoGaveUp_12 : decode cX1_whoGaveUp 12 = .ok (.if_icmp .ge 37, 3) := kDs4 kf_162 (by decide +kernel)
theorem dX1_whoGaveUp_49 : decode cX1_whoGaveUp 49 = .ok (.iload_n 1, 1) := kDs0 kf_27 (by decide +kernel)
theorem dX1_whoGaveUp_50 : decode cX1_whoGaveUp 50 = .ok (.ireturn, 1) := kDs0 kf_172 (by decide +kernel)
theorem dX1_whoGaveUp_15 : decode cX1_whoGaveUp 15 = .ok (.aload_n 0, 1) := kDs0 kf_42 (by decide +kernel)
theorem dX1_whoGaveUp_16 : decode cX1_whoGaveUp 16 = .ok (.getfield 57, 3) := kDs2 kf_180 (by decide +kernel)
theorem dX1_whoGaveUp_19 : decode cX1_whoGaveUp 19 = .ok (.iload_n 2, 1) := kDs0 kf_28 (by decide +kernel)
theorem dX1_whoGaveUp_20 : decode cX1_whoGaveUp 20 = .ok (.invokestatic 116, 3) := kDs2 kf_184 (by decide +kernel)
theorem dX1_whoGaveUp_23 : decode cX1_whoGaveUp 23 = .ok (.ifCond .eq 20, 3) := kDs4 kf_153 (by decide +kernel)
theorem dX1_whoGaveUp_43 : decode cX1_whoGaveUp 43 = .ok (.iinc 2 1, 3) := kDs5 kf_132 (by decide +kernel)
theorem dX1_whoGaveUp_46 : decode cX1_whoGaveUp 46 = .ok (.goto (-42), 3) := kDs4 kf_167 (by decide +kernel)
theorem dX1_whoGaveUp_26 : decode cX1_whoGaveUp 26 = .ok (.aload_n 0, 1) := kDs0 kf_42 (by decide +kernel)
theorem dX1_whoGaveUp_27 : decode cX1_whoGaveUp 27 = .ok (.getfield 9, 3) := kDs2 kf_180 (by decide +kernel)
theorem dX1_whoGaveUp_30 : decode cX1_whoGaveUp 30 = .ok (.iload_n 2, 1) := kDs0 kf_28 (by decide +kernel)
theorem dX1_whoGaveUp_31 : decode cX1_whoGaveUp 31 = .ok (.iaload, 1) := kDs0 kf_46 (by decide +kernel)
theorem dX1_whoGaveUp_32 : decode cX1_whoGaveUp 32 = .ok (.bipush 20, 2) := kDs3 kf_16 (by decide +kernel)
theorem dX1_whoGaveUp_34 : decode cX1_whoGaveUp 34 = .ok (.if_icmp .ge 9, 3) := kDs4 kf_162 (by decide +kernel)
theorem dX1_whoGaveUp_37 : decode cX1_whoGaveUp 37 = .ok (.iload_n 1, 1) := kDs0 kf_27 (by decide +kernel)
theorem dX1_whoGaveUp_38 : decode cX1_whoGaveUp 38 = .ok (.iconst 1, 1) := kDs0 kf_4 (by decide +kernel)
theorem dX1_whoGaveUp_39 : decode cX1_whoGaveUp 39 = .ok (.iload_n 2, 1) := kDs0 kf_28 (by decide +kernel)
theorem dX1_whoGaveUp_40 : decode cX1_whoGaveUp 40 = .ok (.ishl, 1) := kDs0 kf_120 (by decide +kernel)
theorem dX1_whoGaveUp_41 : decode cX1_whoGaveUp 41 = .ok (.ior, 1) := kDs0 kf_128 (by decide +kernel)
theorem dX1_whoGaveUp_42 : decode cX1_whoGaveUp 42 = .ok (.istore_n 1, 1) := kDs0 kf_60 (by decide +kernel)
theorem hd_X1_whoGaveUp : yX1_whoGaveUp.cls ≠ "java/lang/invoke/MethodHandle" ∧ yX1_whoGaveUp.cls ≠ "java/lang/invoke/VarHandle" ∧ (parseMethodDescriptor yX1_whoGaveUp.desc).map (fun d => d.parameters.length) = some 0 := by decide +kernel
theorem dX1_whoHoldsOn_0 : decode cX1_whoHoldsOn 0 = .ok (.iconst 0, 1) := kDs0 kf_3 (by decide +kernel)
theorem dX1_whoHoldsOn_1 : decode cX1_whoHoldsOn 1 = .ok (.istore_n 1, 1) := kDs0 kf_60 (by decide +kernel)
theorem dX1_whoHoldsOn_2 : decode cX1_whoHoldsOn 2 = .ok (.iconst 0, 1) := kDs0 kf_3 (by decide +kernel)
theorem dX1_whoHoldsOn_3 : decode cX1_whoHoldsOn 3 = .ok (.istore_n 2, 1) := kDs0 kf_61 (by decide +kernel)
theorem dX1_whoHoldsOn_4 : decode cX1_whoHoldsOn 4 = .ok (.iload_n 2, 1) := kDs0 kf_28 (by decide +kernel)
theorem dX1_whoHoldsOn_5 : decode cX1_whoHoldsOn 5 = .ok (.aload_n 0, 1) := kDs0 kf_42 (by decide +kernel)
theorem dX1_whoHoldsOn_6 : decode cX1_whoHoldsOn 6 = .ok (.getfield 67, 3) := kDs2 kf_180 (by decide +kernel)
theorem dX1_whoHoldsOn_9 : decode cX1_whoHoldsOn 9 = .ok (.invokevirtual 84, 3) := kDs2 kf_182 (by decide +kernel)
theorem dX1_whoHoldsOn_12 : decode cX1_whoHoldsOn 12 = .ok (.if_icmp .ge 37, 3) := kDs4 kf_162 (by decide +kernel)
theorem dX1_whoHoldsOn_49 : decode cX1_whoHoldsOn 49 = .ok (.iload_n 1, 1) := kDs0 kf_27 (by decide +kernel)
theorem dX1_whoHoldsOn_50 : decode cX1_whoHoldsOn 50 = .ok (.ireturn, 1) := kDs0 kf_172 (by decide +kernel)
theorem dX1_whoHoldsOn_15 : decode cX1_whoHoldsOn 15 = .ok (.aload_n 0, 1) := kDs0 kf_42 (by decide +kernel)
theorem dX1_whoHoldsOn_16 : decode cX1_whoHoldsOn 16 = .ok (.getfield 61, 3) := kDs2 kf_180 (by decide +kernel)
theorem dX1_whoHoldsOn_19 : decode cX1_whoHoldsOn 19 = .ok (.iload_n 2, 1) := kDs0 kf_28 (by decide +kernel)
theorem dX1_whoHoldsOn_20 : decode cX1_whoHoldsOn 20 = .ok (.invokestatic 116, 3) := kDs2 kf_184 (by decide +kernel)
theorem dX1_whoHoldsOn_23 : decode cX1_whoHoldsOn 23 = .ok (.ifCond .eq 20, 3) := kDs4 kf_153 (by decide +kernel)
theorem dX1_whoHoldsOn_43 : decode cX1_whoHoldsOn 43 = .ok (.iinc 2 1, 3) := kDs5 kf_132 (by decide +kernel)
theorem dX1_whoHoldsOn_46 : decode cX1_whoHoldsOn 46 = .ok (.goto (-42), 3) := kDs4 kf_167 (by decide +kernel)
theorem dX1_whoHoldsOn_26 : decode cX1_whoHoldsOn 26 = .ok (.aload_n 0, 1) := kDs0 kf_42 (by decide +kernel)
theorem dX1_whoHoldsOn_27 : decode cX1_whoHoldsOn 27 = .ok (.getfield 9, 3) := kDs2 kf_180 (by decide +kernel)
theorem dX1_whoHoldsOn_30 : decode cX1_whoHoldsOn 30 = .ok (.iload_n 2, 1) := kDs0 kf_28 (by decide +kernel)
theorem dX1_whoHoldsOn_31 : decode cX1_whoHoldsOn 31 = .ok (.iaload, 1) := kDs0 kf_46 (by decide +kernel)
theorem dX1_whoHoldsOn_32 : decode cX1_whoHoldsOn 32 = .ok (.bipush 50, 2) := kDs3 kf_16 (by decide +kernel)
theorem dX1_whoHoldsOn_34 : decode cX1_whoHoldsOn 34 = .ok (.if_icmp .lt 9, 3) := kDs4 kf_161 (by decide +kernel)
theorem dX1_whoHoldsOn_37 : decode cX1_whoHoldsOn 37 = .ok (.iload_n 1, 1) := kDs0 kf_27 (by decide +kernel)
theorem dX1_whoHoldsOn_38 : decode cX1_whoHoldsOn 38 = .ok (.iconst 1, 1) := kDs0 kf_4 (by decide +kernel)
theorem dX1_whoHoldsOn_39 : decode cX1_whoHoldsOn 39 = .ok (.iload_n 2, 1) := kDs0 kf_28 (by decide +kernel)
theorem dX1_whoHoldsOn_40 : decode cX1_whoHoldsOn 40 = .ok (.ishl, 1) := kDs0 kf_120 (by decide +kernel)
theorem dX1_whoHoldsOn_41 : decode cX1_whoHoldsOn 41 = .ok (.ior, 1) := kDs0 kf_128 (by decide +kernel)
theorem dX1_whoHoldsOn_42 : decode cX1_whoHoldsOn 42 = .ok (.istore_n 1, 1) := kDs0 kf_60 (by decide +kernel)
theorem hd_X1_whoHoldsOn : yX1_whoHoldsOn.cls ≠ "java/lang/invoke/MethodHandle" ∧ yX1_whoHoldsOn.cls ≠ "java/lang/invoke/VarHandle" ∧ (parseMethodDescriptor yX1_whoHoldsOn.desc).map (fun d => d.parameters.length) = some 0 := by decide +kernel
theorem dX1_housesThatTold_0 : decode cX1_housesThatTold 0 = .ok (.iconst 0, 1) := kDs0 kf_3 (by decide +kernel)
theorem dX1_housesThatTold_1 : decode cX1_housesThatTold 1 = .ok (.istore_n 1, 1) := kDs0 kf_60 (by decide +kernel)
theorem dX1_housesThatTold_2 : decode cX1_housesThatTold 2 = .ok (.iconst 0, 1) := kDs0 kf_3 (by decide +kernel)
theorem dX1_housesThatTold_3 : decode cX1_housesThatTold 3 = .ok (.istore_n 2, 1) := kDs0 kf_61 (by decide +kernel)
theorem dX1_housesThatTold_4 : decode cX1_housesThatTold 4 = .ok (.iload_n 2, 1) := kDs0 kf_28 (by decide +kernel)
theorem dX1_housesThatTold_5 : decode cX1_housesThatTold 5 = .ok (.aload_n 0, 1) := kDs0 kf_42 (by decide +kernel)
theorem dX1_housesThatTold_6 : decode cX1_housesThatTold 6 = .ok (.getfield 67, 3) := kDs2 kf_180 (by decide +kernel)
theorem dX1_housesThatTold_9 : decode cX1_housesThatTold 9 = .ok (.invokevirtual 84, 3) := kDs2 kf_182 (by decide +kernel)
theorem dX1_housesThatTold_12 : decode cX1_housesThatTold 12 = .ok (.if_icmp .ge 33, 3) := kDs4 kf_162 (by decide +kernel)
theorem dX1_housesThatTold_45 : decode cX1_housesThatTold 45 = .ok (.iload_n 1, 1) := kDs0 kf_27 (by decide +kernel)
theorem dX1_housesThatTold_46 : decode cX1_housesThatTold 46 = .ok (.ireturn, 1) := kDs0 kf_172 (by decide +kernel)
theorem dX1_housesThatTold_15 : decode cX1_housesThatTold 15 = .ok (.aload_n 0, 1) := kDs0 kf_42 (by decide +kernel)
theorem dX1_housesThatTold_16 : decode cX1_housesThatTold 16 = .ok (.getfield 21, 3) := kDs2 kf_180 (by decide +kernel)
theorem dX1_housesThatTold_19 : decode cX1_housesThatTold 19 = .ok (.iload_n 2, 1) := kDs0 kf_28 (by decide +kernel)
theorem dX1_housesThatTold_20 : decode cX1_housesThatTold 20 = .ok (.iaload, 1) := kDs0 kf_46 (by decide +kernel)
theorem dX1_housesThatTold_21 : decode cX1_housesThatTold 21 = .ok (.iconst (-1), 1) := kDs0 kf_2 (by decide +kernel)
theorem dX1_housesThatTold_22 : decode cX1_housesThatTold 22 = .ok (.if_icmp .eq 17, 3) := kDs4 kf_159 (by decide +kernel)
theorem dX1_housesThatTold_39 : decode cX1_housesThatTold 39 = .ok (.iinc 2 1, 3) := kDs5 kf_132 (by decide +kernel)
theorem dX1_housesThatTold_42 : decode cX1_housesThatTold 42 = .ok (.goto (-38), 3) := kDs4 kf_167 (by decide +kernel)
theorem dX1_housesThatTold_25 : decode cX1_housesThatTold 25 = .ok (.iload_n 1, 1) := kDs0 kf_27 (by decide +kernel)
theorem dX1_housesThatTold_26 : decode cX1_housesThatTold 26 = .ok (.iconst 1, 1) := kDs0 kf_4 (by decide +kernel)
theorem dX1_housesThatTold_27 : decode cX1_housesThatTold 27 = .ok (.aload_n 0, 1) := kDs0 kf_42 (by decide +kernel)
theorem dX1_housesThatTold_28 : decode cX1_housesThatTold 28 = .ok (.getfield 67, 3) := kDs2 kf_180 (by decide +kernel)
theorem dX1_housesThatTold_31 : decode cX1_housesThatTold 31 = .ok (.getfield 91, 3) := kDs2 kf_180 (by decide +kernel)
theorem dX1_housesThatTold_34 : decode cX1_housesThatTold 34 = .ok (.iload_n 2, 1) := kDs0 kf_28 (by decide +kernel)
theorem dX1_housesThatTold_35 : decode cX1_housesThatTold 35 = .ok (.iaload, 1) := kDs0 kf_46 (by decide +kernel)
theorem dX1_housesThatTold_36 : decode cX1_housesThatTold 36 = .ok (.ishl, 1) := kDs0 kf_120 (by decide +kernel)
theorem dX1_housesThatTold_37 : decode cX1_housesThatTold 37 = .ok (.ior, 1) := kDs0 kf_128 (by decide +kernel)
theorem dX1_housesThatTold_38 : decode cX1_housesThatTold 38 = .ok (.istore_n 1, 1) := kDs0 kf_60 (by decide +kernel)
def w_s_housesThatTold1 : List Cond := .code yX1_housesThatTold cX1_housesThatTold 3 (some .int) :: ([.fieldLink RX1 67 "NotEnded$Course" "folk" "LNotEnded$Folk;", .initialized RX2, .selects RX2 yX2_size yX2_size, .instanceMethod yX2_size, .methodLink RX1 84 yX2_size, .fieldLink RX1 21 "NotEnded$Course" "tellsSince" "[I"] ++ (wsX10 ++ (w_s_size2 ++ (wsX20))))
theorem gw_s_housesThatTold1 : (w_s_housesThatTold1).all goodWord = true := kGc rfl (kGa (by decide +kernel) (kGa gw_wsX10 (kGa gw_s_size2 gw_wsX20)))
theorem hd_X1_housesThatTold : yX1_housesThatTold.cls ≠ "java/lang/invoke/MethodHandle" ∧ yX1_housesThatTold.cls ≠ "java/lang/invoke/VarHandle" ∧ (parseMethodDescriptor yX1_housesThatTold.desc).map (fun d => d.parameters.length) = some 0 := by decide +kernel
set_option maxHeartbeats 4000000 in
set_option maxRecDepth 100000 in
theorem s_housesThatTold1 (l : Launch) (dC : Nat → ClassId) (dI : Nat → Nat → Nat) (jC : Nat) (d2 : Nat) (d3 : Nat) (d4 : Nat) (d5 : Nat) (d6 : Nat) (d7 : Nat) (d8 : Nat) (d9 : Nat) (d10 : Nat) (d11 : Nat) (d12 : Nat) (d13 : Nat) (w2 : ClassId) (w3 : ClassId) (w4 : ClassId) (w5 : ClassId) (w6 : ClassId) (w7 : ClassId) (w8 : ClassId) (w9 : ClassId) (w10 : ClassId) (w11 : ClassId) (w12 : ClassId) (w13 : ClassId) (e2 : Nat → Int32) (e3 : Nat → Int32) (e4 : Nat → Int32) (e5 : Nat → Int32) (e6 : Nat → Int32) (e7 : Nat → Int32) (e8 : Nat → Int32) (e9 : Nat → Int32) (e10 : Nat → Int32) (e11 : Nat → Int32) (e12 : Nat → Int32) (e13 : Nat → Int64) (dr : Int64) (pr : Int32) (mo : Int32) (ho : Int32) (hF : Nat) (f0 : Nat) (f1 : Nat) (f2 : Nat) (f3 : Nat) (f4 : Nat) (z0 : ClassId) (z1 : ClassId) (z2 : ClassId) (z3 : ClassId) (z4 : ClassId) (g0 : Nat → Int32) (g1 : Nat → Int32) (g2 : Nat → Int32) (g3 : Nat → Int32) (g4 : Nat → Int32) (sn : Int32) (ks : Nat) (kw : Nat) (hks : ks ≤ 10) (hkw : kw ≤ 4) (jK : Nat) (k0 : Nat) (k1 : Nat) (cK : ClassId) (cO : ClassId) (l0 : Nat → Int32) (l1 : Nat → Int32) (ru : Nat) (sA : Nat) (cl : Nat) (cS : ClassId) (cc : ClassId) (nS : Nat) (nC : Nat) (gS : Nat → Int32) (gC : Nat → Int32) (hnS : nS ≤ 200) (hnC : nC ≤ 200) (A : Nat → Prop) : Met l yX1_housesThatTold w_s_housesThatTold1 ({ frames := 3, cells := 0, slots := 0, locals := 180 }) (kR dC dI [.ref jC] [(jC, .inr (1, [.ref hF, .ref jK, .ref d2, .ref d3, .ref d4, .ref d5, .ref d6, .ref d7, .ref d8, .ref d9, .ref d10, .ref d11, .ref d12, .ref d13, .ref ru, .long dr, .int pr, .int mo, .int ho])), (d2, .inl (w2, 10, .inl e2)), (d3, .inl (w3, 10, .inl e3)), (d4, .inl (w4, 10, .inl e4)), (d5, .inl (w5, 10, .inl e5)), (d6, .inl (w6, 10, .inl e6)), (d7, .inl (w7, 10, .inl e7)), (d8, .inl (w8, 10, .inl e8)), (d9, .inl (w9, 10, .inl e9)), (d10, .inl (w10, 4, .inl e10)), (d11, .inl (w11, 4, .inl e11)), (d12, .inl (w12, 4, .inl e12)), (d13, .inl (w13, 9, .inr (.inl e13))), (hF, .inr (2, [.ref f0, .ref f1, .ref f2, .ref f3, .ref f4, .int sn, .int (nI (ks)), .int (nI (kw))])), (f0, .inl (z0, 10, .inl g0)), (f1, .inl (z1, 10, .inl g1)), (f2, .inl (z2, 10, .inl g2)), (f3, .inl (z3, 10, .inl g3)), (f4, .inl (z4, 4, .inl g4)), (jK, .inr (5, [.ref k0, .ref k1])), (k0, .inl (cK, 8, .inl l0)), (k1, .inl (cO, 32, .inl l1))] [(w2, .int), (w3, .int), (w4, .int), (w5, .int), (w6, .int), (w7, .int), (w8, .int), (w9, .int), (w10, .int), (w11, .int), (w12, .int), (w13, .long), (z0, .int), (z1, .int), (z2, .int), (z3, .int), (z4, .int), (cK, .int), (cO, .int), (cS, .int), (cc, .int)] (kNF dC dI [(ru, .inr (6, [.ref sA, .ref cl])), (sA, .inl (cS, nS, .inl gS)), (cl, .inl (cc, nC, .inl gC))] A)) (vp_Si (fun r : Int32 => True)) 0 0 (fun _ => False) := by
  refine Met.ofW (cc := cX1_housesThatTold) (maxL := 3) (ret := (some .int)) (by decide) rfl ?_
  intro p e s m args below meth c s₁ B hml hv
  obtain ⟨rfl, hP, hK, hX⟩ := hv
  have hx := B.exec
  have hb := B.bytes
  have hr := B.returns
  have hts := atoms_spec (ws := w_s_housesThatTold1) B.pre
  have hown : s.vm.findClass RX1 = some m.cls := findClass_of_methodNamed B.named
  have hlocks := B.notSynchronized
  have hS : va_S A s.heap s.heap [] := va_S.rf
  have hP : va_P (dC, dI) vwCl [(jC, .inr (1, [.ref hF, .ref jK, .ref d2, .ref d3, .ref d4, .ref d5, .ref d6, .ref d7, .ref d8, .ref d9, .ref d10, .ref d11, .ref d12, .ref d13, .ref ru, .long dr, .int pr, .int mo, .int ho])), (d2, .inl (w2, 10, .inl e2)), (d3, .inl (w3, 10, .inl e3)), (d4, .inl (w4, 10, .inl e4)), (d5, .inl (w5, 10, .inl e5)), (d6, .inl (w6, 10, .inl e6)), (d7, .inl (w7, 10, .inl e7)), (d8, .inl (w8, 10, .inl e8)), (d9, .inl (w9, 10, .inl e9)), (d10, .inl (w10, 4, .inl e10)), (d11, .inl (w11, 4, .inl e11)), (d12, .inl (w12, 4, .inl e12)), (d13, .inl (w13, 9, .inr (.inl e13))), (hF, .inr (2, [.ref f0, .ref f1, .ref f2, .ref f3, .ref f4, .int sn, .int (nI (ks)), .int (nI (kw))])), (f0, .inl (z0, 10, .inl g0)), (f1, .inl (z1, 10, .inl g1)), (f2, .inl (z2, 10, .inl g2)), (f3, .inl (z3, 10, .inl g3)), (f4, .inl (z4, 4, .inl g4)), (jK, .inr (5, [.ref k0, .ref k1])), (k0, .inl (cK, 8, .inl l0)), (k1, .inl (cO, 32, .inl l1))] s.heap := hP
  have hl := lv_entry ([.ref jC]) (n := 3) (Nat.le_of_ble_eq_true rfl)
  rw [lg_entry_eq]
  generalize (lg_sl ([.ref jC]) ++ List.replicate (3 - (lg_sl ([.ref jC])).length) Slot.unset).toArray = ls at hl ⊢
  have hl : lv_has ls 3 [(0, .ref jC)] := hl
  refine kQ (fun Q hQ => ?_)
  refine lv_iconst (v := 0) hx hb dX1_housesThatTold_0 kc_i_0 ?_
  refine lv_istore_n hx hb dX1_housesThatTold_1 rfl hl kc_l_1_3 (kTo [(1, .int 0), (0, .ref jC)]) (fun ls hl => ?_)
  refine lv_iconst (v := 0) hx hb dX1_housesThatTold_2 kc_i_0 ?_
  refine lv_istore_n hx hb dX1_housesThatTold_3 rfl hl kc_l_2_3 (kTo [(2, .int 0), (1, .int 0), (0, .ref jC)]) (fun ls hl => ?_)
  have lp_k_1 : ∀ (n9 : Nat) (i : Nat) (x1 : Int32) (ivk_1_0 : i ≤ ks) (ls : Array Slot) (_ : lv_has ls 3 [(2, .int (nI (i))), (1, .int x1), (0, .ref jC)]) (_ : ks - i < n9), W p l e (headSpec w_s_housesThatTold1 ({ frames := 3, cells := 0, slots := 0, locals := 180 })).room s m (#[.ref jC] : Array Value) below meth c s.heap [] 0 0 Q (F0 m 4 ls []) := by
    intro n9
    induction n9 with
    | zero => intro i x1 ivk_1_0 ls hl hm9; exact absurd hm9 (Nat.not_lt_zero _)
    | succ n9 ih_k_1 =>
      intro i x1 ivk_1_0 ls hl hm9
      refine lv_iload_n hx hb dX1_housesThatTold_4 rfl (lv_at hl 0 rfl) ?_
      refine lv_aload_n hx hb dX1_housesThatTold_5 rfl (lv_at hl 2 rfl) ?_
      refine va_get (D := (dC, dI)) (ci := 1) (v := .ref hF) (C := RX1) (T := TX1) (N := 19) hx hb hts (fun _ h => List.mem_cons_of_mem _ (List.mem_append_right _ (List.mem_append_left _ h))) hown hK hP 0 rfl rfl 0 kc_l_0_19 (hts (.fieldLink RX1 67 "NotEnded$Course" "folk" "LNotEnded$Folk;") (List.mem_cons_of_mem _ (List.mem_append_left _ (List.mem_of_getElem? (i := 0) rfl)))) (fun _ h9 => h9) rfl dX1_housesThatTold_6 ?_
      have hPc := hP.sb (ws2 := [(hF, .inr (2, [.ref f0, .ref f1, .ref f2, .ref f3, .ref f4, .int sn, .int (nI (ks)), .int (nI (kw))])), (f0, .inl (z0, 10, .inl g0)), (f1, .inl (z1, 10, .inl g1)), (f2, .inl (z2, 10, .inl g2)), (f3, .inl (z3, 10, .inl g3)), (f4, .inl (z4, 4, .inl g4))]) [13, 14, 15, 16, 17, 18] rfl
      have hKc := hK.sb (tys2 := [(z0, .int), (z1, .int), (z2, .int), (z3, .int), (z4, .int)]) [12, 13, 14, 15, 16] rfl
      refine vp_callSi (va_runV (As := []) (rest := [.int (nI (i))]) ⟨hx, hb, hml, hown, hts⟩ (s_size2 l dC dI hF f0 f1 f2 f3 f4 z0 z1 z2 z3 z4 g0 g1 g2 g3 g4 sn ks kw hks hkw) (cwV 0 hts (kG (List.forall_mem_cons.mpr ⟨(List.mem_cons_of_mem _ (List.mem_append_left _ (List.mem_of_getElem? (i := 4) rfl))), (List.forall_mem_cons.mpr ⟨(List.mem_cons_of_mem _ (List.mem_append_left _ (List.mem_of_getElem? (i := 3) rfl))), (List.forall_mem_cons.mpr ⟨(List.mem_cons_of_mem _ (List.mem_append_left _ (List.mem_of_getElem? (i := 2) rfl))), (List.forall_mem_cons.mpr ⟨(List.mem_cons_of_mem _ (List.mem_append_left _ (List.mem_of_getElem? (i := 1) rfl))), (fun _ h => absurd h List.not_mem_nil)⟩)⟩)⟩)⟩) (kGV _ _ _ _) (fun _ h => List.mem_cons_of_mem _ (List.mem_append_right _ (List.mem_append_right _ (List.mem_append_left _ h)))) gw_s_size2) rfl rfl rfl ⟨rfl, hd_X2_size⟩ ⟨(Nat.le_of_ble_eq_true rfl), (Nat.le_of_ble_eq_true rfl)⟩) (kR_V kT_blind kT_give (va_recv hKc hPc (ci := 2) (q0 := 0) rfl rfl) hPc hKc) rfl rfl hl.1 rfl (lv_room (Nat.le_of_ble_eq_true rfl)) dX1_housesThatTold_9 ⟨(Nat.le_of_ble_eq_true rfl), (Nat.le_of_ble_eq_true rfl)⟩).run (fun r_2 hw => ?_)
      obtain rfl : r_2 = nI (ks) := hw
      refine lv_icmp_ge (tgt := 45) hx hb dX1_housesThatTold_12 kc_t_12_33 (fun c_3 => ?_) (fun c_3 => ?_)
      · have bd_5 : ks < 2147483648 := by omega
        have bd_6 : i < 2147483648 := by omega
        have hn_4 := kle (a := ks) (b := i) bd_5 bd_6 c_3
        refine lv_iload_n hx hb dX1_housesThatTold_45 rfl (lv_at hl 1 rfl) ?_
        rw [hQ]
        exact W.iret (v := x1) hx hb hr (fun t ht hW => ⟨x1, rfl, trivial, ht⟩) (fun _ h => nomatch h) dX1_housesThatTold_46
      · have bd_8 : ks < 2147483648 := by omega
        have bd_9 : i < 2147483648 := by omega
        have hn_7 := knle (a := ks) (b := i) bd_8 bd_9 c_3
        refine lv_aload_n hx hb dX1_housesThatTold_15 rfl (lv_at hl 2 rfl) ?_
        refine va_get (D := (dC, dI)) (ci := 1) (v := .ref d5) (C := RX1) (T := TX1) (N := 19) hx hb hts (fun _ h => List.mem_cons_of_mem _ (List.mem_append_right _ (List.mem_append_left _ h))) hown hK hP 0 rfl rfl 5 kc_l_5_19 (hts (.fieldLink RX1 21 "NotEnded$Course" "tellsSince" "[I") (List.mem_cons_of_mem _ (List.mem_append_left _ (List.mem_of_getElem? (i := 5) rfl)))) (fun _ h9 => h9) rfl dX1_housesThatTold_16 ?_
        refine lv_iload_n hx hb dX1_housesThatTold_19 rfl (lv_at hl 0 rfl) ?_
        have bd_10 : i < 10 := by omega
        refine va_iald hx hb hK hP 4 3 rfl rfl (vp_in_nI (n := i) (N := 10) bd_10 kc_31_10) dX1_housesThatTold_20 ?_
        refine lv_topi (fun x_11 ex_11 => ?_)
        refine lv_iconst (v := (-1)) hx hb dX1_housesThatTold_21 kc_i_m1 ?_
        refine lv_icmp_eq (tgt := 39) hx hb dX1_housesThatTold_22 kc_t_22_17 (fun c_12 => ?_) (fun c_12 => ?_)
        · refine lv_iinc (v := nI (i + 1)) hx hb dX1_housesThatTold_39 hl (k := 0) rfl (kInc _ 1) kc_l_2_3 (kTo [(2, .int (nI (i + 1))), (1, .int x1), (0, .ref jC)]) (fun ls hl => ?_)
          refine lv_goto (tgt := 4) hx hb dX1_housesThatTold_42 kc_t_42_m38 ?_
          exact ih_k_1 (i + 1) x1 (by omega) ls (lv_sub hl [0, 1, 2] rfl) (by omega)
        · refine lv_iload_n hx hb dX1_housesThatTold_25 rfl (lv_at hl 1 rfl) ?_
          refine lv_iconst (v := 1) hx hb dX1_housesThatTold_26 kc_i_1 ?_
          refine lv_aload_n hx hb dX1_housesThatTold_27 rfl (lv_at hl 2 rfl) ?_
          refine va_get (D := (dC, dI)) (ci := 1) (v := .ref hF) (C := RX1) (T := TX1) (N := 19) hx hb hts (fun _ h => List.mem_cons_of_mem _ (List.mem_append_right _ (List.mem_append_left _ h))) hown hK hP 0 rfl rfl 0 kc_l_0_19 (hts (.fieldLink RX1 67 "NotEnded$Course" "folk" "LNotEnded$Folk;") (List.mem_cons_of_mem _ (List.mem_append_left _ (List.mem_of_getElem? (i := 0) rfl)))) (fun _ h9 => h9) rfl dX1_housesThatTold_28 ?_
          refine va_getN (D := (dC, dI)) (ci := 2) (v := .ref f2) (C := RX2) (T := TX2) (N := 8) hx hb hts (fun _ h => List.mem_cons_of_mem _ (List.mem_append_right _ (List.mem_append_right _ (List.mem_append_right _ h)))) hown hK hP 13 rfl rfl 2 kc_l_2_8 (va_Nw.use rfl (hX.2 _ (List.mem_of_getElem? (i := 5) rfl))) (fun _ h9 => h9) rfl dX1_housesThatTold_31 ?_
          refine lv_iload_n hx hb dX1_housesThatTold_34 rfl (lv_at hl 0 rfl) ?_
          refine va_iald hx hb hK hP 16 14 rfl rfl (vp_in_nI (n := i) (N := 10) bd_10 kc_31_10) dX1_housesThatTold_35 ?_
          refine lv_topi (fun x_13 ex_13 => ?_)
          refine lv_ishl hx hb dX1_housesThatTold_36 ?_
          refine lv_topi (fun x_14 ex_14 => ?_)
          refine lv_ior hx hb dX1_housesThatTold_37 ?_
          refine lv_topi (fun x_15 ex_15 => ?_)
          refine lv_istore_n hx hb dX1_housesThatTold_38 rfl hl kc_l_1_3 (kTo [(1, .int x_15), (2, .int (nI (i))), (0, .ref jC)]) (fun ls hl => ?_)
          refine lv_iinc (v := nI (i + 1)) hx hb dX1_housesThatTold_39 hl (k := 1) rfl (kInc _ 1) kc_l_2_3 (kTo [(2, .int (nI (i + 1))), (1, .int x_15), (0, .ref jC)]) (fun ls hl => ?_)
          refine lv_goto (tgt := 4) hx hb dX1_housesThatTold_42 kc_t_42_m38 ?_
          exact ih_k_1 (i + 1) x_15 (by omega) ls (lv_sub hl [0, 1, 2] rfl) (by omega)
  exact lp_k_1 (ks - 0 + 1) 0 0 (by omega) ls (lv_sub hl [0, 1, 2] rfl) (by omega)

theorem dX1_meanHeldIn_0 : decode cX1_meanHeldIn 0 = .ok (.iconst 0, 1) := kDs0 kf_3 (by decide +kernel)
theorem dX1_meanHeldIn_1 : decode cX1_meanHeldIn 1 = .ok (.istore_n 2, 1) := kDs0 kf_61 (by decide +kernel)
theorem dX1_meanHeldIn_2 : decode cX1_meanHeldIn 2 = .ok (.iconst 0, 1) := kDs0 kf_3 (by decide +kernel)
theorem dX1_meanHeldIn_3 : decode cX1_meanHeldIn 3 = .ok (.istore_n 3, 1) := kDs0 kf_62 (by decide +kernel)
theorem dX1_meanHeldIn_4 : decode cX1_meanHeldIn 4 = .ok (.iconst 0, 1) := kDs0 kf_3 (by decide +kernel)
theorem dX1_meanHeldIn_5 : decode cX1_meanHeldIn 5 = .ok (.istore 4, 2) := kDs1 kf_54 (by decide +kernel)
theorem dX1_meanHeldIn_7 : decode cX1_meanHeldIn 7 = .ok (.iload 4, 2) := kDs1 kf_21 (by decide +kernel)
theorem dX1_meanHeldIn_9 : decode cX1_meanHeldIn 9 = .ok (.aload_n 0, 1) := kDs0 kf_42 (by decide +kernel)
theorem dX1_meanHeldIn_10 : decode cX1_meanHeldIn 10 = .ok (.getfield 67, 3) := kDs2 kf_180 (by decide +kernel)
theorem dX1_meanHeldIn_13 : decode cX1_meanHeldIn 13 = .ok (.invokevirtual 84, 3) := kDs2 kf_182 (by decide +kernel)
theorem dX1_meanHeldIn_16 : decode cX1_meanHeldIn 16 = .ok (.if_icmp .ge 51, 3) := kDs4 kf_162 (by decide +kernel)
theorem dX1_meanHeldIn_67 : decode cX1_meanHeldIn 67 = .ok (.iload_n 2, 1) := kDs0 kf_28 (by decide +kernel)
theorem dX1_meanHeldIn_68 : decode cX1_meanHeldIn 68 = .ok (.ifCond .ne 7, 3) := kDs4 kf_154 (by decide +kernel)
theorem dX1_meanHeldIn_75 : decode cX1_meanHeldIn 75 = .ok (.iload_n 3, 1) := kDs0 kf_29 (by decide +kernel)
theorem dX1_meanHeldIn_76 : decode cX1_meanHeldIn 76 = .ok (.iload_n 2, 1) := kDs0 kf_28 (by decide +kernel)
theorem dX1_meanHeldIn_77 : decode cX1_meanHeldIn 77 = .ok (.idiv, 1) := kDs0 kf_108 (by decide +kernel)
theorem dX1_meanHeldIn_78 : decode cX1_meanHeldIn 78 = .ok (.ireturn, 1) := kDs0 kf_172 (by decide +kernel)
theorem dX1_meanHeldIn_71 : decode cX1_meanHeldIn 71 = .ok (.iconst 0, 1) := kDs0 kf_3 (by decide +kernel)
theorem dX1_meanHeldIn_72 : decode cX1_meanHeldIn 72 = .ok (.goto 6, 3) := kDs4 kf_167 (by decide +kernel)
theorem dX1_meanHeldIn_19 : decode cX1_meanHeldIn 19 = .ok (.aload_n 0, 1) := kDs0 kf_42 (by decide +kernel)
theorem dX1_meanHeldIn_20 : decode cX1_meanHeldIn 20 = .ok (.getfield 61, 3) := kDs2 kf_180 (by decide +kernel)
theorem dX1_meanHeldIn_23 : decode cX1_meanHeldIn 23 = .ok (.iload 4, 2) := kDs1 kf_21 (by decide +kernel)
theorem dX1_meanHeldIn_25 : decode cX1_meanHeldIn 25 = .ok (.invokestatic 116, 3) := kDs2 kf_184 (by decide +kernel)
theorem dX1_meanHeldIn_28 : decode cX1_meanHeldIn 28 = .ok (.ifCond .eq 33, 3) := kDs4 kf_153 (by decide +kernel)
theorem dX1_meanHeldIn_61 : decode cX1_meanHeldIn 61 = .ok (.iinc 4 1, 3) := kDs5 kf_132 (by decide +kernel)
theorem dX1_meanHeldIn_64 : decode cX1_meanHeldIn 64 = .ok (.goto (-57), 3) := kDs4 kf_167 (by decide +kernel)
theorem dX1_meanHeldIn_31 : decode cX1_meanHeldIn 31 = .ok (.iload_n 1, 1) := kDs0 kf_27 (by decide +kernel)
theorem dX1_meanHeldIn_32 : decode cX1_meanHeldIn 32 = .ok (.aload_n 0, 1) := kDs0 kf_42 (by decide +kernel)
theorem dX1_meanHeldIn_33 : decode cX1_meanHeldIn 33 = .ok (.getfield 67, 3) := kDs2 kf_180 (by decide +kernel)
theorem dX1_meanHeldIn_36 : decode cX1_meanHeldIn 36 = .ok (.getfield 91, 3) := kDs2 kf_180 (by decide +kernel)
theorem dX1_meanHeldIn_39 : decode cX1_meanHeldIn 39 = .ok (.iload 4, 2) := kDs1 kf_21 (by decide +kernel)
theorem dX1_meanHeldIn_41 : decode cX1_meanHeldIn 41 = .ok (.iaload, 1) := kDs0 kf_46 (by decide +kernel)
theorem dX1_meanHeldIn_42 : decode cX1_meanHeldIn 42 = .ok (.invokestatic 116, 3) := kDs2 kf_184 (by decide +kernel)
theorem dX1_meanHeldIn_45 : decode cX1_meanHeldIn 45 = .ok (.ifCond .eq 16, 3) := kDs4 kf_153 (by decide +kernel)
theorem dX1_meanHeldIn_48 : decode cX1_meanHeldIn 48 = .ok (.iinc 2 1, 3) := kDs5 kf_132 (by decide +kernel)
theorem dX1_meanHeldIn_51 : decode cX1_meanHeldIn 51 = .ok (.iload_n 3, 1) := kDs0 kf_29 (by decide +kernel)
theorem dX1_meanHeldIn_52 : decode cX1_meanHeldIn 52 = .ok (.aload_n 0, 1) := kDs0 kf_42 (by decide +kernel)
theorem dX1_meanHeldIn_53 : decode cX1_meanHeldIn 53 = .ok (.getfield 9, 3) := kDs2 kf_180 (by decide +kernel)
theorem dX1_meanHeldIn_56 : decode cX1_meanHeldIn 56 = .ok (.iload 4, 2) := kDs1 kf_21 (by decide +kernel)
theorem dX1_meanHeldIn_58 : decode cX1_meanHeldIn 58 = .ok (.iaload, 1) := kDs0 kf_46 (by decide +kernel)
theorem dX1_meanHeldIn_59 : decode cX1_meanHeldIn 59 = .ok (.iadd, 1) := kDs0 kf_96 (by decide +kernel)
theorem dX1_meanHeldIn_60 : decode cX1_meanHeldIn 60 = .ok (.istore_n 3, 1) := kDs0 kf_62 (by decide +kernel)
def w_s_mean1 : List Cond := .code yX1_meanHeldIn cX1_meanHeldIn 5 (some .int) :: ([.fieldLink RX1 67 "NotEnded$Course" "folk" "LNotEnded$Folk;", .initialized RX2, .selects RX2 yX2_size yX2_size, .instanceMethod yX2_size, .methodLink RX1 84 yX2_size, .fieldLink RX1 61 "NotEnded$Course" "moved" "I", .initialized RX9, .static yX9_isBit, .fieldLink RX1 9 "NotEnded$Course" "held" "[I"] ++ (wsX10 ++ (w_s_size2 ++ (w_s_isBit9 ++ (wsX20)))))
theorem gw_s_mean1 : (w_s_mean1).all goodWord = true := kGc rfl (kGa (by decide +kernel) (kGa gw_wsX10 (kGa gw_s_size2 (kGa gw_s_isBit9 gw_wsX20))))
theorem hd_X1_meanHeldIn : yX1_meanHeldIn.cls ≠ "java/lang/invoke/MethodHandle" ∧ yX1_meanHeldIn.cls ≠ "java/lang/invoke/VarHandle" ∧ (parseMethodDescriptor yX1_meanHeldIn.desc).map (fun d => d.parameters.length) = some 1 := by decide +kernel
set_option maxHeartbeats 4000000 in
set_option maxRecDepth 100000 in
theorem s_mean1 (l : Launch) (dC : Nat → ClassId) (dI : Nat → Nat → Nat) (jC : Nat) (d2 : Nat) (d3 : Nat) (d4 : Nat) (d5 : Nat) (d6 : Nat) (d7 : Nat) (d8 : Nat) (d9 : Nat) (d10 : Nat) (d11 : Nat) (d12 : Nat) (d13 : Nat) (w2 : ClassId) (w3 : ClassId) (w4 : ClassId) (w5 : ClassId) (w6 : ClassId) (w7 : ClassId) (w8 : ClassId) (w9 : ClassId) (w10 : ClassId) (w11 : ClassId) (w12 : ClassId) (w13 : ClassId) (e2 : Nat → Int32) (e3 : Nat → Int32) (e4 : Nat → Int32) (e5 : Nat → Int32) (e6 : Nat → Int32) (e7 : Nat → Int32) (e8 : Nat → Int32) (e9 : Nat → Int32) (e10 : Nat → Int32) (e11 : Nat → Int32) (e12 : Nat → Int32) (e13 : Nat → Int64) (dr : Int64) (pr : Int32) (mo : Int32) (ho : Int32) (hF : Nat) (f0 : Nat) (f1 : Nat) (f2 : Nat) (f3 : Nat) (f4 : Nat) (z0 : ClassId) (z1 : ClassId) (z2 : ClassId) (z3 : ClassId) (z4 : ClassId) (g0 : Nat → Int32) (g1 : Nat → Int32) (g2 : Nat → Int32) (g3 : Nat → Int32) (g4 : Nat → Int32) (sn : Int32) (ks : Nat) (kw : Nat) (hks : ks ≤ 10) (hkw : kw ≤ 4) (jK : Nat) (k0 : Nat) (k1 : Nat) (cK : ClassId) (cO : ClassId) (l0 : Nat → Int32) (l1 : Nat → Int32) (ru : Nat) (sA : Nat) (cl : Nat) (cS : ClassId) (cc : ClassId) (nS : Nat) (nC : Nat) (gS : Nat → Int32) (gC : Nat → Int32) (hnS : nS ≤ 200) (hnC : nC ≤ 200) (A : Nat → Prop) (p0 : Int32) : Met l yX1_meanHeldIn w_s_mean1 ({ frames := 3, cells := 0, slots := 0, locals := 180 }) (kR dC dI [.ref jC, .int p0] [(jC, .inr (1, [.ref hF, .ref jK, .ref d2, .ref d3, .ref d4, .ref d5, .ref d6, .ref d7, .ref d8, .ref d9, .ref d10, .ref d11, .ref d12, .ref d13, .ref ru, .long dr, .int pr, .int mo, .int ho])), (d2, .inl (w2, 10, .inl e2)), (d3, .inl (w3, 10, .inl e3)), (d4, .inl (w4, 10, .inl e4)), (d5, .inl (w5, 10, .inl e5)), (d6, .inl (w6, 10, .inl e6)), (d7, .inl (w7, 10, .inl e7)), (d8, .inl (w8, 10, .inl e8)), (d9, .inl (w9, 10, .inl e9)), (d10, .inl (w10, 4, .inl e10)), (d11, .inl (w11, 4, .inl e11)), (d12, .inl (w12, 4, .inl e12)), (d13, .inl (w13, 9, .inr (.inl e13))), (hF, .inr (2, [.ref f0, .ref f1, .ref f2, .ref f3, .ref f4, .int sn, .int (nI (ks)), .int (nI (kw))])), (f0, .inl (z0, 10, .inl g0)), (f1, .inl (z1, 10, .inl g1)), (f2, .inl (z2, 10, .inl g2)), (f3, .inl (z3, 10, .inl g3)), (f4, .inl (z4, 4, .inl g4)), (jK, .inr (5, [.ref k0, .ref k1])), (k0, .inl (cK, 8, .inl l0)), (k1, .inl (cO, 32, .inl l1))] [(w2, .int), (w3, .int), (w4, .int), (w5, .int), (w6, .int), (w7, .int), (w8, .int), (w9, .int), (w10, .int), (w11, .int), (w12, .int), (w13, .long), (z0, .int), (z1, .int), (z2, .int), (z3, .int), (z4, .int), (cK, .int), (cO, .int), (cS, .int), (cc, .int)] (kNF dC dI [(ru, .inr (6, [.ref sA, .ref cl])), (sA, .inl (cS, nS, .inl gS)), (cl, .inl (cc, nC, .inl gC))] A)) (vp_Si (fun r : Int32 => True)) 0 0 (fun _ => False) := by
  refine Met.ofW (cc := cX1_meanHeldIn) (maxL := 5) (ret := (some .int)) (by decide) rfl ?_
  intro p e s m args below meth c s₁ B hml hv
  obtain ⟨rfl, hP, hK, hX⟩ := hv
  have hx := B.exec
  have hb := B.bytes
  have hr := B.returns
  have hts := atoms_spec (ws := w_s_mean1) B.pre
  have hown : s.vm.findClass RX1 = some m.cls := findClass_of_methodNamed B.named
  have hlocks := B.notSynchronized
  have hS : va_S A s.heap s.heap [] := va_S.rf
  have hP : va_P (dC, dI) vwCl [(jC, .inr (1, [.ref hF, .ref jK, .ref d2, .ref d3, .ref d4, .ref d5, .ref d6, .ref d7, .ref d8, .ref d9, .ref d10, .ref d11, .ref d12, .ref d13, .ref ru, .long dr, .int pr, .int mo, .int ho])), (d2, .inl (w2, 10, .inl e2)), (d3, .inl (w3, 10, .inl e3)), (d4, .inl (w4, 10, .inl e4)), (d5, .inl (w5, 10, .inl e5)), (d6, .inl (w6, 10, .inl e6)), (d7, .inl (w7, 10, .inl e7)), (d8, .inl (w8, 10, .inl e8)), (d9, .inl (w9, 10, .inl e9)), (d10, .inl (w10, 4, .inl e10)), (d11, .inl (w11, 4, .inl e11)), (d12, .inl (w12, 4, .inl e12)), (d13, .inl (w13, 9, .inr (.inl e13))), (hF, .inr (2, [.ref f0, .ref f1, .ref f2, .ref f3, .ref f4, .int sn, .int (nI (ks)), .int (nI (kw))])), (f0, .inl (z0, 10, .inl g0)), (f1, .inl (z1, 10, .inl g1)), (f2, .inl (z2, 10, .inl g2)), (f3, .inl (z3, 10, .inl g3)), (f4, .inl (z4, 4, .inl g4)), (jK, .inr (5, [.ref k0, .ref k1])), (k0, .inl (cK, 8, .inl l0)), (k1, .inl (cO, 32, .inl l1))] s.heap := hP
  have hl := lv_entry ([.ref jC, .int p0]) (n := 5) (Nat.le_of_ble_eq_true rfl)
  rw [lg_entry_eq]
  generalize (lg_sl ([.ref jC, .int p0]) ++ List.replicate (5 - (lg_sl ([.ref jC, .int p0])).length) Slot.unset).toArray = ls at hl ⊢
  have hl : lv_has ls 5 [(0, .ref jC), (1, .int p0)] := hl
  refine kQ (fun Q hQ => ?_)
  refine lv_iconst (v := 0) hx hb dX1_meanHeldIn_0 kc_i_0 ?_
  refine lv_istore_n hx hb dX1_meanHeldIn_1 rfl hl kc_l_2_5 (kTo [(2, .int 0), (0, .ref jC), (1, .int p0)]) (fun ls hl => ?_)
  refine lv_iconst (v := 0) hx hb dX1_meanHeldIn_2 kc_i_0 ?_
  refine lv_istore_n hx hb dX1_meanHeldIn_3 rfl hl kc_l_3_5 (kTo [(3, .int 0), (2, .int 0), (0, .ref jC), (1, .int p0)]) (fun ls hl => ?_)
  refine lv_iconst (v := 0) hx hb dX1_meanHeldIn_4 kc_i_0 ?_
  refine lv_istore hx hb dX1_meanHeldIn_5 hl kc_l_4_5 (kTo [(4, .int 0), (3, .int 0), (2, .int 0), (0, .ref jC), (1, .int p0)]) (fun ls hl => ?_)
  have lp_k_1 : ∀ (n9 : Nat) (i : Nat) (x2 : Int32) (x3 : Int32) (ivk_1_0 : i ≤ ks) (ls : Array Slot) (_ : lv_has ls 5 [(4, .int (nI (i))), (3, .int x3), (2, .int x2), (0, .ref jC), (1, .int p0)]) (_ : ks - i < n9), W p l e (headSpec w_s_mean1 ({ frames := 3, cells := 0, slots := 0, locals := 180 })).room s m (#[.ref jC, .int p0] : Array Value) below meth c s.heap [] 0 0 Q (F0 m 7 ls []) := by
    intro n9
    induction n9 with
    | zero => intro i x2 x3 ivk_1_0 ls hl hm9; exact absurd hm9 (Nat.not_lt_zero _)
    | succ n9 ih_k_1 =>
      intro i x2 x3 ivk_1_0 ls hl hm9
      refine lv_iload hx hb dX1_meanHeldIn_7 (lv_at hl 0 rfl) ?_
      refine lv_aload_n hx hb dX1_meanHeldIn_9 rfl (lv_at hl 3 rfl) ?_
      refine va_get (D := (dC, dI)) (ci := 1) (v := .ref hF) (C := RX1) (T := TX1) (N := 19) hx hb hts (fun _ h => List.mem_cons_of_mem _ (List.mem_append_right _ (List.mem_append_left _ h))) hown hK hP 0 rfl rfl 0 kc_l_0_19 (hts (.fieldLink RX1 67 "NotEnded$Course" "folk" "LNotEnded$Folk;") (List.mem_cons_of_mem _ (List.mem_append_left _ (List.mem_of_getElem? (i := 0) rfl)))) (fun _ h9 => h9) rfl dX1_meanHeldIn_10 ?_
      have hPc := hP.sb (ws2 := [(hF, .inr (2, [.ref f0, .ref f1, .ref f2, .ref f3, .ref f4, .int sn, .int (nI (ks)), .int (nI (kw))])), (f0, .inl (z0, 10, .inl g0)), (f1, .inl (z1, 10, .inl g1)), (f2, .inl (z2, 10, .inl g2)), (f3, .inl (z3, 10, .inl g3)), (f4, .inl (z4, 4, .inl g4))]) [13, 14, 15, 16, 17, 18] rfl
      have hKc := hK.sb (tys2 := [(z0, .int), (z1, .int), (z2, .int), (z3, .int), (z4, .int)]) [12, 13, 14, 15, 16] rfl
      refine vp_callSi (va_runV (As := []) (rest := [.int (nI (i))]) ⟨hx, hb, hml, hown, hts⟩ (s_size2 l dC dI hF f0 f1 f2 f3 f4 z0 z1 z2 z3 z4 g0 g1 g2 g3 g4 sn ks kw hks hkw) (cwV 0 hts (kG (List.forall_mem_cons.mpr ⟨(List.mem_cons_of_mem _ (List.mem_append_left _ (List.mem_of_getElem? (i := 4) rfl))), (List.forall_mem_cons.mpr ⟨(List.mem_cons_of_mem _ (List.mem_append_left _ (List.mem_of_getElem? (i := 3) rfl))), (List.forall_mem_cons.mpr ⟨(List.mem_cons_of_mem _ (List.mem_append_left _ (List.mem_of_getElem? (i := 2) rfl))), (List.forall_mem_cons.mpr ⟨(List.mem_cons_of_mem _ (List.mem_append_left _ (List.mem_of_getElem? (i := 1) rfl))), (fun _ h => absurd h List.not_mem_nil)⟩)⟩)⟩)⟩) (kGV _ _ _ _) (fun _ h => List.mem_cons_of_mem _ (List.mem_append_right _ (List.mem_append_right _ (List.mem_append_left _ h)))) gw_s_size2) rfl rfl rfl ⟨rfl, hd_X2_size⟩ ⟨(Nat.le_of_ble_eq_true rfl), (Nat.le_of_ble_eq_true rfl)⟩) (kR_V kT_blind kT_give (va_recv hKc hPc (ci := 2) (q0 := 0) rfl rfl) hPc hKc) rfl rfl hl.1 rfl (lv_room (Nat.le_of_ble_eq_true rfl)) dX1_meanHeldIn_13 ⟨(Nat.le_of_ble_eq_true rfl), (Nat.le_of_ble_eq_true rfl)⟩).run (fun r_2 hw => ?_)
      obtain rfl : r_2 = nI (ks) := hw
      refine lv_icmp_ge (tgt := 67) hx hb dX1_meanHeldIn_16 kc_t_16_51 (fun c_3 => ?_) (fun c_3 => ?_)
      · have bd_5 : ks < 2147483648 := by omega
        have bd_6 : i < 2147483648 := by omega
        have hn_4 := kle (a := ks) (b := i) bd_5 bd_6 c_3
        refine lv_iload_n hx hb dX1_meanHeldIn_67 rfl (lv_at hl 2 rfl) ?_
        refine lv_if_ne (tgt := 75) hx hb dX1_meanHeldIn_68 kc_t_68_7 (fun c_7 => ?_) (fun c_7 => ?_)
        · refine lv_iload_n hx hb dX1_meanHeldIn_75 rfl (lv_at hl 1 rfl) ?_
          refine lv_iload_n hx hb dX1_meanHeldIn_76 rfl (lv_at hl 2 rfl) ?_
          refine lv_idiv hx hb dX1_meanHeldIn_77 (by assumption) ?_
          refine lv_topi (fun x_8 ex_8 => ?_)
          rw [hQ]
          exact W.iret (v := x_8) hx hb hr (fun t ht hW => ⟨x_8, rfl, trivial, ht⟩) (fun _ h => nomatch h) dX1_meanHeldIn_78
        · refine lv_iconst (v := 0) hx hb dX1_meanHeldIn_71 kc_i_0 ?_
          refine lv_goto (tgt := 78) hx hb dX1_meanHeldIn_72 kc_t_72_6 ?_
          rw [hQ]
          exact W.iret (v := 0) hx hb hr (fun t ht hW => ⟨0, rfl, trivial, ht⟩) (fun _ h => nomatch h) dX1_meanHeldIn_78
      · have bd_10 : ks < 2147483648 := by omega
        have bd_11 : i < 2147483648 := by omega
        have hn_9 := knle (a := ks) (b := i) bd_10 bd_11 c_3
        refine lv_aload_n hx hb dX1_meanHeldIn_19 rfl (lv_at hl 3 rfl) ?_
        refine va_get (D := (dC, dI)) (ci := 1) (v := .int mo) (C := RX1) (T := TX1) (N := 19) hx hb hts (fun _ h => List.mem_cons_of_mem _ (List.mem_append_right _ (List.mem_append_left _ h))) hown hK hP 0 rfl rfl 17 kc_l_17_19 (hts (.fieldLink RX1 61 "NotEnded$Course" "moved" "I") (List.mem_cons_of_mem _ (List.mem_append_left _ (List.mem_of_getElem? (i := 5) rfl)))) (fun _ h9 => h9) rfl dX1_meanHeldIn_20 ?_
        refine lv_iload hx hb dX1_meanHeldIn_23 (lv_at hl 0 rfl) ?_
        have hPc := hP.sb (ws2 := []) [] rfl
        have hKc := hK.sb (tys2 := []) [] rfl
        refine vp_callSi (va_runSN (As := [.int mo, .int (nI (i))]) (rest := []) ⟨hx, hb, hml, hown, hts⟩ (s_isBit9 l dC dI mo (nI (i))) (⟨va_cnB 2 hts (goodIn_sub (fun _ h => List.mem_cons_of_mem _ (List.mem_append_right _ (List.mem_append_right _ (List.mem_append_right _ (List.mem_append_left _ h))))) gw_s_isBit9) rfl rfl rfl (hX.2 _ (List.mem_of_getElem? (i := 12) rfl)) (hts (.initialized RX9) (List.mem_cons_of_mem _ (List.mem_append_left _ (List.mem_of_getElem? (i := 6) rfl)))) hd_X9_isBit ⟨(Nat.le_of_ble_eq_true rfl), (Nat.le_of_ble_eq_true rfl)⟩, (hts (.static yX9_isBit) (List.mem_cons_of_mem _ (List.mem_append_left _ (List.mem_of_getElem? (i := 7) rfl)))), trivial⟩) (kR_S kT_blind kT_give hPc hKc) rfl rfl hl.1 rfl (lv_room (Nat.le_of_ble_eq_true rfl)) dX1_meanHeldIn_25 ⟨(Nat.le_of_ble_eq_true rfl), (Nat.le_of_ble_eq_true rfl)⟩).run (fun r_12 hw => ?_)
        have hw_13 := hw
        refine lv_if_eq (tgt := 61) hx hb dX1_meanHeldIn_28 kc_t_28_33 (fun c_14 => ?_) (fun c_14 => ?_)
        · refine lv_iinc (v := nI (i + 1)) hx hb dX1_meanHeldIn_61 hl (k := 0) rfl (kInc _ 1) kc_l_4_5 (kTo [(4, .int (nI (i + 1))), (3, .int x3), (2, .int x2), (0, .ref jC), (1, .int p0)]) (fun ls hl => ?_)
          refine lv_goto (tgt := 7) hx hb dX1_meanHeldIn_64 kc_t_64_m57 ?_
          exact ih_k_1 (i + 1) x2 x3 (by omega) ls (lv_sub hl [0, 1, 2, 3, 4] rfl) (by omega)
        · refine lv_iload_n hx hb dX1_meanHeldIn_31 rfl (lv_at hl 4 rfl) ?_
          refine lv_aload_n hx hb dX1_meanHeldIn_32 rfl (lv_at hl 3 rfl) ?_
          refine va_get (D := (dC, dI)) (ci := 1) (v := .ref hF) (C := RX1) (T := TX1) (N := 19) hx hb hts (fun _ h => List.mem_cons_of_mem _ (List.mem_append_right _ (List.mem_append_left _ h))) hown hK hP 0 rfl rfl 0 kc_l_0_19 (hts (.fieldLink RX1 67 "NotEnded$Course" "folk" "LNotEnded$Folk;") (List.mem_cons_of_mem _ (List.mem_append_left _ (List.mem_of_getElem? (i := 0) rfl)))) (fun _ h9 => h9) rfl dX1_meanHeldIn_33 ?_
          refine va_getN (D := (dC, dI)) (ci := 2) (v := .ref f2) (C := RX2) (T := TX2) (N := 8) hx hb hts (fun _ h => List.mem_cons_of_mem _ (List.mem_append_right _ (List.mem_append_right _ (List.mem_append_right _ (List.mem_append_right _ h))))) hown hK hP 13 rfl rfl 2 kc_l_2_8 (va_Nw.use rfl (hX.2 _ (List.mem_of_getElem? (i := 5) rfl))) (fun _ h9 => h9) rfl dX1_meanHeldIn_36 ?_
          refine lv_iload hx hb dX1_meanHeldIn_39 (lv_at hl 0 rfl) ?_
          have bd_15 : i < 10 := by omega
          refine va_iald hx hb hK hP 16 14 rfl rfl (vp_in_nI (n := i) (N := 10) bd_15 kc_31_10) dX1_meanHeldIn_41 ?_
          refine lv_topi (fun x_16 ex_16 => ?_)
          have hPc := hP.sb (ws2 := []) [] rfl
          have hKc := hK.sb (tys2 := []) [] rfl
          refine vp_callSi (va_runSN (As := [.int p0, .int x_16]) (rest := []) ⟨hx, hb, hml, hown, hts⟩ (s_isBit9 l dC dI p0 x_16) (⟨va_cnB 2 hts (goodIn_sub (fun _ h => List.mem_cons_of_mem _ (List.mem_append_right _ (List.mem_append_right _ (List.mem_append_right _ (List.mem_append_left _ h))))) gw_s_isBit9) rfl rfl rfl (hX.2 _ (List.mem_of_getElem? (i := 12) rfl)) (hts (.initialized RX9) (List.mem_cons_of_mem _ (List.mem_append_left _ (List.mem_of_getElem? (i := 6) rfl)))) hd_X9_isBit ⟨(Nat.le_of_ble_eq_true rfl), (Nat.le_of_ble_eq_true rfl)⟩, (hts (.static yX9_isBit) (List.mem_cons_of_mem _ (List.mem_append_left _ (List.mem_of_getElem? (i := 7) rfl)))), trivial⟩) (kR_S kT_blind kT_give hPc hKc) rfl rfl hl.1 rfl (lv_room (Nat.le_of_ble_eq_true rfl)) dX1_meanHeldIn_42 ⟨(Nat.le_of_ble_eq_true rfl), (Nat.le_of_ble_eq_true rfl)⟩).run (fun r_17 hw => ?_)
          have hw_18 := hw
          refine lv_if_eq (tgt := 61) hx hb dX1_meanHeldIn_45 kc_t_45_16 (fun c_19 => ?_) (fun c_19 => ?_)
          · refine lv_iinc (v := nI (i + 1)) hx hb dX1_meanHeldIn_61 hl (k := 0) rfl (kInc _ 1) kc_l_4_5 (kTo [(4, .int (nI (i + 1))), (3, .int x3), (2, .int x2), (0, .ref jC), (1, .int p0)]) (fun ls hl => ?_)
            refine lv_goto (tgt := 7) hx hb dX1_meanHeldIn_64 kc_t_64_m57 ?_
            exact ih_k_1 (i + 1) x2 x3 (by omega) ls (lv_sub hl [0, 1, 2, 3, 4] rfl) (by omega)
          · obtain ⟨x_20, ex_20⟩ : ∃ y : Int32, y = x2 + 1 := ⟨_, rfl⟩
            refine lv_iinc (v := x_20) hx hb dX1_meanHeldIn_48 hl (k := 2) rfl (by rw [ex_20]; rfl) kc_l_2_5 (kTo [(2, .int x_20), (4, .int (nI (i))), (3, .int x3), (0, .ref jC), (1, .int p0)]) (fun ls hl => ?_)
            refine lv_iload_n hx hb dX1_meanHeldIn_51 rfl (lv_at hl 2 rfl) ?_
            refine lv_aload_n hx hb dX1_meanHeldIn_52 rfl (lv_at hl 3 rfl) ?_
            refine va_get (D := (dC, dI)) (ci := 1) (v := .ref d2) (C := RX1) (T := TX1) (N := 19) hx hb hts (fun _ h => List.mem_cons_of_mem _ (List.mem_append_right _ (List.mem_append_left _ h))) hown hK hP 0 rfl rfl 2 kc_l_2_19 (hts (.fieldLink RX1 9 "NotEnded$Course" "held" "[I") (List.mem_cons_of_mem _ (List.mem_append_left _ (List.mem_of_getElem? (i := 8) rfl)))) (fun _ h9 => h9) rfl dX1_meanHeldIn_53 ?_
            refine lv_iload hx hb dX1_meanHeldIn_56 (lv_at hl 1 rfl) ?_
            refine va_iald hx hb hK hP 1 0 rfl rfl (vp_in_nI (n := i) (N := 10) bd_15 kc_31_10) dX1_meanHeldIn_58 ?_
            refine lv_topi (fun x_21 ex_21 => ?_)
            refine lv_iadd hx hb dX1_meanHeldIn_59 ?_
            refine lv_topi (fun x_22 ex_22 => ?_)
            refine lv_istore_n hx hb dX1_meanHeldIn_60 rfl hl kc_l_3_5 (kTo [(3, .int x_22), (2, .int x_20), (4, .int (nI (i))), (0, .ref jC), (1, .int p0)]) (fun ls hl => ?_)
            refine lv_iinc (v := nI (i + 1)) hx hb dX1_meanHeldIn_61 hl (k := 2) rfl (kInc _ 1) kc_l_4_5 (kTo [(4, .int (nI (i + 1))), (3, .int x_22), (2, .int x_20), (0, .ref jC), (1, .int p0)]) (fun ls hl => ?_)
            refine lv_goto (tgt := 7) hx hb dX1_meanHeldIn_64 kc_t_64_m57 ?_
            exact ih_k_1 (i + 1) x_20 x_22 (by omega) ls (lv_sub hl [0, 1, 2, 3, 4] rfl) (by omega)
  exact lp_k_1 (ks - 0 + 1) 0 0 0 (by omega) ls (lv_sub hl [0, 1, 2, 3, 4] rfl) (by omega)

theorem dX1_mayGo_0 : decode cX1_mayGo 0 = .ok (.aload_n 0, 1) := kDs0 kf_42 (by decide +kernel)
theorem dX1_mayGo_1 : decode cX1_mayGo 1 = .ok (.getfield 61, 3) := kDs2 kf_180 (by decide +kernel)
theorem dX1_mayGo_4 : decode cX1_mayGo 4 = .ok (.iload_n 1, 1) := kDs0 kf_27 (by decide +kernel)
theorem dX1_mayGo_5 : decode cX1_mayGo 5 = .ok (.invokestatic 116, 3) := kDs2 kf_184 (by decide +kernel)
theorem dX1_mayGo_8 : decode cX1_mayGo 8 = .ok (.ifCond .eq 17, 3) := kDs4 kf_153 (by decide +kernel)
theorem dX1_mayGo_25 : decode cX1_mayGo 25 = .ok (.iconst 0, 1) := kDs0 kf_3 (by decide +kernel)
theorem dX1_mayGo_26 : decode cX1_mayGo 26 = .ok (.ireturn, 1) := kDs0 kf_172 (by decide +kernel)
theorem dX1_mayGo_11 : decode cX1_mayGo 11 = .ok (.aload_n 0, 1) := kDs0 kf_42 (by decide +kernel)
theorem dX1_mayGo_12 : decode cX1_mayGo 12 = .ok (.getfield 18, 3) := kDs2 kf_180 (by decide +kernel)
theorem dX1_mayGo_15 : decode cX1_mayGo 15 = .ok (.iload_n 1, 1) := kDs0 kf_27 (by decide +kernel)
theorem dX1_mayGo_16 : decode cX1_mayGo 16 = .ok (.iaload, 1) := kDs0 kf_46 (by decide +kernel)
theorem dX1_mayGo_17 : decode cX1_mayGo 17 = .ok (.iconst (-1), 1) := kDs0 kf_2 (by decide +kernel)
theorem dX1_mayGo_18 : decode cX1_mayGo 18 = .ok (.if_icmp .eq 7, 3) := kDs4 kf_159 (by decide +kernel)
theorem dX1_mayGo_21 : decode cX1_mayGo 21 = .ok (.iconst 1, 1) := kDs0 kf_4 (by decide +kernel)
theorem dX1_mayGo_22 : decode cX1_mayGo 22 = .ok (.goto 4, 3) := kDs4 kf_167 (by decide +kernel)
def w_s_mayGo1 : List Cond := .code yX1_mayGo cX1_mayGo 2 (some .boolean) :: ([.fieldLink RX1 61 "NotEnded$Course" "moved" "I", .initialized RX9, .static yX9_isBit, .fieldLink RX1 18 "NotEnded$Course" "places" "[I"] ++ (wsX10 ++ (w_s_isBit9)))
theorem gw_s_mayGo1 : (w_s_mayGo1).all goodWord = true := kGc rfl (kGa (by decide +kernel) (kGa gw_wsX10 gw_s_isBit9))
theorem hd_X1_mayGo : yX1_mayGo.cls ≠ "java/lang/invoke/MethodHandle" ∧ yX1_mayGo.cls ≠ "java/lang/invoke/VarHandle" ∧ (parseMethodDescriptor yX1_mayGo.desc).map (fun d => d.parameters.length) = some 1 := by decide +kernel
set_option maxHeartbeats 4000000 in
set_option maxRecDepth 100000 in
theorem s_mayGo1 (l : Launch) (dC : Nat → ClassId) (dI : Nat → Nat → Nat) (jC : Nat) (d2 : Nat) (d3 : Nat) (d4 : Nat) (d5 : Nat) (d6 : Nat) (d7 : Nat) (d8 : Nat) (d9 : Nat) (d10 : Nat) (d11 : Nat) (d12 : Nat) (d13 : Nat) (w2 : ClassId) (w3 : ClassId) (w4 : ClassId) (w5 : ClassId) (w6 : ClassId) (w7 : ClassId) (w8 : ClassId) (w9 : ClassId) (w10 : ClassId) (w11 : ClassId) (w12 : ClassId) (w13 : ClassId) (e2 : Nat → Int32) (e3 : Nat → Int32) (e4 : Nat → Int32) (e5 : Nat → Int32) (e6 : Nat → Int32) (e7 : Nat → Int32) (e8 : Nat → Int32) (e9 : Nat → Int32) (e10 : Nat → Int32) (e11 : Nat → Int32) (e12 : Nat → Int32) (e13 : Nat → Int64) (dr : Int64) (pr : Int32) (mo : Int32) (ho : Int32) (hF : Nat) (f0 : Nat) (f1 : Nat) (f2 : Nat) (f3 : Nat) (f4 : Nat) (z0 : ClassId) (z1 : ClassId) (z2 : ClassId) (z3 : ClassId) (z4 : ClassId) (g0 : Nat → Int32) (g1 : Nat → Int32) (g2 : Nat → Int32) (g3 : Nat → Int32) (g4 : Nat → Int32) (sn : Int32) (ks : Nat) (kw : Nat) (hks : ks ≤ 10) (hkw : kw ≤ 4) (jK : Nat) (k0 : Nat) (k1 : Nat) (cK : ClassId) (cO : ClassId) (l0 : Nat → Int32) (l1 : Nat → Int32) (ru : Nat) (sA : Nat) (cl : Nat) (cS : ClassId) (cc : ClassId) (nS : Nat) (nC : Nat) (gS : Nat → Int32) (gC : Nat → Int32) (hnS : nS ≤ 200) (hnC : nC ≤ 200) (A : Nat → Prop) (pj : Nat) (hpj : pj < ks) : Met l yX1_mayGo w_s_mayGo1 ({ frames := 3, cells := 0, slots := 0, locals := 180 }) (kR dC dI [.ref jC, .int (nI (pj))] [(jC, .inr (1, [.ref hF, .ref jK, .ref d2, .ref d3, .ref d4, .ref d5, .ref d6, .ref d7, .ref d8, .ref d9, .ref d10, .ref d11, .ref d12, .ref d13, .ref ru, .long dr, .int pr, .int mo, .int ho])), (d2, .inl (w2, 10, .inl e2)), (d3, .inl (w3, 10, .inl e3)), (d4, .inl (w4, 10, .inl e4)), (d5, .inl (w5, 10, .inl e5)), (d6, .inl (w6, 10, .inl e6)), (d7, .inl (w7, 10, .inl e7)), (d8, .inl (w8, 10, .inl e8)), (d9, .inl (w9, 10, .inl e9)), (d10, .inl (w10, 4, .inl e10)), (d11, .inl (w11, 4, .inl e11)), (d12, .inl (w12, 4, .inl e12)), (d13, .inl (w13, 9, .inr (.inl e13))), (hF, .inr (2, [.ref f0, .ref f1, .ref f2, .ref f3, .ref f4, .int sn, .int (nI (ks)), .int (nI (kw))])), (f0, .inl (z0, 10, .inl g0)), (f1, .inl (z1, 10, .inl g1)), (f2, .inl (z2, 10, .inl g2)), (f3, .inl (z3, 10, .inl g3)), (f4, .inl (z4, 4, .inl g4)), (jK, .inr (5, [.ref k0, .ref k1])), (k0, .inl (cK, 8, .inl l0)), (k1, .inl (cO, 32, .inl l1))] [(w2, .int), (w3, .int), (w4, .int), (w5, .int), (w6, .int), (w7, .int), (w8, .int), (w9, .int), (w10, .int), (w11, .int), (w12, .int), (w13, .long), (z0, .int), (z1, .int), (z2, .int), (z3, .int), (z4, .int), (cK, .int), (cO, .int), (cS, .int), (cc, .int)] (kNF dC dI [(ru, .inr (6, [.ref sA, .ref cl])), (sA, .inl (cS, nS, .inl gS)), (cl, .inl (cc, nC, .inl gC))] A)) (vp_Si (fun r : Int32 => (r = 0 ∨ r = 1))) 0 0 (fun _ => False) := by
  refine Met.ofW (cc := cX1_mayGo) (maxL := 2) (ret := (some .boolean)) (by decide) rfl ?_
  intro p e s m args below meth c s₁ B hml hv
  obtain ⟨rfl, hP, hK, hX⟩ := hv
  have hx := B.exec
  have hb := B.bytes
  have hr := B.returns
  have hts := atoms_spec (ws := w_s_mayGo1) B.pre
  have hown : s.vm.findClass RX1 = some m.cls := findClass_of_methodNamed B.named
  have hlocks := B.notSynchronized
  have hS : va_S A s.heap s.heap [] := va_S.rf
  have hP : va_P (dC, dI) vwCl [(jC, .inr (1, [.ref hF, .ref jK, .ref d2, .ref d3, .ref d4, .ref d5, .ref d6, .ref d7, .ref d8, .ref d9, .ref d10, .ref d11, .ref d12, .ref d13, .ref ru, .long dr, .int pr, .int mo, .int ho])), (d2, .inl (w2, 10, .inl e2)), (d3, .inl (w3, 10, .inl e3)), (d4, .inl (w4, 10, .inl e4)), (d5, .inl (w5, 10, .inl e5)), (d6, .inl (w6, 10, .inl e6)), (d7, .inl (w7, 10, .inl e7)), (d8, .inl (w8, 10, .inl e8)), (d9, .inl (w9, 10, .inl e9)), (d10, .inl (w10, 4, .inl e10)), (d11, .inl (w11, 4, .inl e11)), (d12, .inl (w12, 4, .inl e12)), (d13, .inl (w13, 9, .inr (.inl e13))), (hF, .inr (2, [.ref f0, .ref f1, .ref f2, .ref f3, .ref f4, .int sn, .int (nI (ks)), .int (nI (kw))])), (f0, .inl (z0, 10, .inl g0)), (f1, .inl (z1, 10, .inl g1)), (f2, .inl (z2, 10, .inl g2)), (f3, .inl (z3, 10, .inl g3)), (f4, .inl (z4, 4, .inl g4)), (jK, .inr (5, [.ref k0, .ref k1])), (k0, .inl (cK, 8, .inl l0)), (k1, .inl (cO, 32, .inl l1))] s.heap := hP
  have hl := lv_entry ([.ref jC, .int (nI (pj))]) (n := 2) (Nat.le_of_ble_eq_true rfl)
  rw [lg_entry_eq]
  generalize (lg_sl ([.ref jC, .int (nI (pj))]) ++ List.replicate (2 - (lg_sl ([.ref jC, .int (nI (pj))])).length) Slot.unset).toArray = ls at hl ⊢
  have hl : lv_has ls 2 [(0, .ref jC), (1, .int (nI (pj)))] := hl
  refine kQ (fun Q hQ => ?_)
  refine lv_aload_n hx hb dX1_mayGo_0 rfl (lv_at hl 0 rfl) ?_
  refine va_get (D := (dC, dI)) (ci := 1) (v := .int mo) (C := RX1) (T := TX1) (N := 19) hx hb hts (fun _ h => List.mem_cons_of_mem _ (List.mem_append_right _ (List.mem_append_left _ h))) hown hK hP 0 rfl rfl 17 kc_l_17_19 (hts (.fieldLink RX1 61 "NotEnded$Course" "moved" "I") (List.mem_cons_of_mem _ (List.mem_append_left _ (List.mem_of_getElem? (i := 0) rfl)))) (fun _ h9 => h9) rfl dX1_mayGo_1 ?_
  refine lv_iload_n hx hb dX1_mayGo_4 rfl (lv_at hl 1 rfl) ?_
  have hPc := hP.sb (ws2 := []) [] rfl
  have hKc := hK.sb (tys2 := []) [] rfl
  refine vp_callSi (va_runSN (As := [.int mo, .int (nI (pj))]) (rest := []) ⟨hx, hb, hml, hown, hts⟩ (s_isBit9 l dC dI mo (nI (pj))) (⟨va_cnB 2 hts (goodIn_sub (fun _ h => List.mem_cons_of_mem _ (List.mem_append_right _ (List.mem_append_right _ h))) gw_s_isBit9) rfl rfl rfl (hX.2 _ (List.mem_of_getElem? (i := 12) rfl)) (hts (.initialized RX9) (List.mem_cons_of_mem _ (List.mem_append_left _ (List.mem_of_getElem? (i := 1) rfl)))) hd_X9_isBit ⟨(Nat.le_of_ble_eq_true rfl), (Nat.le_of_ble_eq_true rfl)⟩, (hts (.static yX9_isBit) (List.mem_cons_of_mem _ (List.mem_append_left _ (List.mem_of_getElem? (i := 2) rfl)))), trivial⟩) (kR_S kT_blind kT_give hPc hKc) rfl rfl hl.1 rfl (lv_room (Nat.le_of_ble_eq_true rfl)) dX1_mayGo_5 ⟨(Nat.le_of_ble_eq_true rfl), (Nat.le_of_ble_eq_true rfl)⟩).run (fun r_1 hw => ?_)
  have hw_2 := hw
  refine lv_if_eq (tgt := 25) hx hb dX1_mayGo_8 kc_t_8_17 (fun c_3 => ?_) (fun c_3 => ?_)
  · refine lv_iconst (v := 0) hx hb dX1_mayGo_25 kc_i_0 ?_
    rw [hQ]
    exact W.zret (v := 0) hx hb hr rfl (fun t ht hW => ⟨0, rfl, (Or.inl rfl), ht⟩) (fun _ h => nomatch h) dX1_mayGo_26
  · refine lv_aload_n hx hb dX1_mayGo_11 rfl (lv_at hl 0 rfl) ?_
    refine va_get (D := (dC, dI)) (ci := 1) (v := .ref d4) (C := RX1) (T := TX1) (N := 19) hx hb hts (fun _ h => List.mem_cons_of_mem _ (List.mem_append_right _ (List.mem_append_left _ h))) hown hK hP 0 rfl rfl 4 kc_l_4_19 (hts (.fieldLink RX1 18 "NotEnded$Course" "places" "[I") (List.mem_cons_of_mem _ (List.mem_append_left _ (List.mem_of_getElem? (i := 3) rfl)))) (fun _ h9 => h9) rfl dX1_mayGo_12 ?_
    refine lv_iload_n hx hb dX1_mayGo_15 rfl (lv_at hl 1 rfl) ?_
    have bd_4 : pj < 10 := by omega
    refine va_iald hx hb hK hP 3 2 rfl rfl (vp_in_nI (n := pj) (N := 10) bd_4 kc_31_10) dX1_mayGo_16 ?_
    refine lv_topi (fun x_5 ex_5 => ?_)
    refine lv_iconst (v := (-1)) hx hb dX1_mayGo_17 kc_i_m1 ?_
    refine lv_icmp_eq (tgt := 25) hx hb dX1_mayGo_18 kc_t_18_7 (fun c_6 => ?_) (fun c_6 => ?_)
    · refine lv_iconst (v := 0) hx hb dX1_mayGo_25 kc_i_0 ?_
      rw [hQ]
      exact W.zret (v := 0) hx hb hr rfl (fun t ht hW => ⟨0, rfl, (Or.inl rfl), ht⟩) (fun _ h => nomatch h) dX1_mayGo_26
    · refine lv_iconst (v := 1) hx hb dX1_mayGo_21 kc_i_1 ?_
      refine lv_goto (tgt := 26) hx hb dX1_mayGo_22 kc_t_22_4 ?_
      rw [hQ]
      exact W.zret (v := 1) hx hb hr rfl (fun t ht hW => ⟨1, rfl, (Or.inr rfl), ht⟩) (fun _ h => nomatch h) dX1_mayGo_26
