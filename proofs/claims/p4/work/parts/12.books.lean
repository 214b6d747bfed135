theorem dX3_add_0 : decode cX3_add 0 = .ok (.aload_n 0, 1) := kDs0 kf_42 (by decide +kernel)
theorem dX3_add_1 : decode cX3_add 1 = .ok (.getfield 27, 3) := kDs2 kf_180 (by decide +kernel)
theorem dX3_add_4 : decode cX3_add 4 = .ok (.bipush 20, 2) := kDs3 kf_16 (by decide +kernel)
theorem dX3_add_6 : decode cX3_add 6 = .ok (.if_icmp .lt 5, 3) := kDs4 kf_161 (by decide +kernel)
theorem dX3_add_11 : decode cX3_add 11 = .ok (.aload_n 0, 1) := kDs0 kf_42 (by decide +kernel)
theorem dX3_add_12 : decode cX3_add 12 = .ok (.getfield 9, 3) := kDs2 kf_180 (by decide +kernel)
theorem dX3_add_15 : decode cX3_add 15 = .ok (.aload_n 0, 1) := kDs0 kf_42 (by decide +kernel)
theorem dX3_add_16 : decode cX3_add 16 = .ok (.getfield 27, 3) := kDs2 kf_180 (by decide +kernel)
theorem dX3_add_19 : decode cX3_add 19 = .ok (.iload_n 1, 1) := kDs0 kf_27 (by decide +kernel)
theorem dX3_add_20 : decode cX3_add 20 = .ok (.iastore, 1) := kDs0 kf_79 (by decide +kernel)
theorem dX3_add_21 : decode cX3_add 21 = .ok (.aload_n 0, 1) := kDs0 kf_42 (by decide +kernel)
theorem dX3_add_22 : decode cX3_add 22 = .ok (.getfield 15, 3) := kDs2 kf_180 (by decide +kernel)
theorem dX3_add_25 : decode cX3_add 25 = .ok (.aload_n 0, 1) := kDs0 kf_42 (by decide +kernel)
theorem dX3_add_26 : decode cX3_add 26 = .ok (.getfield 27, 3) := kDs2 kf_180 (by decide +kernel)
theorem dX3_add_29 : decode cX3_add 29 = .ok (.iload_n 2, 1) := kDs0 kf_28 (by decide +kernel)
theorem dX3_add_30 : decode cX3_add 30 = .ok (.iastore, 1) := kDs0 kf_79 (by decide +kernel)
theorem dX3_add_31 : decode cX3_add 31 = .ok (.aload_n 0, 1) := kDs0 kf_42 (by decide +kernel)
theorem dX3_add_32 : decode cX3_add 32 = .ok (.getfield 18, 3) := kDs2 kf_180 (by decide +kernel)
theorem dX3_add_35 : decode cX3_add 35 = .ok (.aload_n 0, 1) := kDs0 kf_42 (by decide +kernel)
theorem dX3_add_36 : decode cX3_add 36 = .ok (.getfield 27, 3) := kDs2 kf_180 (by decide +kernel)
theorem dX3_add_39 : decode cX3_add 39 = .ok (.iload_n 3, 1) := kDs0 kf_29 (by decide +kernel)
theorem dX3_add_40 : decode cX3_add 40 = .ok (.iastore, 1) := kDs0 kf_79 (by decide +kernel)
theorem dX3_add_41 : decode cX3_add 41 = .ok (.aload_n 0, 1) := kDs0 kf_42 (by decide +kernel)
theorem dX3_add_42 : decode cX3_add 42 = .ok (.getfield 21, 3) := kDs2 kf_180 (by decide +kernel)
theorem dX3_add_45 : decode cX3_add 45 = .ok (.aload_n 0, 1) := kDs0 kf_42 (by decide +kernel)
theorem dX3_add_46 : decode cX3_add 46 = .ok (.getfield 27, 3) := kDs2 kf_180 (by decide +kernel)
theorem dX3_add_49 : decode cX3_add 49 = .ok (.iload 4, 2) := kDs1 kf_21 (by decide +kernel)
theorem dX3_add_51 : decode cX3_add 51 = .ok (.iastore, 1) := kDs0 kf_79 (by decide +kernel)
theorem dX3_add_52 : decode cX3_add 52 = .ok (.aload_n 0, 1) := kDs0 kf_42 (by decide +kernel)
theorem dX3_add_53 : decode cX3_add 53 = .ok (.getfield 24, 3) := kDs2 kf_180 (by decide +kernel)
theorem dX3_add_56 : decode cX3_add 56 = .ok (.aload_n 0, 1) := kDs0 kf_42 (by decide +kernel)
theorem dX3_add_57 : decode cX3_add 57 = .ok (.getfield 27, 3) := kDs2 kf_180 (by decide +kernel)
theorem dX3_add_60 : decode cX3_add 60 = .ok (.iload 5, 2) := kDs1 kf_21 (by decide +kernel)
theorem dX3_add_62 : decode cX3_add 62 = .ok (.iastore, 1) := kDs0 kf_79 (by decide +kernel)
theorem dX3_add_63 : decode cX3_add 63 = .ok (.aload_n 0, 1) := kDs0 kf_42 (by decide +kernel)
theorem dX3_add_64 : decode cX3_add 64 = .ok (.dup, 1) := kDs0 kf_89 (by decide +kernel)
theorem dX3_add_65 : decode cX3_add 65 = .ok (.getfield 27, 3) := kDs2 kf_180 (by decide +kernel)
theorem dX3_add_68 : decode cX3_add 68 = .ok (.iconst 1, 1) := kDs0 kf_4 (by decide +kernel)
theorem dX3_add_69 : decode cX3_add 69 = .ok (.iadd, 1) := kDs0 kf_96 (by decide +kernel)
theorem dX3_add_70 : decode cX3_add 70 = .ok (.putfield 27, 3) := kDs2 kf_181 (by decide +kernel)
theorem dX3_add_73 : decode cX3_add 73 = .ok (.aload_n 0, 1) := kDs0 kf_42 (by decide +kernel)
theorem dX3_add_74 : decode cX3_add 74 = .ok (.getfield 27, 3) := kDs2 kf_180 (by decide +kernel)
theorem dX3_add_77 : decode cX3_add 77 = .ok (.ireturn, 1) := kDs0 kf_172 (by decide +kernel)
theorem dX3_add_9 : decode cX3_add 9 = .ok (.iconst (-1), 1) := kDs0 kf_2 (by decide +kernel)
theorem dX3_add_10 : decode cX3_add 10 = .ok (.ireturn, 1) := kDs0 kf_172 (by decide +kernel)
def w_s_add3 : List Cond := .code yX3_add cX3_add 6 (some .int) :: ([.fieldLink RX3 27 "NotEnded$Notebook" "size" "I", .fieldLink RX3 9 "NotEnded$Notebook" "persons" "[I", .fieldLink RX3 15 "NotEnded$Notebook" "hours" "[I", .fieldLink RX3 18 "NotEnded$Notebook" "kinds" "[I", .fieldLink RX3 21 "NotEnded$Notebook" "values" "[I", .fieldLink RX3 24 "NotEnded$Notebook" "offs" "[I"] ++ (wsX30))
theorem gw_s_add3 : (w_s_add3).all goodWord = true := kGc rfl (kGa (by decide +kernel) gw_wsX30)
theorem hd_X3_add : yX3_add.cls ≠ "java/lang/invoke/MethodHandle" ∧ yX3_add.cls ≠ "java/lang/invoke/VarHandle" ∧ (parseMethodDescriptor yX3_add.desc).map (fun d => d.parameters.length) = some 5 := by decide +kernel
set_option maxHeartbeats 4000000 in
set_option maxRecDepth 100000 in
theorem s_add3 (l : Launch) (dC : Nat → ClassId) (dI : Nat → Nat → Nat) (hN : Nat) (o0 : Nat) (o1 : Nat) (o2 : Nat) (o3 : Nat) (o4 : Nat) (y0 : ClassId) (y1 : ClassId) (y2 : ClassId) (y3 : ClassId) (y4 : ClassId) (q0 : Nat → Int32) (q1 : Nat → Int32) (q2 : Nat → Int32) (q3 : Nat → Int32) (q4 : Nat → Int32) (kn : Nat) (hkn : kn ≤ 20) (p0 : Int32) (p1 : Int32) (p2 : Int32) (p3 : Int32) (p4 : Int32) (sz : Nat) : Met l yX3_add w_s_add3 ({ frames := 1, cells := 0, slots := 0, locals := 60 }) (kW dC dI [.ref hN, .int p0, .int p1, .int p2, .int p3, .int p4] [(hN, .inr (3, [.ref o0, .ref o1, .ref o2, .ref o3, .ref o4, .int (nI (kn))])), (o0, .inl (y0, 20, .inl q0)), (o1, .inl (y1, 20, .inl q1)), (o2, .inl (y2, 20, .inl q2)), (o3, .inl (y3, 20, .inl q3)), (o4, .inl (y4, 20, .inl q4))] [(y0, .int), (y1, .int), (y2, .int), (y3, .int), (y4, .int)] kT sz) (va_Qi (fun (r : Int32) (u : (Nat → Int32) × (Nat → Int32) × (Nat → Int32) × (Nat → Int32) × (Nat → Int32) × Nat) => match u with | (n0, n1, n2, n3, n4, kn1) => kn1 ≤ 20) (fun (u : (Nat → Int32) × (Nat → Int32) × (Nat → Int32) × (Nat → Int32) × (Nat → Int32) × Nat) => match u with | (n0, n1, n2, n3, n4, kn1) => fun t : State => kB dC dI [(hN, .inr (3, [.ref o0, .ref o1, .ref o2, .ref o3, .ref o4, .int (nI (kn1))])), (o0, .inl (y0, 20, .inl n0)), (o1, .inl (y1, 20, .inl n1)), (o2, .inl (y2, 20, .inl n2)), (o3, .inl (y3, 20, .inl n3)), (o4, .inl (y4, 20, .inl n4))] [(y0, .int), (y1, .int), (y2, .int), (y3, .int), (y4, .int)] (va_A [(hN, .inr (3, [.ref o0, .ref o1, .ref o2, .ref o3, .ref o4, .int (nI (kn))])), (o0, .inl (y0, 20, .inl q0)), (o1, .inl (y1, 20, .inl q1)), (o2, .inl (y2, 20, .inl q2)), (o3, .inl (y3, 20, .inl q3)), (o4, .inl (y4, 20, .inl q4))] sz) t) (va_A [(hN, .inr (3, [.ref o0, .ref o1, .ref o2, .ref o3, .ref o4, .int (nI (kn))])), (o0, .inl (y0, 20, .inl q0)), (o1, .inl (y1, 20, .inl q1)), (o2, .inl (y2, 20, .inl q2)), (o3, .inl (y3, 20, .inl q3)), (o4, .inl (y4, 20, .inl q4))] sz)) 0 0 (va_A [(hN, .inr (3, [.ref o0, .ref o1, .ref o2, .ref o3, .ref o4, .int (nI (kn))])), (o0, .inl (y0, 20, .inl q0)), (o1, .inl (y1, 20, .inl q1)), (o2, .inl (y2, 20, .inl q2)), (o3, .inl (y3, 20, .inl q3)), (o4, .inl (y4, 20, .inl q4))] sz) := by
  refine Met.ofW (cc := cX3_add) (maxL := 6) (ret := (some .int)) (by decide) rfl ?_
  intro p e s m args below meth c s₁ B hml hv
  obtain ⟨rfl, hsz, hP, hK, hD0, hX⟩ := hv
  have hx := B.exec
  have hb := B.bytes
  have hr := B.returns
  have hts := atoms_spec (ws := w_s_add3) B.pre
  have hown : s.vm.findClass RX3 = some m.cls := findClass_of_methodNamed B.named
  have hlocks := B.notSynchronized
  subst hsz
  have hD := hD0.self (sz := s.heap.size)
  generalize hAe : va_A [(hN, .inr (3, [.ref o0, .ref o1, .ref o2, .ref o3, .ref o4, .int (nI (kn))])), (o0, .inl (y0, 20, .inl q0)), (o1, .inl (y1, 20, .inl q1)), (o2, .inl (y2, 20, .inl q2)), (o3, .inl (y3, 20, .inl q3)), (o4, .inl (y4, 20, .inl q4))] s.heap.size = A at hD ⊢
  have hA : ∀ q : Nat, s.heap.size ≤ q → A q := fun q h => by rw [← hAe]; exact Or.inr h
  have hS : va_S A s.heap s.heap [] := va_S.rf
  have hP : va_P (dC, dI) vwCl [(hN, .inr (3, [.ref o0, .ref o1, .ref o2, .ref o3, .ref o4, .int (nI (kn))])), (o0, .inl (y0, 20, .inl q0)), (o1, .inl (y1, 20, .inl q1)), (o2, .inl (y2, 20, .inl q2)), (o3, .inl (y3, 20, .inl q3)), (o4, .inl (y4, 20, .inl q4))] s.heap := hP
  have hl := lv_entry ([.ref hN, .int p0, .int p1, .int p2, .int p3, .int p4]) (n := 6) (Nat.le_of_ble_eq_true rfl)
  rw [lg_entry_eq]
  generalize (lg_sl ([.ref hN, .int p0, .int p1, .int p2, .int p3, .int p4]) ++ List.replicate (6 - (lg_sl ([.ref hN, .int p0, .int p1, .int p2, .int p3, .int p4])).length) Slot.unset).toArray = ls at hl ⊢
  have hl : lv_has ls 6 [(0, .ref hN), (1, .int p0), (2, .int p1), (3, .int p2), (4, .int p3), (5, .int p4)] := hl
  refine kQ (fun Q hQ => ?_)
  refine lv_aload_n hx hb dX3_add_0 rfl (lv_at hl 0 rfl) ?_
  refine va_get (D := (dC, dI)) (ci := 3) (v := .int (nI (kn))) (C := RX3) (T := TX3) (N := 6) hx hb hts (fun _ h => List.mem_cons_of_mem _ (List.mem_append_right _ h)) hown hK hP 0 rfl rfl 5 kc_l_5_6 (hts (.fieldLink RX3 27 "NotEnded$Notebook" "size" "I") (List.mem_cons_of_mem _ (List.mem_append_left _ (List.mem_of_getElem? (i := 0) rfl)))) (fun _ h9 => h9) rfl dX3_add_1 ?_
  refine lv_bipush (v := 20) hx hb dX3_add_4 kc_b_20 ?_
  refine lv_icmp_lt (tgt := 11) hx hb dX3_add_6 kc_t_6_5 (fun c_1 => ?_) (fun c_1 => ?_)
  · have bd_3 : kn < 2147483648 := by omega
    have hn_2 := klt (a := kn) (b := 20) bd_3 kc_31_20 c_1
    refine lv_aload_n hx hb dX3_add_11 rfl (lv_at hl 0 rfl) ?_
    refine va_get (D := (dC, dI)) (ci := 3) (v := .ref o0) (C := RX3) (T := TX3) (N := 6) hx hb hts (fun _ h => List.mem_cons_of_mem _ (List.mem_append_right _ h)) hown hK hP 0 rfl rfl 0 kc_l_0_6 (hts (.fieldLink RX3 9 "NotEnded$Notebook" "persons" "[I") (List.mem_cons_of_mem _ (List.mem_append_left _ (List.mem_of_getElem? (i := 1) rfl)))) (fun _ h9 => h9) rfl dX3_add_12 ?_
    refine lv_aload_n hx hb dX3_add_15 rfl (lv_at hl 0 rfl) ?_
    refine va_get (D := (dC, dI)) (ci := 3) (v := .int (nI (kn))) (C := RX3) (T := TX3) (N := 6) hx hb hts (fun _ h => List.mem_cons_of_mem _ (List.mem_append_right _ h)) hown hK hP 0 rfl rfl 5 kc_l_5_6 (hts (.fieldLink RX3 27 "NotEnded$Notebook" "size" "I") (List.mem_cons_of_mem _ (List.mem_append_left _ (List.mem_of_getElem? (i := 0) rfl)))) (fun _ h9 => h9) rfl dX3_add_16 ?_
    refine lv_iload_n hx hb dX3_add_19 rfl (lv_at hl 1 rfl) ?_
    have bd_5 : kn < 20 := by omega
    refine va_iast hx hb hK hP hD hS 1 0 rfl rfl (vp_in_nI (n := kn) (N := 20) bd_5 kc_31_20) dX3_add_20 (fun H locs hP hD hS => ?_)
    obtain ⟨f_4, ef_4⟩ : ∃ gg9 : Nat → Int32, gg9 = upd q0 (Int32.toNatClampNeg (nI (kn))) p0 := ⟨_, rfl⟩
    have hPD : kPD dC dI A [(hN, .inr (3, [.ref o0, .ref o1, .ref o2, .ref o3, .ref o4, .int (nI (kn))])), (o0, .inl (y0, 20, .inl f_4)), (o1, .inl (y1, 20, .inl q1)), (o2, .inl (y2, 20, .inl q2)), (o3, .inl (y3, 20, .inl q3)), (o4, .inl (y4, 20, .inl q4))] H := by rw [ef_4]; exact ⟨hP, hD⟩
    have hP := hPD.1
    have hD := hPD.2
    refine lv_aload_n hx hb dX3_add_21 rfl (lv_at hl 0 rfl) ?_
    refine va_get (D := (dC, dI)) (ci := 3) (v := .ref o1) (C := RX3) (T := TX3) (N := 6) hx hb hts (fun _ h => List.mem_cons_of_mem _ (List.mem_append_right _ h)) hown hK hP 0 rfl rfl 1 kc_l_1_6 (hts (.fieldLink RX3 15 "NotEnded$Notebook" "hours" "[I") (List.mem_cons_of_mem _ (List.mem_append_left _ (List.mem_of_getElem? (i := 2) rfl)))) (fun _ h9 => h9) rfl dX3_add_22 ?_
    refine lv_aload_n hx hb dX3_add_25 rfl (lv_at hl 0 rfl) ?_
    refine va_get (D := (dC, dI)) (ci := 3) (v := .int (nI (kn))) (C := RX3) (T := TX3) (N := 6) hx hb hts (fun _ h => List.mem_cons_of_mem _ (List.mem_append_right _ h)) hown hK hP 0 rfl rfl 5 kc_l_5_6 (hts (.fieldLink RX3 27 "NotEnded$Notebook" "size" "I") (List.mem_cons_of_mem _ (List.mem_append_left _ (List.mem_of_getElem? (i := 0) rfl)))) (fun _ h9 => h9) rfl dX3_add_26 ?_
    refine lv_iload_n hx hb dX3_add_29 rfl (lv_at hl 2 rfl) ?_
    refine va_iast hx hb hK hP hD hS 2 1 rfl rfl (vp_in_nI (n := kn) (N := 20) bd_5 kc_31_20) dX3_add_30 (fun H locs hP hD hS => ?_)
    obtain ⟨f_6, ef_6⟩ : ∃ gg9 : Nat → Int32, gg9 = upd q1 (Int32.toNatClampNeg (nI (kn))) p1 := ⟨_, rfl⟩
    have hPD : kPD dC dI A [(hN, .inr (3, [.ref o0, .ref o1, .ref o2, .ref o3, .ref o4, .int (nI (kn))])), (o0, .inl (y0, 20, .inl f_4)), (o1, .inl (y1, 20, .inl f_6)), (o2, .inl (y2, 20, .inl q2)), (o3, .inl (y3, 20, .inl q3)), (o4, .inl (y4, 20, .inl q4))] H := by rw [ef_6]; exact ⟨hP, hD⟩
    have hP := hPD.1
    have hD := hPD.2
    refine lv_aload_n hx hb dX3_add_31 rfl (lv_at hl 0 rfl) ?_
    refine va_get (D := (dC, dI)) (ci := 3) (v := .ref o2) (C := RX3) (T := TX3) (N := 6) hx hb hts (fun _ h => List.mem_cons_of_mem _ (List.mem_append_right _ h)) hown hK hP 0 rfl rfl 2 kc_l_2_6 (hts (.fieldLink RX3 18 "NotEnded$Notebook" "kinds" "[I") (List.mem_cons_of_mem _ (List.mem_append_left _ (List.mem_of_getElem? (i := 3) rfl)))) (fun _ h9 => h9) rfl dX3_add_32 ?_
    refine lv_aload_n hx hb dX3_add_35 rfl (lv_at hl 0 rfl) ?_
    refine va_get (D := (dC, dI)) (ci := 3) (v := .int (nI (kn))) (C := RX3) (T := TX3) (N := 6) hx hb hts (fun _ h => List.mem_cons_of_mem _ (List.mem_append_right _ h)) hown hK hP 0 rfl rfl 5 kc_l_5_6 (hts (.fieldLink RX3 27 "NotEnded$Notebook" "size" "I") (List.mem_cons_of_mem _ (List.mem_append_left _ (List.mem_of_getElem? (i := 0) rfl)))) (fun _ h9 => h9) rfl dX3_add_36 ?_
    refine lv_iload_n hx hb dX3_add_39 rfl (lv_at hl 3 rfl) ?_
    refine va_iast hx hb hK hP hD hS 3 2 rfl rfl (vp_in_nI (n := kn) (N := 20) bd_5 kc_31_20) dX3_add_40 (fun H locs hP hD hS => ?_)
    obtain ⟨f_7, ef_7⟩ : ∃ gg9 : Nat → Int32, gg9 = upd q2 (Int32.toNatClampNeg (nI (kn))) p2 := ⟨_, rfl⟩
    have hPD : kPD dC dI A [(hN, .inr (3, [.ref o0, .ref o1, .ref o2, .ref o3, .ref o4, .int (nI (kn))])), (o0, .inl (y0, 20, .inl f_4)), (o1, .inl (y1, 20, .inl f_6)), (o2, .inl (y2, 20, .inl f_7)), (o3, .inl (y3, 20, .inl q3)), (o4, .inl (y4, 20, .inl q4))] H := by rw [ef_7]; exact ⟨hP, hD⟩
    have hP := hPD.1
    have hD := hPD.2
    refine lv_aload_n hx hb dX3_add_41 rfl (lv_at hl 0 rfl) ?_
    refine va_get (D := (dC, dI)) (ci := 3) (v := .ref o3) (C := RX3) (T := TX3) (N := 6) hx hb hts (fun _ h => List.mem_cons_of_mem _ (List.mem_append_right _ h)) hown hK hP 0 rfl rfl 3 kc_l_3_6 (hts (.fieldLink RX3 21 "NotEnded$Notebook" "values" "[I") (List.mem_cons_of_mem _ (List.mem_append_left _ (List.mem_of_getElem? (i := 4) rfl)))) (fun _ h9 => h9) rfl dX3_add_42 ?_
    refine lv_aload_n hx hb dX3_add_45 rfl (lv_at hl 0 rfl) ?_
    refine va_get (D := (dC, dI)) (ci := 3) (v := .int (nI (kn))) (C := RX3) (T := TX3) (N := 6) hx hb hts (fun _ h => List.mem_cons_of_mem _ (List.mem_append_right _ h)) hown hK hP 0 rfl rfl 5 kc_l_5_6 (hts (.fieldLink RX3 27 "NotEnded$Notebook" "size" "I") (List.mem_cons_of_mem _ (List.mem_append_left _ (List.mem_of_getElem? (i := 0) rfl)))) (fun _ h9 => h9) rfl dX3_add_46 ?_
    refine lv_iload hx hb dX3_add_49 (lv_at hl 4 rfl) ?_
    refine va_iast hx hb hK hP hD hS 4 3 rfl rfl (vp_in_nI (n := kn) (N := 20) bd_5 kc_31_20) dX3_add_51 (fun H locs hP hD hS => ?_)
    obtain ⟨f_8, ef_8⟩ : ∃ gg9 : Nat → Int32, gg9 = upd q3 (Int32.toNatClampNeg (nI (kn))) p3 := ⟨_, rfl⟩
    have hPD : kPD dC dI A [(hN, .inr (3, [.ref o0, .ref o1, .ref o2, .ref o3, .ref o4, .int (nI (kn))])), (o0, .inl (y0, 20, .inl f_4)), (o1, .inl (y1, 20, .inl f_6)), (o2, .inl (y2, 20, .inl f_7)), (o3, .inl (y3, 20, .inl f_8)), (o4, .inl (y4, 20, .inl q4))] H := by rw [ef_8]; exact ⟨hP, hD⟩
    have hP := hPD.1
    have hD := hPD.2
    refine lv_aload_n hx hb dX3_add_52 rfl (lv_at hl 0 rfl) ?_
    refine va_get (D := (dC, dI)) (ci := 3) (v := .ref o4) (C := RX3) (T := TX3) (N := 6) hx hb hts (fun _ h => List.mem_cons_of_mem _ (List.mem_append_right _ h)) hown hK hP 0 rfl rfl 4 kc_l_4_6 (hts (.fieldLink RX3 24 "NotEnded$Notebook" "offs" "[I") (List.mem_cons_of_mem _ (List.mem_append_left _ (List.mem_of_getElem? (i := 5) rfl)))) (fun _ h9 => h9) rfl dX3_add_53 ?_
    refine lv_aload_n hx hb dX3_add_56 rfl (lv_at hl 0 rfl) ?_
    refine va_get (D := (dC, dI)) (ci := 3) (v := .int (nI (kn))) (C := RX3) (T := TX3) (N := 6) hx hb hts (fun _ h => List.mem_cons_of_mem _ (List.mem_append_right _ h)) hown hK hP 0 rfl rfl 5 kc_l_5_6 (hts (.fieldLink RX3 27 "NotEnded$Notebook" "size" "I") (List.mem_cons_of_mem _ (List.mem_append_left _ (List.mem_of_getElem? (i := 0) rfl)))) (fun _ h9 => h9) rfl dX3_add_57 ?_
    refine lv_iload hx hb dX3_add_60 (lv_at hl 5 rfl) ?_
    refine va_iast hx hb hK hP hD hS 5 4 rfl rfl (vp_in_nI (n := kn) (N := 20) bd_5 kc_31_20) dX3_add_62 (fun H locs hP hD hS => ?_)
    obtain ⟨f_9, ef_9⟩ : ∃ gg9 : Nat → Int32, gg9 = upd q4 (Int32.toNatClampNeg (nI (kn))) p4 := ⟨_, rfl⟩
    have hPD : kPD dC dI A [(hN, .inr (3, [.ref o0, .ref o1, .ref o2, .ref o3, .ref o4, .int (nI (kn))])), (o0, .inl (y0, 20, .inl f_4)), (o1, .inl (y1, 20, .inl f_6)), (o2, .inl (y2, 20, .inl f_7)), (o3, .inl (y3, 20, .inl f_8)), (o4, .inl (y4, 20, .inl f_9))] H := by rw [ef_9]; exact ⟨hP, hD⟩
    have hP := hPD.1
    have hD := hPD.2
    refine lv_aload_n hx hb dX3_add_63 rfl (lv_at hl 0 rfl) ?_
    refine lv_dup hx hb dX3_add_64 rfl ?_
    refine va_get (D := (dC, dI)) (ci := 3) (v := .int (nI (kn))) (C := RX3) (T := TX3) (N := 6) hx hb hts (fun _ h => List.mem_cons_of_mem _ (List.mem_append_right _ h)) hown hK hP 0 rfl rfl 5 kc_l_5_6 (hts (.fieldLink RX3 27 "NotEnded$Notebook" "size" "I") (List.mem_cons_of_mem _ (List.mem_append_left _ (List.mem_of_getElem? (i := 0) rfl)))) (fun _ h9 => h9) rfl dX3_add_65 ?_
    refine lv_iconst (v := 1) hx hb dX3_add_68 kc_i_1 ?_
    refine lv_iadd hx hb dX3_add_69 ?_
    refine lv_topi (fun y_10 ey_10 => ?_)
    obtain rfl : y_10 = nI (kn + 1) := ey_10.trans (nI_add (kn) (1))
    refine va_put (D := (dC, dI)) (ci := 3) (v := .int (nI (kn + 1))) (ty := tyX3 5) (C := RX3) (T := TX3) (N := 6) hx hb hts (fun _ h => List.mem_cons_of_mem _ (List.mem_append_right _ h)) tyX3 tyX3_ok nmX3 hown hK hP hD hS 0 rfl rfl 5 kc_l_5_6 (hts (.fieldLink RX3 27 "NotEnded$Notebook" "size" "I") (List.mem_cons_of_mem _ (List.mem_append_left _ (List.mem_of_getElem? (i := 0) rfl)))) (fun _ h9 => h9) rfl (tyX3_ok 5 kc_l_5_6) rfl rfl (Nat.le_of_ble_eq_true rfl) dX3_add_70 (fun H locs hP hD hS => ?_)
    have hPD : kPD dC dI A [(hN, .inr (3, [.ref o0, .ref o1, .ref o2, .ref o3, .ref o4, .int (nI (kn + 1))])), (o0, .inl (y0, 20, .inl f_4)), (o1, .inl (y1, 20, .inl f_6)), (o2, .inl (y2, 20, .inl f_7)), (o3, .inl (y3, 20, .inl f_8)), (o4, .inl (y4, 20, .inl f_9))] H := ⟨hP, hD⟩
    have hP := hPD.1
    have hD := hPD.2
    refine lv_aload_n hx hb dX3_add_73 rfl (lv_at hl 0 rfl) ?_
    refine va_get (D := (dC, dI)) (ci := 3) (v := .int (nI (kn + 1))) (C := RX3) (T := TX3) (N := 6) hx hb hts (fun _ h => List.mem_cons_of_mem _ (List.mem_append_right _ h)) hown hK hP 0 rfl rfl 5 kc_l_5_6 (hts (.fieldLink RX3 27 "NotEnded$Notebook" "size" "I") (List.mem_cons_of_mem _ (List.mem_append_left _ (List.mem_of_getElem? (i := 0) rfl)))) (fun _ h9 => h9) rfl dX3_add_74 ?_
    have hP9 := hP
    have hD9 := hD
    have hK9 := hK
    rw [hQ]
    exact W.iret (v := nI (kn + 1)) hx hb hr (fun t ht hW => ⟨⟨nI (kn + 1), (f_4, f_6, f_7, f_8, f_9, (kn + 1)), rfl, (by omega),  by rw [ht]; exact hP9, va_K.moved hW.alike hK9, hD9⟩, hS.F ht⟩) hS.2.2 dX3_add_77
  · have bd_12 : kn < 2147483648 := by omega
    have hn_11 := knlt (a := kn) (b := 20) bd_12 kc_31_20 c_1
    refine lv_iconst (v := (-1)) hx hb dX3_add_9 kc_i_m1 ?_
    have hP9 := hP
    have hD9 := hD
    have hK9 := hK
    rw [hQ]
    exact W.iret (v := (-1)) hx hb hr (fun t ht hW => ⟨⟨(-1), (q0, q1, q2, q3, q4, kn), rfl, (by omega),  by rw [ht]; exact hP9, va_K.moved hW.alike hK9, hD9⟩, hS.F ht⟩) hS.2.2 dX3_add_10

theorem dX0_add_0 : decode cX0_add 0 = .ok (.aload_n 0, 1) := kDs0 kf_42 (by decide +kernel)
theorem dX0_add_1 : decode cX0_add 1 = .ok (.getfield 24, 3) := kDs2 kf_180 (by decide +kernel)
theorem dX0_add_4 : decode cX0_add 4 = .ok (.bipush 6, 2) := kDs3 kf_16 (by decide +kernel)
theorem dX0_add_6 : decode cX0_add 6 = .ok (.if_icmp .lt 5, 3) := kDs4 kf_161 (by decide +kernel)
theorem dX0_add_11 : decode cX0_add 11 = .ok (.aload_n 0, 1) := kDs0 kf_42 (by decide +kernel)
theorem dX0_add_12 : decode cX0_add 12 = .ok (.getfield 9, 3) := kDs2 kf_180 (by decide +kernel)
theorem dX0_add_15 : decode cX0_add 15 = .ok (.aload_n 0, 1) := kDs0 kf_42 (by decide +kernel)
theorem dX0_add_16 : decode cX0_add 16 = .ok (.getfield 24, 3) := kDs2 kf_180 (by decide +kernel)
theorem dX0_add_19 : decode cX0_add 19 = .ok (.iload_n 1, 1) := kDs0 kf_27 (by decide +kernel)
theorem dX0_add_20 : decode cX0_add 20 = .ok (.iastore, 1) := kDs0 kf_79 (by decide +kernel)
theorem dX0_add_21 : decode cX0_add 21 = .ok (.aload_n 0, 1) := kDs0 kf_42 (by decide +kernel)
theorem dX0_add_22 : decode cX0_add 22 = .ok (.getfield 15, 3) := kDs2 kf_180 (by decide +kernel)
theorem dX0_add_25 : decode cX0_add 25 = .ok (.aload_n 0, 1) := kDs0 kf_42 (by decide +kernel)
theorem dX0_add_26 : decode cX0_add 26 = .ok (.getfield 24, 3) := kDs2 kf_180 (by decide +kernel)
theorem dX0_add_29 : decode cX0_add 29 = .ok (.iload_n 2, 1) := kDs0 kf_28 (by decide +kernel)
theorem dX0_add_30 : decode cX0_add 30 = .ok (.iastore, 1) := kDs0 kf_79 (by decide +kernel)
theorem dX0_add_31 : decode cX0_add 31 = .ok (.aload_n 0, 1) := kDs0 kf_42 (by decide +kernel)
theorem dX0_add_32 : decode cX0_add 32 = .ok (.getfield 18, 3) := kDs2 kf_180 (by decide +kernel)
theorem dX0_add_35 : decode cX0_add 35 = .ok (.aload_n 0, 1) := kDs0 kf_42 (by decide +kernel)
theorem dX0_add_36 : decode cX0_add 36 = .ok (.getfield 24, 3) := kDs2 kf_180 (by decide +kernel)
theorem dX0_add_39 : decode cX0_add 39 = .ok (.iload_n 3, 1) := kDs0 kf_29 (by decide +kernel)
theorem dX0_add_40 : decode cX0_add 40 = .ok (.iastore, 1) := kDs0 kf_79 (by decide +kernel)
theorem dX0_add_41 : decode cX0_add 41 = .ok (.aload_n 0, 1) := kDs0 kf_42 (by decide +kernel)
theorem dX0_add_42 : decode cX0_add 42 = .ok (.getfield 21, 3) := kDs2 kf_180 (by decide +kernel)
theorem dX0_add_45 : decode cX0_add 45 = .ok (.aload_n 0, 1) := kDs0 kf_42 (by decide +kernel)
theorem dX0_add_46 : decode cX0_add 46 = .ok (.getfield 24, 3) := kDs2 kf_180 (by decide +kernel)
theorem dX0_add_49 : decode cX0_add 49 = .ok (.iload 4, 2) := kDs1 kf_21 (by decide +kernel)
theorem dX0_add_51 : decode cX0_add 51 = .ok (.iastore, 1) := kDs0 kf_79 (by decide +kernel)
theorem dX0_add_52 : decode cX0_add 52 = .ok (.aload_n 0, 1) := kDs0 kf_42 (by decide +kernel)
theorem dX0_add_53 : decode cX0_add 53 = .ok (.dup, 1) := kDs0 kf_89 (by decide +kernel)
theorem dX0_add_54 : decode cX0_add 54 = .ok (.getfield 24, 3) := kDs2 kf_180 (by decide +kernel)
theorem dX0_add_57 : decode cX0_add 57 = .ok (.iconst 1, 1) := kDs0 kf_4 (by decide +kernel)
theorem dX0_add_58 : decode cX0_add 58 = .ok (.iadd, 1) := kDs0 kf_96 (by decide +kernel)
theorem dX0_add_59 : decode cX0_add 59 = .ok (.putfield 24, 3) := kDs2 kf_181 (by decide +kernel)
theorem dX0_add_62 : decode cX0_add 62 = .ok (.aload_n 0, 1) := kDs0 kf_42 (by decide +kernel)
theorem dX0_add_63 : decode cX0_add 63 = .ok (.getfield 24, 3) := kDs2 kf_180 (by decide +kernel)
theorem dX0_add_66 : decode cX0_add 66 = .ok (.iconst 1, 1) := kDs0 kf_4 (by decide +kernel)
theorem dX0_add_67 : decode cX0_add 67 = .ok (.isub, 1) := kDs0 kf_100 (by decide +kernel)
theorem dX0_add_68 : decode cX0_add 68 = .ok (.ireturn, 1) := kDs0 kf_172 (by decide +kernel)
theorem dX0_add_9 : decode cX0_add 9 = .ok (.iconst (-1), 1) := kDs0 kf_2 (by decide +kernel)
theorem dX0_add_10 : decode cX0_add 10 = .ok (.ireturn, 1) := kDs0 kf_172 (by decide +kernel)
def w_s_add0 : List Cond := .code yX0_add cX0_add 5 (some .int) :: ([.fieldLink RX0 24 "NotEnded$Acts" "size" "I", .fieldLink RX0 9 "NotEnded$Acts" "persons" "[I", .fieldLink RX0 15 "NotEnded$Acts" "kinds" "[I", .fieldLink RX0 18 "NotEnded$Acts" "things" "[I", .fieldLink RX0 21 "NotEnded$Acts" "costs" "[I"] ++ (wsX00))
theorem gw_s_add0 : (w_s_add0).all goodWord = true := kGc rfl (kGa (by decide +kernel) gw_wsX00)
theorem hd_X0_add : yX0_add.cls ≠ "java/lang/invoke/MethodHandle" ∧ yX0_add.cls ≠ "java/lang/invoke/VarHandle" ∧ (parseMethodDescriptor yX0_add.desc).map (fun d => d.parameters.length) = some 4 := by decide +kernel
set_option maxHeartbeats 4000000 in
set_option maxRecDepth 100000 in
theorem s_add0 (l : Launch) (dC : Nat → ClassId) (dI : Nat → Nat → Nat) (jA : Nat) (i0 : Nat) (i1 : Nat) (i2 : Nat) (i3 : Nat) (x0 : ClassId) (x1 : ClassId) (x2 : ClassId) (x3 : ClassId) (t0 : Nat → Int32) (t1 : Nat → Int32) (t2 : Nat → Int32) (t3 : Nat → Int32) (ka : Nat) (hka : ka ≤ 6) (p0 : Int32) (p1 : Int32) (p2 : Int32) (p3 : Int32) (sz : Nat) : Met l yX0_add w_s_add0 ({ frames := 1, cells := 0, slots := 0, locals := 60 }) (kW dC dI [.ref jA, .int p0, .int p1, .int p2, .int p3] [(jA, .inr (0, [.ref i0, .ref i1, .ref i2, .ref i3, .int (nI (ka))])), (i0, .inl (x0, 6, .inl t0)), (i1, .inl (x1, 6, .inl t1)), (i2, .inl (x2, 6, .inl t2)), (i3, .inl (x3, 6, .inl t3))] [(x0, .int), (x1, .int), (x2, .int), (x3, .int)] kT sz) (va_Qi (fun (r : Int32) (u : (Nat → Int32) × (Nat → Int32) × (Nat → Int32) × (Nat → Int32) × Nat) => match u with | (n0, n1, n2, n3, ka1) => ka1 ≤ 6) (fun (u : (Nat → Int32) × (Nat → Int32) × (Nat → Int32) × (Nat → Int32) × Nat) => match u with | (n0, n1, n2, n3, ka1) => fun t : State => kB dC dI [(jA, .inr (0, [.ref i0, .ref i1, .ref i2, .ref i3, .int (nI (ka1))])), (i0, .inl (x0, 6, .inl n0)), (i1, .inl (x1, 6, .inl n1)), (i2, .inl (x2, 6, .inl n2)), (i3, .inl (x3, 6, .inl n3))] [(x0, .int), (x1, .int), (x2, .int), (x3, .int)] (va_A [(jA, .inr (0, [.ref i0, .ref i1, .ref i2, .ref i3, .int (nI (ka))])), (i0, .inl (x0, 6, .inl t0)), (i1, .inl (x1, 6, .inl t1)), (i2, .inl (x2, 6, .inl t2)), (i3, .inl (x3, 6, .inl t3))] sz) t) (va_A [(jA, .inr (0, [.ref i0, .ref i1, .ref i2, .ref i3, .int (nI (ka))])), (i0, .inl (x0, 6, .inl t0)), (i1, .inl (x1, 6, .inl t1)), (i2, .inl (x2, 6, .inl t2)), (i3, .inl (x3, 6, .inl t3))] sz)) 0 0 (va_A [(jA, .inr (0, [.ref i0, .ref i1, .ref i2, .ref i3, .int (nI (ka))])), (i0, .inl (x0, 6, .inl t0)), (i1, .inl (x1, 6, .inl t1)), (i2, .inl (x2, 6, .inl t2)), (i3, .inl (x3, 6, .inl t3))] sz) := by
  refine Met.ofW (cc := cX0_add) (maxL := 5) (ret := (some .int)) (by decide) rfl ?_
  intro p e s m args below meth c s₁ B hml hv
  obtain ⟨rfl, hsz, hP, hK, hD0, hX⟩ := hv
  have hx := B.exec
  have hb := B.bytes
  have hr := B.returns
  have hts := atoms_spec (ws := w_s_add0) B.pre
  have hown : s.vm.findClass RX0 = some m.cls := findClass_of_methodNamed B.named
  have hlocks := B.notSynchronized
  subst hsz
  have hD := hD0.self (sz := s.heap.size)
  generalize hAe : va_A [(jA, .inr (0, [.ref i0, .ref i1, .ref i2, .ref i3, .int (nI (ka))])), (i0, .inl (x0, 6, .inl t0)), (i1, .inl (x1, 6, .inl t1)), (i2, .inl (x2, 6, .inl t2)), (i3, .inl (x3, 6, .inl t3))] s.heap.size = A at hD ⊢
  have hA : ∀ q : Nat, s.heap.size ≤ q → A q := fun q h => by rw [← hAe]; exact Or.inr h
  have hS : va_S A s.heap s.heap [] := va_S.rf
  have hP : va_P (dC, dI) vwCl [(jA, .inr (0, [.ref i0, .ref i1, .ref i2, .ref i3, .int (nI (ka))])), (i0, .inl (x0, 6, .inl t0)), (i1, .inl (x1, 6, .inl t1)), (i2, .inl (x2, 6, .inl t2)), (i3, .inl (x3, 6, .inl t3))] s.heap := hP
  have hl := lv_entry ([.ref jA, .int p0, .int p1, .int p2, .int p3]) (n := 5) (Nat.le_of_ble_eq_true rfl)
  rw [lg_entry_eq]
  generalize (lg_sl ([.ref jA, .int p0, .int p1, .int p2, .int p3]) ++ List.replicate (5 - (lg_sl ([.ref jA, .int p0, .int p1, .int p2, .int p3])).length) Slot.unset).toArray = ls at hl ⊢
  have hl : lv_has ls 5 [(0, .ref jA), (1, .int p0), (2, .int p1), (3, .int p2), (4, .int p3)] := hl
  refine kQ (fun Q hQ => ?_)
  refine lv_aload_n hx hb dX0_add_0 rfl (lv_at hl 0 rfl) ?_
  refine va_get (D := (dC, dI)) (ci := 0) (v := .int (nI (ka))) (C := RX0) (T := TX0) (N := 5) hx hb hts (fun _ h => List.mem_cons_of_mem _ (List.mem_append_right _ h)) hown hK hP 0 rfl rfl 4 kc_l_4_5 (hts (.fieldLink RX0 24 "NotEnded$Acts" "size" "I") (List.mem_cons_of_mem _ (List.mem_append_left _ (List.mem_of_getElem? (i := 0) rfl)))) (fun _ h9 => h9) rfl dX0_add_1 ?_
  refine lv_bipush (v := 6) hx hb dX0_add_4 kc_b_6 ?_
  refine lv_icmp_lt (tgt := 11) hx hb dX0_add_6 kc_t_6_5 (fun c_1 => ?_) (fun c_1 => ?_)
  · have bd_3 : ka < 2147483648 := by omega
    have hn_2 := klt (a := ka) (b := 6) bd_3 kc_31_6 c_1
    refine lv_aload_n hx hb dX0_add_11 rfl (lv_at hl 0 rfl) ?_
    refine va_get (D := (dC, dI)) (ci := 0) (v := .ref i0) (C := RX0) (T := TX0) (N := 5) hx hb hts (fun _ h => List.mem_cons_of_mem _ (List.mem_append_right _ h)) hown hK hP 0 rfl rfl 0 kc_l_0_5 (hts (.fieldLink RX0 9 "NotEnded$Acts" "persons" "[I") (List.mem_cons_of_mem _ (List.mem_append_left _ (List.mem_of_getElem? (i := 1) rfl)))) (fun _ h9 => h9) rfl dX0_add_12 ?_
    refine lv_aload_n hx hb dX0_add_15 rfl (lv_at hl 0 rfl) ?_
    refine va_get (D := (dC, dI)) (ci := 0) (v := .int (nI (ka))) (C := RX0) (T := TX0) (N := 5) hx hb hts (fun _ h => List.mem_cons_of_mem _ (List.mem_append_right _ h)) hown hK hP 0 rfl rfl 4 kc_l_4_5 (hts (.fieldLink RX0 24 "NotEnded$Acts" "size" "I") (List.mem_cons_of_mem _ (List.mem_append_left _ (List.mem_of_getElem? (i := 0) rfl)))) (fun _ h9 => h9) rfl dX0_add_16 ?_
    refine lv_iload_n hx hb dX0_add_19 rfl (lv_at hl 1 rfl) ?_
    have bd_5 : ka < 6 := by omega
    refine va_iast hx hb hK hP hD hS 1 0 rfl rfl (vp_in_nI (n := ka) (N := 6) bd_5 kc_31_6) dX0_add_20 (fun H locs hP hD hS => ?_)
    obtain ⟨f_4, ef_4⟩ : ∃ gg9 : Nat → Int32, gg9 = upd t0 (Int32.toNatClampNeg (nI (ka))) p0 := ⟨_, rfl⟩
    have hPD : kPD dC dI A [(jA, .inr (0, [.ref i0, .ref i1, .ref i2, .ref i3, .int (nI (ka))])), (i0, .inl (x0, 6, .inl f_4)), (i1, .inl (x1, 6, .inl t1)), (i2, .inl (x2, 6, .inl t2)), (i3, .inl (x3, 6, .inl t3))] H := by rw [ef_4]; exact ⟨hP, hD⟩
    have hP := hPD.1
    have hD := hPD.2
    refine lv_aload_n hx hb dX0_add_21 rfl (lv_at hl 0 rfl) ?_
    refine va_get (D := (dC, dI)) (ci := 0) (v := .ref i1) (C := RX0) (T := TX0) (N := 5) hx hb hts (fun _ h => List.mem_cons_of_mem _ (List.mem_append_right _ h)) hown hK hP 0 rfl rfl 1 kc_l_1_5 (hts (.fieldLink RX0 15 "NotEnded$Acts" "kinds" "[I") (List.mem_cons_of_mem _ (List.mem_append_left _ (List.mem_of_getElem? (i := 2) rfl)))) (fun _ h9 => h9) rfl dX0_add_22 ?_
    refine lv_aload_n hx hb dX0_add_25 rfl (lv_at hl 0 rfl) ?_
    refine va_get (D := (dC, dI)) (ci := 0) (v := .int (nI (ka))) (C := RX0) (T := TX0) (N := 5) hx hb hts (fun _ h => List.mem_cons_of_mem _ (List.mem_append_right _ h)) hown hK hP 0 rfl rfl 4 kc_l_4_5 (hts (.fieldLink RX0 24 "NotEnded$Acts" "size" "I") (List.mem_cons_of_mem _ (List.mem_append_left _ (List.mem_of_getElem? (i := 0) rfl)))) (fun _ h9 => h9) rfl dX0_add_26 ?_
    refine lv_iload_n hx hb dX0_add_29 rfl (lv_at hl 2 rfl) ?_
    refine va_iast hx hb hK hP hD hS 2 1 rfl rfl (vp_in_nI (n := ka) (N := 6) bd_5 kc_31_6) dX0_add_30 (fun H locs hP hD hS => ?_)
    obtain ⟨f_6, ef_6⟩ : ∃ gg9 : Nat → Int32, gg9 = upd t1 (Int32.toNatClampNeg (nI (ka))) p1 := ⟨_, rfl⟩
    have hPD : kPD dC dI A [(jA, .inr (0, [.ref i0, .ref i1, .ref i2, .ref i3, .int (nI (ka))])), (i0, .inl (x0, 6, .inl f_4)), (i1, .inl (x1, 6, .inl f_6)), (i2, .inl (x2, 6, .inl t2)), (i3, .inl (x3, 6, .inl t3))] H := by rw [ef_6]; exact ⟨hP, hD⟩
    have hP := hPD.1
    have hD := hPD.2
    refine lv_aload_n hx hb dX0_add_31 rfl (lv_at hl 0 rfl) ?_
    refine va_get (D := (dC, dI)) (ci := 0) (v := .ref i2) (C := RX0) (T := TX0) (N := 5) hx hb hts (fun _ h => List.mem_cons_of_mem _ (List.mem_append_right _ h)) hown hK hP 0 rfl rfl 2 kc_l_2_5 (hts (.fieldLink RX0 18 "NotEnded$Acts" "things" "[I") (List.mem_cons_of_mem _ (List.mem_append_left _ (List.mem_of_getElem? (i := 3) rfl)))) (fun _ h9 => h9) rfl dX0_add_32 ?_
    refine lv_aload_n hx hb dX0_add_35 rfl (lv_at hl 0 rfl) ?_
    refine va_get (D := (dC, dI)) (ci := 0) (v := .int (nI (ka))) (C := RX0) (T := TX0) (N := 5) hx hb hts (fun _ h => List.mem_cons_of_mem _ (List.mem_append_right _ h)) hown hK hP 0 rfl rfl 4 kc_l_4_5 (hts (.fieldLink RX0 24 "NotEnded$Acts" "size" "I") (List.mem_cons_of_mem _ (List.mem_append_left _ (List.mem_of_getElem? (i := 0) rfl)))) (fun _ h9 => h9) rfl dX0_add_36 ?_
    refine lv_iload_n hx hb dX0_add_39 rfl (lv_at hl 3 rfl) ?_
    refine va_iast hx hb hK hP hD hS 3 2 rfl rfl (vp_in_nI (n := ka) (N := 6) bd_5 kc_31_6) dX0_add_40 (fun H locs hP hD hS => ?_)
    obtain ⟨f_7, ef_7⟩ : ∃ gg9 : Nat → Int32, gg9 = upd t2 (Int32.toNatClampNeg (nI (ka))) p2 := ⟨_, rfl⟩
    have hPD : kPD dC dI A [(jA, .inr (0, [.ref i0, .ref i1, .ref i2, .ref i3, .int (nI (ka))])), (i0, .inl (x0, 6, .inl f_4)), (i1, .inl (x1, 6, .inl f_6)), (i2, .inl (x2, 6, .inl f_7)), (i3, .inl (x3, 6, .inl t3))] H := by rw [ef_7]; exact ⟨hP, hD⟩
    have hP := hPD.1
    have hD := hPD.2
    refine lv_aload_n hx hb dX0_add_41 rfl (lv_at hl 0 rfl) ?_
    refine va_get (D := (dC, dI)) (ci := 0) (v := .ref i3) (C := RX0) (T := TX0) (N := 5) hx hb hts (fun _ h => List.mem_cons_of_mem _ (List.mem_append_right _ h)) hown hK hP 0 rfl rfl 3 kc_l_3_5 (hts (.fieldLink RX0 21 "NotEnded$Acts" "costs" "[I") (List.mem_cons_of_mem _ (List.mem_append_left _ (List.mem_of_getElem? (i := 4) rfl)))) (fun _ h9 => h9) rfl dX0_add_42 ?_
    refine lv_aload_n hx hb dX0_add_45 rfl (lv_at hl 0 rfl) ?_
    refine va_get (D := (dC, dI)) (ci := 0) (v := .int (nI (ka))) (C := RX0) (T := TX0) (N := 5) hx hb hts (fun _ h => List.mem_cons_of_mem _ (List.mem_append_right _ h)) hown hK hP 0 rfl rfl 4 kc_l_4_5 (hts (.fieldLink RX0 24 "NotEnded$Acts" "size" "I") (List.mem_cons_of_mem _ (List.mem_append_left _ (List.mem_of_getElem? (i := 0) rfl)))) (fun _ h9 => h9) rfl dX0_add_46 ?_
    refine lv_iload hx hb dX0_add_49 (lv_at hl 4 rfl) ?_
    refine va_iast hx hb hK hP hD hS 4 3 rfl rfl (vp_in_nI (n := ka) (N := 6) bd_5 kc_31_6) dX0_add_51 (fun H locs hP hD hS => ?_)
    obtain ⟨f_8, ef_8⟩ : ∃ gg9 : Nat → Int32, gg9 = upd t3 (Int32.toNatClampNeg (nI (ka))) p3 := ⟨_, rfl⟩
    have hPD : kPD dC dI A [(jA, .inr (0, [.ref i0, .ref i1, .ref i2, .ref i3, .int (nI (ka))])), (i0, .inl (x0, 6, .inl f_4)), (i1, .inl (x1, 6, .inl f_6)), (i2, .inl (x2, 6, .inl f_7)), (i3, .inl (x3, 6, .inl f_8))] H := by rw [ef_8]; exact ⟨hP, hD⟩
    have hP := hPD.1
    have hD := hPD.2
    refine lv_aload_n hx hb dX0_add_52 rfl (lv_at hl 0 rfl) ?_
    refine lv_dup hx hb dX0_add_53 rfl ?_
    refine va_get (D := (dC, dI)) (ci := 0) (v := .int (nI (ka))) (C := RX0) (T := TX0) (N := 5) hx hb hts (fun _ h => List.mem_cons_of_mem _ (List.mem_append_right _ h)) hown hK hP 0 rfl rfl 4 kc_l_4_5 (hts (.fieldLink RX0 24 "NotEnded$Acts" "size" "I") (List.mem_cons_of_mem _ (List.mem_append_left _ (List.mem_of_getElem? (i := 0) rfl)))) (fun _ h9 => h9) rfl dX0_add_54 ?_
    refine lv_iconst (v := 1) hx hb dX0_add_57 kc_i_1 ?_
    refine lv_iadd hx hb dX0_add_58 ?_
    refine lv_topi (fun y_9 ey_9 => ?_)
    obtain rfl : y_9 = nI (ka + 1) := ey_9.trans (nI_add (ka) (1))
    refine va_put (D := (dC, dI)) (ci := 0) (v := .int (nI (ka + 1))) (ty := tyX0 4) (C := RX0) (T := TX0) (N := 5) hx hb hts (fun _ h => List.mem_cons_of_mem _ (List.mem_append_right _ h)) tyX0 tyX0_ok nmX0 hown hK hP hD hS 0 rfl rfl 4 kc_l_4_5 (hts (.fieldLink RX0 24 "NotEnded$Acts" "size" "I") (List.mem_cons_of_mem _ (List.mem_append_left _ (List.mem_of_getElem? (i := 0) rfl)))) (fun _ h9 => h9) rfl (tyX0_ok 4 kc_l_4_5) rfl rfl (Nat.le_of_ble_eq_true rfl) dX0_add_59 (fun H locs hP hD hS => ?_)
    have hPD : kPD dC dI A [(jA, .inr (0, [.ref i0, .ref i1, .ref i2, .ref i3, .int (nI (ka + 1))])), (i0, .inl (x0, 6, .inl f_4)), (i1, .inl (x1, 6, .inl f_6)), (i2, .inl (x2, 6, .inl f_7)), (i3, .inl (x3, 6, .inl f_8))] H := ⟨hP, hD⟩
    have hP := hPD.1
    have hD := hPD.2
    refine lv_aload_n hx hb dX0_add_62 rfl (lv_at hl 0 rfl) ?_
    refine va_get (D := (dC, dI)) (ci := 0) (v := .int (nI (ka + 1))) (C := RX0) (T := TX0) (N := 5) hx hb hts (fun _ h => List.mem_cons_of_mem _ (List.mem_append_right _ h)) hown hK hP 0 rfl rfl 4 kc_l_4_5 (hts (.fieldLink RX0 24 "NotEnded$Acts" "size" "I") (List.mem_cons_of_mem _ (List.mem_append_left _ (List.mem_of_getElem? (i := 0) rfl)))) (fun _ h9 => h9) rfl dX0_add_63 ?_
    refine lv_iconst (v := 1) hx hb dX0_add_66 kc_i_1 ?_
    refine lv_isub hx hb dX0_add_67 ?_
    refine lv_topi (fun y_10 ey_10 => ?_)
    obtain rfl : y_10 = nI (ka + 1 - 1) := ey_10.trans (pk_sub (a := ka + 1) (b := 1) (by omega))
    have hP9 := hP
    have hD9 := hD
    have hK9 := hK
    rw [hQ]
    exact W.iret (v := nI (ka + 1 - 1)) hx hb hr (fun t ht hW => ⟨⟨nI (ka + 1 - 1), (f_4, f_6, f_7, f_8, (ka + 1)), rfl, (by omega),  by rw [ht]; exact hP9, va_K.moved hW.alike hK9, hD9⟩, hS.F ht⟩) hS.2.2 dX0_add_68
  · have bd_12 : ka < 2147483648 := by omega
    have hn_11 := knlt (a := ka) (b := 6) bd_12 kc_31_6 c_1
    refine lv_iconst (v := (-1)) hx hb dX0_add_9 kc_i_m1 ?_
    have hP9 := hP
    have hD9 := hD
    have hK9 := hK
    rw [hQ]
    exact W.iret (v := (-1)) hx hb hr (fun t ht hW => ⟨⟨(-1), (t0, t1, t2, t3, ka), rfl, (by omega),  by rw [ht]; exact hP9, va_K.moved hW.alike hK9, hD9⟩, hS.F ht⟩) hS.2.2 dX0_add_10

theorem dX0_size_0 : decode cX0_size 0 = .ok (.aload_n 0, 1) := kDs0 kf_42 (by decide +kernel)
theorem dX0_size_1 : decode cX0_size 1 = .ok (.getfield 24, 3) := kDs2 kf_180 (by decide +kernel)
theorem dX0_size_4 : decode cX0_size 4 = .ok (.ireturn, 1) := kDs0 kf_172 (by decide +kernel)
def w_s_size0 : List Cond := .code yX0_size cX0_size 1 (some .int) :: ([.fieldLink RX0 24 "NotEnded$Acts" "size" "I"] ++ (wsX00))
theorem gw_s_size0 : (w_s_size0).all goodWord = true := kGc rfl (kGa (by decide +kernel) gw_wsX00)
theorem hd_X0_size : yX0_size.cls ≠ "java/lang/invoke/MethodHandle" ∧ yX0_size.cls ≠ "java/lang/invoke/VarHandle" ∧ (parseMethodDescriptor yX0_size.desc).map (fun d => d.parameters.length) = some 0 := by decide +kernel
set_option maxHeartbeats 4000000 in
set_option maxRecDepth 100000 in
theorem s_size0 (l : Launch) (dC : Nat → ClassId) (dI : Nat → Nat → Nat) (jA : Nat) (i0 : Nat) (i1 : Nat) (i2 : Nat) (i3 : Nat) (x0 : ClassId) (x1 : ClassId) (x2 : ClassId) (x3 : ClassId) (t0 : Nat → Int32) (t1 : Nat → Int32) (t2 : Nat → Int32) (t3 : Nat → Int32) (ka : Nat) (hka : ka ≤ 6) : Met l yX0_size w_s_size0 ({ frames := 1, cells := 0, slots := 0, locals := 60 }) (kR dC dI [.ref jA] [(jA, .inr (0, [.ref i0, .ref i1, .ref i2, .ref i3, .int (nI (ka))])), (i0, .inl (x0, 6, .inl t0)), (i1, .inl (x1, 6, .inl t1)), (i2, .inl (x2, 6, .inl t2)), (i3, .inl (x3, 6, .inl t3))] [(x0, .int), (x1, .int), (x2, .int), (x3, .int)] kT) (vp_Si (fun r : Int32 => r = nI ka)) 0 0 (fun _ => False) := by
  refine Met.ofW (cc := cX0_size) (maxL := 1) (ret := (some .int)) (by decide) rfl ?_
  intro p e s m args below meth c s₁ B hml hv
  obtain ⟨rfl, hP, hK, hX⟩ := hv
  have hx := B.exec
  have hb := B.bytes
  have hr := B.returns
  have hts := atoms_spec (ws := w_s_size0) B.pre
  have hown : s.vm.findClass RX0 = some m.cls := findClass_of_methodNamed B.named
  have hlocks := B.notSynchronized
  have hP : va_P (dC, dI) vwCl [(jA, .inr (0, [.ref i0, .ref i1, .ref i2, .ref i3, .int (nI (ka))])), (i0, .inl (x0, 6, .inl t0)), (i1, .inl (x1, 6, .inl t1)), (i2, .inl (x2, 6, .inl t2)), (i3, .inl (x3, 6, .inl t3))] s.heap := hP
  have hl := lv_entry ([.ref jA]) (n := 1) (Nat.le_of_ble_eq_true rfl)
  rw [lg_entry_eq]
  generalize (lg_sl ([.ref jA]) ++ List.replicate (1 - (lg_sl ([.ref jA])).length) Slot.unset).toArray = ls at hl ⊢
  have hl : lv_has ls 1 [(0, .ref jA)] := hl
  refine kQ (fun Q hQ => ?_)
  refine lv_aload_n hx hb dX0_size_0 rfl (lv_at hl 0 rfl) ?_
  refine va_get (D := (dC, dI)) (ci := 0) (v := .int (nI (ka))) (C := RX0) (T := TX0) (N := 5) hx hb hts (fun _ h => List.mem_cons_of_mem _ (List.mem_append_right _ h)) hown hK hP 0 rfl rfl 4 kc_l_4_5 (hts (.fieldLink RX0 24 "NotEnded$Acts" "size" "I") (List.mem_cons_of_mem _ (List.mem_append_left _ (List.mem_of_getElem? (i := 0) rfl)))) (fun _ h9 => h9) rfl dX0_size_1 ?_
  rw [hQ]
  exact W.iret (v := nI (ka)) hx hb hr (fun t ht hW => ⟨nI (ka), rfl, rfl, ht⟩) (fun _ h => nomatch h) dX0_size_4

theorem dX0_actsFor_0 : decode cX0_actsFor 0 = .ok (.iconst 0, 1) := kDs0 kf_3 (by decide +kernel)
theorem dX0_actsFor_1 : decode cX0_actsFor 1 = .ok (.istore_n 2, 1) := kDs0 kf_61 (by decide +kernel)
theorem dX0_actsFor_2 : decode cX0_actsFor 2 = .ok (.iconst 0, 1) := kDs0 kf_3 (by decide +kernel)
theorem dX0_actsFor_3 : decode cX0_actsFor 3 = .ok (.istore_n 3, 1) := kDs0 kf_62 (by decide +kernel)
theorem dX0_actsFor_4 : decode cX0_actsFor 4 = .ok (.iload_n 3, 1) := kDs0 kf_29 (by decide +kernel)
theorem dX0_actsFor_5 : decode cX0_actsFor 5 = .ok (.aload_n 0, 1) := kDs0 kf_42 (by decide +kernel)
theorem dX0_actsFor_6 : decode cX0_actsFor 6 = .ok (.getfield 24, 3) := kDs2 kf_180 (by decide +kernel)
theorem dX0_actsFor_9 : decode cX0_actsFor 9 = .ok (.if_icmp .ge 25, 3) := kDs4 kf_162 (by decide +kernel)
theorem dX0_actsFor_34 : decode cX0_actsFor 34 = .ok (.iload_n 2, 1) := kDs0 kf_28 (by decide +kernel)
theorem dX0_actsFor_35 : decode cX0_actsFor 35 = .ok (.ireturn, 1) := kDs0 kf_172 (by decide +kernel)
theorem dX0_actsFor_12 : decode cX0_actsFor 12 = .ok (.aload_n 0, 1) := kDs0 kf_42 (by decide +kernel)
theorem dX0_actsFor_13 : decode cX0_actsFor 13 = .ok (.getfield 9, 3) := kDs2 kf_180 (by decide +kernel)
theorem dX0_actsFor_16 : decode cX0_actsFor 16 = .ok (.iload_n 3, 1) := kDs0 kf_29 (by decide +kernel)
theorem dX0_actsFor_17 : decode cX0_actsFor 17 = .ok (.iaload, 1) := kDs0 kf_46 (by decide +kernel)
theorem dX0_actsFor_18 : decode cX0_actsFor 18 = .ok (.iload_n 1, 1) := kDs0 kf_27 (by decide +kernel)
theorem dX0_actsFor_19 : decode cX0_actsFor 19 = .ok (.if_icmp .ne 9, 3) := kDs4 kf_160 (by decide +kernel)
theorem dX0_actsFor_28 : decode cX0_actsFor 28 = .ok (.iinc 3 1, 3) := kDs5 kf_132 (by decide +kernel)
theorem dX0_actsFor_31 : decode cX0_actsFor 31 = .ok (.goto (-27), 3) := kDs4 kf_167 (by decide +kernel)
theorem dX0_actsFor_22 : decode cX0_actsFor 22 = .ok (.iload_n 2, 1) := kDs0 kf_28 (by decide +kernel)
theorem dX0_actsFor_23 : decode cX0_actsFor 23 = .ok (.iconst 1, 1) := kDs0 kf_4 (by decide +kernel)
theorem dX0_actsFor_24 : decode cX0_actsFor 24 = .ok (.iload_n 3, 1) := kDs0 kf_29 (by decide +kernel)
theorem dX0_actsFor_25 : decode cX0_actsFor 25 = .ok (.ishl, 1) := kDs0 kf_120 (by decide +kernel)
theorem dX0_actsFor_26 : decode cX0_actsFor 26 = .ok (.ior, 1) := kDs0 kf_128 (by decide +kernel)
theorem dX0_actsFor_27 : decode cX0_actsFor 27 = .ok (.istore_n 2, 1) := kDs0 kf_61 (by decide +kernel)
def w_s_actsFor0 : List Cond := .code yX0_actsFor cX0_actsFor 4 (some .int) :: ([.fieldLink RX0 24 "NotEnded$Acts" "size" "I", .fieldLink RX0 9 "NotEnded$Acts" "persons" "[I"] ++ (wsX00))
theorem gw_s_actsFor0 : (w_s_actsFor0).all goodWord = true := kGc rfl (kGa (by decide +kernel) gw_wsX00)
theorem hd_X0_actsFor : yX0_actsFor.cls ≠ "java/lang/invoke/MethodHandle" ∧ yX0_actsFor.cls ≠ "java/lang/invoke/VarHandle" ∧ (parseMethodDescriptor yX0_actsFor.desc).map (fun d => d.parameters.length) = some 1 := by decide +kernel
set_option maxHeartbeats 4000000 in
set_option maxRecDepth 100000 in
theorem s_actsFor0 (l : Launch) (dC : Nat → ClassId) (dI : Nat → Nat → Nat) (jA : Nat) (i0 : Nat) (i1 : Nat) (i2 : Nat) (i3 : Nat) (x0 : ClassId) (x1 : ClassId) (x2 : ClassId) (x3 : ClassId) (t0 : Nat → Int32) (t1 : Nat → Int32) (t2 : Nat → Int32) (t3 : Nat → Int32) (ka : Nat) (hka : ka ≤ 6) (p0 : Int32) : Met l yX0_actsFor w_s_actsFor0 ({ frames := 1, cells := 0, slots := 0, locals := 60 }) (kR dC dI [.ref jA, .int p0] [(jA, .inr (0, [.ref i0, .ref i1, .ref i2, .ref i3, .int (nI (ka))])), (i0, .inl (x0, 6, .inl t0)), (i1, .inl (x1, 6, .inl t1)), (i2, .inl (x2, 6, .inl t2)), (i3, .inl (x3, 6, .inl t3))] [(x0, .int), (x1, .int), (x2, .int), (x3, .int)] kT) (vp_Si (fun r : Int32 => True)) 0 0 (fun _ => False) := by
  refine Met.ofW (cc := cX0_actsFor) (maxL := 4) (ret := (some .int)) (by decide) rfl ?_
  intro p e s m args below meth c s₁ B hml hv
  obtain ⟨rfl, hP, hK, hX⟩ := hv
  have hx := B.exec
  have hb := B.bytes
  have hr := B.returns
  have hts := atoms_spec (ws := w_s_actsFor0) B.pre
  have hown : s.vm.findClass RX0 = some m.cls := findClass_of_methodNamed B.named
  have hlocks := B.notSynchronized
  have hP : va_P (dC, dI) vwCl [(jA, .inr (0, [.ref i0, .ref i1, .ref i2, .ref i3, .int (nI (ka))])), (i0, .inl (x0, 6, .inl t0)), (i1, .inl (x1, 6, .inl t1)), (i2, .inl (x2, 6, .inl t2)), (i3, .inl (x3, 6, .inl t3))] s.heap := hP
  have hl := lv_entry ([.ref jA, .int p0]) (n := 4) (Nat.le_of_ble_eq_true rfl)
  rw [lg_entry_eq]
  generalize (lg_sl ([.ref jA, .int p0]) ++ List.replicate (4 - (lg_sl ([.ref jA, .int p0])).length) Slot.unset).toArray = ls at hl ⊢
  have hl : lv_has ls 4 [(0, .ref jA), (1, .int p0)] := hl
  refine kQ (fun Q hQ => ?_)
  refine lv_iconst (v := 0) hx hb dX0_actsFor_0 kc_i_0 ?_
  refine lv_istore_n hx hb dX0_actsFor_1 rfl hl kc_l_2_4 (kTo [(2, .int 0), (0, .ref jA), (1, .int p0)]) (fun ls hl => ?_)
  refine lv_iconst (v := 0) hx hb dX0_actsFor_2 kc_i_0 ?_
  refine lv_istore_n hx hb dX0_actsFor_3 rfl hl kc_l_3_4 (kTo [(3, .int 0), (2, .int 0), (0, .ref jA), (1, .int p0)]) (fun ls hl => ?_)
  have lp_k_1 : ∀ (n9 : Nat) (i : Nat) (x9 : Int32) (ivk_1_0 : i ≤ ka) (ls : Array Slot) (_ : lv_has ls 4 [(3, .int (nI (i))), (2, .int x9), (0, .ref jA), (1, .int p0)]) (_ : ka - i < n9), W p l e (headSpec w_s_actsFor0 ({ frames := 1, cells := 0, slots := 0, locals := 60 })).room s m (#[.ref jA, .int p0] : Array Value) below meth c s.heap [] 0 0 Q (F0 m 4 ls []) := by
    intro n9
    induction n9 with
    | zero => intro i x9 ivk_1_0 ls hl hm9; exact absurd hm9 (Nat.not_lt_zero _)
    | succ n9 ih_k_1 =>
      intro i x9 ivk_1_0 ls hl hm9
      refine lv_iload_n hx hb dX0_actsFor_4 rfl (lv_at hl 0 rfl) ?_
      refine lv_aload_n hx hb dX0_actsFor_5 rfl (lv_at hl 2 rfl) ?_
      refine va_get (D := (dC, dI)) (ci := 0) (v := .int (nI (ka))) (C := RX0) (T := TX0) (N := 5) hx hb hts (fun _ h => List.mem_cons_of_mem _ (List.mem_append_right _ h)) hown hK hP 0 rfl rfl 4 kc_l_4_5 (hts (.fieldLink RX0 24 "NotEnded$Acts" "size" "I") (List.mem_cons_of_mem _ (List.mem_append_left _ (List.mem_of_getElem? (i := 0) rfl)))) (fun _ h9 => h9) rfl dX0_actsFor_6 ?_
      refine lv_icmp_ge (tgt := 34) hx hb dX0_actsFor_9 kc_t_9_25 (fun c_2 => ?_) (fun c_2 => ?_)
      · have bd_4 : ka < 2147483648 := by omega
        have bd_5 : i < 2147483648 := by omega
        have hn_3 := kle (a := ka) (b := i) bd_4 bd_5 c_2
        refine lv_iload_n hx hb dX0_actsFor_34 rfl (lv_at hl 1 rfl) ?_
        rw [hQ]
        exact W.iret (v := x9) hx hb hr (fun t ht hW => ⟨x9, rfl, trivial, ht⟩) (fun _ h => nomatch h) dX0_actsFor_35
      · have bd_7 : ka < 2147483648 := by omega
        have bd_8 : i < 2147483648 := by omega
        have hn_6 := knle (a := ka) (b := i) bd_7 bd_8 c_2
        refine lv_aload_n hx hb dX0_actsFor_12 rfl (lv_at hl 2 rfl) ?_
        refine va_get (D := (dC, dI)) (ci := 0) (v := .ref i0) (C := RX0) (T := TX0) (N := 5) hx hb hts (fun _ h => List.mem_cons_of_mem _ (List.mem_append_right _ h)) hown hK hP 0 rfl rfl 0 kc_l_0_5 (hts (.fieldLink RX0 9 "NotEnded$Acts" "persons" "[I") (List.mem_cons_of_mem _ (List.mem_append_left _ (List.mem_of_getElem? (i := 1) rfl)))) (fun _ h9 => h9) rfl dX0_actsFor_13 ?_
        refine lv_iload_n hx hb dX0_actsFor_16 rfl (lv_at hl 0 rfl) ?_
        have bd_9 : i < 6 := by omega
        refine va_iald hx hb hK hP 1 0 rfl rfl (vp_in_nI (n := i) (N := 6) bd_9 kc_31_6) dX0_actsFor_17 ?_
        refine lv_topi (fun x_10 ex_10 => ?_)
        refine lv_iload_n hx hb dX0_actsFor_18 rfl (lv_at hl 3 rfl) ?_
        refine lv_icmp_ne (tgt := 28) hx hb dX0_actsFor_19 kc_t_19_9 (fun c_11 => ?_) (fun c_11 => ?_)
        · refine lv_iinc (v := nI (i + 1)) hx hb dX0_actsFor_28 hl (k := 0) rfl (kInc _ 1) kc_l_3_4 (kTo [(3, .int (nI (i + 1))), (2, .int x9), (0, .ref jA), (1, .int p0)]) (fun ls hl => ?_)
          refine lv_goto (tgt := 4) hx hb dX0_actsFor_31 kc_t_31_m27 ?_
          exact ih_k_1 (i + 1) x9 (by omega) ls (lv_sub hl [0, 1, 2, 3] rfl) (by omega)
        · refine lv_iload_n hx hb dX0_actsFor_22 rfl (lv_at hl 1 rfl) ?_
          refine lv_iconst (v := 1) hx hb dX0_actsFor_23 kc_i_1 ?_
          refine lv_iload_n hx hb dX0_actsFor_24 rfl (lv_at hl 0 rfl) ?_
          refine lv_ishl hx hb dX0_actsFor_25 ?_
          refine lv_topi (fun x_12 ex_12 => ?_)
          refine lv_ior hx hb dX0_actsFor_26 ?_
          refine lv_topi (fun x_13 ex_13 => ?_)
          refine lv_istore_n hx hb dX0_actsFor_27 rfl hl kc_l_2_4 (kTo [(2, .int x_13), (3, .int (nI (i))), (0, .ref jA), (1, .int p0)]) (fun ls hl => ?_)
          refine lv_iinc (v := nI (i + 1)) hx hb dX0_actsFor_28 hl (k := 1) rfl (kInc _ 1) kc_l_3_4 (kTo [(3, .int (nI (i + 1))), (2, .int x_13), (0, .ref jA), (1, .int p0)]) (fun ls hl => ?_)
          refine lv_goto (tgt := 4) hx hb dX0_actsFor_31 kc_t_31_m27 ?_
          exact ih_k_1 (i + 1) x_13 (by omega) ls (lv_sub hl [0, 1, 2, 3] rfl) (by omega)
  exact lp_k_1 (ka - 0 + 1) 0 0 (by omega) ls (lv_sub hl [0, 1, 2, 3] rfl) (by omega)

theorem dX0_costOf_0 : decode cX0_costOf 0 = .ok (.iconst 0, 1) := kDs0 kf_3 (by decide +kernel)
theorem dX0_costOf_1 : decode cX0_costOf 1 = .ok (.istore_n 2, 1) := kDs0 kf_61 (by decide +kernel)
theorem dX0_costOf_2 : decode cX0_costOf 2 = .ok (.iconst 0, 1) := kDs0 kf_3 (by decide +kernel)
theorem dX0_costOf_3 : decode cX0_costOf 3 = .ok (.istore_n 3, 1) := kDs0 kf_62 (by decide +kernel)
theorem dX0_costOf_4 : decode cX0_costOf 4 = .ok (.iload_n 3, 1) := kDs0 kf_29 (by decide +kernel)
theorem dX0_costOf_5 : decode cX0_costOf 5 = .ok (.aload_n 0, 1) := kDs0 kf_42 (by decide +kernel)
theorem dX0_costOf_6 : decode cX0_costOf 6 = .ok (.getfield 24, 3) := kDs2 kf_180 (by decide +kernel)
theorem dX0_costOf_9 : decode cX0_costOf 9 = .ok (.if_icmp .ge 30, 3) := kDs4 kf_162 (by decide +kernel)
theorem dX0_costOf_39 : decode cX0_costOf 39 = .ok (.iload_n 2, 1) := kDs0 kf_28 (by decide +kernel)
theorem dX0_costOf_40 : decode cX0_costOf 40 = .ok (.ireturn, 1) := kDs0 kf_172 (by decide +kernel)
theorem dX0_costOf_12 : decode cX0_costOf 12 = .ok (.iload_n 2, 1) := kDs0 kf_28 (by decide +kernel)
theorem dX0_costOf_13 : decode cX0_costOf 13 = .ok (.iload_n 1, 1) := kDs0 kf_27 (by decide +kernel)
theorem dX0_costOf_14 : decode cX0_costOf 14 = .ok (.iload_n 3, 1) := kDs0 kf_29 (by decide +kernel)
theorem dX0_costOf_15 : decode cX0_costOf 15 = .ok (.invokestatic 28, 3) := kDs2 kf_184 (by decide +kernel)
theorem dX0_costOf_18 : decode cX0_costOf 18 = .ok (.ifCond .eq 12, 3) := kDs4 kf_153 (by decide +kernel)
theorem dX0_costOf_30 : decode cX0_costOf 30 = .ok (.iconst 0, 1) := kDs0 kf_3 (by decide +kernel)
theorem dX0_costOf_31 : decode cX0_costOf 31 = .ok (.iadd, 1) := kDs0 kf_96 (by decide +kernel)
theorem dX0_costOf_32 : decode cX0_costOf 32 = .ok (.istore_n 2, 1) := kDs0 kf_61 (by decide +kernel)
theorem dX0_costOf_33 : decode cX0_costOf 33 = .ok (.iinc 3 1, 3) := kDs5 kf_132 (by decide +kernel)
theorem dX0_costOf_36 : decode cX0_costOf 36 = .ok (.goto (-32), 3) := kDs4 kf_167 (by decide +kernel)
theorem dX0_costOf_21 : decode cX0_costOf 21 = .ok (.aload_n 0, 1) := kDs0 kf_42 (by decide +kernel)
theorem dX0_costOf_22 : decode cX0_costOf 22 = .ok (.getfield 21, 3) := kDs2 kf_180 (by decide +kernel)
theorem dX0_costOf_25 : decode cX0_costOf 25 = .ok (.iload_n 3, 1) := kDs0 kf_29 (by decide +kernel)
theorem dX0_costOf_26 : decode cX0_costOf 26 = .ok (.iaload, 1) := kDs0 kf_46 (by decide +kernel)
theorem dX0_costOf_27 : decode cX0_costOf 27 = .ok (.goto 4, 3) := kDs4 kf_167 (by decide +kernel)
def w_s_costOf0 : List Cond := .code yX0_costOf cX0_costOf 4 (some .int) :: ([.fieldLink RX0 24 "NotEnded$Acts" "size" "I", .initialized RX9, .static yX9_isBit, .fieldLink RX0 21 "NotEnded$Acts" "costs" "[I"] ++ (wsX00 ++ (w_s_isBit9)))
theorem gw_s_costOf0 : (w_s_costOf0).all goodWord = true := kGc rfl (kGa (by decide +kernel) (kGa gw_wsX00 gw_s_isBit9))
theorem hd_X0_costOf : yX0_costOf.cls ≠ "java/lang/invoke/MethodHandle" ∧ yX0_costOf.cls ≠ "java/lang/invoke/VarHandle" ∧ (parseMethodDescriptor yX0_costOf.desc).map (fun d => d.parameters.length) = some 1 := by decide +kernel
set_option maxHeartbeats 4000000 in
set_option maxRecDepth 100000 in
theorem s_costOf0 (l : Launch) (dC : Nat → ClassId) (dI : Nat → Nat → Nat) (jA : Nat) (i0 : Nat) (i1 : Nat) (i2 : Nat) (i3 : Nat) (x0 : ClassId) (x1 : ClassId) (x2 : ClassId) (x3 : ClassId) (t0 : Nat → Int32) (t1 : Nat → Int32) (t2 : Nat → Int32) (t3 : Nat → Int32) (ka : Nat) (hka : ka ≤ 6) (p0 : Int32) : Met l yX0_costOf w_s_costOf0 ({ frames := 2, cells := 0, slots := 0, locals := 120 }) (kR dC dI [.ref jA, .int p0] [(jA, .inr (0, [.ref i0, .ref i1, .ref i2, .ref i3, .int (nI (ka))])), (i0, .inl (x0, 6, .inl t0)), (i1, .inl (x1, 6, .inl t1)), (i2, .inl (x2, 6, .inl t2)), (i3, .inl (x3, 6, .inl t3))] [(x0, .int), (x1, .int), (x2, .int), (x3, .int)] kNL) (vp_Si (fun r : Int32 => True)) 0 0 (fun _ => False) := by
  refine Met.ofW (cc := cX0_costOf) (maxL := 4) (ret := (some .int)) (by decide) rfl ?_
  intro p e s m args below meth c s₁ B hml hv
  obtain ⟨rfl, hP, hK, hX⟩ := hv
  have hx := B.exec
  have hb := B.bytes
  have hr := B.returns
  have hts := atoms_spec (ws := w_s_costOf0) B.pre
  have hown : s.vm.findClass RX0 = some m.cls := findClass_of_methodNamed B.named
  have hlocks := B.notSynchronized
  have hP : va_P (dC, dI) vwCl [(jA, .inr (0, [.ref i0, .ref i1, .ref i2, .ref i3, .int (nI (ka))])), (i0, .inl (x0, 6, .inl t0)), (i1, .inl (x1, 6, .inl t1)), (i2, .inl (x2, 6, .inl t2)), (i3, .inl (x3, 6, .inl t3))] s.heap := hP
  have hl := lv_entry ([.ref jA, .int p0]) (n := 4) (Nat.le_of_ble_eq_true rfl)
  rw [lg_entry_eq]
  generalize (lg_sl ([.ref jA, .int p0]) ++ List.replicate (4 - (lg_sl ([.ref jA, .int p0])).length) Slot.unset).toArray = ls at hl ⊢
  have hl : lv_has ls 4 [(0, .ref jA), (1, .int p0)] := hl
  refine kQ (fun Q hQ => ?_)
  refine lv_iconst (v := 0) hx hb dX0_costOf_0 kc_i_0 ?_
  refine lv_istore_n hx hb dX0_costOf_1 rfl hl kc_l_2_4 (kTo [(2, .int 0), (0, .ref jA), (1, .int p0)]) (fun ls hl => ?_)
  refine lv_iconst (v := 0) hx hb dX0_costOf_2 kc_i_0 ?_
  refine lv_istore_n hx hb dX0_costOf_3 rfl hl kc_l_3_4 (kTo [(3, .int 0), (2, .int 0), (0, .ref jA), (1, .int p0)]) (fun ls hl => ?_)
  have lp_k_1 : ∀ (n9 : Nat) (i : Nat) (x9 : Int32) (ivk_1_0 : i ≤ ka) (ls : Array Slot) (_ : lv_has ls 4 [(3, .int (nI (i))), (2, .int x9), (0, .ref jA), (1, .int p0)]) (_ : ka - i < n9), W p l e (headSpec w_s_costOf0 ({ frames := 2, cells := 0, slots := 0, locals := 120 })).room s m (#[.ref jA, .int p0] : Array Value) below meth c s.heap [] 0 0 Q (F0 m 4 ls []) := by
    intro n9
    induction n9 with
    | zero => intro i x9 ivk_1_0 ls hl hm9; exact absurd hm9 (Nat.not_lt_zero _)
    | succ n9 ih_k_1 =>
      intro i x9 ivk_1_0 ls hl hm9
      refine lv_iload_n hx hb dX0_costOf_4 rfl (lv_at hl 0 rfl) ?_
      refine lv_aload_n hx hb dX0_costOf_5 rfl (lv_at hl 2 rfl) ?_
      refine va_get (D := (dC, dI)) (ci := 0) (v := .int (nI (ka))) (C := RX0) (T := TX0) (N := 5) hx hb hts (fun _ h => List.mem_cons_of_mem _ (List.mem_append_right _ (List.mem_append_left _ h))) hown hK hP 0 rfl rfl 4 kc_l_4_5 (hts (.fieldLink RX0 24 "NotEnded$Acts" "size" "I") (List.mem_cons_of_mem _ (List.mem_append_left _ (List.mem_of_getElem? (i := 0) rfl)))) (fun _ h9 => h9) rfl dX0_costOf_6 ?_
      refine lv_icmp_ge (tgt := 39) hx hb dX0_costOf_9 kc_t_9_30 (fun c_2 => ?_) (fun c_2 => ?_)
      · have bd_4 : ka < 2147483648 := by omega
        have bd_5 : i < 2147483648 := by omega
        have hn_3 := kle (a := ka) (b := i) bd_4 bd_5 c_2
        refine lv_iload_n hx hb dX0_costOf_39 rfl (lv_at hl 1 rfl) ?_
        rw [hQ]
        exact W.iret (v := x9) hx hb hr (fun t ht hW => ⟨x9, rfl, trivial, ht⟩) (fun _ h => nomatch h) dX0_costOf_40
      · have bd_7 : ka < 2147483648 := by omega
        have bd_8 : i < 2147483648 := by omega
        have hn_6 := knle (a := ka) (b := i) bd_7 bd_8 c_2
        refine lv_iload_n hx hb dX0_costOf_12 rfl (lv_at hl 1 rfl) ?_
        refine lv_iload_n hx hb dX0_costOf_13 rfl (lv_at hl 3 rfl) ?_
        refine lv_iload_n hx hb dX0_costOf_14 rfl (lv_at hl 0 rfl) ?_
        have hPc := hP.sb (ws2 := []) [] rfl
        have hKc := hK.sb (tys2 := []) [] rfl
        refine vp_callSi (va_runSN (As := [.int p0, .int (nI (i))]) (rest := [.int x9]) ⟨hx, hb, hml, hown, hts⟩ (s_isBit9 l dC dI p0 (nI (i))) (⟨va_cnB 2 hts (goodIn_sub (fun _ h => List.mem_cons_of_mem _ (List.mem_append_right _ (List.mem_append_right _ h))) gw_s_isBit9) rfl rfl rfl (hX _ (List.mem_of_getElem? (i := 17) rfl)) (hts (.initialized RX9) (List.mem_cons_of_mem _ (List.mem_append_left _ (List.mem_of_getElem? (i := 1) rfl)))) hd_X9_isBit ⟨(Nat.le_of_ble_eq_true rfl), (Nat.le_of_ble_eq_true rfl)⟩, (hts (.static yX9_isBit) (List.mem_cons_of_mem _ (List.mem_append_left _ (List.mem_of_getElem? (i := 2) rfl)))), trivial⟩) (kR_S kT_blind kT_give hPc hKc) rfl rfl hl.1 rfl (lv_room (Nat.le_of_ble_eq_true rfl)) dX0_costOf_15 ⟨(Nat.le_of_ble_eq_true rfl), (Nat.le_of_ble_eq_true rfl)⟩).run (fun r_9 hw => ?_)
        have hw_10 := hw
        refine lv_if_eq (tgt := 30) hx hb dX0_costOf_18 kc_t_18_12 (fun c_11 => ?_) (fun c_11 => ?_)
        · refine lv_iconst (v := 0) hx hb dX0_costOf_30 kc_i_0 ?_
          refine lv_iadd hx hb dX0_costOf_31 ?_
          refine lv_topi (fun x_12 ex_12 => ?_)
          refine lv_istore_n hx hb dX0_costOf_32 rfl hl kc_l_2_4 (kTo [(2, .int x_12), (3, .int (nI (i))), (0, .ref jA), (1, .int p0)]) (fun ls hl => ?_)
          refine lv_iinc (v := nI (i + 1)) hx hb dX0_costOf_33 hl (k := 1) rfl (kInc _ 1) kc_l_3_4 (kTo [(3, .int (nI (i + 1))), (2, .int x_12), (0, .ref jA), (1, .int p0)]) (fun ls hl => ?_)
          refine lv_goto (tgt := 4) hx hb dX0_costOf_36 kc_t_36_m32 ?_
          exact ih_k_1 (i + 1) x_12 (by omega) ls (lv_sub hl [0, 1, 2, 3] rfl) (by omega)
        · refine lv_aload_n hx hb dX0_costOf_21 rfl (lv_at hl 2 rfl) ?_
          refine va_get (D := (dC, dI)) (ci := 0) (v := .ref i3) (C := RX0) (T := TX0) (N := 5) hx hb hts (fun _ h => List.mem_cons_of_mem _ (List.mem_append_right _ (List.mem_append_left _ h))) hown hK hP 0 rfl rfl 3 kc_l_3_5 (hts (.fieldLink RX0 21 "NotEnded$Acts" "costs" "[I") (List.mem_cons_of_mem _ (List.mem_append_left _ (List.mem_of_getElem? (i := 3) rfl)))) (fun _ h9 => h9) rfl dX0_costOf_22 ?_
          refine lv_iload_n hx hb dX0_costOf_25 rfl (lv_at hl 0 rfl) ?_
          have bd_13 : i < 6 := by omega
          refine va_iald hx hb hK hP 4 3 rfl rfl (vp_in_nI (n := i) (N := 6) bd_13 kc_31_6) dX0_costOf_26 ?_
          refine lv_topi (fun x_14 ex_14 => ?_)
          refine lv_goto (tgt := 31) hx hb dX0_costOf_27 kc_t_27_4 ?_
          refine lv_iadd hx hb dX0_costOf_31 ?_
          refine lv_topi (fun x_15 ex_15 => ?_)
          refine lv_istore_n hx hb dX0_costOf_32 rfl hl kc_l_2_4 (kTo [(2, .int x_15), (3, .int (nI (i))), (0, .ref jA), (1, .int p0)]) (fun ls hl => ?_)
          refine lv_iinc (v := nI (i + 1)) hx hb dX0_costOf_33 hl (k := 1) rfl (kInc _ 1) kc_l_3_4 (kTo [(3, .int (nI (i + 1))), (2, .int x_15), (0, .ref jA), (1, .int p0)]) (fun ls hl => ?_)
          refine lv_goto (tgt := 4) hx hb dX0_costOf_36 kc_t_36_m32 ?_
          exact ih_k_1 (i + 1) x_15 (by omega) ls (lv_sub hl [0, 1, 2, 3] rfl) (by omega)
  exact lp_k_1 (ka - 0 + 1) 0 0 (by omega) ls (lv_sub hl [0, 1, 2, 3] rfl) (by omega)

theorem dX0_givenBackBy_0 : decode cX0_givenBackBy 0 = .ok (.iconst 0, 1) := kDs0 kf_3 (by decide +kernel)
theorem dX0_givenBackBy_1 : decode cX0_givenBackBy 1 = .ok (.istore_n 2, 1) := kDs0 kf_61 (by decide +kernel)
theorem dX0_givenBackBy_2 : decode cX0_givenBackBy 2 = .ok (.iconst 0, 1) := kDs0 kf_3 (by decide +kernel)
theorem dX0_givenBackBy_3 : decode cX0_givenBackBy 3 = .ok (.istore_n 3, 1) := kDs0 kf_62 (by decide +kernel)
theorem dX0_givenBackBy_4 : decode cX0_givenBackBy 4 = .ok (.iload_n 3, 1) := kDs0 kf_29 (by decide +kernel)
theorem dX0_givenBackBy_5 : decode cX0_givenBackBy 5 = .ok (.aload_n 0, 1) := kDs0 kf_42 (by decide +kernel)
theorem dX0_givenBackBy_6 : decode cX0_givenBackBy 6 = .ok (.getfield 24, 3) := kDs2 kf_180 (by decide +kernel)
theorem dX0_givenBackBy_9 : decode cX0_givenBackBy 9 = .ok (.if_icmp .ge 39, 3) := kDs4 kf_162 (by decide +kernel)
theorem dX0_givenBackBy_48 : decode cX0_givenBackBy 48 = .ok (.iload_n 2, 1) := kDs0 kf_28 (by decide +kernel)
theorem dX0_givenBackBy_49 : decode cX0_givenBackBy 49 = .ok (.ireturn, 1) := kDs0 kf_172 (by decide +kernel)
theorem dX0_givenBackBy_12 : decode cX0_givenBackBy 12 = .ok (.iload_n 2, 1) := kDs0 kf_28 (by decide +kernel)
theorem dX0_givenBackBy_13 : decode cX0_givenBackBy 13 = .ok (.iload_n 1, 1) := kDs0 kf_27 (by decide +kernel)
theorem dX0_givenBackBy_14 : decode cX0_givenBackBy 14 = .ok (.iload_n 3, 1) := kDs0 kf_29 (by decide +kernel)
theorem dX0_givenBackBy_15 : decode cX0_givenBackBy 15 = .ok (.invokestatic 28, 3) := kDs2 kf_184 (by decide +kernel)
theorem dX0_givenBackBy_18 : decode cX0_givenBackBy 18 = .ok (.ifCond .eq 21, 3) := kDs4 kf_153 (by decide +kernel)
theorem dX0_givenBackBy_39 : decode cX0_givenBackBy 39 = .ok (.iconst 0, 1) := kDs0 kf_3 (by decide +kernel)
theorem dX0_givenBackBy_40 : decode cX0_givenBackBy 40 = .ok (.iadd, 1) := kDs0 kf_96 (by decide +kernel)
theorem dX0_givenBackBy_41 : decode cX0_givenBackBy 41 = .ok (.istore_n 2, 1) := kDs0 kf_61 (by decide +kernel)
theorem dX0_givenBackBy_42 : decode cX0_givenBackBy 42 = .ok (.iinc 3 1, 3) := kDs5 kf_132 (by decide +kernel)
theorem dX0_givenBackBy_45 : decode cX0_givenBackBy 45 = .ok (.goto (-41), 3) := kDs4 kf_167 (by decide +kernel)
theorem dX0_givenBackBy_21 : decode cX0_givenBackBy 21 = .ok (.aload_n 0, 1) := kDs0 kf_42 (by decide +kernel)
theorem dX0_givenBackBy_22 : decode cX0_givenBackBy 22 = .ok (.getfield 15, 3) := kDs2 kf_180 (by decide +kernel)
theorem dX0_givenBackBy_25 : decode cX0_givenBackBy 25 = .ok (.iload_n 3, 1) := kDs0 kf_29 (by decide +kernel)
theorem dX0_givenBackBy_26 : decode cX0_givenBackBy 26 = .ok (.iaload, 1) := kDs0 kf_46 (by decide +kernel)
theorem dX0_givenBackBy_27 : decode cX0_givenBackBy 27 = .ok (.ifCond .ne 12, 3) := kDs4 kf_154 (by decide +kernel)
theorem dX0_givenBackBy_30 : decode cX0_givenBackBy 30 = .ok (.aload_n 0, 1) := kDs0 kf_42 (by decide +kernel)
theorem dX0_givenBackBy_31 : decode cX0_givenBackBy 31 = .ok (.getfield 18, 3) := kDs2 kf_180 (by decide +kernel)
theorem dX0_givenBackBy_34 : decode cX0_givenBackBy 34 = .ok (.iload_n 3, 1) := kDs0 kf_29 (by decide +kernel)
theorem dX0_givenBackBy_35 : decode cX0_givenBackBy 35 = .ok (.iaload, 1) := kDs0 kf_46 (by decide +kernel)
theorem dX0_givenBackBy_36 : decode cX0_givenBackBy 36 = .ok (.goto 4, 3) := kDs4 kf_167 (by decide +kernel)
def w_s_givenBackBy0 : List Cond := .code yX0_givenBackBy cX0_givenBackBy 4 (some .int) :: ([.fieldLink RX0 24 "NotEnded$Acts" "size" "I", .initialized RX9, .static yX9_isBit, .fieldLink RX0 15 "NotEnded$Acts" "kinds" "[I", .fieldLink RX0 18 "NotEnded$Acts" "things" "[I"] ++ (wsX00 ++ (w_s_isBit9)))
theorem gw_s_givenBackBy0 : (w_s_givenBackBy0).all goodWord = true := kGc rfl (kGa (by decide +kernel) (kGa gw_wsX00 gw_s_isBit9))
theorem hd_X0_givenBackBy : yX0_givenBackBy.cls ≠ "java/lang/invoke/MethodHandle" ∧ yX0_givenBackBy.cls ≠ "java/lang/invoke/VarHandle" ∧ (parseMethodDescriptor yX0_givenBackBy.desc).map (fun d => d.parameters.length) = some 1 := by decide +kernel
set_option maxHeartbeats 4000000 in
set_option maxRecDepth 100000 in
theorem s_givenBackBy0 (l : Launch) (dC : Nat → ClassId) (dI : Nat → Nat → Nat) (jA : Nat) (i0 : Nat) (i1 : Nat) (i2 : Nat) (i3 : Nat) (x0 : ClassId) (x1 : ClassId) (x2 : ClassId) (x3 : ClassId) (t0 : Nat → Int32) (t1 : Nat → Int32) (t2 : Nat → Int32) (t3 : Nat → Int32) (ka : Nat) (hka : ka ≤ 6) (p0 : Int32) : Met l yX0_givenBackBy w_s_givenBackBy0 ({ frames := 2, cells := 0, slots := 0, locals := 120 }) (kR dC dI [.ref jA, .int p0] [(jA, .inr (0, [.ref i0, .ref i1, .ref i2, .ref i3, .int (nI (ka))])), (i0, .inl (x0, 6, .inl t0)), (i1, .inl (x1, 6, .inl t1)), (i2, .inl (x2, 6, .inl t2)), (i3, .inl (x3, 6, .inl t3))] [(x0, .int), (x1, .int), (x2, .int), (x3, .int)] kNL) (vp_Si (fun r : Int32 => True)) 0 0 (fun _ => False) := by
  refine Met.ofW (cc := cX0_givenBackBy) (maxL := 4) (ret := (some .int)) (by decide) rfl ?_
  intro p e s m args below meth c s₁ B hml hv
  obtain ⟨rfl, hP, hK, hX⟩ := hv
  have hx := B.exec
  have hb := B.bytes
  have hr := B.returns
  have hts := atoms_spec (ws := w_s_givenBackBy0) B.pre
  have hown : s.vm.findClass RX0 = some m.cls := findClass_of_methodNamed B.named
  have hlocks := B.notSynchronized
  have hP : va_P (dC, dI) vwCl [(jA, .inr (0, [.ref i0, .ref i1, .ref i2, .ref i3, .int (nI (ka))])), (i0, .inl (x0, 6, .inl t0)), (i1, .inl (x1, 6, .inl t1)), (i2, .inl (x2, 6, .inl t2)), (i3, .inl (x3, 6, .inl t3))] s.heap := hP
  have hl := lv_entry ([.ref jA, .int p0]) (n := 4) (Nat.le_of_ble_eq_true rfl)
  rw [lg_entry_eq]
  generalize (lg_sl ([.ref jA, .int p0]) ++ List.replicate (4 - (lg_sl ([.ref jA, .int p0])).length) Slot.unset).toArray = ls at hl ⊢
  have hl : lv_has ls 4 [(0, .ref jA), (1, .int p0)] := hl
  refine kQ (fun Q hQ => ?_)
  refine lv_iconst (v := 0) hx hb dX0_givenBackBy_0 kc_i_0 ?_
  refine lv_istore_n hx hb dX0_givenBackBy_1 rfl hl kc_l_2_4 (kTo [(2, .int 0), (0, .ref jA), (1, .int p0)]) (fun ls hl => ?_)
  refine lv_iconst (v := 0) hx hb dX0_givenBackBy_2 kc_i_0 ?_
  refine lv_istore_n hx hb dX0_givenBackBy_3 rfl hl kc_l_3_4 (kTo [(3, .int 0), (2, .int 0), (0, .ref jA), (1, .int p0)]) (fun ls hl => ?_)
  have lp_k_1 : ∀ (n9 : Nat) (i : Nat) (x9 : Int32) (ivk_1_0 : i ≤ ka) (ls : Array Slot) (_ : lv_has ls 4 [(3, .int (nI (i))), (2, .int x9), (0, .ref jA), (1, .int p0)]) (_ : ka - i < n9), W p l e (headSpec w_s_givenBackBy0 ({ frames := 2, cells := 0, slots := 0, locals := 120 })).room s m (#[.ref jA, .int p0] : Array Value) below meth c s.heap [] 0 0 Q (F0 m 4 ls []) := by
    intro n9
    induction n9 with
    | zero => intro i x9 ivk_1_0 ls hl hm9; exact absurd hm9 (Nat.not_lt_zero _)
    | succ n9 ih_k_1 =>
      intro i x9 ivk_1_0 ls hl hm9
      refine lv_iload_n hx hb dX0_givenBackBy_4 rfl (lv_at hl 0 rfl) ?_
      refine lv_aload_n hx hb dX0_givenBackBy_5 rfl (lv_at hl 2 rfl) ?_
      refine va_get (D := (dC, dI)) (ci := 0) (v := .int (nI (ka))) (C := RX0) (T := TX0) (N := 5) hx hb hts (fun _ h => List.mem_cons_of_mem _ (List.mem_append_right _ (List.mem_append_left _ h))) hown hK hP 0 rfl rfl 4 kc_l_4_5 (hts (.fieldLink RX0 24 "NotEnded$Acts" "size" "I") (List.mem_cons_of_mem _ (List.mem_append_left _ (List.mem_of_getElem? (i := 0) rfl)))) (fun _ h9 => h9) rfl dX0_givenBackBy_6 ?_
      refine lv_icmp_ge (tgt := 48) hx hb dX0_givenBackBy_9 kc_t_9_39 (fun c_2 => ?_) (fun c_2 => ?_)
      · have bd_4 : ka < 2147483648 := by omega
        have bd_5 : i < 2147483648 := by omega
        have hn_3 := kle (a := ka) (b := i) bd_4 bd_5 c_2
        refine lv_iload_n hx hb dX0_givenBackBy_48 rfl (lv_at hl 1 rfl) ?_
        rw [hQ]
        exact W.iret (v := x9) hx hb hr (fun t ht hW => ⟨x9, rfl, trivial, ht⟩) (fun _ h => nomatch h) dX0_givenBackBy_49
      · have bd_7 : ka < 2147483648 := by omega
        have bd_8 : i < 2147483648 := by omega
        have hn_6 := knle (a := ka) (b := i) bd_7 bd_8 c_2
        refine lv_iload_n hx hb dX0_givenBackBy_12 rfl (lv_at hl 1 rfl) ?_
        refine lv_iload_n hx hb dX0_givenBackBy_13 rfl (lv_at hl 3 rfl) ?_
        refine lv_iload_n hx hb dX0_givenBackBy_14 rfl (lv_at hl 0 rfl) ?_
        have hPc := hP.sb (ws2 := []) [] rfl
        have hKc := hK.sb (tys2 := []) [] rfl
        refine vp_callSi (va_runSN (As := [.int p0, .int (nI (i))]) (rest := [.int x9]) ⟨hx, hb, hml, hown, hts⟩ (s_isBit9 l dC dI p0 (nI (i))) (⟨va_cnB 2 hts (goodIn_sub (fun _ h => List.mem_cons_of_mem _ (List.mem_append_right _ (List.mem_append_right _ h))) gw_s_isBit9) rfl rfl rfl (hX _ (List.mem_of_getElem? (i := 17) rfl)) (hts (.initialized RX9) (List.mem_cons_of_mem _ (List.mem_append_left _ (List.mem_of_getElem? (i := 1) rfl)))) hd_X9_isBit ⟨(Nat.le_of_ble_eq_true rfl), (Nat.le_of_ble_eq_true rfl)⟩, (hts (.static yX9_isBit) (List.mem_cons_of_mem _ (List.mem_append_left _ (List.mem_of_getElem? (i := 2) rfl)))), trivial⟩) (kR_S kT_blind kT_give hPc hKc) rfl rfl hl.1 rfl (lv_room (Nat.le_of_ble_eq_true rfl)) dX0_givenBackBy_15 ⟨(Nat.le_of_ble_eq_true rfl), (Nat.le_of_ble_eq_true rfl)⟩).run (fun r_9 hw => ?_)
        have hw_10 := hw
        refine lv_if_eq (tgt := 39) hx hb dX0_givenBackBy_18 kc_t_18_21 (fun c_11 => ?_) (fun c_11 => ?_)
        · refine lv_iconst (v := 0) hx hb dX0_givenBackBy_39 kc_i_0 ?_
          refine lv_iadd hx hb dX0_givenBackBy_40 ?_
          refine lv_topi (fun x_12 ex_12 => ?_)
          refine lv_istore_n hx hb dX0_givenBackBy_41 rfl hl kc_l_2_4 (kTo [(2, .int x_12), (3, .int (nI (i))), (0, .ref jA), (1, .int p0)]) (fun ls hl => ?_)
          refine lv_iinc (v := nI (i + 1)) hx hb dX0_givenBackBy_42 hl (k := 1) rfl (kInc _ 1) kc_l_3_4 (kTo [(3, .int (nI (i + 1))), (2, .int x_12), (0, .ref jA), (1, .int p0)]) (fun ls hl => ?_)
          refine lv_goto (tgt := 4) hx hb dX0_givenBackBy_45 kc_t_45_m41 ?_
          exact ih_k_1 (i + 1) x_12 (by omega) ls (lv_sub hl [0, 1, 2, 3] rfl) (by omega)
        · refine lv_aload_n hx hb dX0_givenBackBy_21 rfl (lv_at hl 2 rfl) ?_
          refine va_get (D := (dC, dI)) (ci := 0) (v := .ref i1) (C := RX0) (T := TX0) (N := 5) hx hb hts (fun _ h => List.mem_cons_of_mem _ (List.mem_append_right _ (List.mem_append_left _ h))) hown hK hP 0 rfl rfl 1 kc_l_1_5 (hts (.fieldLink RX0 15 "NotEnded$Acts" "kinds" "[I") (List.mem_cons_of_mem _ (List.mem_append_left _ (List.mem_of_getElem? (i := 3) rfl)))) (fun _ h9 => h9) rfl dX0_givenBackBy_22 ?_
          refine lv_iload_n hx hb dX0_givenBackBy_25 rfl (lv_at hl 0 rfl) ?_
          have bd_13 : i < 6 := by omega
          refine va_iald hx hb hK hP 2 1 rfl rfl (vp_in_nI (n := i) (N := 6) bd_13 kc_31_6) dX0_givenBackBy_26 ?_
          refine lv_topi (fun x_14 ex_14 => ?_)
          refine lv_if_ne (tgt := 39) hx hb dX0_givenBackBy_27 kc_t_27_12 (fun c_15 => ?_) (fun c_15 => ?_)
          · refine lv_iconst (v := 0) hx hb dX0_givenBackBy_39 kc_i_0 ?_
            refine lv_iadd hx hb dX0_givenBackBy_40 ?_
            refine lv_topi (fun x_16 ex_16 => ?_)
            refine lv_istore_n hx hb dX0_givenBackBy_41 rfl hl kc_l_2_4 (kTo [(2, .int x_16), (3, .int (nI (i))), (0, .ref jA), (1, .int p0)]) (fun ls hl => ?_)
            refine lv_iinc (v := nI (i + 1)) hx hb dX0_givenBackBy_42 hl (k := 1) rfl (kInc _ 1) kc_l_3_4 (kTo [(3, .int (nI (i + 1))), (2, .int x_16), (0, .ref jA), (1, .int p0)]) (fun ls hl => ?_)
            refine lv_goto (tgt := 4) hx hb dX0_givenBackBy_45 kc_t_45_m41 ?_
            exact ih_k_1 (i + 1) x_16 (by omega) ls (lv_sub hl [0, 1, 2, 3] rfl) (by omega)
          · refine lv_aload_n hx hb dX0_givenBackBy_30 rfl (lv_at hl 2 rfl) ?_
            refine va_get (D := (dC, dI)) (ci := 0) (v := .ref i2) (C := RX0) (T := TX0) (N := 5) hx hb hts (fun _ h => List.mem_cons_of_mem _ (List.mem_append_right _ (List.mem_append_left _ h))) hown hK hP 0 rfl rfl 2 kc_l_2_5 (hts (.fieldLink RX0 18 "NotEnded$Acts" "things" "[I") (List.mem_cons_of_mem _ (List.mem_append_left _ (List.mem_of_getElem? (i := 4) rfl)))) (fun _ h9 => h9) rfl dX0_givenBackBy_31 ?_
            refine lv_iload_n hx hb dX0_givenBackBy_34 rfl (lv_at hl 0 rfl) ?_
            refine va_iald hx hb hK hP 3 2 rfl rfl (vp_in_nI (n := i) (N := 6) bd_13 kc_31_6) dX0_givenBackBy_35 ?_
            refine lv_topi (fun x_17 ex_17 => ?_)
            refine lv_goto (tgt := 40) hx hb dX0_givenBackBy_36 kc_t_36_4 ?_
            refine lv_iadd hx hb dX0_givenBackBy_40 ?_
            refine lv_topi (fun x_18 ex_18 => ?_)
            refine lv_istore_n hx hb dX0_givenBackBy_41 rfl hl kc_l_2_4 (kTo [(2, .int x_18), (3, .int (nI (i))), (0, .ref jA), (1, .int p0)]) (fun ls hl => ?_)
            refine lv_iinc (v := nI (i + 1)) hx hb dX0_givenBackBy_42 hl (k := 1) rfl (kInc _ 1) kc_l_3_4 (kTo [(3, .int (nI (i + 1))), (2, .int x_18), (0, .ref jA), (1, .int p0)]) (fun ls hl => ?_)
            refine lv_goto (tgt := 4) hx hb dX0_givenBackBy_45 kc_t_45_m41 ?_
            exact ih_k_1 (i + 1) x_18 (by omega) ls (lv_sub hl [0, 1, 2, 3] rfl) (by omega)
  exact lp_k_1 (ka - 0 + 1) 0 0 (by omega) ls (lv_sub hl [0, 1, 2, 3] rfl) (by omega)

theorem dX0_houseBy_0 : decode cX0_houseBy 0 = .ok (.iconst (-1), 1) := kDs0 kf_2 (by decide +kernel)
theorem dX0_houseBy_1 : decode cX0_houseBy 1 = .ok (.istore_n 2, 1) := kDs0 kf_61 (by decide +kernel)
theorem dX0_houseBy_2 : decode cX0_houseBy 2 = .ok (.iconst 0, 1) := kDs0 kf_3 (by decide +kernel)
theorem dX0_houseBy_3 : decode cX0_houseBy 3 = .ok (.istore_n 3, 1) := kDs0 kf_62 (by decide +kernel)
theorem dX0_houseBy_4 : decode cX0_houseBy 4 = .ok (.iload_n 3, 1) := kDs0 kf_29 (by decide +kernel)
theorem dX0_houseBy_5 : decode cX0_houseBy 5 = .ok (.aload_n 0, 1) := kDs0 kf_42 (by decide +kernel)
theorem dX0_houseBy_6 : decode cX0_houseBy 6 = .ok (.getfield 24, 3) := kDs2 kf_180 (by decide +kernel)
theorem dX0_houseBy_9 : decode cX0_houseBy 9 = .ok (.if_icmp .ge 38, 3) := kDs4 kf_162 (by decide +kernel)
theorem dX0_houseBy_47 : decode cX0_houseBy 47 = .ok (.iload_n 2, 1) := kDs0 kf_28 (by decide +kernel)
theorem dX0_houseBy_48 : decode cX0_houseBy 48 = .ok (.ireturn, 1) := kDs0 kf_172 (by decide +kernel)
theorem dX0_houseBy_12 : decode cX0_houseBy 12 = .ok (.iload_n 1, 1) := kDs0 kf_27 (by decide +kernel)
theorem dX0_houseBy_13 : decode cX0_houseBy 13 = .ok (.iload_n 3, 1) := kDs0 kf_29 (by decide +kernel)
theorem dX0_houseBy_14 : decode cX0_houseBy 14 = .ok (.invokestatic 28, 3) := kDs2 kf_184 (by decide +kernel)
theorem dX0_houseBy_17 : decode cX0_houseBy 17 = .ok (.ifCond .eq 22, 3) := kDs4 kf_153 (by decide +kernel)
theorem dX0_houseBy_39 : decode cX0_houseBy 39 = .ok (.iload_n 2, 1) := kDs0 kf_28 (by decide +kernel)
theorem dX0_houseBy_40 : decode cX0_houseBy 40 = .ok (.istore_n 2, 1) := kDs0 kf_61 (by decide +kernel)
theorem dX0_houseBy_41 : decode cX0_houseBy 41 = .ok (.iinc 3 1, 3) := kDs5 kf_132 (by decide +kernel)
theorem dX0_houseBy_44 : decode cX0_houseBy 44 = .ok (.goto (-40), 3) := kDs4 kf_167 (by decide +kernel)
theorem dX0_houseBy_20 : decode cX0_houseBy 20 = .ok (.aload_n 0, 1) := kDs0 kf_42 (by decide +kernel)
theorem dX0_houseBy_21 : decode cX0_houseBy 21 = .ok (.getfield 15, 3) := kDs2 kf_180 (by decide +kernel)
theorem dX0_houseBy_24 : decode cX0_houseBy 24 = .ok (.iload_n 3, 1) := kDs0 kf_29 (by decide +kernel)
theorem dX0_houseBy_25 : decode cX0_houseBy 25 = .ok (.iaload, 1) := kDs0 kf_46 (by decide +kernel)
theorem dX0_houseBy_26 : decode cX0_houseBy 26 = .ok (.iconst 1, 1) := kDs0 kf_4 (by decide +kernel)
theorem dX0_houseBy_27 : decode cX0_houseBy 27 = .ok (.if_icmp .ne 12, 3) := kDs4 kf_160 (by decide +kernel)
theorem dX0_houseBy_30 : decode cX0_houseBy 30 = .ok (.aload_n 0, 1) := kDs0 kf_42 (by decide +kernel)
theorem dX0_houseBy_31 : decode cX0_houseBy 31 = .ok (.getfield 18, 3) := kDs2 kf_180 (by decide +kernel)
theorem dX0_houseBy_34 : decode cX0_houseBy 34 = .ok (.iload_n 3, 1) := kDs0 kf_29 (by decide +kernel)
theorem dX0_houseBy_35 : decode cX0_houseBy 35 = .ok (.iaload, 1) := kDs0 kf_46 (by decide +kernel)
theorem dX0_houseBy_36 : decode cX0_houseBy 36 = .ok (.goto 4, 3) := kDs4 kf_167 (by decide +kernel)
def w_s_houseBy0 : List Cond := .code yX0_houseBy cX0_houseBy 4 (some .int) :: ([.fieldLink RX0 24 "NotEnded$Acts" "size" "I", .initialized RX9, .static yX9_isBit, .fieldLink RX0 15 "NotEnded$Acts" "kinds" "[I", .fieldLink RX0 18 "NotEnded$Acts" "things" "[I"] ++ (wsX00 ++ (w_s_isBit9)))
theorem gw_s_houseBy0 : (w_s_houseBy0).all goodWord = true := kGc rfl (kGa (by decide +kernel) (kGa gw_wsX00 gw_s_isBit9))
theorem hd_X0_houseBy : yX0_houseBy.cls ≠ "java/lang/invoke/MethodHandle" ∧ yX0_houseBy.cls ≠ "java/lang/invoke/VarHandle" ∧ (parseMethodDescriptor yX0_houseBy.desc).map (fun d => d.parameters.length) = some 1 := by decide +kernel
set_option maxHeartbeats 4000000 in
set_option maxRecDepth 100000 in
theorem s_houseBy0 (l : Launch) (dC : Nat → ClassId) (dI : Nat → Nat → Nat) (jA : Nat) (i0 : Nat) (i1 : Nat) (i2 : Nat) (i3 : Nat) (x0 : ClassId) (x1 : ClassId) (x2 : ClassId) (x3 : ClassId) (t0 : Nat → Int32) (t1 : Nat → Int32) (t2 : Nat → Int32) (t3 : Nat → Int32) (ka : Nat) (hka : ka ≤ 6) (p0 : Int32) : Met l yX0_houseBy w_s_houseBy0 ({ frames := 2, cells := 0, slots := 0, locals := 120 }) (kR dC dI [.ref jA, .int p0] [(jA, .inr (0, [.ref i0, .ref i1, .ref i2, .ref i3, .int (nI (ka))])), (i0, .inl (x0, 6, .inl t0)), (i1, .inl (x1, 6, .inl t1)), (i2, .inl (x2, 6, .inl t2)), (i3, .inl (x3, 6, .inl t3))] [(x0, .int), (x1, .int), (x2, .int), (x3, .int)] kNL) (vp_Si (fun r : Int32 => True)) 0 0 (fun _ => False) := by
  refine Met.ofW (cc := cX0_houseBy) (maxL := 4) (ret := (some .int)) (by decide) rfl ?_
  intro p e s m args below meth c s₁ B hml hv
  obtain ⟨rfl, hP, hK, hX⟩ := hv
  have hx := B.exec
  have hb := B.bytes
  have hr := B.returns
  have hts := atoms_spec (ws := w_s_houseBy0) B.pre
  have hown : s.vm.findClass RX0 = some m.cls := findClass_of_methodNamed B.named
  have hlocks := B.notSynchronized
  have hP : va_P (dC, dI) vwCl [(jA, .inr (0, [.ref i0, .ref i1, .ref i2, .ref i3, .int (nI (ka))])), (i0, .inl (x0, 6, .inl t0)), (i1, .inl (x1, 6, .inl t1)), (i2, .inl (x2, 6, .inl t2)), (i3, .inl (x3, 6, .inl t3))] s.heap := hP
  have hl := lv_entry ([.ref jA, .int p0]) (n := 4) (Nat.le_of_ble_eq_true rfl)
  rw [lg_entry_eq]
  generalize (lg_sl ([.ref jA, .int p0]) ++ List.replicate (4 - (lg_sl ([.ref jA, .int p0])).length) Slot.unset).toArray = ls at hl ⊢
  have hl : lv_has ls 4 [(0, .ref jA), (1, .int p0)] := hl
  refine kQ (fun Q hQ => ?_)
  refine lv_iconst (v := (-1)) hx hb dX0_houseBy_0 kc_i_m1 ?_
  refine lv_istore_n hx hb dX0_houseBy_1 rfl hl kc_l_2_4 (kTo [(2, .int (-1)), (0, .ref jA), (1, .int p0)]) (fun ls hl => ?_)
  refine lv_iconst (v := 0) hx hb dX0_houseBy_2 kc_i_0 ?_
  refine lv_istore_n hx hb dX0_houseBy_3 rfl hl kc_l_3_4 (kTo [(3, .int 0), (2, .int (-1)), (0, .ref jA), (1, .int p0)]) (fun ls hl => ?_)
  have lp_k_1 : ∀ (n9 : Nat) (i : Nat) (x9 : Int32) (ivk_1_0 : i ≤ ka) (ls : Array Slot) (_ : lv_has ls 4 [(3, .int (nI (i))), (2, .int x9), (0, .ref jA), (1, .int p0)]) (_ : ka - i < n9), W p l e (headSpec w_s_houseBy0 ({ frames := 2, cells := 0, slots := 0, locals := 120 })).room s m (#[.ref jA, .int p0] : Array Value) below meth c s.heap [] 0 0 Q (F0 m 4 ls []) := by
    intro n9
    induction n9 with
    | zero => intro i x9 ivk_1_0 ls hl hm9; exact absurd hm9 (Nat.not_lt_zero _)
    | succ n9 ih_k_1 =>
      intro i x9 ivk_1_0 ls hl hm9
      refine lv_iload_n hx hb dX0_houseBy_4 rfl (lv_at hl 0 rfl) ?_
      refine lv_aload_n hx hb dX0_houseBy_5 rfl (lv_at hl 2 rfl) ?_
      refine va_get (D := (dC, dI)) (ci := 0) (v := .int (nI (ka))) (C := RX0) (T := TX0) (N := 5) hx hb hts (fun _ h => List.mem_cons_of_mem _ (List.mem_append_right _ (List.mem_append_left _ h))) hown hK hP 0 rfl rfl 4 kc_l_4_5 (hts (.fieldLink RX0 24 "NotEnded$Acts" "size" "I") (List.mem_cons_of_mem _ (List.mem_append_left _ (List.mem_of_getElem? (i := 0) rfl)))) (fun _ h9 => h9) rfl dX0_houseBy_6 ?_
      refine lv_icmp_ge (tgt := 47) hx hb dX0_houseBy_9 kc_t_9_38 (fun c_2 => ?_) (fun c_2 => ?_)
      · have bd_4 : ka < 2147483648 := by omega
        have bd_5 : i < 2147483648 := by omega
        have hn_3 := kle (a := ka) (b := i) bd_4 bd_5 c_2
        refine lv_iload_n hx hb dX0_houseBy_47 rfl (lv_at hl 1 rfl) ?_
        rw [hQ]
        exact W.iret (v := x9) hx hb hr (fun t ht hW => ⟨x9, rfl, trivial, ht⟩) (fun _ h => nomatch h) dX0_houseBy_48
      · have bd_7 : ka < 2147483648 := by omega
        have bd_8 : i < 2147483648 := by omega
        have hn_6 := knle (a := ka) (b := i) bd_7 bd_8 c_2
        refine lv_iload_n hx hb dX0_houseBy_12 rfl (lv_at hl 3 rfl) ?_
        refine lv_iload_n hx hb dX0_houseBy_13 rfl (lv_at hl 0 rfl) ?_
        have hPc := hP.sb (ws2 := []) [] rfl
        have hKc := hK.sb (tys2 := []) [] rfl
        refine vp_callSi (va_runSN (As := [.int p0, .int (nI (i))]) (rest := []) ⟨hx, hb, hml, hown, hts⟩ (s_isBit9 l dC dI p0 (nI (i))) (⟨va_cnB 2 hts (goodIn_sub (fun _ h => List.mem_cons_of_mem _ (List.mem_append_right _ (List.mem_append_right _ h))) gw_s_isBit9) rfl rfl rfl (hX _ (List.mem_of_getElem? (i := 17) rfl)) (hts (.initialized RX9) (List.mem_cons_of_mem _ (List.mem_append_left _ (List.mem_of_getElem? (i := 1) rfl)))) hd_X9_isBit ⟨(Nat.le_of_ble_eq_true rfl), (Nat.le_of_ble_eq_true rfl)⟩, (hts (.static yX9_isBit) (List.mem_cons_of_mem _ (List.mem_append_left _ (List.mem_of_getElem? (i := 2) rfl)))), trivial⟩) (kR_S kT_blind kT_give hPc hKc) rfl rfl hl.1 rfl (lv_room (Nat.le_of_ble_eq_true rfl)) dX0_houseBy_14 ⟨(Nat.le_of_ble_eq_true rfl), (Nat.le_of_ble_eq_true rfl)⟩).run (fun r_9 hw => ?_)
        have hw_10 := hw
        refine lv_if_eq (tgt := 39) hx hb dX0_houseBy_17 kc_t_17_22 (fun c_11 => ?_) (fun c_11 => ?_)
        · refine lv_iload_n hx hb dX0_houseBy_39 rfl (lv_at hl 1 rfl) ?_
          refine lv_istore_n hx hb dX0_houseBy_40 rfl hl kc_l_2_4 (kTo [(2, .int x9), (3, .int (nI (i))), (0, .ref jA), (1, .int p0)]) (fun ls hl => ?_)
          refine lv_iinc (v := nI (i + 1)) hx hb dX0_houseBy_41 hl (k := 1) rfl (kInc _ 1) kc_l_3_4 (kTo [(3, .int (nI (i + 1))), (2, .int x9), (0, .ref jA), (1, .int p0)]) (fun ls hl => ?_)
          refine lv_goto (tgt := 4) hx hb dX0_houseBy_44 kc_t_44_m40 ?_
          exact ih_k_1 (i + 1) x9 (by omega) ls (lv_sub hl [0, 1, 2, 3] rfl) (by omega)
        · refine lv_aload_n hx hb dX0_houseBy_20 rfl (lv_at hl 2 rfl) ?_
          refine va_get (D := (dC, dI)) (ci := 0) (v := .ref i1) (C := RX0) (T := TX0) (N := 5) hx hb hts (fun _ h => List.mem_cons_of_mem _ (List.mem_append_right _ (List.mem_append_left _ h))) hown hK hP 0 rfl rfl 1 kc_l_1_5 (hts (.fieldLink RX0 15 "NotEnded$Acts" "kinds" "[I") (List.mem_cons_of_mem _ (List.mem_append_left _ (List.mem_of_getElem? (i := 3) rfl)))) (fun _ h9 => h9) rfl dX0_houseBy_21 ?_
          refine lv_iload_n hx hb dX0_houseBy_24 rfl (lv_at hl 0 rfl) ?_
          have bd_12 : i < 6 := by omega
          refine va_iald hx hb hK hP 2 1 rfl rfl (vp_in_nI (n := i) (N := 6) bd_12 kc_31_6) dX0_houseBy_25 ?_
          refine lv_topi (fun x_13 ex_13 => ?_)
          refine lv_iconst (v := 1) hx hb dX0_houseBy_26 kc_i_1 ?_
          refine lv_icmp_ne (tgt := 39) hx hb dX0_houseBy_27 kc_t_27_12 (fun c_14 => ?_) (fun c_14 => ?_)
          · refine lv_iload_n hx hb dX0_houseBy_39 rfl (lv_at hl 1 rfl) ?_
            refine lv_istore_n hx hb dX0_houseBy_40 rfl hl kc_l_2_4 (kTo [(2, .int x9), (3, .int (nI (i))), (0, .ref jA), (1, .int p0)]) (fun ls hl => ?_)
            refine lv_iinc (v := nI (i + 1)) hx hb dX0_houseBy_41 hl (k := 1) rfl (kInc _ 1) kc_l_3_4 (kTo [(3, .int (nI (i + 1))), (2, .int x9), (0, .ref jA), (1, .int p0)]) (fun ls hl => ?_)
            refine lv_goto (tgt := 4) hx hb dX0_houseBy_44 kc_t_44_m40 ?_
            exact ih_k_1 (i + 1) x9 (by omega) ls (lv_sub hl [0, 1, 2, 3] rfl) (by omega)
          · refine lv_aload_n hx hb dX0_houseBy_30 rfl (lv_at hl 2 rfl) ?_
            refine va_get (D := (dC, dI)) (ci := 0) (v := .ref i2) (C := RX0) (T := TX0) (N := 5) hx hb hts (fun _ h => List.mem_cons_of_mem _ (List.mem_append_right _ (List.mem_append_left _ h))) hown hK hP 0 rfl rfl 2 kc_l_2_5 (hts (.fieldLink RX0 18 "NotEnded$Acts" "things" "[I") (List.mem_cons_of_mem _ (List.mem_append_left _ (List.mem_of_getElem? (i := 4) rfl)))) (fun _ h9 => h9) rfl dX0_houseBy_31 ?_
            refine lv_iload_n hx hb dX0_houseBy_34 rfl (lv_at hl 0 rfl) ?_
            refine va_iald hx hb hK hP 3 2 rfl rfl (vp_in_nI (n := i) (N := 6) bd_12 kc_31_6) dX0_houseBy_35 ?_
            refine lv_topi (fun x_15 ex_15 => ?_)
            refine lv_goto (tgt := 40) hx hb dX0_houseBy_36 kc_t_36_4 ?_
            refine lv_istore_n hx hb dX0_houseBy_40 rfl hl kc_l_2_4 (kTo [(2, .int x_15), (3, .int (nI (i))), (0, .ref jA), (1, .int p0)]) (fun ls hl => ?_)
            refine lv_iinc (v := nI (i + 1)) hx hb dX0_houseBy_41 hl (k := 1) rfl (kInc _ 1) kc_l_3_4 (kTo [(3, .int (nI (i + 1))), (2, .int x_15), (0, .ref jA), (1, .int p0)]) (fun ls hl => ?_)
            refine lv_goto (tgt := 4) hx hb dX0_houseBy_44 kc_t_44_m40 ?_
            exact ih_k_1 (i + 1) x_15 (by omega) ls (lv_sub hl [0, 1, 2, 3] rfl) (by omega)
  exact lp_k_1 (ka - 0 + 1) 0 (-1) (by omega) ls (lv_sub hl [0, 1, 2, 3] rfl) (by omega)

theorem dX0_goneBy_0 : decode cX0_goneBy 0 = .ok (.iconst 0, 1) := kDs0 kf_3 (by decide +kernel)
theorem dX0_goneBy_1 : decode cX0_goneBy 1 = .ok (.istore_n 2, 1) := kDs0 kf_61 (by decide +kernel)
theorem dX0_goneBy_2 : decode cX0_goneBy 2 = .ok (.iconst 0, 1) := kDs0 kf_3 (by decide +kernel)
theorem dX0_goneBy_3 : decode cX0_goneBy 3 = .ok (.istore_n 3, 1) := kDs0 kf_62 (by decide +kernel)
theorem dX0_goneBy_4 : decode cX0_goneBy 4 = .ok (.iload_n 3, 1) := kDs0 kf_29 (by decide +kernel)
theorem dX0_goneBy_5 : decode cX0_goneBy 5 = .ok (.aload_n 0, 1) := kDs0 kf_42 (by decide +kernel)
theorem dX0_goneBy_6 : decode cX0_goneBy 6 = .ok (.getfield 24, 3) := kDs2 kf_180 (by decide +kernel)
theorem dX0_goneBy_9 : decode cX0_goneBy 9 = .ok (.if_icmp .ge 42, 3) := kDs4 kf_162 (by decide +kernel)
theorem dX0_goneBy_51 : decode cX0_goneBy 51 = .ok (.iload_n 2, 1) := kDs0 kf_28 (by decide +kernel)
theorem dX0_goneBy_52 : decode cX0_goneBy 52 = .ok (.ireturn, 1) := kDs0 kf_172 (by decide +kernel)
theorem dX0_goneBy_12 : decode cX0_goneBy 12 = .ok (.iload_n 2, 1) := kDs0 kf_28 (by decide +kernel)
theorem dX0_goneBy_13 : decode cX0_goneBy 13 = .ok (.iload_n 1, 1) := kDs0 kf_27 (by decide +kernel)
theorem dX0_goneBy_14 : decode cX0_goneBy 14 = .ok (.iload_n 3, 1) := kDs0 kf_29 (by decide +kernel)
theorem dX0_goneBy_15 : decode cX0_goneBy 15 = .ok (.invokestatic 28, 3) := kDs2 kf_184 (by decide +kernel)
theorem dX0_goneBy_18 : decode cX0_goneBy 18 = .ok (.ifCond .eq 24, 3) := kDs4 kf_153 (by decide +kernel)
theorem dX0_goneBy_42 : decode cX0_goneBy 42 = .ok (.iconst 0, 1) := kDs0 kf_3 (by decide +kernel)
theorem dX0_goneBy_43 : decode cX0_goneBy 43 = .ok (.ior, 1) := kDs0 kf_128 (by decide +kernel)
theorem dX0_goneBy_44 : decode cX0_goneBy 44 = .ok (.istore_n 2, 1) := kDs0 kf_61 (by decide +kernel)
theorem dX0_goneBy_45 : decode cX0_goneBy 45 = .ok (.iinc 3 1, 3) := kDs5 kf_132 (by decide +kernel)
theorem dX0_goneBy_48 : decode cX0_goneBy 48 = .ok (.goto (-44), 3) := kDs4 kf_167 (by decide +kernel)
theorem dX0_goneBy_21 : decode cX0_goneBy 21 = .ok (.aload_n 0, 1) := kDs0 kf_42 (by decide +kernel)
theorem dX0_goneBy_22 : decode cX0_goneBy 22 = .ok (.getfield 15, 3) := kDs2 kf_180 (by decide +kernel)
theorem dX0_goneBy_25 : decode cX0_goneBy 25 = .ok (.iload_n 3, 1) := kDs0 kf_29 (by decide +kernel)
theorem dX0_goneBy_26 : decode cX0_goneBy 26 = .ok (.iaload, 1) := kDs0 kf_46 (by decide +kernel)
theorem dX0_goneBy_27 : decode cX0_goneBy 27 = .ok (.iconst 2, 1) := kDs0 kf_5 (by decide +kernel)
theorem dX0_goneBy_28 : decode cX0_goneBy 28 = .ok (.if_icmp .ne 14, 3) := kDs4 kf_160 (by decide +kernel)
theorem dX0_goneBy_31 : decode cX0_goneBy 31 = .ok (.iconst 1, 1) := kDs0 kf_4 (by decide +kernel)
theorem dX0_goneBy_32 : decode cX0_goneBy 32 = .ok (.aload_n 0, 1) := kDs0 kf_42 (by decide +kernel)
theorem dX0_goneBy_33 : decode cX0_goneBy 33 = .ok (.getfield 18, 3) := kDs2 kf_180 (by decide +kernel)
theorem dX0_goneBy_36 : decode cX0_goneBy 36 = .ok (.iload_n 3, 1) := kDs0 kf_29 (by decide +kernel)
theorem dX0_goneBy_37 : decode cX0_goneBy 37 = .ok (.iaload, 1) := kDs0 kf_46 (by decide +kernel)
theorem dX0_goneBy_38 : decode cX0_goneBy 38 = .ok (.ishl, 1) := kDs0 kf_120 (by decide +kernel)
theorem dX0_goneBy_39 : decode cX0_goneBy 39 = .ok (.goto 4, 3) := kDs4 kf_167 (by decide +kernel)
def w_s_goneBy0 : List Cond := .code yX0_goneBy cX0_goneBy 4 (some .int) :: ([.fieldLink RX0 24 "NotEnded$Acts" "size" "I", .initialized RX9, .static yX9_isBit, .fieldLink RX0 15 "NotEnded$Acts" "kinds" "[I", .fieldLink RX0 18 "NotEnded$Acts" "things" "[I"] ++ (wsX00 ++ (w_s_isBit9)))
theorem gw_s_goneBy0 : (w_s_goneBy0).all goodWord = true := kGc rfl (kGa (by decide +kernel) (kGa gw_wsX00 gw_s_isBit9))
theorem hd_X0_goneBy : yX0_goneBy.cls ≠ "java/lang/invoke/MethodHandle" ∧ yX0_goneBy.cls ≠ "java/lang/invoke/VarHandle" ∧ (parseMethodDescriptor yX0_goneBy.desc).map (fun d => d.parameters.length) = some 1 := by decide +kernel
set_option maxHeartbeats 4000000 in
set_option maxRecDepth 100000 in
theorem s_goneBy0 (l : Launch) (dC : Nat → ClassId) (dI : Nat → Nat → Nat) (jA : Nat) (i0 : Nat) (i1 : Nat) (i2 : Nat) (i3 : Nat) (x0 : ClassId) (x1 : ClassId) (x2 : ClassId) (x3 : ClassId) (t0 : Nat → Int32) (t1 : Nat → Int32) (t2 : Nat → Int32) (t3 : Nat → Int32) (ka : Nat) (hka : ka ≤ 6) (p0 : Int32) : Met l yX0_goneBy w_s_goneBy0 ({ frames := 2, cells := 0, slots := 0, locals := 120 }) (kR dC dI [.ref jA, .int p0] [(jA, .inr (0, [.ref i0, .ref i1, .ref i2, .ref i3, .int (nI (ka))])), (i0, .inl (x0, 6, .inl t0)), (i1, .inl (x1, 6, .inl t1)), (i2, .inl (x2, 6, .inl t2)), (i3, .inl (x3, 6, .inl t3))] [(x0, .int), (x1, .int), (x2, .int), (x3, .int)] kNL) (vp_Si (fun r : Int32 => True)) 0 0 (fun _ => False) := by
  refine Met.ofW (cc := cX0_goneBy) (maxL := 4) (ret := (some .int)) (by decide) rfl ?_
  intro p e s m args below meth c s₁ B hml hv
  obtain ⟨rfl, hP, hK, hX⟩ := hv
  have hx := B.exec
  have hb := B.bytes
  have hr := B.returns
  have hts := atoms_spec (ws := w_s_goneBy0) B.pre
  have hown : s.vm.findClass RX0 = some m.cls := findClass_of_methodNamed B.named
  have hlocks := B.notSynchronized
  have hP : va_P (dC, dI) vwCl [(jA, .inr (0, [.ref i0, .ref i1, .ref i2, .ref i3, .int (nI (ka))])), (i0, .inl (x0, 6, .inl t0)), (i1, .inl (x1, 6, .inl t1)), (i2, .inl (x2, 6, .inl t2)), (i3, .inl (x3, 6, .inl t3))] s.heap := hP
  have hl := lv_entry ([.ref jA, .int p0]) (n := 4) (Nat.le_of_ble_eq_true rfl)
  rw [lg_entry_eq]
  generalize (lg_sl ([.ref jA, .int p0]) ++ List.replicate (4 - (lg_sl ([.ref jA, .int p0])).length) Slot.unset).toArray = ls at hl ⊢
  have hl : lv_has ls 4 [(0, .ref jA), (1, .int p0)] := hl
  refine kQ (fun Q hQ => ?_)
  refine lv_iconst (v := 0) hx hb dX0_goneBy_0 kc_i_0 ?_
  refine lv_istore_n hx hb dX0_goneBy_1 rfl hl kc_l_2_4 (kTo [(2, .int 0), (0, .ref jA), (1, .int p0)]) (fun ls hl => ?_)
  refine lv_iconst (v := 0) hx hb dX0_goneBy_2 kc_i_0 ?_
  refine lv_istore_n hx hb dX0_goneBy_3 rfl hl kc_l_3_4 (kTo [(3, .int 0), (2, .int 0), (0, .ref jA), (1, .int p0)]) (fun ls hl => ?_)
  have lp_k_1 : ∀ (n9 : Nat) (i : Nat) (x9 : Int32) (ivk_1_0 : i ≤ ka) (ls : Array Slot) (_ : lv_has ls 4 [(3, .int (nI (i))), (2, .int x9), (0, .ref jA), (1, .int p0)]) (_ : ka - i < n9), W p l e (headSpec w_s_goneBy0 ({ frames := 2, cells := 0, slots := 0, locals := 120 })).room s m (#[.ref jA, .int p0] : Array Value) below meth c s.heap [] 0 0 Q (F0 m 4 ls []) := by
    intro n9
    induction n9 with
    | zero => intro i x9 ivk_1_0 ls hl hm9; exact absurd hm9 (Nat.not_lt_zero _)
    | succ n9 ih_k_1 =>
      intro i x9 ivk_1_0 ls hl hm9
      refine lv_iload_n hx hb dX0_goneBy_4 rfl (lv_at hl 0 rfl) ?_
      refine lv_aload_n hx hb dX0_goneBy_5 rfl (lv_at hl 2 rfl) ?_
      refine va_get (D := (dC, dI)) (ci := 0) (v := .int (nI (ka))) (C := RX0) (T := TX0) (N := 5) hx hb hts (fun _ h => List.mem_cons_of_mem _ (List.mem_append_right _ (List.mem_append_left _ h))) hown hK hP 0 rfl rfl 4 kc_l_4_5 (hts (.fieldLink RX0 24 "NotEnded$Acts" "size" "I") (List.mem_cons_of_mem _ (List.mem_append_left _ (List.mem_of_getElem? (i := 0) rfl)))) (fun _ h9 => h9) rfl dX0_goneBy_6 ?_
      refine lv_icmp_ge (tgt := 51) hx hb dX0_goneBy_9 kc_t_9_42 (fun c_2 => ?_) (fun c_2 => ?_)
      · have bd_4 : ka < 2147483648 := by omega
        have bd_5 : i < 2147483648 := by omega
        have hn_3 := kle (a := ka) (b := i) bd_4 bd_5 c_2
        refine lv_iload_n hx hb dX0_goneBy_51 rfl (lv_at hl 1 rfl) ?_
        rw [hQ]
        exact W.iret (v := x9) hx hb hr (fun t ht hW => ⟨x9, rfl, trivial, ht⟩) (fun _ h => nomatch h) dX0_goneBy_52
      · have bd_7 : ka < 2147483648 := by omega
        have bd_8 : i < 2147483648 := by omega
        have hn_6 := knle (a := ka) (b := i) bd_7 bd_8 c_2
        refine lv_iload_n hx hb dX0_goneBy_12 rfl (lv_at hl 1 rfl) ?_
        refine lv_iload_n hx hb dX0_goneBy_13 rfl (lv_at hl 3 rfl) ?_
        refine lv_iload_n hx hb dX0_goneBy_14 rfl (lv_at hl 0 rfl) ?_
        have hPc := hP.sb (ws2 := []) [] rfl
        have hKc := hK.sb (tys2 := []) [] rfl
        refine vp_callSi (va_runSN (As := [.int p0, .int (nI (i))]) (rest := [.int x9]) ⟨hx, hb, hml, hown, hts⟩ (s_isBit9 l dC dI p0 (nI (i))) (⟨va_cnB 2 hts (goodIn_sub (fun _ h => List.mem_cons_of_mem _ (List.mem_append_right _ (List.mem_append_right _ h))) gw_s_isBit9) rfl rfl rfl (hX _ (List.mem_of_getElem? (i := 17) rfl)) (hts (.initialized RX9) (List.mem_cons_of_mem _ (List.mem_append_left _ (List.mem_of_getElem? (i := 1) rfl)))) hd_X9_isBit ⟨(Nat.le_of_ble_eq_true rfl), (Nat.le_of_ble_eq_true rfl)⟩, (hts (.static yX9_isBit) (List.mem_cons_of_mem _ (List.mem_append_left _ (List.mem_of_getElem? (i := 2) rfl)))), trivial⟩) (kR_S kT_blind kT_give hPc hKc) rfl rfl hl.1 rfl (lv_room (Nat.le_of_ble_eq_true rfl)) dX0_goneBy_15 ⟨(Nat.le_of_ble_eq_true rfl), (Nat.le_of_ble_eq_true rfl)⟩).run (fun r_9 hw => ?_)
        have hw_10 := hw
        refine lv_if_eq (tgt := 42) hx hb dX0_goneBy_18 kc_t_18_24 (fun c_11 => ?_) (fun c_11 => ?_)
        · refine lv_iconst (v := 0) hx hb dX0_goneBy_42 kc_i_0 ?_
          refine lv_ior hx hb dX0_goneBy_43 ?_
          refine lv_topi (fun x_12 ex_12 => ?_)
          refine lv_istore_n hx hb dX0_goneBy_44 rfl hl kc_l_2_4 (kTo [(2, .int x_12), (3, .int (nI (i))), (0, .ref jA), (1, .int p0)]) (fun ls hl => ?_)
          refine lv_iinc (v := nI (i + 1)) hx hb dX0_goneBy_45 hl (k := 1) rfl (kInc _ 1) kc_l_3_4 (kTo [(3, .int (nI (i + 1))), (2, .int x_12), (0, .ref jA), (1, .int p0)]) (fun ls hl => ?_)
          refine lv_goto (tgt := 4) hx hb dX0_goneBy_48 kc_t_48_m44 ?_
          exact ih_k_1 (i + 1) x_12 (by omega) ls (lv_sub hl [0, 1, 2, 3] rfl) (by omega)
        · refine lv_aload_n hx hb dX0_goneBy_21 rfl (lv_at hl 2 rfl) ?_
          refine va_get (D := (dC, dI)) (ci := 0) (v := .ref i1) (C := RX0) (T := TX0) (N := 5) hx hb hts (fun _ h => List.mem_cons_of_mem _ (List.mem_append_right _ (List.mem_append_left _ h))) hown hK hP 0 rfl rfl 1 kc_l_1_5 (hts (.fieldLink RX0 15 "NotEnded$Acts" "kinds" "[I") (List.mem_cons_of_mem _ (List.mem_append_left _ (List.mem_of_getElem? (i := 3) rfl)))) (fun _ h9 => h9) rfl dX0_goneBy_22 ?_
          refine lv_iload_n hx hb dX0_goneBy_25 rfl (lv_at hl 0 rfl) ?_
          have bd_13 : i < 6 := by omega
          refine va_iald hx hb hK hP 2 1 rfl rfl (vp_in_nI (n := i) (N := 6) bd_13 kc_31_6) dX0_goneBy_26 ?_
          refine lv_topi (fun x_14 ex_14 => ?_)
          refine lv_iconst (v := 2) hx hb dX0_goneBy_27 kc_i_2 ?_
          refine lv_icmp_ne (tgt := 42) hx hb dX0_goneBy_28 kc_t_28_14 (fun c_15 => ?_) (fun c_15 => ?_)
          · refine lv_iconst (v := 0) hx hb dX0_goneBy_42 kc_i_0 ?_
            refine lv_ior hx hb dX0_goneBy_43 ?_
            refine lv_topi (fun x_16 ex_16 => ?_)
            refine lv_istore_n hx hb dX0_goneBy_44 rfl hl kc_l_2_4 (kTo [(2, .int x_16), (3, .int (nI (i))), (0, .ref jA), (1, .int p0)]) (fun ls hl => ?_)
            refine lv_iinc (v := nI (i + 1)) hx hb dX0_goneBy_45 hl (k := 1) rfl (kInc _ 1) kc_l_3_4 (kTo [(3, .int (nI (i + 1))), (2, .int x_16), (0, .ref jA), (1, .int p0)]) (fun ls hl => ?_)
            refine lv_goto (tgt := 4) hx hb dX0_goneBy_48 kc_t_48_m44 ?_
            exact ih_k_1 (i + 1) x_16 (by omega) ls (lv_sub hl [0, 1, 2, 3] rfl) (by omega)
          · refine lv_iconst (v := 1) hx hb dX0_goneBy_31 kc_i_1 ?_
            refine lv_aload_n hx hb dX0_goneBy_32 rfl (lv_at hl 2 rfl) ?_
            refine va_get (D := (dC, dI)) (ci := 0) (v := .ref i2) (C := RX0) (T := TX0) (N := 5) hx hb hts (fun _ h => List.mem_cons_of_mem _ (List.mem_append_right _ (List.mem_append_left _ h))) hown hK hP 0 rfl rfl 2 kc_l_2_5 (hts (.fieldLink RX0 18 "NotEnded$Acts" "things" "[I") (List.mem_cons_of_mem _ (List.mem_append_left _ (List.mem_of_getElem? (i := 4) rfl)))) (fun _ h9 => h9) rfl dX0_goneBy_33 ?_
            refine lv_iload_n hx hb dX0_goneBy_36 rfl (lv_at hl 0 rfl) ?_
            refine va_iald hx hb hK hP 3 2 rfl rfl (vp_in_nI (n := i) (N := 6) bd_13 kc_31_6) dX0_goneBy_37 ?_
            refine lv_topi (fun x_17 ex_17 => ?_)
            refine lv_ishl hx hb dX0_goneBy_38 ?_
            refine lv_topi (fun x_18 ex_18 => ?_)
            refine lv_goto (tgt := 43) hx hb dX0_goneBy_39 kc_t_39_4 ?_
            refine lv_ior hx hb dX0_goneBy_43 ?_
            refine lv_topi (fun x_19 ex_19 => ?_)
            refine lv_istore_n hx hb dX0_goneBy_44 rfl hl kc_l_2_4 (kTo [(2, .int x_19), (3, .int (nI (i))), (0, .ref jA), (1, .int p0)]) (fun ls hl => ?_)
            refine lv_iinc (v := nI (i + 1)) hx hb dX0_goneBy_45 hl (k := 1) rfl (kInc _ 1) kc_l_3_4 (kTo [(3, .int (nI (i + 1))), (2, .int x_19), (0, .ref jA), (1, .int p0)]) (fun ls hl => ?_)
            refine lv_goto (tgt := 4) hx hb dX0_goneBy_48 kc_t_48_m44 ?_
            exact ih_k_1 (i + 1) x_19 (by omega) ls (lv_sub hl [0, 1, 2, 3] rfl) (by omega)
  exact lp_k_1 (ka - 0 + 1) 0 0 (by omega) ls (lv_sub hl [0, 1, 2, 3] rfl) (by omega)

theorem dX3_size_0 : decode cX3_size 0 = .ok (.aload_n 0, 1) := kDs0 kf_42 (by decide +kernel)
theorem dX3_size_1 : decode cX3_size 1 = .ok (.getfield 27, 3) := kDs2 kf_180 (by decide +kernel)
theorem dX3_size_4 : decode cX3_size 4 = .ok (.ireturn, 1) := kDs0 kf_172 (by decide +kernel)
def w_s_size3 : List Cond := .code yX3_size cX3_size 1 (some .int) :: ([.fieldLink RX3 27 "NotEnded$Notebook" "size" "I"] ++ (wsX30))
theorem gw_s_size3 : (w_s_size3).all goodWord = true := kGc rfl (kGa (by decide +kernel) gw_wsX30)
theorem hd_X3_size : yX3_size.cls ≠ "java/lang/invoke/MethodHandle" ∧ yX3_size.cls ≠ "java/lang/invoke/VarHandle" ∧ (parseMethodDescriptor yX3_size.desc).map (fun d => d.parameters.length) = some 0 := by decide +kernel
set_option maxHeartbeats 4000000 in
set_option maxRecDepth 100000 in
theorem s_size3 (l : Launch) (dC : Nat → ClassId) (dI : Nat → Nat → Nat) (hN : Nat) (o0 : Nat) (o1 : Nat) (o2 : Nat) (o3 : Nat) (o4 : Nat) (y0 : ClassId) (y1 : ClassId) (y2 : ClassId) (y3 : ClassId) (y4 : ClassId) (q0 : Nat → Int32) (q1 : Nat → Int32) (q2 : Nat → Int32) (q3 : Nat → Int32) (q4 : Nat → Int32) (kn : Nat) (hkn : kn ≤ 20) : Met l yX3_size w_s_size3 ({ frames := 1, cells := 0, slots := 0, locals := 60 }) (kR dC dI [.ref hN] [(hN, .inr (3, [.ref o0, .ref o1, .ref o2, .ref o3, .ref o4, .int (nI (kn))])), (o0, .inl (y0, 20, .inl q0)), (o1, .inl (y1, 20, .inl q1)), (o2, .inl (y2, 20, .inl q2)), (o3, .inl (y3, 20, .inl q3)), (o4, .inl (y4, 20, .inl q4))] [(y0, .int), (y1, .int), (y2, .int), (y3, .int), (y4, .int)] kT) (vp_Si (fun r : Int32 => r = nI kn)) 0 0 (fun _ => False) := by
  refine Met.ofW (cc := cX3_size) (maxL := 1) (ret := (some .int)) (by decide) rfl ?_
  intro p e s m args below meth c s₁ B hml hv
  obtain ⟨rfl, hP, hK, hX⟩ := hv
  have hx := B.exec
  have hb := B.bytes
  have hr := B.returns
  have hts := atoms_spec (ws := w_s_size3) B.pre
  have hown : s.vm.findClass RX3 = some m.cls := findClass_of_methodNamed B.named
  have hlocks := B.notSynchronized
  have hP : va_P (dC, dI) vwCl [(hN, .inr (3, [.ref o0, .ref o1, .ref o2, .ref o3, .ref o4, .int (nI (kn))])), (o0, .inl (y0, 20, .inl q0)), (o1, .inl (y1, 20, .inl q1)), (o2, .inl (y2, 20, .inl q2)), (o3, .inl (y3, 20, .inl q3)), (o4, .inl (y4, 20, .inl q4))] s.heap := hP
  have hl := lv_entry ([.ref hN]) (n := 1) (Nat.le_of_ble_eq_true rfl)
  rw [lg_entry_eq]
  generalize (lg_sl ([.ref hN]) ++ List.replicate (1 - (lg_sl ([.ref hN])).length) Slot.unset).toArray = ls at hl ⊢
  have hl : lv_has ls 1 [(0, .ref hN)] := hl
  refine kQ (fun Q hQ => ?_)
  refine lv_aload_n hx hb dX3_size_0 rfl (lv_at hl 0 rfl) ?_
  refine va_get (D := (dC, dI)) (ci := 3) (v := .int (nI (kn))) (C := RX3) (T := TX3) (N := 6) hx hb hts (fun _ h => List.mem_cons_of_mem _ (List.mem_append_right _ h)) hown hK hP 0 rfl rfl 5 kc_l_5_6 (hts (.fieldLink RX3 27 "NotEnded$Notebook" "size" "I") (List.mem_cons_of_mem _ (List.mem_append_left _ (List.mem_of_getElem? (i := 0) rfl)))) (fun _ h9 => h9) rfl dX3_size_1 ?_
  rw [hQ]
  exact W.iret (v := nI (kn)) hx hb hr (fun t ht hW => ⟨nI (kn), rfl, rfl, ht⟩) (fun _ h => nomatch h) dX3_size_4
