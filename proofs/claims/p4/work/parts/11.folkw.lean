theorem dX2_addPerson_0 : decode cX2_addPerson 0 = .ok (.aload_n 0, 1) := kDs0 kf_42 (by decide +kernel)
theorem dX2_addPerson_1 : decode cX2_addPerson 1 = .ok (.getfield 31, 3) := kDs2 kf_180 (by decide +kernel)
theorem dX2_addPerson_4 : decode cX2_addPerson 4 = .ok (.bipush 10, 2) := kDs3 kf_16 (by decide +kernel)
theorem dX2_addPerson_6 : decode cX2_addPerson 6 = .ok (.if_icmp .lt 5, 3) := kDs4 kf_161 (by decide +kernel)
theorem dX2_addPerson_11 : decode cX2_addPerson 11 = .ok (.aload_n 0, 1) := kDs0 kf_42 (by decide +kernel)
theorem dX2_addPerson_12 : decode cX2_addPerson 12 = .ok (.getfield 9, 3) := kDs2 kf_180 (by decide +kernel)
theorem dX2_addPerson_15 : decode cX2_addPerson 15 = .ok (.aload_n 0, 1) := kDs0 kf_42 (by decide +kernel)
theorem dX2_addPerson_16 : decode cX2_addPerson 16 = .ok (.getfield 31, 3) := kDs2 kf_180 (by decide +kernel)
theorem dX2_addPerson_19 : decode cX2_addPerson 19 = .ok (.iload_n 1, 1) := kDs0 kf_27 (by decide +kernel)
theorem dX2_addPerson_20 : decode cX2_addPerson 20 = .ok (.iastore, 1) := kDs0 kf_79 (by decide +kernel)
theorem dX2_addPerson_21 : decode cX2_addPerson 21 = .ok (.aload_n 0, 1) := kDs0 kf_42 (by decide +kernel)
theorem dX2_addPerson_22 : decode cX2_addPerson 22 = .ok (.getfield 15, 3) := kDs2 kf_180 (by decide +kernel)
theorem dX2_addPerson_25 : decode cX2_addPerson 25 = .ok (.aload_n 0, 1) := kDs0 kf_42 (by decide +kernel)
theorem dX2_addPerson_26 : decode cX2_addPerson 26 = .ok (.getfield 31, 3) := kDs2 kf_180 (by decide +kernel)
theorem dX2_addPerson_29 : decode cX2_addPerson 29 = .ok (.iload_n 2, 1) := kDs0 kf_28 (by decide +kernel)
theorem dX2_addPerson_30 : decode cX2_addPerson 30 = .ok (.iastore, 1) := kDs0 kf_79 (by decide +kernel)
theorem dX2_addPerson_31 : decode cX2_addPerson 31 = .ok (.aload_n 0, 1) := kDs0 kf_42 (by decide +kernel)
theorem dX2_addPerson_32 : decode cX2_addPerson 32 = .ok (.getfield 18, 3) := kDs2 kf_180 (by decide +kernel)
theorem dX2_addPerson_35 : decode cX2_addPerson 35 = .ok (.aload_n 0, 1) := kDs0 kf_42 (by decide +kernel)
theorem dX2_addPerson_36 : decode cX2_addPerson 36 = .ok (.getfield 31, 3) := kDs2 kf_180 (by decide +kernel)
theorem dX2_addPerson_39 : decode cX2_addPerson 39 = .ok (.iload_n 3, 1) := kDs0 kf_29 (by decide +kernel)
theorem dX2_addPerson_40 : decode cX2_addPerson 40 = .ok (.iastore, 1) := kDs0 kf_79 (by decide +kernel)
theorem dX2_addPerson_41 : decode cX2_addPerson 41 = .ok (.iload 4, 2) := kDs1 kf_21 (by decide +kernel)
theorem dX2_addPerson_43 : decode cX2_addPerson 43 = .ok (.ifCond .eq 18, 3) := kDs4 kf_153 (by decide +kernel)
theorem dX2_addPerson_61 : decode cX2_addPerson 61 = .ok (.aload_n 0, 1) := kDs0 kf_42 (by decide +kernel)
theorem dX2_addPerson_62 : decode cX2_addPerson 62 = .ok (.dup, 1) := kDs0 kf_89 (by decide +kernel)
theorem dX2_addPerson_63 : decode cX2_addPerson 63 = .ok (.getfield 31, 3) := kDs2 kf_180 (by decide +kernel)
theorem dX2_addPerson_66 : decode cX2_addPerson 66 = .ok (.iconst 1, 1) := kDs0 kf_4 (by decide +kernel)
theorem dX2_addPerson_67 : decode cX2_addPerson 67 = .ok (.iadd, 1) := kDs0 kf_96 (by decide +kernel)
theorem dX2_addPerson_68 : decode cX2_addPerson 68 = .ok (.putfield 31, 3) := kDs2 kf_181 (by decide +kernel)
theorem dX2_addPerson_71 : decode cX2_addPerson 71 = .ok (.aload_n 0, 1) := kDs0 kf_42 (by decide +kernel)
theorem dX2_addPerson_72 : decode cX2_addPerson 72 = .ok (.getfield 31, 3) := kDs2 kf_180 (by decide +kernel)
theorem dX2_addPerson_75 : decode cX2_addPerson 75 = .ok (.iconst 1, 1) := kDs0 kf_4 (by decide +kernel)
theorem dX2_addPerson_76 : decode cX2_addPerson 76 = .ok (.isub, 1) := kDs0 kf_100 (by decide +kernel)
theorem dX2_addPerson_77 : decode cX2_addPerson 77 = .ok (.ireturn, 1) := kDs0 kf_172 (by decide +kernel)
theorem dX2_addPerson_46 : decode cX2_addPerson 46 = .ok (.aload_n 0, 1) := kDs0 kf_42 (by decide +kernel)
theorem dX2_addPerson_47 : decode cX2_addPerson 47 = .ok (.dup, 1) := kDs0 kf_89 (by decide +kernel)
theorem dX2_addPerson_48 : decode cX2_addPerson 48 = .ok (.getfield 27, 3) := kDs2 kf_180 (by decide +kernel)
theorem dX2_addPerson_51 : decode cX2_addPerson 51 = .ok (.iconst 1, 1) := kDs0 kf_4 (by decide +kernel)
theorem dX2_addPerson_52 : decode cX2_addPerson 52 = .ok (.aload_n 0, 1) := kDs0 kf_42 (by decide +kernel)
theorem dX2_addPerson_53 : decode cX2_addPerson 53 = .ok (.getfield 31, 3) := kDs2 kf_180 (by decide +kernel)
theorem dX2_addPerson_56 : decode cX2_addPerson 56 = .ok (.ishl, 1) := kDs0 kf_120 (by decide +kernel)
theorem dX2_addPerson_57 : decode cX2_addPerson 57 = .ok (.ior, 1) := kDs0 kf_128 (by decide +kernel)
theorem dX2_addPerson_58 : decode cX2_addPerson 58 = .ok (.putfield 27, 3) := kDs2 kf_181 (by decide +kernel)
theorem dX2_addPerson_9 : decode cX2_addPerson 9 = .ok (.iconst (-1), 1) := kDs0 kf_2 (by decide +kernel)
theorem dX2_addPerson_10 : decode cX2_addPerson 10 = .ok (.ireturn, 1) := kDs0 kf_172 (by decide +kernel)
def w_s_addPerson2 : List Cond := .code yX2_addPerson cX2_addPerson 5 (some .int) :: ([.fieldLink RX2 31 "NotEnded$Folk" "size" "I", .fieldLink RX2 9 "NotEnded$Folk" "holds" "[I", .fieldLink RX2 15 "NotEnded$Folk" "putIn" "[I", .fieldLink RX2 18 "NotEnded$Folk" "houses" "[I", .fieldLink RX2 27 "NotEnded$Folk" "sent" "I"] ++ (wsX20))
theorem gw_s_addPerson2 : (w_s_addPerson2).all goodWord = true := kGc rfl (kGa (by decide +kernel) gw_wsX20)
theorem hd_X2_addPerson : yX2_addPerson.cls ≠ "java/lang/invoke/MethodHandle" ∧ yX2_addPerson.cls ≠ "java/lang/invoke/VarHandle" ∧ (parseMethodDescriptor yX2_addPerson.desc).map (fun d => d.parameters.length) = some 4 := by decide +kernel
set_option maxHeartbeats 4000000 in
set_option maxRecDepth 100000 in
theorem s_addPerson2 (l : Launch) (dC : Nat → ClassId) (dI : Nat → Nat → Nat) (hF : Nat) (f0 : Nat) (f1 : Nat) (f2 : Nat) (f3 : Nat) (f4 : Nat) (z0 : ClassId) (z1 : ClassId) (z2 : ClassId) (z3 : ClassId) (z4 : ClassId) (g0 : Nat → Int32) (g1 : Nat → Int32) (g2 : Nat → Int32) (g3 : Nat → Int32) (g4 : Nat → Int32) (sn : Int32) (ks : Nat) (kw : Nat) (hks : ks ≤ 10) (hkw : kw ≤ 4) (p0 : Int32) (p1 : Int32) (p2 : Int32) (p3 : Int32) (sz : Nat) : Met l yX2_addPerson w_s_addPerson2 ({ frames := 1, cells := 0, slots := 0, locals := 60 }) (kW dC dI [.ref hF, .int p0, .int p1, .int p2, .int p3] [(hF, .inr (2, [.ref f0, .ref f1, .ref f2, .ref f3, .ref f4, .int sn, .int (nI (ks)), .int (nI (kw))])), (f0, .inl (z0, 10, .inl g0)), (f1, .inl (z1, 10, .inl g1)), (f2, .inl (z2, 10, .inl g2)), (f3, .inl (z3, 10, .inl g3)), (f4, .inl (z4, 4, .inl g4))] [(z0, .int), (z1, .int), (z2, .int), (z3, .int), (z4, .int)] kT sz) (va_Qi (fun (r : Int32) (u : (Nat → Int32) × (Nat → Int32) × (Nat → Int32) × Int32 × Nat) => match u with | (n0, n1, n2, sn1, ks1) => (ks ≤ ks1 ∧ ks1 ≤ 10)) (fun (u : (Nat → Int32) × (Nat → Int32) × (Nat → Int32) × Int32 × Nat) => match u with | (n0, n1, n2, sn1, ks1) => fun t : State => kB dC dI [(hF, .inr (2, [.ref f0, .ref f1, .ref f2, .ref f3, .ref f4, .int sn1, .int (nI (ks1)), .int (nI (kw))])), (f0, .inl (z0, 10, .inl n0)), (f1, .inl (z1, 10, .inl n1)), (f2, .inl (z2, 10, .inl n2)), (f3, .inl (z3, 10, .inl g3)), (f4, .inl (z4, 4, .inl g4))] [(z0, .int), (z1, .int), (z2, .int), (z3, .int), (z4, .int)] (va_A [(hF, .inr (2, [.ref f0, .ref f1, .ref f2, .ref f3, .ref f4, .int sn, .int (nI (ks)), .int (nI (kw))])), (f0, .inl (z0, 10, .inl g0)), (f1, .inl (z1, 10, .inl g1)), (f2, .inl (z2, 10, .inl g2)), (f3, .inl (z3, 10, .inl g3)), (f4, .inl (z4, 4, .inl g4))] sz) t) (va_A [(hF, .inr (2, [.ref f0, .ref f1, .ref f2, .ref f3, .ref f4, .int sn, .int (nI (ks)), .int (nI (kw))])), (f0, .inl (z0, 10, .inl g0)), (f1, .inl (z1, 10, .inl g1)), (f2, .inl (z2, 10, .inl g2)), (f3, .inl (z3, 10, .inl g3)), (f4, .inl (z4, 4, .inl g4))] sz)) 0 0 (va_A [(hF, .inr (2, [.ref f0, .ref f1, .ref f2, .ref f3, .ref f4, .int sn, .int (nI (ks)), .int (nI (kw))])), (f0, .inl (z0, 10, .inl g0)), (f1, .inl (z1, 10, .inl g1)), (f2, .inl (z2, 10, .inl g2)), (f3, .inl (z3, 10, .inl g3)), (f4, .inl (z4, 4, .inl g4))] sz) := by
  refine Met.ofW (cc := cX2_addPerson) (maxL := 5) (ret := (some .int)) (by decide) rfl ?_
  intro p e s m args below meth c s₁ B hml hv
  obtain ⟨rfl, hsz, hP, hK, hD0, hX⟩ := hv
  have hx := B.exec
  have hb := B.bytes
  have hr := B.returns
  have hts := atoms_spec (ws := w_s_addPerson2) B.pre
  have hown : s.vm.findClass RX2 = some m.cls := findClass_of_methodNamed B.named
  have hlocks := B.notSynchronized
  subst hsz
  have hD := hD0.self (sz := s.heap.size)
  generalize hAe : va_A [(hF, .inr (2, [.ref f0, .ref f1, .ref f2, .ref f3, .ref f4, .int sn, .int (nI (ks)), .int (nI (kw))])), (f0, .inl (z0, 10, .inl g0)), (f1, .inl (z1, 10, .inl g1)), (f2, .inl (z2, 10, .inl g2)), (f3, .inl (z3, 10, .inl g3)), (f4, .inl (z4, 4, .inl g4))] s.heap.size = A at hD ⊢
  have hA : ∀ q : Nat, s.heap.size ≤ q → A q := fun q h => by rw [← hAe]; exact Or.inr h
  have hS : va_S A s.heap s.heap [] := va_S.rf
  have hP : va_P (dC, dI) vwCl [(hF, .inr (2, [.ref f0, .ref f1, .ref f2, .ref f3, .ref f4, .int sn, .int (nI (ks)), .int (nI (kw))])), (f0, .inl (z0, 10, .inl g0)), (f1, .inl (z1, 10, .inl g1)), (f2, .inl (z2, 10, .inl g2)), (f3, .inl (z3, 10, .inl g3)), (f4, .inl (z4, 4, .inl g4))] s.heap := hP
  have hl := lv_entry ([.ref hF, .int p0, .int p1, .int p2, .int p3]) (n := 5) (Nat.le_of_ble_eq_true rfl)
  rw [lg_entry_eq]
  generalize (lg_sl ([.ref hF, .int p0, .int p1, .int p2, .int p3]) ++ List.replicate (5 - (lg_sl ([.ref hF, .int p0, .int p1, .int p2, .int p3])).length) Slot.unset).toArray = ls at hl ⊢
  have hl : lv_has ls 5 [(0, .ref hF), (1, .int p0), (2, .int p1), (3, .int p2), (4, .int p3)] := hl
  refine kQ (fun Q hQ => ?_)
  refine lv_aload_n hx hb dX2_addPerson_0 rfl (lv_at hl 0 rfl) ?_
  refine va_get (D := (dC, dI)) (ci := 2) (v := .int (nI (ks))) (C := RX2) (T := TX2) (N := 8) hx hb hts (fun _ h => List.mem_cons_of_mem _ (List.mem_append_right _ h)) hown hK hP 0 rfl rfl 6 kc_l_6_8 (hts (.fieldLink RX2 31 "NotEnded$Folk" "size" "I") (List.mem_cons_of_mem _ (List.mem_append_left _ (List.mem_of_getElem? (i := 0) rfl)))) (fun _ h9 => h9) rfl dX2_addPerson_1 ?_
  refine lv_bipush (v := 10) hx hb dX2_addPerson_4 kc_b_10 ?_
  refine lv_icmp_lt (tgt := 11) hx hb dX2_addPerson_6 kc_t_6_5 (fun c_1 => ?_) (fun c_1 => ?_)
  · have bd_3 : ks < 2147483648 := by omega
    have hn_2 := klt (a := ks) (b := 10) bd_3 kc_31_10 c_1
    refine lv_aload_n hx hb dX2_addPerson_11 rfl (lv_at hl 0 rfl) ?_
    refine va_get (D := (dC, dI)) (ci := 2) (v := .ref f0) (C := RX2) (T := TX2) (N := 8) hx hb hts (fun _ h => List.mem_cons_of_mem _ (List.mem_append_right _ h)) hown hK hP 0 rfl rfl 0 kc_l_0_8 (hts (.fieldLink RX2 9 "NotEnded$Folk" "holds" "[I") (List.mem_cons_of_mem _ (List.mem_append_left _ (List.mem_of_getElem? (i := 1) rfl)))) (fun _ h9 => h9) rfl dX2_addPerson_12 ?_
    refine lv_aload_n hx hb dX2_addPerson_15 rfl (lv_at hl 0 rfl) ?_
    refine va_get (D := (dC, dI)) (ci := 2) (v := .int (nI (ks))) (C := RX2) (T := TX2) (N := 8) hx hb hts (fun _ h => List.mem_cons_of_mem _ (List.mem_append_right _ h)) hown hK hP 0 rfl rfl 6 kc_l_6_8 (hts (.fieldLink RX2 31 "NotEnded$Folk" "size" "I") (List.mem_cons_of_mem _ (List.mem_append_left _ (List.mem_of_getElem? (i := 0) rfl)))) (fun _ h9 => h9) rfl dX2_addPerson_16 ?_
    refine lv_iload_n hx hb dX2_addPerson_19 rfl (lv_at hl 1 rfl) ?_
    have bd_5 : ks < 10 := by omega
    refine va_iast hx hb hK hP hD hS 1 0 rfl rfl (vp_in_nI (n := ks) (N := 10) bd_5 kc_31_10) dX2_addPerson_20 (fun H locs hP hD hS => ?_)
    obtain ⟨f_4, ef_4⟩ : ∃ gg9 : Nat → Int32, gg9 = upd g0 (Int32.toNatClampNeg (nI (ks))) p0 := ⟨_, rfl⟩
    have hPD : kPD dC dI A [(hF, .inr (2, [.ref f0, .ref f1, .ref f2, .ref f3, .ref f4, .int sn, .int (nI (ks)), .int (nI (kw))])), (f0, .inl (z0, 10, .inl f_4)), (f1, .inl (z1, 10, .inl g1)), (f2, .inl (z2, 10, .inl g2)), (f3, .inl (z3, 10, .inl g3)), (f4, .inl (z4, 4, .inl g4))] H := by rw [ef_4]; exact ⟨hP, hD⟩
    have hP := hPD.1
    have hD := hPD.2
    refine lv_aload_n hx hb dX2_addPerson_21 rfl (lv_at hl 0 rfl) ?_
    refine va_get (D := (dC, dI)) (ci := 2) (v := .ref f1) (C := RX2) (T := TX2) (N := 8) hx hb hts (fun _ h => List.mem_cons_of_mem _ (List.mem_append_right _ h)) hown hK hP 0 rfl rfl 1 kc_l_1_8 (hts (.fieldLink RX2 15 "NotEnded$Folk" "putIn" "[I") (List.mem_cons_of_mem _ (List.mem_append_left _ (List.mem_of_getElem? (i := 2) rfl)))) (fun _ h9 => h9) rfl dX2_addPerson_22 ?_
    refine lv_aload_n hx hb dX2_addPerson_25 rfl (lv_at hl 0 rfl) ?_
    refine va_get (D := (dC, dI)) (ci := 2) (v := .int (nI (ks))) (C := RX2) (T := TX2) (N := 8) hx hb hts (fun _ h => List.mem_cons_of_mem _ (List.mem_append_right _ h)) hown hK hP 0 rfl rfl 6 kc_l_6_8 (hts (.fieldLink RX2 31 "NotEnded$Folk" "size" "I") (List.mem_cons_of_mem _ (List.mem_append_left _ (List.mem_of_getElem? (i := 0) rfl)))) (fun _ h9 => h9) rfl dX2_addPerson_26 ?_
    refine lv_iload_n hx hb dX2_addPerson_29 rfl (lv_at hl 2 rfl) ?_
    refine va_iast hx hb hK hP hD hS 2 1 rfl rfl (vp_in_nI (n := ks) (N := 10) bd_5 kc_31_10) dX2_addPerson_30 (fun H locs hP hD hS => ?_)
    obtain ⟨f_6, ef_6⟩ : ∃ gg9 : Nat → Int32, gg9 = upd g1 (Int32.toNatClampNeg (nI (ks))) p1 := ⟨_, rfl⟩
    have hPD : kPD dC dI A [(hF, .inr (2, [.ref f0, .ref f1, .ref f2, .ref f3, .ref f4, .int sn, .int (nI (ks)), .int (nI (kw))])), (f0, .inl (z0, 10, .inl f_4)), (f1, .inl (z1, 10, .inl f_6)), (f2, .inl (z2, 10, .inl g2)), (f3, .inl (z3, 10, .inl g3)), (f4, .inl (z4, 4, .inl g4))] H := by rw [ef_6]; exact ⟨hP, hD⟩
    have hP := hPD.1
    have hD := hPD.2
    refine lv_aload_n hx hb dX2_addPerson_31 rfl (lv_at hl 0 rfl) ?_
    refine va_get (D := (dC, dI)) (ci := 2) (v := .ref f2) (C := RX2) (T := TX2) (N := 8) hx hb hts (fun _ h => List.mem_cons_of_mem _ (List.mem_append_right _ h)) hown hK hP 0 rfl rfl 2 kc_l_2_8 (hts (.fieldLink RX2 18 "NotEnded$Folk" "houses" "[I") (List.mem_cons_of_mem _ (List.mem_append_left _ (List.mem_of_getElem? (i := 3) rfl)))) (fun _ h9 => h9) rfl dX2_addPerson_32 ?_
    refine lv_aload_n hx hb dX2_addPerson_35 rfl (lv_at hl 0 rfl) ?_
    refine va_get (D := (dC, dI)) (ci := 2) (v := .int (nI (ks))) (C := RX2) (T := TX2) (N := 8) hx hb hts (fun _ h => List.mem_cons_of_mem _ (List.mem_append_right _ h)) hown hK hP 0 rfl rfl 6 kc_l_6_8 (hts (.fieldLink RX2 31 "NotEnded$Folk" "size" "I") (List.mem_cons_of_mem _ (List.mem_append_left _ (List.mem_of_getElem? (i := 0) rfl)))) (fun _ h9 => h9) rfl dX2_addPerson_36 ?_
    refine lv_iload_n hx hb dX2_addPerson_39 rfl (lv_at hl 3 rfl) ?_
    refine va_iast hx hb hK hP hD hS 3 2 rfl rfl (vp_in_nI (n := ks) (N := 10) bd_5 kc_31_10) dX2_addPerson_40 (fun H locs hP hD hS => ?_)
    obtain ⟨f_7, ef_7⟩ : ∃ gg9 : Nat → Int32, gg9 = upd g2 (Int32.toNatClampNeg (nI (ks))) p2 := ⟨_, rfl⟩
    have hPD : kPD dC dI A [(hF, .inr (2, [.ref f0, .ref f1, .ref f2, .ref f3, .ref f4, .int sn, .int (nI (ks)), .int (nI (kw))])), (f0, .inl (z0, 10, .inl f_4)), (f1, .inl (z1, 10, .inl f_6)), (f2, .inl (z2, 10, .inl f_7)), (f3, .inl (z3, 10, .inl g3)), (f4, .inl (z4, 4, .inl g4))] H := by rw [ef_7]; exact ⟨hP, hD⟩
    have hP := hPD.1
    have hD := hPD.2
    refine lv_iload hx hb dX2_addPerson_41 (lv_at hl 4 rfl) ?_
    refine lv_if_eq (tgt := 61) hx hb dX2_addPerson_43 kc_t_43_18 (fun c_8 => ?_) (fun c_8 => ?_)
    · refine lv_aload_n hx hb dX2_addPerson_61 rfl (lv_at hl 0 rfl) ?_
      refine lv_dup hx hb dX2_addPerson_62 rfl ?_
      refine va_get (D := (dC, dI)) (ci := 2) (v := .int (nI (ks))) (C := RX2) (T := TX2) (N := 8) hx hb hts (fun _ h => List.mem_cons_of_mem _ (List.mem_append_right _ h)) hown hK hP 0 rfl rfl 6 kc_l_6_8 (hts (.fieldLink RX2 31 "NotEnded$Folk" "size" "I") (List.mem_cons_of_mem _ (List.mem_append_left _ (List.mem_of_getElem? (i := 0) rfl)))) (fun _ h9 => h9) rfl dX2_addPerson_63 ?_
      refine lv_iconst (v := 1) hx hb dX2_addPerson_66 kc_i_1 ?_
      refine lv_iadd hx hb dX2_addPerson_67 ?_
      refine lv_topi (fun y_9 ey_9 => ?_)
      obtain rfl : y_9 = nI (ks + 1) := ey_9.trans (nI_add (ks) (1))
      refine va_put (D := (dC, dI)) (ci := 2) (v := .int (nI (ks + 1))) (ty := tyX2 6) (C := RX2) (T := TX2) (N := 8) hx hb hts (fun _ h => List.mem_cons_of_mem _ (List.mem_append_right _ h)) tyX2 tyX2_ok nmX2 hown hK hP hD hS 0 rfl rfl 6 kc_l_6_8 (hts (.fieldLink RX2 31 "NotEnded$Folk" "size" "I") (List.mem_cons_of_mem _ (List.mem_append_left _ (List.mem_of_getElem? (i := 0) rfl)))) (fun _ h9 => h9) rfl (tyX2_ok 6 kc_l_6_8) rfl rfl (Nat.le_of_ble_eq_true rfl) dX2_addPerson_68 (fun H locs hP hD hS => ?_)
      have hPD : kPD dC dI A [(hF, .inr (2, [.ref f0, .ref f1, .ref f2, .ref f3, .ref f4, .int sn, .int (nI (ks + 1)), .int (nI (kw))])), (f0, .inl (z0, 10, .inl f_4)), (f1, .inl (z1, 10, .inl f_6)), (f2, .inl (z2, 10, .inl f_7)), (f3, .inl (z3, 10, .inl g3)), (f4, .inl (z4, 4, .inl g4))] H := ⟨hP, hD⟩
      have hP := hPD.1
      have hD := hPD.2
      refine lv_aload_n hx hb dX2_addPerson_71 rfl (lv_at hl 0 rfl) ?_
      refine va_get (D := (dC, dI)) (ci := 2) (v := .int (nI (ks + 1))) (C := RX2) (T := TX2) (N := 8) hx hb hts (fun _ h => List.mem_cons_of_mem _ (List.mem_append_right _ h)) hown hK hP 0 rfl rfl 6 kc_l_6_8 (hts (.fieldLink RX2 31 "NotEnded$Folk" "size" "I") (List.mem_cons_of_mem _ (List.mem_append_left _ (List.mem_of_getElem? (i := 0) rfl)))) (fun _ h9 => h9) rfl dX2_addPerson_72 ?_
      refine lv_iconst (v := 1) hx hb dX2_addPerson_75 kc_i_1 ?_
      refine lv_isub hx hb dX2_addPerson_76 ?_
      refine lv_topi (fun y_10 ey_10 => ?_)
      obtain rfl : y_10 = nI (ks + 1 - 1) := ey_10.trans (pk_sub (a := ks + 1) (b := 1) (by omega))
      have hP9 := hP
      have hD9 := hD
      have hK9 := hK
      rw [hQ]
      exact W.iret (v := nI (ks + 1 - 1)) hx hb hr (fun t ht hW => ⟨⟨nI (ks + 1 - 1), (f_4, f_6, f_7, sn, (ks + 1)), rfl, ⟨by omega, by omega⟩,  by rw [ht]; exact hP9, va_K.moved hW.alike hK9, hD9⟩, hS.F ht⟩) hS.2.2 dX2_addPerson_77
    · refine lv_aload_n hx hb dX2_addPerson_46 rfl (lv_at hl 0 rfl) ?_
      refine lv_dup hx hb dX2_addPerson_47 rfl ?_
      refine va_get (D := (dC, dI)) (ci := 2) (v := .int sn) (C := RX2) (T := TX2) (N := 8) hx hb hts (fun _ h => List.mem_cons_of_mem _ (List.mem_append_right _ h)) hown hK hP 0 rfl rfl 5 kc_l_5_8 (hts (.fieldLink RX2 27 "NotEnded$Folk" "sent" "I") (List.mem_cons_of_mem _ (List.mem_append_left _ (List.mem_of_getElem? (i := 4) rfl)))) (fun _ h9 => h9) rfl dX2_addPerson_48 ?_
      refine lv_iconst (v := 1) hx hb dX2_addPerson_51 kc_i_1 ?_
      refine lv_aload_n hx hb dX2_addPerson_52 rfl (lv_at hl 0 rfl) ?_
      refine va_get (D := (dC, dI)) (ci := 2) (v := .int (nI (ks))) (C := RX2) (T := TX2) (N := 8) hx hb hts (fun _ h => List.mem_cons_of_mem _ (List.mem_append_right _ h)) hown hK hP 0 rfl rfl 6 kc_l_6_8 (hts (.fieldLink RX2 31 "NotEnded$Folk" "size" "I") (List.mem_cons_of_mem _ (List.mem_append_left _ (List.mem_of_getElem? (i := 0) rfl)))) (fun _ h9 => h9) rfl dX2_addPerson_53 ?_
      refine lv_ishl hx hb dX2_addPerson_56 ?_
      refine lv_topi (fun x_11 ex_11 => ?_)
      refine lv_ior hx hb dX2_addPerson_57 ?_
      refine lv_topi (fun x_12 ex_12 => ?_)
      refine va_put (D := (dC, dI)) (ci := 2) (v := .int x_12) (ty := tyX2 5) (C := RX2) (T := TX2) (N := 8) hx hb hts (fun _ h => List.mem_cons_of_mem _ (List.mem_append_right _ h)) tyX2 tyX2_ok nmX2 hown hK hP hD hS 0 rfl rfl 5 kc_l_5_8 (hts (.fieldLink RX2 27 "NotEnded$Folk" "sent" "I") (List.mem_cons_of_mem _ (List.mem_append_left _ (List.mem_of_getElem? (i := 4) rfl)))) (fun _ h9 => h9) rfl (tyX2_ok 5 kc_l_5_8) rfl rfl (Nat.le_of_ble_eq_true rfl) dX2_addPerson_58 (fun H locs hP hD hS => ?_)
      have hPD : kPD dC dI A [(hF, .inr (2, [.ref f0, .ref f1, .ref f2, .ref f3, .ref f4, .int x_12, .int (nI (ks)), .int (nI (kw))])), (f0, .inl (z0, 10, .inl f_4)), (f1, .inl (z1, 10, .inl f_6)), (f2, .inl (z2, 10, .inl f_7)), (f3, .inl (z3, 10, .inl g3)), (f4, .inl (z4, 4, .inl g4))] H := ⟨hP, hD⟩
      have hP := hPD.1
      have hD := hPD.2
      refine lv_aload_n hx hb dX2_addPerson_61 rfl (lv_at hl 0 rfl) ?_
      refine lv_dup hx hb dX2_addPerson_62 rfl ?_
      refine va_get (D := (dC, dI)) (ci := 2) (v := .int (nI (ks))) (C := RX2) (T := TX2) (N := 8) hx hb hts (fun _ h => List.mem_cons_of_mem _ (List.mem_append_right _ h)) hown hK hP 0 rfl rfl 6 kc_l_6_8 (hts (.fieldLink RX2 31 "NotEnded$Folk" "size" "I") (List.mem_cons_of_mem _ (List.mem_append_left _ (List.mem_of_getElem? (i := 0) rfl)))) (fun _ h9 => h9) rfl dX2_addPerson_63 ?_
      refine lv_iconst (v := 1) hx hb dX2_addPerson_66 kc_i_1 ?_
      refine lv_iadd hx hb dX2_addPerson_67 ?_
      refine lv_topi (fun y_13 ey_13 => ?_)
      obtain rfl : y_13 = nI (ks + 1) := ey_13.trans (nI_add (ks) (1))
      refine va_put (D := (dC, dI)) (ci := 2) (v := .int (nI (ks + 1))) (ty := tyX2 6) (C := RX2) (T := TX2) (N := 8) hx hb hts (fun _ h => List.mem_cons_of_mem _ (List.mem_append_right _ h)) tyX2 tyX2_ok nmX2 hown hK hP hD hS 0 rfl rfl 6 kc_l_6_8 (hts (.fieldLink RX2 31 "NotEnded$Folk" "size" "I") (List.mem_cons_of_mem _ (List.mem_append_left _ (List.mem_of_getElem? (i := 0) rfl)))) (fun _ h9 => h9) rfl (tyX2_ok 6 kc_l_6_8) rfl rfl (Nat.le_of_ble_eq_true rfl) dX2_addPerson_68 (fun H locs hP hD hS => ?_)
      have hPD : kPD dC dI A [(hF, .inr (2, [.ref f0, .ref f1, .ref f2, .ref f3, .ref f4, .int x_12, .int (nI (ks + 1)), .int (nI (kw))])), (f0, .inl (z0, 10, .inl f_4)), (f1, .inl (z1, 10, .inl f_6)), (f2, .inl (z2, 10, .inl f_7)), (f3, .inl (z3, 10, .inl g3)), (f4, .inl (z4, 4, .inl g4))] H := ⟨hP, hD⟩
      have hP := hPD.1
      have hD := hPD.2
      refine lv_aload_n hx hb dX2_addPerson_71 rfl (lv_at hl 0 rfl) ?_
      refine va_get (D := (dC, dI)) (ci := 2) (v := .int (nI (ks + 1))) (C := RX2) (T := TX2) (N := 8) hx hb hts (fun _ h => List.mem_cons_of_mem _ (List.mem_append_right _ h)) hown hK hP 0 rfl rfl 6 kc_l_6_8 (hts (.fieldLink RX2 31 "NotEnded$Folk" "size" "I") (List.mem_cons_of_mem _ (List.mem_append_left _ (List.mem_of_getElem? (i := 0) rfl)))) (fun _ h9 => h9) rfl dX2_addPerson_72 ?_
      refine lv_iconst (v := 1) hx hb dX2_addPerson_75 kc_i_1 ?_
      refine lv_isub hx hb dX2_addPerson_76 ?_
      refine lv_topi (fun y_14 ey_14 => ?_)
      obtain rfl : y_14 = nI (ks + 1 - 1) := ey_14.trans (pk_sub (a := ks + 1) (b := 1) (by omega))
      have hP9 := hP
      have hD9 := hD
      have hK9 := hK
      rw [hQ]
      exact W.iret (v := nI (ks + 1 - 1)) hx hb hr (fun t ht hW => ⟨⟨nI (ks + 1 - 1), (f_4, f_6, f_7, x_12, (ks + 1)), rfl, ⟨by omega, by omega⟩,  by rw [ht]; exact hP9, va_K.moved hW.alike hK9, hD9⟩, hS.F ht⟩) hS.2.2 dX2_addPerson_77
  · have bd_16 : ks < 2147483648 := by omega
    have hn_15 := knlt (a := ks) (b := 10) bd_16 kc_31_10 c_1
    refine lv_iconst (v := (-1)) hx hb dX2_addPerson_9 kc_i_m1 ?_
    have hP9 := hP
    have hD9 := hD
    have hK9 := hK
    rw [hQ]
    exact W.iret (v := (-1)) hx hb hr (fun t ht hW => ⟨⟨(-1), (g0, g1, g2, sn, ks), rfl, ⟨by omega, by omega⟩,  by rw [ht]; exact hP9, va_K.moved hW.alike hK9, hD9⟩, hS.F ht⟩) hS.2.2 dX2_addPerson_10

theorem dX2_addWord_0 : decode cX2_addWord 0 = .ok (.aload_n 0, 1) := kDs0 kf_42 (by decide +kernel)
theorem dX2_addWord_1 : decode cX2_addWord 1 = .ok (.getfield 34, 3) := kDs2 kf_180 (by decide +kernel)
theorem dX2_addWord_4 : decode cX2_addWord 4 = .ok (.iconst 4, 1) := kDs0 kf_7 (by decide +kernel)
theorem dX2_addWord_5 : decode cX2_addWord 5 = .ok (.if_icmp .lt 5, 3) := kDs4 kf_161 (by decide +kernel)
theorem dX2_addWord_10 : decode cX2_addWord 10 = .ok (.aload_n 0, 1) := kDs0 kf_42 (by decide +kernel)
theorem dX2_addWord_11 : decode cX2_addWord 11 = .ok (.getfield 24, 3) := kDs2 kf_180 (by decide +kernel)
theorem dX2_addWord_14 : decode cX2_addWord 14 = .ok (.aload_n 0, 1) := kDs0 kf_42 (by decide +kernel)
theorem dX2_addWord_15 : decode cX2_addWord 15 = .ok (.getfield 34, 3) := kDs2 kf_180 (by decide +kernel)
theorem dX2_addWord_18 : decode cX2_addWord 18 = .ok (.iload_n 1, 1) := kDs0 kf_27 (by decide +kernel)
theorem dX2_addWord_19 : decode cX2_addWord 19 = .ok (.iastore, 1) := kDs0 kf_79 (by decide +kernel)
theorem dX2_addWord_20 : decode cX2_addWord 20 = .ok (.aload_n 0, 1) := kDs0 kf_42 (by decide +kernel)
theorem dX2_addWord_21 : decode cX2_addWord 21 = .ok (.dup, 1) := kDs0 kf_89 (by decide +kernel)
theorem dX2_addWord_22 : decode cX2_addWord 22 = .ok (.getfield 34, 3) := kDs2 kf_180 (by decide +kernel)
theorem dX2_addWord_25 : decode cX2_addWord 25 = .ok (.iconst 1, 1) := kDs0 kf_4 (by decide +kernel)
theorem dX2_addWord_26 : decode cX2_addWord 26 = .ok (.iadd, 1) := kDs0 kf_96 (by decide +kernel)
theorem dX2_addWord_27 : decode cX2_addWord 27 = .ok (.putfield 34, 3) := kDs2 kf_181 (by decide +kernel)
theorem dX2_addWord_30 : decode cX2_addWord 30 = .ok (.aload_n 0, 1) := kDs0 kf_42 (by decide +kernel)
theorem dX2_addWord_31 : decode cX2_addWord 31 = .ok (.getfield 34, 3) := kDs2 kf_180 (by decide +kernel)
theorem dX2_addWord_34 : decode cX2_addWord 34 = .ok (.ireturn, 1) := kDs0 kf_172 (by decide +kernel)
theorem dX2_addWord_8 : decode cX2_addWord 8 = .ok (.iconst (-1), 1) := kDs0 kf_2 (by decide +kernel)
theorem dX2_addWord_9 : decode cX2_addWord 9 = .ok (.ireturn, 1) := kDs0 kf_172 (by decide +kernel)
def w_s_addWord2 : List Cond := .code yX2_addWord cX2_addWord 2 (some .int) :: ([.fieldLink RX2 34 "NotEnded$Folk" "words" "I", .fieldLink RX2 24 "NotEnded$Folk" "hours" "[I"] ++ (wsX20))
theorem gw_s_addWord2 : (w_s_addWord2).all goodWord = true := kGc rfl (kGa (by decide +kernel) gw_wsX20)
theorem hd_X2_addWord : yX2_addWord.cls ≠ "java/lang/invoke/MethodHandle" ∧ yX2_addWord.cls ≠ "java/lang/invoke/VarHandle" ∧ (parseMethodDescriptor yX2_addWord.desc).map (fun d => d.parameters.length) = some 1 := by decide +kernel
set_option maxHeartbeats 4000000 in
set_option maxRecDepth 100000 in
theorem s_addWord2 (l : Launch) (dC : Nat → ClassId) (dI : Nat → Nat → Nat) (hF : Nat) (f0 : Nat) (f1 : Nat) (f2 : Nat) (f3 : Nat) (f4 : Nat) (z0 : ClassId) (z1 : ClassId) (z2 : ClassId) (z3 : ClassId) (z4 : ClassId) (g0 : Nat → Int32) (g1 : Nat → Int32) (g2 : Nat → Int32) (g3 : Nat → Int32) (g4 : Nat → Int32) (sn : Int32) (ks : Nat) (kw : Nat) (hks : ks ≤ 10) (hkw : kw ≤ 4) (p0 : Int32) (sz : Nat) : Met l yX2_addWord w_s_addWord2 ({ frames := 1, cells := 0, slots := 0, locals := 60 }) (kW dC dI [.ref hF, .int p0] [(hF, .inr (2, [.ref f0, .ref f1, .ref f2, .ref f3, .ref f4, .int sn, .int (nI (ks)), .int (nI (kw))])), (f0, .inl (z0, 10, .inl g0)), (f1, .inl (z1, 10, .inl g1)), (f2, .inl (z2, 10, .inl g2)), (f3, .inl (z3, 10, .inl g3)), (f4, .inl (z4, 4, .inl g4))] [(z0, .int), (z1, .int), (z2, .int), (z3, .int), (z4, .int)] kT sz) (va_Qi (fun (r : Int32) (u : (Nat → Int32) × Nat) => match u with | (n4, kw1) => (r = (if kw < 4 then nI (kw + 1) else -1) ∧ kw1 = (if kw < 4 then kw + 1 else kw))) (fun (u : (Nat → Int32) × Nat) => match u with | (n4, kw1) => fun t : State => kB dC dI [(hF, .inr (2, [.ref f0, .ref f1, .ref f2, .ref f3, .ref f4, .int sn, .int (nI (ks)), .int (nI (kw1))])), (f0, .inl (z0, 10, .inl g0)), (f1, .inl (z1, 10, .inl g1)), (f2, .inl (z2, 10, .inl g2)), (f3, .inl (z3, 10, .inl g3)), (f4, .inl (z4, 4, .inl n4))] [(z0, .int), (z1, .int), (z2, .int), (z3, .int), (z4, .int)] (va_A [(hF, .inr (2, [.ref f0, .ref f1, .ref f2, .ref f3, .ref f4, .int sn, .int (nI (ks)), .int (nI (kw))])), (f0, .inl (z0, 10, .inl g0)), (f1, .inl (z1, 10, .inl g1)), (f2, .inl (z2, 10, .inl g2)), (f3, .inl (z3, 10, .inl g3)), (f4, .inl (z4, 4, .inl g4))] sz) t) (va_A [(hF, .inr (2, [.ref f0, .ref f1, .ref f2, .ref f3, .ref f4, .int sn, .int (nI (ks)), .int (nI (kw))])), (f0, .inl (z0, 10, .inl g0)), (f1, .inl (z1, 10, .inl g1)), (f2, .inl (z2, 10, .inl g2)), (f3, .inl (z3, 10, .inl g3)), (f4, .inl (z4, 4, .inl g4))] sz)) 0 0 (va_A [(hF, .inr (2, [.ref f0, .ref f1, .ref f2, .ref f3, .ref f4, .int sn, .int (nI (ks)), .int (nI (kw))])), (f0, .inl (z0, 10, .inl g0)), (f1, .inl (z1, 10, .inl g1)), (f2, .inl (z2, 10, .inl g2)), (f3, .inl (z3, 10, .inl g3)), (f4, .inl (z4, 4, .inl g4))] sz) := by
  refine Met.ofW (cc := cX2_addWord) (maxL := 2) (ret := (some .int)) (by decide) rfl ?_
  intro p e s m args below meth c s₁ B hml hv
  obtain ⟨rfl, hsz, hP, hK, hD0, hX⟩ := hv
  have hx := B.exec
  have hb := B.bytes
  have hr := B.returns
  have hts := atoms_spec (ws := w_s_addWord2) B.pre
  have hown : s.vm.findClass RX2 = some m.cls := findClass_of_methodNamed B.named
  have hlocks := B.notSynchronized
  subst hsz
  have hD := hD0.self (sz := s.heap.size)
  generalize hAe : va_A [(hF, .inr (2, [.ref f0, .ref f1, .ref f2, .ref f3, .ref f4, .int sn, .int (nI (ks)), .int (nI (kw))])), (f0, .inl (z0, 10, .inl g0)), (f1, .inl (z1, 10, .inl g1)), (f2, .inl (z2, 10, .inl g2)), (f3, .inl (z3, 10, .inl g3)), (f4, .inl (z4, 4, .inl g4))] s.heap.size = A at hD ⊢
  have hA : ∀ q : Nat, s.heap.size ≤ q → A q := fun q h => by rw [← hAe]; exact Or.inr h
  have hS : va_S A s.heap s.heap [] := va_S.rf
  have hP : va_P (dC, dI) vwCl [(hF, .inr (2, [.ref f0, .ref f1, .ref f2, .ref f3, .ref f4, .int sn, .int (nI (ks)), .int (nI (kw))])), (f0, .inl (z0, 10, .inl g0)), (f1, .inl (z1, 10, .inl g1)), (f2, .inl (z2, 10, .inl g2)), (f3, .inl (z3, 10, .inl g3)), (f4, .inl (z4, 4, .inl g4))] s.heap := hP
  have hl := lv_entry ([.ref hF, .int p0]) (n := 2) (Nat.le_of_ble_eq_true rfl)
  rw [lg_entry_eq]
  generalize (lg_sl ([.ref hF, .int p0]) ++ List.replicate (2 - (lg_sl ([.ref hF, .int p0])).length) Slot.unset).toArray = ls at hl ⊢
  have hl : lv_has ls 2 [(0, .ref hF), (1, .int p0)] := hl
  refine kQ (fun Q hQ => ?_)
  refine lv_aload_n hx hb dX2_addWord_0 rfl (lv_at hl 0 rfl) ?_
  refine va_get (D := (dC, dI)) (ci := 2) (v := .int (nI (kw))) (C := RX2) (T := TX2) (N := 8) hx hb hts (fun _ h => List.mem_cons_of_mem _ (List.mem_append_right _ h)) hown hK hP 0 rfl rfl 7 kc_l_7_8 (hts (.fieldLink RX2 34 "NotEnded$Folk" "words" "I") (List.mem_cons_of_mem _ (List.mem_append_left _ (List.mem_of_getElem? (i := 0) rfl)))) (fun _ h9 => h9) rfl dX2_addWord_1 ?_
  refine lv_iconst (v := 4) hx hb dX2_addWord_4 kc_i_4 ?_
  refine lv_icmp_lt (tgt := 10) hx hb dX2_addWord_5 kc_t_5_5 (fun c_1 => ?_) (fun c_1 => ?_)
  · have bd_3 : kw < 2147483648 := by omega
    have hn_2 := klt (a := kw) (b := 4) bd_3 kc_31_4 c_1
    refine lv_aload_n hx hb dX2_addWord_10 rfl (lv_at hl 0 rfl) ?_
    refine va_get (D := (dC, dI)) (ci := 2) (v := .ref f4) (C := RX2) (T := TX2) (N := 8) hx hb hts (fun _ h => List.mem_cons_of_mem _ (List.mem_append_right _ h)) hown hK hP 0 rfl rfl 4 kc_l_4_8 (hts (.fieldLink RX2 24 "NotEnded$Folk" "hours" "[I") (List.mem_cons_of_mem _ (List.mem_append_left _ (List.mem_of_getElem? (i := 1) rfl)))) (fun _ h9 => h9) rfl dX2_addWord_11 ?_
    refine lv_aload_n hx hb dX2_addWord_14 rfl (lv_at hl 0 rfl) ?_
    refine va_get (D := (dC, dI)) (ci := 2) (v := .int (nI (kw))) (C := RX2) (T := TX2) (N := 8) hx hb hts (fun _ h => List.mem_cons_of_mem _ (List.mem_append_right _ h)) hown hK hP 0 rfl rfl 7 kc_l_7_8 (hts (.fieldLink RX2 34 "NotEnded$Folk" "words" "I") (List.mem_cons_of_mem _ (List.mem_append_left _ (List.mem_of_getElem? (i := 0) rfl)))) (fun _ h9 => h9) rfl dX2_addWord_15 ?_
    refine lv_iload_n hx hb dX2_addWord_18 rfl (lv_at hl 1 rfl) ?_
    have bd_5 : kw < 4 := by omega
    refine va_iast hx hb hK hP hD hS 5 4 rfl rfl (vp_in_nI (n := kw) (N := 4) bd_5 kc_31_4) dX2_addWord_19 (fun H locs hP hD hS => ?_)
    obtain ⟨f_4, ef_4⟩ : ∃ gg9 : Nat → Int32, gg9 = upd g4 (Int32.toNatClampNeg (nI (kw))) p0 := ⟨_, rfl⟩
    have hPD : kPD dC dI A [(hF, .inr (2, [.ref f0, .ref f1, .ref f2, .ref f3, .ref f4, .int sn, .int (nI (ks)), .int (nI (kw))])), (f0, .inl (z0, 10, .inl g0)), (f1, .inl (z1, 10, .inl g1)), (f2, .inl (z2, 10, .inl g2)), (f3, .inl (z3, 10, .inl g3)), (f4, .inl (z4, 4, .inl f_4))] H := by rw [ef_4]; exact ⟨hP, hD⟩
    have hP := hPD.1
    have hD := hPD.2
    refine lv_aload_n hx hb dX2_addWord_20 rfl (lv_at hl 0 rfl) ?_
    refine lv_dup hx hb dX2_addWord_21 rfl ?_
    refine va_get (D := (dC, dI)) (ci := 2) (v := .int (nI (kw))) (C := RX2) (T := TX2) (N := 8) hx hb hts (fun _ h => List.mem_cons_of_mem _ (List.mem_append_right _ h)) hown hK hP 0 rfl rfl 7 kc_l_7_8 (hts (.fieldLink RX2 34 "NotEnded$Folk" "words" "I") (List.mem_cons_of_mem _ (List.mem_append_left _ (List.mem_of_getElem? (i := 0) rfl)))) (fun _ h9 => h9) rfl dX2_addWord_22 ?_
    refine lv_iconst (v := 1) hx hb dX2_addWord_25 kc_i_1 ?_
    refine lv_iadd hx hb dX2_addWord_26 ?_
    refine lv_topi (fun y_6 ey_6 => ?_)
    obtain rfl : y_6 = nI (kw + 1) := ey_6.trans (nI_add (kw) (1))
    refine va_put (D := (dC, dI)) (ci := 2) (v := .int (nI (kw + 1))) (ty := tyX2 7) (C := RX2) (T := TX2) (N := 8) hx hb hts (fun _ h => List.mem_cons_of_mem _ (List.mem_append_right _ h)) tyX2 tyX2_ok nmX2 hown hK hP hD hS 0 rfl rfl 7 kc_l_7_8 (hts (.fieldLink RX2 34 "NotEnded$Folk" "words" "I") (List.mem_cons_of_mem _ (List.mem_append_left _ (List.mem_of_getElem? (i := 0) rfl)))) (fun _ h9 => h9) rfl (tyX2_ok 7 kc_l_7_8) rfl rfl (Nat.le_of_ble_eq_true rfl) dX2_addWord_27 (fun H locs hP hD hS => ?_)
    have hPD : kPD dC dI A [(hF, .inr (2, [.ref f0, .ref f1, .ref f2, .ref f3, .ref f4, .int sn, .int (nI (ks)), .int (nI (kw + 1))])), (f0, .inl (z0, 10, .inl g0)), (f1, .inl (z1, 10, .inl g1)), (f2, .inl (z2, 10, .inl g2)), (f3, .inl (z3, 10, .inl g3)), (f4, .inl (z4, 4, .inl f_4))] H := ⟨hP, hD⟩
    have hP := hPD.1
    have hD := hPD.2
    refine lv_aload_n hx hb dX2_addWord_30 rfl (lv_at hl 0 rfl) ?_
    refine va_get (D := (dC, dI)) (ci := 2) (v := .int (nI (kw + 1))) (C := RX2) (T := TX2) (N := 8) hx hb hts (fun _ h => List.mem_cons_of_mem _ (List.mem_append_right _ h)) hown hK hP 0 rfl rfl 7 kc_l_7_8 (hts (.fieldLink RX2 34 "NotEnded$Folk" "words" "I") (List.mem_cons_of_mem _ (List.mem_append_left _ (List.mem_of_getElem? (i := 0) rfl)))) (fun _ h9 => h9) rfl dX2_addWord_31 ?_
    have hP9 := hP
    have hD9 := hD
    have hK9 := hK
    rw [hQ]
    exact W.iret (v := nI (kw + 1)) hx hb hr (fun t ht hW => ⟨⟨nI (kw + 1), (f_4, (kw + 1)), rfl, (by constructor <;> (split <;> first | rfl | omega)),  by rw [ht]; exact hP9, va_K.moved hW.alike hK9, hD9⟩, hS.F ht⟩) hS.2.2 dX2_addWord_34
  · have bd_8 : kw < 2147483648 := by omega
    have hn_7 := knlt (a := kw) (b := 4) bd_8 kc_31_4 c_1
    refine lv_iconst (v := (-1)) hx hb dX2_addWord_8 kc_i_m1 ?_
    have hP9 := hP
    have hD9 := hD
    have hK9 := hK
    rw [hQ]
    exact W.iret (v := (-1)) hx hb hr (fun t ht hW => ⟨⟨(-1), (g4, kw), rfl, (by constructor <;> (split <;> first | rfl | omega)),  by rw [ht]; exact hP9, va_K.moved hW.alike hK9, hD9⟩, hS.F ht⟩) hS.2.2 dX2_addWord_9

theorem dX2_acquaint_0 : decode cX2_acquaint 0 = .ok (.aload_n 0, 1) := kDs0 kf_42 (by decide +kernel)
theorem dX2_acquaint_1 : decode cX2_acquaint 1 = .ok (.iload_n 1, 1) := kDs0 kf_27 (by decide +kernel)
theorem dX2_acquaint_2 : decode cX2_acquaint 2 = .ok (.invokevirtual 37, 3) := kDs2 kf_182 (by decide +kernel)
theorem dX2_acquaint_5 : decode cX2_acquaint 5 = .ok (.ifCond .eq 35, 3) := kDs4 kf_153 (by decide +kernel)
theorem dX2_acquaint_40 : decode cX2_acquaint 40 = .ok (.return_, 1) := kDs0 kf_177 (by decide +kernel)
theorem dX2_acquaint_8 : decode cX2_acquaint 8 = .ok (.aload_n 0, 1) := kDs0 kf_42 (by decide +kernel)
theorem dX2_acquaint_9 : decode cX2_acquaint 9 = .ok (.iload_n 2, 1) := kDs0 kf_28 (by decide +kernel)
theorem dX2_acquaint_10 : decode cX2_acquaint 10 = .ok (.invokevirtual 37, 3) := kDs2 kf_182 (by decide +kernel)
theorem dX2_acquaint_13 : decode cX2_acquaint 13 = .ok (.ifCond .eq 27, 3) := kDs4 kf_153 (by decide +kernel)
theorem dX2_acquaint_16 : decode cX2_acquaint 16 = .ok (.aload_n 0, 1) := kDs0 kf_42 (by decide +kernel)
theorem dX2_acquaint_17 : decode cX2_acquaint 17 = .ok (.getfield 21, 3) := kDs2 kf_180 (by decide +kernel)
theorem dX2_acquaint_20 : decode cX2_acquaint 20 = .ok (.iload_n 1, 1) := kDs0 kf_27 (by decide +kernel)
theorem dX2_acquaint_21 : decode cX2_acquaint 21 = .ok (.dup2, 1) := kDs0 kf_92 (by decide +kernel)
theorem dX2_acquaint_22 : decode cX2_acquaint 22 = .ok (.iaload, 1) := kDs0 kf_46 (by decide +kernel)
theorem dX2_acquaint_23 : decode cX2_acquaint 23 = .ok (.iconst 1, 1) := kDs0 kf_4 (by decide +kernel)
theorem dX2_acquaint_24 : decode cX2_acquaint 24 = .ok (.iload_n 2, 1) := kDs0 kf_28 (by decide +kernel)
theorem dX2_acquaint_25 : decode cX2_acquaint 25 = .ok (.ishl, 1) := kDs0 kf_120 (by decide +kernel)
theorem dX2_acquaint_26 : decode cX2_acquaint 26 = .ok (.ior, 1) := kDs0 kf_128 (by decide +kernel)
theorem dX2_acquaint_27 : decode cX2_acquaint 27 = .ok (.iastore, 1) := kDs0 kf_79 (by decide +kernel)
theorem dX2_acquaint_28 : decode cX2_acquaint 28 = .ok (.aload_n 0, 1) := kDs0 kf_42 (by decide +kernel)
theorem dX2_acquaint_29 : decode cX2_acquaint 29 = .ok (.getfield 21, 3) := kDs2 kf_180 (by decide +kernel)
theorem dX2_acquaint_32 : decode cX2_acquaint 32 = .ok (.iload_n 2, 1) := kDs0 kf_28 (by decide +kernel)
theorem dX2_acquaint_33 : decode cX2_acquaint 33 = .ok (.dup2, 1) := kDs0 kf_92 (by decide +kernel)
theorem dX2_acquaint_34 : decode cX2_acquaint 34 = .ok (.iaload, 1) := kDs0 kf_46 (by decide +kernel)
theorem dX2_acquaint_35 : decode cX2_acquaint 35 = .ok (.iconst 1, 1) := kDs0 kf_4 (by decide +kernel)
theorem dX2_acquaint_36 : decode cX2_acquaint 36 = .ok (.iload_n 1, 1) := kDs0 kf_27 (by decide +kernel)
theorem dX2_acquaint_37 : decode cX2_acquaint 37 = .ok (.ishl, 1) := kDs0 kf_120 (by decide +kernel)
theorem dX2_acquaint_38 : decode cX2_acquaint 38 = .ok (.ior, 1) := kDs0 kf_128 (by decide +kernel)
theorem dX2_acquaint_39 : decode cX2_acquaint 39 = .ok (.iastore, 1) := kDs0 kf_79 (by decide +kernel)
def w_s_acquaint2 : List Cond := .code yX2_acquaint cX2_acquaint 3 none :: ([.initialized RX2, .selects RX2 yX2_has yX2_has, .instanceMethod yX2_has, .methodLink RX2 37 yX2_has, .fieldLink RX2 21 "NotEnded$Folk" "knows" "[I"] ++ (w_s_has2 ++ (wsX20)))
theorem gw_s_acquaint2 : (w_s_acquaint2).all goodWord = true := kGc rfl (kGa (by decide +kernel) (kGa gw_s_has2 gw_wsX20))
theorem hd_X2_acquaint : yX2_acquaint.cls ≠ "java/lang/invoke/MethodHandle" ∧ yX2_acquaint.cls ≠ "java/lang/invoke/VarHandle" ∧ (parseMethodDescriptor yX2_acquaint.desc).map (fun d => d.parameters.length) = some 2 := by decide +kernel
set_option maxHeartbeats 4000000 in
set_option maxRecDepth 100000 in
theorem s_acquaint2 (l : Launch) (dC : Nat → ClassId) (dI : Nat → Nat → Nat) (hF : Nat) (f0 : Nat) (f1 : Nat) (f2 : Nat) (f3 : Nat) (f4 : Nat) (z0 : ClassId) (z1 : ClassId) (z2 : ClassId) (z3 : ClassId) (z4 : ClassId) (g0 : Nat → Int32) (g1 : Nat → Int32) (g2 : Nat → Int32) (g3 : Nat → Int32) (g4 : Nat → Int32) (sn : Int32) (ks : Nat) (kw : Nat) (hks : ks ≤ 10) (hkw : kw ≤ 4) (p0 : Int32) (p1 : Int32) (sz : Nat) : Met l yX2_acquaint w_s_acquaint2 ({ frames := 2, cells := 0, slots := 0, locals := 120 }) (kW dC dI [.ref hF, .int p0, .int p1] [(hF, .inr (2, [.ref f0, .ref f1, .ref f2, .ref f3, .ref f4, .int sn, .int (nI (ks)), .int (nI (kw))])), (f0, .inl (z0, 10, .inl g0)), (f1, .inl (z1, 10, .inl g1)), (f2, .inl (z2, 10, .inl g2)), (f3, .inl (z3, 10, .inl g3)), (f4, .inl (z4, 4, .inl g4))] [(z0, .int), (z1, .int), (z2, .int), (z3, .int), (z4, .int)] kT sz) (va_Qv (fun (n3 : (Nat → Int32)) => True) (fun (n3 : (Nat → Int32)) => fun t : State => kB dC dI [(hF, .inr (2, [.ref f0, .ref f1, .ref f2, .ref f3, .ref f4, .int sn, .int (nI (ks)), .int (nI (kw))])), (f0, .inl (z0, 10, .inl g0)), (f1, .inl (z1, 10, .inl g1)), (f2, .inl (z2, 10, .inl g2)), (f3, .inl (z3, 10, .inl n3)), (f4, .inl (z4, 4, .inl g4))] [(z0, .int), (z1, .int), (z2, .int), (z3, .int), (z4, .int)] (va_A [(hF, .inr (2, [.ref f0, .ref f1, .ref f2, .ref f3, .ref f4, .int sn, .int (nI (ks)), .int (nI (kw))])), (f0, .inl (z0, 10, .inl g0)), (f1, .inl (z1, 10, .inl g1)), (f2, .inl (z2, 10, .inl g2)), (f3, .inl (z3, 10, .inl g3)), (f4, .inl (z4, 4, .inl g4))] sz) t) (va_A [(hF, .inr (2, [.ref f0, .ref f1, .ref f2, .ref f3, .ref f4, .int sn, .int (nI (ks)), .int (nI (kw))])), (f0, .inl (z0, 10, .inl g0)), (f1, .inl (z1, 10, .inl g1)), (f2, .inl (z2, 10, .inl g2)), (f3, .inl (z3, 10, .inl g3)), (f4, .inl (z4, 4, .inl g4))] sz)) 0 0 (va_A [(hF, .inr (2, [.ref f0, .ref f1, .ref f2, .ref f3, .ref f4, .int sn, .int (nI (ks)), .int (nI (kw))])), (f0, .inl (z0, 10, .inl g0)), (f1, .inl (z1, 10, .inl g1)), (f2, .inl (z2, 10, .inl g2)), (f3, .inl (z3, 10, .inl g3)), (f4, .inl (z4, 4, .inl g4))] sz) := by
  refine Met.ofW (cc := cX2_acquaint) (maxL := 3) (ret := none) (by decide) rfl ?_
  intro p e s m args below meth c s₁ B hml hv
  obtain ⟨rfl, hsz, hP, hK, hD0, hX⟩ := hv
  have hx := B.exec
  have hb := B.bytes
  have hr := B.returns
  have hts := atoms_spec (ws := w_s_acquaint2) B.pre
  have hown : s.vm.findClass RX2 = some m.cls := findClass_of_methodNamed B.named
  have hlocks := B.notSynchronized
  subst hsz
  have hD := hD0.self (sz := s.heap.size)
  generalize hAe : va_A [(hF, .inr (2, [.ref f0, .ref f1, .ref f2, .ref f3, .ref f4, .int sn, .int (nI (ks)), .int (nI (kw))])), (f0, .inl (z0, 10, .inl g0)), (f1, .inl (z1, 10, .inl g1)), (f2, .inl (z2, 10, .inl g2)), (f3, .inl (z3, 10, .inl g3)), (f4, .inl (z4, 4, .inl g4))] s.heap.size = A at hD ⊢
  have hA : ∀ q : Nat, s.heap.size ≤ q → A q := fun q h => by rw [← hAe]; exact Or.inr h
  have hS : va_S A s.heap s.heap [] := va_S.rf
  have hP : va_P (dC, dI) vwCl [(hF, .inr (2, [.ref f0, .ref f1, .ref f2, .ref f3, .ref f4, .int sn, .int (nI (ks)), .int (nI (kw))])), (f0, .inl (z0, 10, .inl g0)), (f1, .inl (z1, 10, .inl g1)), (f2, .inl (z2, 10, .inl g2)), (f3, .inl (z3, 10, .inl g3)), (f4, .inl (z4, 4, .inl g4))] s.heap := hP
  have hl := lv_entry ([.ref hF, .int p0, .int p1]) (n := 3) (Nat.le_of_ble_eq_true rfl)
  rw [lg_entry_eq]
  generalize (lg_sl ([.ref hF, .int p0, .int p1]) ++ List.replicate (3 - (lg_sl ([.ref hF, .int p0, .int p1])).length) Slot.unset).toArray = ls at hl ⊢
  have hl : lv_has ls 3 [(0, .ref hF), (1, .int p0), (2, .int p1)] := hl
  refine kQ (fun Q hQ => ?_)
  refine lv_aload_n hx hb dX2_acquaint_0 rfl (lv_at hl 0 rfl) ?_
  refine lv_iload_n hx hb dX2_acquaint_1 rfl (lv_at hl 1 rfl) ?_
  have hPc := hP.sb (ws2 := [(hF, .inr (2, [.ref f0, .ref f1, .ref f2, .ref f3, .ref f4, .int sn, .int (nI (ks)), .int (nI (kw))])), (f0, .inl (z0, 10, .inl g0)), (f1, .inl (z1, 10, .inl g1)), (f2, .inl (z2, 10, .inl g2)), (f3, .inl (z3, 10, .inl g3)), (f4, .inl (z4, 4, .inl g4))]) [0, 1, 2, 3, 4, 5] rfl
  have hKc := hK.sb (tys2 := [(z0, .int), (z1, .int), (z2, .int), (z3, .int), (z4, .int)]) [0, 1, 2, 3, 4] rfl
  refine vp_callSi (va_runV (As := [.int p0]) (rest := []) ⟨hx, hb, hml, hown, hts⟩ (s_has2 l dC dI hF f0 f1 f2 f3 f4 z0 z1 z2 z3 z4 g0 g1 g2 g3 g4 sn ks kw hks hkw p0) (cwV 1 hts (kG (List.forall_mem_cons.mpr ⟨(List.mem_cons_of_mem _ (List.mem_append_left _ (List.mem_of_getElem? (i := 3) rfl))), (List.forall_mem_cons.mpr ⟨(List.mem_cons_of_mem _ (List.mem_append_left _ (List.mem_of_getElem? (i := 2) rfl))), (List.forall_mem_cons.mpr ⟨(List.mem_cons_of_mem _ (List.mem_append_left _ (List.mem_of_getElem? (i := 1) rfl))), (List.forall_mem_cons.mpr ⟨(List.mem_cons_of_mem _ (List.mem_append_left _ (List.mem_of_getElem? (i := 0) rfl))), (fun _ h => absurd h List.not_mem_nil)⟩)⟩)⟩)⟩) (kGV _ _ _ _) (fun _ h => List.mem_cons_of_mem _ (List.mem_append_right _ (List.mem_append_left _ h))) gw_s_has2) rfl rfl rfl ⟨rfl, hd_X2_has⟩ ⟨(Nat.le_of_ble_eq_true rfl), (Nat.le_of_ble_eq_true rfl)⟩) (kR_V kT_blind kT_give (va_recv hKc hPc (ci := 2) (q0 := 0) rfl rfl) hPc hKc) rfl rfl hl.1 rfl (lv_room (Nat.le_of_ble_eq_true rfl)) dX2_acquaint_2 ⟨(Nat.le_of_ble_eq_true rfl), (Nat.le_of_ble_eq_true rfl)⟩).run (fun r_1 hw => ?_)
  have hw_2 := hw
  refine lv_if_eq (tgt := 40) hx hb dX2_acquaint_5 kc_t_5_35 (fun c_3 => ?_) (fun c_3 => ?_)
  · have hP9 := hP
    have hD9 := hD
    have hK9 := hK
    rw [hQ]
    exact W.vret hx hb hr (fun t ht hW => ⟨⟨g3, rfl, trivial,  by rw [ht]; exact hP9, va_K.moved hW.alike hK9, hD9⟩, hS.F ht⟩) hS.2.2 dX2_acquaint_40
  · obtain ⟨j_4, hj_4, ej_4⟩ := hw_2 c_3
    subst ej_4
    refine lv_aload_n hx hb dX2_acquaint_8 rfl (lv_at hl 0 rfl) ?_
    refine lv_iload_n hx hb dX2_acquaint_9 rfl (lv_at hl 2 rfl) ?_
    have hPc := hP.sb (ws2 := [(hF, .inr (2, [.ref f0, .ref f1, .ref f2, .ref f3, .ref f4, .int sn, .int (nI (ks)), .int (nI (kw))])), (f0, .inl (z0, 10, .inl g0)), (f1, .inl (z1, 10, .inl g1)), (f2, .inl (z2, 10, .inl g2)), (f3, .inl (z3, 10, .inl g3)), (f4, .inl (z4, 4, .inl g4))]) [0, 1, 2, 3, 4, 5] rfl
    have hKc := hK.sb (tys2 := [(z0, .int), (z1, .int), (z2, .int), (z3, .int), (z4, .int)]) [0, 1, 2, 3, 4] rfl
    refine vp_callSi (va_runV (As := [.int p1]) (rest := []) ⟨hx, hb, hml, hown, hts⟩ (s_has2 l dC dI hF f0 f1 f2 f3 f4 z0 z1 z2 z3 z4 g0 g1 g2 g3 g4 sn ks kw hks hkw p1) (cwV 1 hts (kG (List.forall_mem_cons.mpr ⟨(List.mem_cons_of_mem _ (List.mem_append_left _ (List.mem_of_getElem? (i := 3) rfl))), (List.forall_mem_cons.mpr ⟨(List.mem_cons_of_mem _ (List.mem_append_left _ (List.mem_of_getElem? (i := 2) rfl))), (List.forall_mem_cons.mpr ⟨(List.mem_cons_of_mem _ (List.mem_append_left _ (List.mem_of_getElem? (i := 1) rfl))), (List.forall_mem_cons.mpr ⟨(List.mem_cons_of_mem _ (List.mem_append_left _ (List.mem_of_getElem? (i := 0) rfl))), (fun _ h => absurd h List.not_mem_nil)⟩)⟩)⟩)⟩) (kGV _ _ _ _) (fun _ h => List.mem_cons_of_mem _ (List.mem_append_right _ (List.mem_append_left _ h))) gw_s_has2) rfl rfl rfl ⟨rfl, hd_X2_has⟩ ⟨(Nat.le_of_ble_eq_true rfl), (Nat.le_of_ble_eq_true rfl)⟩) (kR_V kT_blind kT_give (va_recv hKc hPc (ci := 2) (q0 := 0) rfl rfl) hPc hKc) rfl rfl hl.1 rfl (lv_room (Nat.le_of_ble_eq_true rfl)) dX2_acquaint_10 ⟨(Nat.le_of_ble_eq_true rfl), (Nat.le_of_ble_eq_true rfl)⟩).run (fun r_5 hw => ?_)
    have hw_6 := hw
    refine lv_if_eq (tgt := 40) hx hb dX2_acquaint_13 kc_t_13_27 (fun c_7 => ?_) (fun c_7 => ?_)
    · have hP9 := hP
      have hD9 := hD
      have hK9 := hK
      rw [hQ]
      exact W.vret hx hb hr (fun t ht hW => ⟨⟨g3, rfl, trivial,  by rw [ht]; exact hP9, va_K.moved hW.alike hK9, hD9⟩, hS.F ht⟩) hS.2.2 dX2_acquaint_40
    · obtain ⟨j_8, hj_8, ej_8⟩ := hw_6 c_7
      subst ej_8
      refine lv_aload_n hx hb dX2_acquaint_16 rfl (lv_at hl 0 rfl) ?_
      refine va_get (D := (dC, dI)) (ci := 2) (v := .ref f3) (C := RX2) (T := TX2) (N := 8) hx hb hts (fun _ h => List.mem_cons_of_mem _ (List.mem_append_right _ (List.mem_append_right _ h))) hown hK hP 0 rfl rfl 3 kc_l_3_8 (hts (.fieldLink RX2 21 "NotEnded$Folk" "knows" "[I") (List.mem_cons_of_mem _ (List.mem_append_left _ (List.mem_of_getElem? (i := 4) rfl)))) (fun _ h9 => h9) rfl dX2_acquaint_17 ?_
      refine lv_iload_n hx hb dX2_acquaint_20 rfl (lv_at hl 1 rfl) ?_
      refine lv_dup2_11 hx hb dX2_acquaint_21 rfl rfl ?_
      have bd_9 : j_4 < 10 := by omega
      refine va_iald hx hb hK hP 4 3 rfl rfl (vp_in_nI (n := j_4) (N := 10) bd_9 kc_31_10) dX2_acquaint_22 ?_
      refine lv_topi (fun x_10 ex_10 => ?_)
      refine lv_iconst (v := 1) hx hb dX2_acquaint_23 kc_i_1 ?_
      refine lv_iload_n hx hb dX2_acquaint_24 rfl (lv_at hl 2 rfl) ?_
      refine lv_ishl hx hb dX2_acquaint_25 ?_
      refine lv_topi (fun x_11 ex_11 => ?_)
      refine lv_ior hx hb dX2_acquaint_26 ?_
      refine lv_topi (fun x_12 ex_12 => ?_)
      refine va_iast hx hb hK hP hD hS 4 3 rfl rfl (vp_in_nI (n := j_4) (N := 10) bd_9 kc_31_10) dX2_acquaint_27 (fun H locs hP hD hS => ?_)
      obtain ⟨f_13, ef_13⟩ : ∃ gg9 : Nat → Int32, gg9 = upd g3 (Int32.toNatClampNeg (nI (j_4))) x_12 := ⟨_, rfl⟩
      have hPD : kPD dC dI A [(hF, .inr (2, [.ref f0, .ref f1, .ref f2, .ref f3, .ref f4, .int sn, .int (nI (ks)), .int (nI (kw))])), (f0, .inl (z0, 10, .inl g0)), (f1, .inl (z1, 10, .inl g1)), (f2, .inl (z2, 10, .inl g2)), (f3, .inl (z3, 10, .inl f_13)), (f4, .inl (z4, 4, .inl g4))] H := by rw [ef_13]; exact ⟨hP, hD⟩
      have hP := hPD.1
      have hD := hPD.2
      refine lv_aload_n hx hb dX2_acquaint_28 rfl (lv_at hl 0 rfl) ?_
      refine va_get (D := (dC, dI)) (ci := 2) (v := .ref f3) (C := RX2) (T := TX2) (N := 8) hx hb hts (fun _ h => List.mem_cons_of_mem _ (List.mem_append_right _ (List.mem_append_right _ h))) hown hK hP 0 rfl rfl 3 kc_l_3_8 (hts (.fieldLink RX2 21 "NotEnded$Folk" "knows" "[I") (List.mem_cons_of_mem _ (List.mem_append_left _ (List.mem_of_getElem? (i := 4) rfl)))) (fun _ h9 => h9) rfl dX2_acquaint_29 ?_
      refine lv_iload_n hx hb dX2_acquaint_32 rfl (lv_at hl 2 rfl) ?_
      refine lv_dup2_11 hx hb dX2_acquaint_33 rfl rfl ?_
      have bd_14 : j_8 < 10 := by omega
      refine va_iald hx hb hK hP 4 3 rfl rfl (vp_in_nI (n := j_8) (N := 10) bd_14 kc_31_10) dX2_acquaint_34 ?_
      refine lv_topi (fun x_15 ex_15 => ?_)
      refine lv_iconst (v := 1) hx hb dX2_acquaint_35 kc_i_1 ?_
      refine lv_iload_n hx hb dX2_acquaint_36 rfl (lv_at hl 1 rfl) ?_
      refine lv_ishl hx hb dX2_acquaint_37 ?_
      refine lv_topi (fun x_16 ex_16 => ?_)
      refine lv_ior hx hb dX2_acquaint_38 ?_
      refine lv_topi (fun x_17 ex_17 => ?_)
      refine va_iast hx hb hK hP hD hS 4 3 rfl rfl (vp_in_nI (n := j_8) (N := 10) bd_14 kc_31_10) dX2_acquaint_39 (fun H locs hP hD hS => ?_)
      obtain ⟨f_18, ef_18⟩ : ∃ gg9 : Nat → Int32, gg9 = upd f_13 (Int32.toNatClampNeg (nI (j_8))) x_17 := ⟨_, rfl⟩
      have hPD : kPD dC dI A [(hF, .inr (2, [.ref f0, .ref f1, .ref f2, .ref f3, .ref f4, .int sn, .int (nI (ks)), .int (nI (kw))])), (f0, .inl (z0, 10, .inl g0)), (f1, .inl (z1, 10, .inl g1)), (f2, .inl (z2, 10, .inl g2)), (f3, .inl (z3, 10, .inl f_18)), (f4, .inl (z4, 4, .inl g4))] H := by rw [ef_18]; exact ⟨hP, hD⟩
      have hP := hPD.1
      have hD := hPD.2
      have hP9 := hP
      have hD9 := hD
      have hK9 := hK
      rw [hQ]
      exact W.vret hx hb hr (fun t ht hW => ⟨⟨f_18, rfl, trivial,  by rw [ht]; exact hP9, va_K.moved hW.alike hK9, hD9⟩, hS.F ht⟩) hS.2.2 dX2_acquaint_40
