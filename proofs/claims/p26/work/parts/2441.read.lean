theorem dX4_read_0 : decode cX4_read 0 = .ok (.aload_n 0, 1) := kDs0 kf_42 (by decide +kernel)
theorem dX4_read_1 : decode cX4_read 1 = .ok (.iload_n 1, 1) := kDs0 kf_27 (by decide +kernel)
theorem dX4_read_2 : decode cX4_read 2 = .ok (.ifCond .ne 8, 3) := kDs4 kf_154 (by decide +kernel)
theorem dX4_read_5 : decode cX4_read 5 = .ok (.ldc 41, 2) := kDs1 kf_18 (by decide +kernel)
theorem dX4_read_7 : decode cX4_read 7 = .ok (.goto 5, 3) := kDs4 kf_167 (by decide +kernel)
theorem dX4_read_12 : decode cX4_read 12 = .ok (.putfield 30, 3) := kDs2 kf_181 (by decide +kernel)
theorem dX4_read_15 : decode cX4_read 15 = .ok (.aload_n 0, 1) := kDs0 kf_42 (by decide +kernel)
theorem dX4_read_16 : decode cX4_read 16 = .ok (.iload_n 1, 1) := kDs0 kf_27 (by decide +kernel)
theorem dX4_read_17 : decode cX4_read 17 = .ok (.ifCond .ne 8, 3) := kDs4 kf_154 (by decide +kernel)
theorem dX4_read_20 : decode cX4_read 20 = .ok (.ldc 45, 2) := kDs1 kf_18 (by decide +kernel)
theorem dX4_read_22 : decode cX4_read 22 = .ok (.goto 5, 3) := kDs4 kf_167 (by decide +kernel)
theorem dX4_read_27 : decode cX4_read 27 = .ok (.putfield 34, 3) := kDs2 kf_181 (by decide +kernel)
theorem dX4_read_30 : decode cX4_read 30 = .ok (.aload_n 0, 1) := kDs0 kf_42 (by decide +kernel)
theorem dX4_read_31 : decode cX4_read 31 = .ok (.iconst 0, 1) := kDs0 kf_3 (by decide +kernel)
theorem dX4_read_32 : decode cX4_read 32 = .ok (.putfield 18, 3) := kDs2 kf_181 (by decide +kernel)
theorem dX4_read_35 : decode cX4_read 35 = .ok (.aload_n 0, 1) := kDs0 kf_42 (by decide +kernel)
theorem dX4_read_36 : decode cX4_read 36 = .ok (.iconst 0, 1) := kDs0 kf_3 (by decide +kernel)
theorem dX4_read_37 : decode cX4_read 37 = .ok (.putfield 22, 3) := kDs2 kf_181 (by decide +kernel)
theorem dX4_read_40 : decode cX4_read 40 = .ok (.aload_n 0, 1) := kDs0 kf_42 (by decide +kernel)
theorem dX4_read_41 : decode cX4_read 41 = .ok (.iconst 0, 1) := kDs0 kf_3 (by decide +kernel)
theorem dX4_read_42 : decode cX4_read 42 = .ok (.putfield 25, 3) := kDs2 kf_181 (by decide +kernel)
theorem dX4_read_45 : decode cX4_read 45 = .ok (.iconst 0, 1) := kDs0 kf_3 (by decide +kernel)
theorem dX4_read_46 : decode cX4_read 46 = .ok (.istore_n 2, 1) := kDs0 kf_61 (by decide +kernel)
theorem dX4_read_47 : decode cX4_read 47 = .ok (.iload_n 2, 1) := kDs0 kf_28 (by decide +kernel)
theorem dX4_read_48 : decode cX4_read 48 = .ok (.bipush 31, 2) := kDs3 kf_16 (by decide +kernel)
theorem dX4_read_50 : decode cX4_read 50 = .ok (.if_icmp .ge 44, 3) := kDs4 kf_162 (by decide +kernel)
theorem dX4_read_94 : decode cX4_read 94 = .ok (.aload_n 0, 1) := kDs0 kf_42 (by decide +kernel)
theorem dX4_read_95 : decode cX4_read 95 = .ok (.getfield 25, 3) := kDs2 kf_180 (by decide +kernel)
theorem dX4_read_98 : decode cX4_read 98 = .ok (.ireturn, 1) := kDs0 kf_172 (by decide +kernel)
theorem dX4_read_53 : decode cX4_read 53 = .ok (.aload_n 0, 1) := kDs0 kf_42 (by decide +kernel)
theorem dX4_read_54 : decode cX4_read 54 = .ok (.invokevirtual 49, 3) := kDs2 kf_182 (by decide +kernel)
theorem dX4_read_57 : decode cX4_read 57 = .ok (.ifCond .ne 8, 3) := kDs4 kf_154 (by decide +kernel)
theorem dX4_read_65 : decode cX4_read 65 = .ok (.aload_n 0, 1) := kDs0 kf_42 (by decide +kernel)
theorem dX4_read_66 : decode cX4_read 66 = .ok (.invokevirtual 53, 3) := kDs2 kf_182 (by decide +kernel)
theorem dX4_read_69 : decode cX4_read 69 = .ok (.ifCond .ne 5, 3) := kDs4 kf_154 (by decide +kernel)
theorem dX4_read_74 : decode cX4_read 74 = .ok (.aload_n 0, 1) := kDs0 kf_42 (by decide +kernel)
theorem dX4_read_75 : decode cX4_read 75 = .ok (.bipush 59, 2) := kDs3 kf_16 (by decide +kernel)
theorem dX4_read_77 : decode cX4_read 77 = .ok (.invokevirtual 57, 3) := kDs2 kf_182 (by decide +kernel)
theorem dX4_read_80 : decode cX4_read 80 = .ok (.ifCond .ne 8, 3) := kDs4 kf_154 (by decide +kernel)
theorem dX4_read_88 : decode cX4_read 88 = .ok (.iinc 2 1, 3) := kDs5 kf_132 (by decide +kernel)
theorem dX4_read_91 : decode cX4_read 91 = .ok (.goto (-44), 3) := kDs4 kf_167 (by decide +kernel)
theorem dX4_read_83 : decode cX4_read 83 = .ok (.aload_n 0, 1) := kDs0 kf_42 (by decide +kernel)
theorem dX4_read_84 : decode cX4_read 84 = .ok (.getfield 25, 3) := kDs2 kf_180 (by decide +kernel)
theorem dX4_read_87 : decode cX4_read 87 = .ok (.ireturn, 1) := kDs0 kf_172 (by decide +kernel)
theorem dX4_read_72 : decode cX4_read 72 = .ok (.iconst (-1), 1) := kDs0 kf_2 (by decide +kernel)
theorem dX4_read_73 : decode cX4_read 73 = .ok (.ireturn, 1) := kDs0 kf_172 (by decide +kernel)
theorem dX4_read_60 : decode cX4_read 60 = .ok (.aload_n 0, 1) := kDs0 kf_42 (by decide +kernel)
theorem dX4_read_61 : decode cX4_read 61 = .ok (.getfield 25, 3) := kDs2 kf_180 (by decide +kernel)
theorem dX4_read_64 : decode cX4_read 64 = .ok (.ireturn, 1) := kDs0 kf_172 (by decide +kernel)
def w_s_read4x_0 : List Cond := .code yX4_read cX4_read 3 (some .int) :: ([.fieldLink RX4 30 "NotEnded$Reader" "labelSigns" "Ljava/lang/String;", .fieldLink RX4 34 "NotEnded$Reader" "letterSigns" "Ljava/lang/String;", .fieldLink RX4 18 "NotEnded$Reader" "written" "I", .fieldLink RX4 22 "NotEnded$Reader" "filled" "I", .fieldLink RX4 25 "NotEnded$Reader" "place" "I", .initialized RX4, .selects RX4 yX4_readClause yX4_readClause, .instanceMethod yX4_readClause, .methodLink RX4 49 yX4_readClause, .selects RX4 yX4_look yX4_look, .instanceMethod yX4_look, .methodLink RX4 53 yX4_look, .selects RX4 yX4_take yX4_take, .instanceMethod yX4_take, .methodLink RX4 57 yX4_take] ++ (wsX40 ++ (w_s_clause4x ++ (w_s_look4x ++ (w_s_take4_59)))))
theorem gw_s_read4x_0 : (w_s_read4x_0).all goodWord = true := kGc rfl (kGa (by decide +kernel) (kGa gw_wsX40 (kGa gw_s_clause4x (kGa gw_s_look4x gw_s_take4_59))))
theorem hd_X4_read : yX4_read.cls ≠ "java/lang/invoke/MethodHandle" ∧ yX4_read.cls ≠ "java/lang/invoke/VarHandle" ∧ (parseMethodDescriptor yX4_read.desc).map (fun d => d.parameters.length) = some 1 := by decide +kernel
set_option maxHeartbeats 4000000 in
set_option maxRecDepth 100000 in
theorem s_read4x_0 (l : Launch) (dC : Nat → ClassId) (dI : Nat → Nat → Nat) (ad : Nat → Nat) (jT : Nat) (t0 : Nat) (cC : ClassId) (gT : Nat → Int32) (kt : Nat) (hkt : kt ≤ 120) (hgT : ∀ j : Nat, narrow .char (.int (gT j)) = .int (gT j)) (bt : Nat → Nat) (hbt : ∀ j : Nat, gT j = nI (bt j)) (hb8 : ∀ j : Nat, bt j < 256) (jR : Nat) (r1 : Nat) (r2 : Nat) (c1 : ClassId) (c2 : ClassId) (s1 : Nat → Int32) (s2 : Nat → Int32) (wr : Nat) (fi : Nat) (hwr : wr ≤ 120) (hfi : fi ≤ 124) (pl : Int32) (v6 : Value) (v7 : Value) (b6 : Nat) (n6 : Nat) (g6 : Nat → Int32) (hn6 : n6 ≤ 8) (b7 : Nat) (n7 : Nat) (g7 : Nat → Int32) (hn7 : n7 ≤ 8) (gn6 : ∀ k : Nat, ∃ v : Nat, v < 128 ∧ g6 k = nI v) (hz6 : kIx g6 n6 (nI 0) = n6) (gn7 : ∀ k : Nat, ∃ v : Nat, v < 128 ∧ g7 k = nI v) (hz7 : kIx g7 n7 (nI 0) = n7) (sz : Nat) : Met l yX4_read w_s_read4x_0 ({ frames := 49, cells := 0, slots := 0, locals := 2940 }) (kW dC dI [.ref jR, .int 0] [(jR, .inr (4, [.ref jT, .ref r1, .ref r2, .int (nI (wr)), .int (nI (fi)), .int pl, v6, v7])), (r1, .inl (c1, 120, .inl s1)), (r2, .inl (c2, 124, .inl s2)), (jT, .inr (8, [.ref t0, .int (nI (kt))])), (t0, .inl (cC, 120, .inl gT))] [(c1, .int), (c2, .int), (cC, .char)] (kRd ad 1 3 b6 n6 g6 b7 n7 g7 (va_A [(jR, .inr (4, [.ref jT, .ref r1, .ref r2, .int (nI (wr)), .int (nI (fi)), .int pl, v6, v7])), (r1, .inl (c1, 120, .inl s1)), (r2, .inl (c2, 124, .inl s2)), (jT, .inr (8, [.ref t0, .int (nI (kt))])), (t0, .inl (cC, 120, .inl gT))] sz)) sz) (va_Qi (fun (r : Int32) (u : (Nat → Int32) × (Nat → Int32) × Nat × Nat × Nat × Value × Value × Bool × (List Int32) × (List Int32)) => match u with | (S1, S2, Wr, Fi, Pn, V6, V7, xo, xl, xc) => (kRead bt kt g6 n6 g7 n7 = (xo, Pn, xl, xc) ∧ r = kFt xo Pn ∧ Wr ≤ 120 ∧ Fi ≤ 124 ∧ Pn ≤ kt ∧ (xo = true → Wr = xl.length ∧ S1 = kWrt s1 0 xl ∧ Fi = xc.length ∧ S2 = kWrt s2 0 xc))) (fun (u : (Nat → Int32) × (Nat → Int32) × Nat × Nat × Nat × Value × Value × Bool × (List Int32) × (List Int32)) => match u with | (S1, S2, Wr, Fi, Pn, V6, V7, xo, xl, xc) => fun t : State => kB dC dI [(jR, .inr (4, [.ref jT, .ref r1, .ref r2, .int (nI (Wr)), .int (nI (Fi)), .int (nI (Pn)), V6, V7])), (r1, .inl (c1, 120, .inl S1)), (r2, .inl (c2, 124, .inl S2)), (jT, .inr (8, [.ref t0, .int (nI (kt))])), (t0, .inl (cC, 120, .inl gT))] [(c1, .int), (c2, .int), (cC, .char)] (va_A [(jR, .inr (4, [.ref jT, .ref r1, .ref r2, .int (nI (wr)), .int (nI (fi)), .int pl, v6, v7])), (r1, .inl (c1, 120, .inl s1)), (r2, .inl (c2, 124, .inl s2)), (jT, .inr (8, [.ref t0, .int (nI (kt))])), (t0, .inl (cC, 120, .inl gT))] sz) t) (va_A [(jR, .inr (4, [.ref jT, .ref r1, .ref r2, .int (nI (wr)), .int (nI (fi)), .int pl, v6, v7])), (r1, .inl (c1, 120, .inl s1)), (r2, .inl (c2, 124, .inl s2)), (jT, .inr (8, [.ref t0, .int (nI (kt))])), (t0, .inl (cC, 120, .inl gT))] sz)) 0 0 (va_A [(jR, .inr (4, [.ref jT, .ref r1, .ref r2, .int (nI (wr)), .int (nI (fi)), .int pl, v6, v7])), (r1, .inl (c1, 120, .inl s1)), (r2, .inl (c2, 124, .inl s2)), (jT, .inr (8, [.ref t0, .int (nI (kt))])), (t0, .inl (cC, 120, .inl gT))] sz) := by
  refine Met.ofW (cc := cX4_read) (maxL := 3) (ret := (some .int)) (by decide) rfl ?_
  intro p e s m args below meth c s₁ B hml hv
  obtain ⟨rfl, hsz, hP, hK, hD0, hX⟩ := hv
  have hx := B.exec
  have hb := B.bytes
  have hr := B.returns
  have hts := atoms_spec (ws := w_s_read4x_0) B.pre
  have hown : s.vm.findClass RX4 = some m.cls := findClass_of_methodNamed B.named
  have hlocks := B.notSynchronized
  subst hsz
  have hD := hD0.self (sz := s.heap.size)
  generalize hAe : va_A [(jR, .inr (4, [.ref jT, .ref r1, .ref r2, .int (nI (wr)), .int (nI (fi)), .int pl, v6, v7])), (r1, .inl (c1, 120, .inl s1)), (r2, .inl (c2, 124, .inl s2)), (jT, .inr (8, [.ref t0, .int (nI (kt))])), (t0, .inl (cC, 120, .inl gT))] s.heap.size = A at hD hX ⊢
  have hA : ∀ q : Nat, s.heap.size ≤ q → A q := fun q h => by rw [← hAe]; exact Or.inr h
  have hS : va_S A s.heap s.heap [] := va_S.rf
  have hP : va_P (dC, dI) vwCl [(jR, .inr (4, [.ref jT, .ref r1, .ref r2, .int (nI (wr)), .int (nI (fi)), .int pl, v6, v7])), (r1, .inl (c1, 120, .inl s1)), (r2, .inl (c2, 124, .inl s2)), (jT, .inr (8, [.ref t0, .int (nI (kt))])), (t0, .inl (cC, 120, .inl gT))] s.heap := hP
  have hl := lv_entry ([.ref jR, .int 0]) (n := 3) (Nat.le_of_ble_eq_true rfl)
  rw [lg_entry_eq]
  generalize (lg_sl ([.ref jR, .int 0]) ++ List.replicate (3 - (lg_sl ([.ref jR, .int 0])).length) Slot.unset).toArray = ls at hl ⊢
  have hl : lv_has ls 3 [(0, .ref jR), (1, .int 0)] := hl
  refine kQ (fun Q hQ => ?_)
  refine lv_aload_n hx hb dX4_read_0 rfl (lv_at hl 0 rfl) ?_
  refine lv_iload_n hx hb dX4_read_1 rfl (lv_at hl 1 rfl) ?_
  refine lv_if_ne (tgt := 10) hx hb dX4_read_2 kc_t_2_8 (fun c_1 => absurd (by decide) c_1) (fun c_1 => ?_)
  refine va_ldcS hx hb hown hX.1.2.1 dX4_read_5 ?_
  refine lv_goto (tgt := 12) hx hb dX4_read_7 kc_t_7_5 ?_
  refine va_put (D := (dC, dI)) (ci := 4) (v := .ref (ad 1)) (ty := tyX4 6) (C := RX4) (T := TX4) (N := 8) hx hb hts (fun _ h => List.mem_cons_of_mem _ (List.mem_append_right _ (List.mem_append_left _ h))) tyX4 tyX4_ok nmX4 hown hK hP hD hS 0 rfl rfl 6 kc_l_6_8 (hts (.fieldLink RX4 30 "NotEnded$Reader" "labelSigns" "Ljava/lang/String;") (List.mem_cons_of_mem _ (List.mem_append_left _ (List.mem_of_getElem? (i := 0) rfl)))) (fun _ h9 => h9) rfl (tyX4_ok 6 kc_l_6_8) rfl rfl (Nat.le_of_ble_eq_true rfl) dX4_read_12 (fun H locs hP hD hS => ?_)
  have hPD : kPD dC dI A [(jR, .inr (4, [.ref jT, .ref r1, .ref r2, .int (nI (wr)), .int (nI (fi)), .int pl, .ref (ad 1), v7])), (r1, .inl (c1, 120, .inl s1)), (r2, .inl (c2, 124, .inl s2)), (jT, .inr (8, [.ref t0, .int (nI (kt))])), (t0, .inl (cC, 120, .inl gT))] H := ⟨hP, hD⟩
  have hP := hPD.1
  have hD := hPD.2
  refine lv_aload_n hx hb dX4_read_15 rfl (lv_at hl 0 rfl) ?_
  refine lv_iload_n hx hb dX4_read_16 rfl (lv_at hl 1 rfl) ?_
  refine lv_if_ne (tgt := 25) hx hb dX4_read_17 kc_t_17_8 (fun c_2 => absurd (by decide) c_2) (fun c_2 => ?_)
  refine va_ldcS hx hb hown hX.1.2.2.2.1 dX4_read_20 ?_
  refine lv_goto (tgt := 27) hx hb dX4_read_22 kc_t_22_5 ?_
  refine va_put (D := (dC, dI)) (ci := 4) (v := .ref (ad 3)) (ty := tyX4 7) (C := RX4) (T := TX4) (N := 8) hx hb hts (fun _ h => List.mem_cons_of_mem _ (List.mem_append_right _ (List.mem_append_left _ h))) tyX4 tyX4_ok nmX4 hown hK hP hD hS 0 rfl rfl 7 kc_l_7_8 (hts (.fieldLink RX4 34 "NotEnded$Reader" "letterSigns" "Ljava/lang/String;") (List.mem_cons_of_mem _ (List.mem_append_left _ (List.mem_of_getElem? (i := 1) rfl)))) (fun _ h9 => h9) rfl (tyX4_ok 7 kc_l_7_8) rfl rfl (Nat.le_of_ble_eq_true rfl) dX4_read_27 (fun H locs hP hD hS => ?_)
  have hPD : kPD dC dI A [(jR, .inr (4, [.ref jT, .ref r1, .ref r2, .int (nI (wr)), .int (nI (fi)), .int pl, .ref (ad 1), .ref (ad 3)])), (r1, .inl (c1, 120, .inl s1)), (r2, .inl (c2, 124, .inl s2)), (jT, .inr (8, [.ref t0, .int (nI (kt))])), (t0, .inl (cC, 120, .inl gT))] H := ⟨hP, hD⟩
  have hP := hPD.1
  have hD := hPD.2
  refine lv_aload_n hx hb dX4_read_30 rfl (lv_at hl 0 rfl) ?_
  refine lv_iconst (v := 0) hx hb dX4_read_31 kc_i_0 ?_
  refine va_put (D := (dC, dI)) (ci := 4) (v := .int 0) (ty := tyX4 3) (C := RX4) (T := TX4) (N := 8) hx hb hts (fun _ h => List.mem_cons_of_mem _ (List.mem_append_right _ (List.mem_append_left _ h))) tyX4 tyX4_ok nmX4 hown hK hP hD hS 0 rfl rfl 3 kc_l_3_8 (hts (.fieldLink RX4 18 "NotEnded$Reader" "written" "I") (List.mem_cons_of_mem _ (List.mem_append_left _ (List.mem_of_getElem? (i := 2) rfl)))) (fun _ h9 => h9) rfl (tyX4_ok 3 kc_l_3_8) rfl rfl (Nat.le_of_ble_eq_true rfl) dX4_read_32 (fun H locs hP hD hS => ?_)
  have hPD : kPD dC dI A [(jR, .inr (4, [.ref jT, .ref r1, .ref r2, .int 0, .int (nI (fi)), .int pl, .ref (ad 1), .ref (ad 3)])), (r1, .inl (c1, 120, .inl s1)), (r2, .inl (c2, 124, .inl s2)), (jT, .inr (8, [.ref t0, .int (nI (kt))])), (t0, .inl (cC, 120, .inl gT))] H := ⟨hP, hD⟩
  have hP := hPD.1
  have hD := hPD.2
  refine lv_aload_n hx hb dX4_read_35 rfl (lv_at hl 0 rfl) ?_
  refine lv_iconst (v := 0) hx hb dX4_read_36 kc_i_0 ?_
  refine va_put (D := (dC, dI)) (ci := 4) (v := .int 0) (ty := tyX4 4) (C := RX4) (T := TX4) (N := 8) hx hb hts (fun _ h => List.mem_cons_of_mem _ (List.mem_append_right _ (List.mem_append_left _ h))) tyX4 tyX4_ok nmX4 hown hK hP hD hS 0 rfl rfl 4 kc_l_4_8 (hts (.fieldLink RX4 22 "NotEnded$Reader" "filled" "I") (List.mem_cons_of_mem _ (List.mem_append_left _ (List.mem_of_getElem? (i := 3) rfl)))) (fun _ h9 => h9) rfl (tyX4_ok 4 kc_l_4_8) rfl rfl (Nat.le_of_ble_eq_true rfl) dX4_read_37 (fun H locs hP hD hS => ?_)
  have hPD : kPD dC dI A [(jR, .inr (4, [.ref jT, .ref r1, .ref r2, .int 0, .int 0, .int pl, .ref (ad 1), .ref (ad 3)])), (r1, .inl (c1, 120, .inl s1)), (r2, .inl (c2, 124, .inl s2)), (jT, .inr (8, [.ref t0, .int (nI (kt))])), (t0, .inl (cC, 120, .inl gT))] H := ⟨hP, hD⟩
  have hP := hPD.1
  have hD := hPD.2
  refine lv_aload_n hx hb dX4_read_40 rfl (lv_at hl 0 rfl) ?_
  refine lv_iconst (v := 0) hx hb dX4_read_41 kc_i_0 ?_
  refine va_put (D := (dC, dI)) (ci := 4) (v := .int 0) (ty := tyX4 5) (C := RX4) (T := TX4) (N := 8) hx hb hts (fun _ h => List.mem_cons_of_mem _ (List.mem_append_right _ (List.mem_append_left _ h))) tyX4 tyX4_ok nmX4 hown hK hP hD hS 0 rfl rfl 5 kc_l_5_8 (hts (.fieldLink RX4 25 "NotEnded$Reader" "place" "I") (List.mem_cons_of_mem _ (List.mem_append_left _ (List.mem_of_getElem? (i := 4) rfl)))) (fun _ h9 => h9) rfl (tyX4_ok 5 kc_l_5_8) rfl rfl (Nat.le_of_ble_eq_true rfl) dX4_read_42 (fun H locs hP hD hS => ?_)
  have hPD : kPD dC dI A [(jR, .inr (4, [.ref jT, .ref r1, .ref r2, .int 0, .int 0, .int 0, .ref (ad 1), .ref (ad 3)])), (r1, .inl (c1, 120, .inl s1)), (r2, .inl (c2, 124, .inl s2)), (jT, .inr (8, [.ref t0, .int (nI (kt))])), (t0, .inl (cC, 120, .inl gT))] H := ⟨hP, hD⟩
  have hP := hPD.1
  have hD := hPD.2
  refine lv_iconst (v := 0) hx hb dX4_read_45 kc_i_0 ?_
  refine lv_istore_n hx hb dX4_read_46 rfl hl kc_l_2_3 (kTo [(2, .int 0), (0, .ref jR), (1, .int 0)]) (fun ls hl => ?_)
  have lp_k_3 : ∀ (n9 : Nat) (i : Nat) (xs1 : Nat → Int32) (xs2 : Nat → Int32) (xpn : Nat) (xwr : Nat) (xfi : Nat) (xl : List Int32) (xc : List Int32) (ivk_3_0 : i ≤ 31) (ivk_3_1 : kRdL bt kt g6 n6 g7 n7 (31 - i) xpn xl xc = kRead bt kt g6 n6 g7 n7) (ivk_3_2 : xwr = xl.length) (ivk_3_3 : xs1 = kWrt s1 0 xl) (ivk_3_4 : xfi = 4 * i) (ivk_3_5 : xs2 = kWrt s2 0 xc) (ivk_3_6 : xfi = xc.length) (ivk_3_7 : (xwr ≤ xpn ∧ xpn ≤ kt)) (H : Heap) (locs : List Loc) (_ : va_P (dC, dI) vwCl [(jR, .inr (4, [.ref jT, .ref r1, .ref r2, .int (nI (xwr)), .int (nI (xfi)), .int (nI (xpn)), .ref (ad 1), .ref (ad 3)])), (r1, .inl (c1, 120, .inl xs1)), (r2, .inl (c2, 124, .inl xs2)), (jT, .inr (8, [.ref t0, .int (nI (kt))])), (t0, .inl (cC, 120, .inl gT))] H) (_ : va_D A [(jR, .inr (4, [.ref jT, .ref r1, .ref r2, .int (nI (xwr)), .int (nI (xfi)), .int (nI (xpn)), .ref (ad 1), .ref (ad 3)])), (r1, .inl (c1, 120, .inl xs1)), (r2, .inl (c2, 124, .inl xs2)), (jT, .inr (8, [.ref t0, .int (nI (kt))])), (t0, .inl (cC, 120, .inl gT))]) (_ : va_S A s.heap H locs) (ls : Array Slot) (_ : lv_has ls 3 [(2, .int (nI (i))), (0, .ref jR), (1, .int 0)]) (_ : 31 - i < n9), W p l e (headSpec w_s_read4x_0 ({ frames := 49, cells := 0, slots := 0, locals := 2940 })).room s m (#[.ref jR, .int 0] : Array Value) below meth c H locs 0 0 Q (F0 m 47 ls []) := by
    intro n9
    induction n9 with
    | zero => intro i xs1 xs2 xpn xwr xfi xl xc ivk_3_0 ivk_3_1 ivk_3_2 ivk_3_3 ivk_3_4 ivk_3_5 ivk_3_6 ivk_3_7 H locs hP hD hS ls hl hm9; exact absurd hm9 (Nat.not_lt_zero _)
    | succ n9 ih_k_3 =>
      intro i xs1 xs2 xpn xwr xfi xl xc ivk_3_0 ivk_3_1 ivk_3_2 ivk_3_3 ivk_3_4 ivk_3_5 ivk_3_6 ivk_3_7 H locs hP hD hS ls hl hm9
      refine lv_iload_n hx hb dX4_read_47 rfl (lv_at hl 0 rfl) ?_
      refine lv_bipush (v := 31) hx hb dX4_read_48 kc_b_31 ?_
      refine lv_icmp_ge (tgt := 94) hx hb dX4_read_50 kc_t_50_44 (fun c_4 => ?_) (fun c_4 => ?_)
      · have bd_6 : i < 2147483648 := by omega
        have hn_5 := kle (a := 31) (b := i) kc_31_31 bd_6 c_4
        refine lv_aload_n hx hb dX4_read_94 rfl (lv_at hl 1 rfl) ?_
        refine va_get (D := (dC, dI)) (ci := 4) (v := .int (nI (xpn))) (C := RX4) (T := TX4) (N := 8) hx hb hts (fun _ h => List.mem_cons_of_mem _ (List.mem_append_right _ (List.mem_append_left _ h))) hown hK hP 0 rfl rfl 5 kc_l_5_8 (hts (.fieldLink RX4 25 "NotEnded$Reader" "place" "I") (List.mem_cons_of_mem _ (List.mem_append_left _ (List.mem_of_getElem? (i := 4) rfl)))) (fun _ h9 => h9) rfl dX4_read_95 ?_
        have hP9 := hP
        have hD9 := hD
        have hK9 := hK
        rw [hQ]
        exact W.iret (v := nI (xpn)) hx hb hr (fun t ht hW => ⟨⟨nI (xpn), (xs1, xs2, xwr, xfi, xpn, (.ref (ad 1) : Value), (.ref (ad 3) : Value), false, ([]), ([])), rfl, ⟨(by rw [← ivk_3_1, show 31 - i = 0 by omega]; rfl), rfl, by omega, by omega, by omega, fun z => absurd z (by decide)⟩,  by rw [ht]; exact hP9, va_K.moved hW.alike hK9, hD9⟩, hS.F ht⟩) hS.2.2 dX4_read_98
      · have bd_8 : i < 2147483648 := by omega
        have hn_7 := knle (a := 31) (b := i) kc_31_31 bd_8 c_4
        refine lv_aload_n hx hb dX4_read_53 rfl (lv_at hl 1 rfl) ?_
        have bd_9 : xwr ≤ 120 := by omega
        have bd_10 : xfi ≤ 124 := by omega
        have bd_11 : xpn ≤ kt := by omega
        have bd_12 : xwr ≤ xpn := by omega
        have bd_13 : xfi ≤ 120 := by omega
        have hCu := kCut (wc := [(jR, .inr (4, [.ref jT, .ref r1, .ref r2, .int (nI (xwr)), .int (nI (xfi)), .int (nI (xpn)), .ref (ad 1), .ref (ad 3)])), (r1, .inl (c1, 120, .inl xs1)), (r2, .inl (c2, 124, .inl xs2)), (jT, .inr (8, [.ref t0, .int (nI (kt))])), (t0, .inl (cC, 120, .inl gT))]) hP hD hS hA [0, 1, 2, 3, 4] rfl kc_nd_311 rfl
        have hPc := hCu.1
        have hDc := hCu.2.1
        have hFc := hCu.2.2
        have hKc := hK.sb (tys2 := [(c1, .int), (c2, .int), (cC, .char)]) [0, 1, 2] rfl
        refine va_calli (va_runV (As := []) (rest := []) ⟨hx, hb, hml, hown, hts⟩ (s_clause4x l dC dI jT t0 cC gT kt hkt hgT bt hbt hb8 jR r1 r2 c1 c2 xs1 xs2 xwr xfi (ad 1) (ad 3) bd_9 bd_10 xpn bd_11 bd_12 b6 n6 g6 hn6 b7 n7 g7 hn7 gn6 hz6 gn7 hz7 bd_13 H.size) (cwV 0 hts (kG (List.forall_mem_cons.mpr ⟨(List.mem_cons_of_mem _ (List.mem_append_left _ (List.mem_of_getElem? (i := 8) rfl))), (List.forall_mem_cons.mpr ⟨(List.mem_cons_of_mem _ (List.mem_append_left _ (List.mem_of_getElem? (i := 7) rfl))), (List.forall_mem_cons.mpr ⟨(List.mem_cons_of_mem _ (List.mem_append_left _ (List.mem_of_getElem? (i := 6) rfl))), (List.forall_mem_cons.mpr ⟨(List.mem_cons_of_mem _ (List.mem_append_left _ (List.mem_of_getElem? (i := 5) rfl))), (fun _ h => absurd h List.not_mem_nil)⟩)⟩)⟩)⟩) (kGV _ _ _ _) (fun _ h => List.mem_cons_of_mem _ (List.mem_append_right _ (List.mem_append_right _ (List.mem_append_left _ h)))) gw_s_clause4x) rfl rfl rfl ⟨rfl, hd_X4_readClause⟩ ⟨(Nat.le_of_ble_eq_true rfl), (Nat.le_of_ble_eq_true rfl)⟩) (kW_V kS2_blind (kS2_give hX.2 hS hFc) (va_recv hKc hPc (ci := 4) (q0 := 0) rfl rfl) hPc hKc hDc) rfl rfl hl.1 rfl (lv_room (Nat.le_of_ble_eq_true rfl)) dX4_read_54 ⟨(Nat.le_of_ble_eq_true rfl), (Nat.le_of_ble_eq_true rfl)⟩) hS (fun q _ h => hFc q h) hFc (fun r_14 => kU9 (fun S1_15 S2_16 Wr_17 Fi_18 Pn_19 xo_20 xl_21 xj_22 xk_23 t H_24 locs ht hvm hw hB hz1 hk1 hS => ?_))
        try dsimp only at hw
        have hPD : kPD dC dI A [(jR, .inr (4, [.ref jT, .ref r1, .ref r2, .int (nI (Wr_17)), .int (nI (Fi_18)), .int (nI (Pn_19)), .ref (ad 1), .ref (ad 3)])), (r1, .inl (c1, 120, .inl S1_15)), (r2, .inl (c2, 124, .inl S2_16)), (jT, .inr (8, [.ref t0, .int (nI (kt))])), (t0, .inl (cC, 120, .inl gT))] H_24 := kJoinX hP hD [0, 1, 2, 3, 4] rfl hk1 hFc hB.1 ht hB.2.2 rfl [some 0, some 1, some 2, some 3, some 4] rfl rfl
        have hP := hPD.1
        have hD := hPD.2
        have hw_25 := hw
        have hw_25_k := hw_25.2.2.1
        have hw_25_w := hw_25.2.2.2.1
        have hw_25_i := hw_25.2.2.2.2.1
        refine lv_if_ne (tgt := 65) hx hb dX4_read_57 kc_t_57_8 (fun c_26 => ?_) (fun c_26 => ?_)
        · obtain rfl : xo_20 = true := kBo_t (kNz9 hw_25.1 c_26)
          obtain ⟨hw_25_W, hw_25_S, hw_25_F, hw_25_C, hw_25_l, hw_25_p⟩ := hw_25.2.2.2.2.2 rfl
          refine lv_aload_n hx hb dX4_read_65 rfl (lv_at hl 1 rfl) ?_
          have bd_27 : Wr_17 ≤ 120 := by omega
          have bd_28 : Fi_18 ≤ 124 := by omega
          have bd_29 : Pn_19 ≤ kt := by omega
          have hCu := kCut (wc := [(jR, .inr (4, [.ref jT, .ref r1, .ref r2, .int (nI (Wr_17)), .int (nI (Fi_18)), .int (nI (Pn_19)), .ref (ad 1), .ref (ad 3)])), (r1, .inl (c1, 120, .inl S1_15)), (r2, .inl (c2, 124, .inl S2_16)), (jT, .inr (8, [.ref t0, .int (nI (kt))])), (t0, .inl (cC, 120, .inl gT))]) hP hD hS hA [0, 1, 2, 3, 4] rfl kc_nd_311 rfl
          have hPc := hCu.1
          have hDc := hCu.2.1
          have hFc := hCu.2.2
          have hKc := hK.sb (tys2 := [(c1, .int), (c2, .int), (cC, .char)]) [0, 1, 2] rfl
          refine va_calli (va_runV (As := []) (rest := []) ⟨hx, hb, hml, hown, hts⟩ (s_look4x l dC dI jT t0 cC gT kt hkt hgT bt hbt hb8 jR r1 r2 c1 c2 S1_15 S2_16 Wr_17 Fi_18 (ad 1) (ad 3) bd_27 bd_28 Pn_19 bd_29 H_24.size) (cwV 0 hts (kG (List.forall_mem_cons.mpr ⟨(List.mem_cons_of_mem _ (List.mem_append_left _ (List.mem_of_getElem? (i := 11) rfl))), (List.forall_mem_cons.mpr ⟨(List.mem_cons_of_mem _ (List.mem_append_left _ (List.mem_of_getElem? (i := 10) rfl))), (List.forall_mem_cons.mpr ⟨(List.mem_cons_of_mem _ (List.mem_append_left _ (List.mem_of_getElem? (i := 9) rfl))), (List.forall_mem_cons.mpr ⟨(List.mem_cons_of_mem _ (List.mem_append_left _ (List.mem_of_getElem? (i := 5) rfl))), (fun _ h => absurd h List.not_mem_nil)⟩)⟩)⟩)⟩) (kGV _ _ _ _) (fun _ h => List.mem_cons_of_mem _ (List.mem_append_right _ (List.mem_append_right _ (List.mem_append_right _ (List.mem_append_left _ h))))) gw_s_look4x) rfl rfl rfl ⟨rfl, hd_X4_look⟩ ⟨(Nat.le_of_ble_eq_true rfl), (Nat.le_of_ble_eq_true rfl)⟩) (kW_V kT_blind kT_give (va_recv hKc hPc (ci := 4) (q0 := 0) rfl rfl) hPc hKc hDc) rfl rfl hl.1 rfl (lv_room (Nat.le_of_ble_eq_true rfl)) dX4_read_66 ⟨(Nat.le_of_ble_eq_true rfl), (Nat.le_of_ble_eq_true rfl)⟩) hS (fun q _ h => hFc q h) hFc (fun r_30 => kU2 (fun Pn_31 ch_32 t H_33 locs ht hvm hw hB hz1 hk1 hS => ?_))
          try dsimp only at hw
          have hPD : kPD dC dI A [(jR, .inr (4, [.ref jT, .ref r1, .ref r2, .int (nI (Wr_17)), .int (nI (Fi_18)), .int (nI (Pn_31)), .ref (ad 1), .ref (ad 3)])), (r1, .inl (c1, 120, .inl S1_15)), (r2, .inl (c2, 124, .inl S2_16)), (jT, .inr (8, [.ref t0, .int (nI (kt))])), (t0, .inl (cC, 120, .inl gT))] H_33 := kJoinX hP hD [0, 1, 2, 3, 4] rfl hk1 hFc hB.1 ht hB.2.2 rfl [some 0, some 1, some 2, some 3, some 4] rfl rfl
          have hP := hPD.1
          have hD := hPD.2
          obtain ⟨rfl, hw_34_0, hw_34_1, hw_34_2, hw_34_3, hw_34_4, hw_34_5, hw_34_6⟩ := hw
          refine lv_if_ne (tgt := 74) hx hb dX4_read_69 kc_t_69_5 (fun c_35 => ?_) (fun c_35 => ?_)
          · have bd_37 : ch_32 < 2147483648 := by omega
            have hn_36 := kneq (a := ch_32) (b := 0) bd_37 kc_31_0 c_35
            refine lv_aload_n hx hb dX4_read_74 rfl (lv_at hl 1 rfl) ?_
            refine lv_bipush (v := 59) hx hb dX4_read_75 kc_b_59 ?_
            have bd_38 : Pn_31 ≤ kt := by omega
            have hCu := kCut (wc := [(jR, .inr (4, [.ref jT, .ref r1, .ref r2, .int (nI (Wr_17)), .int (nI (Fi_18)), .int (nI (Pn_31)), .ref (ad 1), .ref (ad 3)])), (r1, .inl (c1, 120, .inl S1_15)), (r2, .inl (c2, 124, .inl S2_16)), (jT, .inr (8, [.ref t0, .int (nI (kt))])), (t0, .inl (cC, 120, .inl gT))]) hP hD hS hA [0, 1, 2, 3, 4] rfl kc_nd_311 rfl
            have hPc := hCu.1
            have hDc := hCu.2.1
            have hFc := hCu.2.2
            have hKc := hK.sb (tys2 := [(c1, .int), (c2, .int), (cC, .char)]) [0, 1, 2] rfl
            refine va_calli (va_runV (As := [.int 59]) (rest := []) ⟨hx, hb, hml, hown, hts⟩ (s_take4_59 l dC dI jT t0 cC gT kt hkt hgT bt hbt hb8 jR r1 r2 c1 c2 S1_15 S2_16 Wr_17 Fi_18 (ad 1) (ad 3) bd_27 bd_28 Pn_31 bd_38 H_33.size) (cwV 1 hts (kG (List.forall_mem_cons.mpr ⟨(List.mem_cons_of_mem _ (List.mem_append_left _ (List.mem_of_getElem? (i := 14) rfl))), (List.forall_mem_cons.mpr ⟨(List.mem_cons_of_mem _ (List.mem_append_left _ (List.mem_of_getElem? (i := 13) rfl))), (List.forall_mem_cons.mpr ⟨(List.mem_cons_of_mem _ (List.mem_append_left _ (List.mem_of_getElem? (i := 12) rfl))), (List.forall_mem_cons.mpr ⟨(List.mem_cons_of_mem _ (List.mem_append_left _ (List.mem_of_getElem? (i := 5) rfl))), (fun _ h => absurd h List.not_mem_nil)⟩)⟩)⟩)⟩) (kGV _ _ _ _) (fun _ h => List.mem_cons_of_mem _ (List.mem_append_right _ (List.mem_append_right _ (List.mem_append_right _ (List.mem_append_right _ h))))) gw_s_take4_59) rfl rfl rfl ⟨rfl, hd_X4_take⟩ ⟨(Nat.le_of_ble_eq_true rfl), (Nat.le_of_ble_eq_true rfl)⟩) (kW_V kT_blind kT_give (va_recv hKc hPc (ci := 4) (q0 := 0) rfl rfl) hPc hKc hDc) rfl rfl hl.1 rfl (lv_room (Nat.le_of_ble_eq_true rfl)) dX4_read_77 ⟨(Nat.le_of_ble_eq_true rfl), (Nat.le_of_ble_eq_true rfl)⟩) hS (fun q _ h => hFc q h) hFc (fun r_39 => kU2 (fun Pn_40 xo_41 t H_42 locs ht hvm hw hB hz1 hk1 hS => ?_))
            try dsimp only at hw
            have hPD : kPD dC dI A [(jR, .inr (4, [.ref jT, .ref r1, .ref r2, .int (nI (Wr_17)), .int (nI (Fi_18)), .int (nI (Pn_40)), .ref (ad 1), .ref (ad 3)])), (r1, .inl (c1, 120, .inl S1_15)), (r2, .inl (c2, 124, .inl S2_16)), (jT, .inr (8, [.ref t0, .int (nI (kt))])), (t0, .inl (cC, 120, .inl gT))] H_42 := kJoinX hP hD [0, 1, 2, 3, 4] rfl hk1 hFc hB.1 ht hB.2.2 rfl [some 0, some 1, some 2, some 3, some 4] rfl rfl
            have hP := hPD.1
            have hD := hPD.2
            have hw_43 := hw
            have hw_43_z := kTk_at (by omega) hw_34_1 hw_43.2.1
            have hw_43_k := hw_43.2.2.2.1
            refine lv_if_ne (tgt := 88) hx hb dX4_read_80 kc_t_80_8 (fun c_44 => ?_) (fun c_44 => ?_)
            · obtain rfl : xo_41 = true := kBo_t (kNz9 hw_43.1 c_44)
              obtain ⟨hw_43_c, hw_43_P⟩ := hw_43_z.1 rfl
              refine lv_iinc (v := nI (i + 1)) hx hb dX4_read_88 hl (k := 0) rfl (kInc _ 1) kc_l_2_3 (kTo [(2, .int (nI (i + 1))), (0, .ref jR), (1, .int 0)]) (fun ls hl => ?_)
              refine lv_goto (tgt := 47) hx hb dX4_read_91 kc_t_91_m44 ?_
              exact ih_k_3 (i + 1) S1_15 S2_16 Pn_40 Wr_17 Fi_18 (xl ++ xl_21) (xc ++ [nI xj_22, nI xl.length, nI (xl.length + xk_23), nI (xl.length + xl_21.length)]) (by omega) (by rw [← ivk_3_1, show 31 - i = (31 - (i + 1)) + 1 by omega, kRdL_t hw_25.2.1, kRdA_s hw_43_c, ← hw_34_1, ← hw_43_P]) (by rw [List.length_append]; omega) (kWrtN ivk_3_3 ivk_3_2 hw_25_S) (by omega) (kWrtN ivk_3_5 ivk_3_6 (by rw [hw_25_C, ivk_3_2])) (by rw [List.length_append]; show _ = _ + 4; omega) (by omega) _ _ hP hD hS ls (lv_sub hl [0, 1, 2] rfl) (by omega)
            · obtain rfl : xo_41 = false := kBo_f (kZr9 hw_43.1 c_44)
              obtain ⟨hw_43_c, hw_43_P⟩ := hw_43_z.2 rfl
              refine lv_aload_n hx hb dX4_read_83 rfl (lv_at hl 1 rfl) ?_
              refine va_get (D := (dC, dI)) (ci := 4) (v := .int (nI (Pn_40))) (C := RX4) (T := TX4) (N := 8) hx hb hts (fun _ h => List.mem_cons_of_mem _ (List.mem_append_right _ (List.mem_append_left _ h))) hown hK hP 0 rfl rfl 5 kc_l_5_8 (hts (.fieldLink RX4 25 "NotEnded$Reader" "place" "I") (List.mem_cons_of_mem _ (List.mem_append_left _ (List.mem_of_getElem? (i := 4) rfl)))) (fun _ h9 => h9) rfl dX4_read_84 ?_
              have hP9 := hP
              have hD9 := hD
              have hK9 := hK
              rw [hQ]
              exact W.iret (v := nI (Pn_40)) hx hb hr (fun t ht hW => ⟨⟨nI (Pn_40), (S1_15, S2_16, Wr_17, Fi_18, Pn_40, (.ref (ad 1) : Value), (.ref (ad 3) : Value), false, ([]), ([])), rfl, ⟨(by rw [← ivk_3_1, show 31 - i = (30 - i) + 1 by omega, kRdL_t hw_25.2.1, kRdA_f (by rw [← hw_34_0]; omega) hw_43_c, ← hw_34_1, ← hw_43_P]), rfl, by omega, by omega, by omega, fun z => absurd z (by decide)⟩,  by rw [ht]; exact hP9, va_K.moved hW.alike hK9, hD9⟩, hS.F ht⟩) hS.2.2 dX4_read_87
          · have bd_46 : ch_32 < 2147483648 := by omega
            have hn_45 := keq (a := ch_32) (b := 0) bd_46 kc_31_0 c_35
            refine lv_iconst (v := (-1)) hx hb dX4_read_72 kc_i_m1 ?_
            have hP9 := hP
            have hD9 := hD
            have hK9 := hK
            rw [hQ]
            exact W.iret (v := (-1)) hx hb hr (fun t ht hW => ⟨⟨(-1), (S1_15, S2_16, Wr_17, Fi_18, Pn_31, (.ref (ad 1) : Value), (.ref (ad 3) : Value), true, (xl ++ xl_21), (xc ++ [nI xj_22, nI xl.length, nI (xl.length + xk_23), nI (xl.length + xl_21.length)])), rfl, ⟨(by rw [← ivk_3_1, show 31 - i = (30 - i) + 1 by omega, kRdL_t hw_25.2.1, kRdA_0 (by rw [← hw_34_0]; omega), ← hw_34_1]), rfl, by omega, by omega, by omega, fun _ => ⟨by rw [List.length_append]; omega, kWrtN ivk_3_3 ivk_3_2 hw_25_S, by rw [List.length_append]; show _ = _ + 4; omega, kWrtN ivk_3_5 ivk_3_6 (by rw [hw_25_C, ivk_3_2])⟩⟩,  by rw [ht]; exact hP9, va_K.moved hW.alike hK9, hD9⟩, hS.F ht⟩) hS.2.2 dX4_read_73
        · obtain rfl : xo_20 = false := kBo_f (kZr9 hw_25.1 c_26)
          refine lv_aload_n hx hb dX4_read_60 rfl (lv_at hl 1 rfl) ?_
          refine va_get (D := (dC, dI)) (ci := 4) (v := .int (nI (Pn_19))) (C := RX4) (T := TX4) (N := 8) hx hb hts (fun _ h => List.mem_cons_of_mem _ (List.mem_append_right _ (List.mem_append_left _ h))) hown hK hP 0 rfl rfl 5 kc_l_5_8 (hts (.fieldLink RX4 25 "NotEnded$Reader" "place" "I") (List.mem_cons_of_mem _ (List.mem_append_left _ (List.mem_of_getElem? (i := 4) rfl)))) (fun _ h9 => h9) rfl dX4_read_61 ?_
          have hP9 := hP
          have hD9 := hD
          have hK9 := hK
          rw [hQ]
          exact W.iret (v := nI (Pn_19)) hx hb hr (fun t ht hW => ⟨⟨nI (Pn_19), (S1_15, S2_16, Wr_17, Fi_18, Pn_19, (.ref (ad 1) : Value), (.ref (ad 3) : Value), false, ([]), ([])), rfl, ⟨(by rw [← ivk_3_1, show 31 - i = (30 - i) + 1 by omega]; exact kRdL_f hw_25.2.1), rfl, by omega, by omega, by omega, fun z => absurd z (by decide)⟩,  by rw [ht]; exact hP9, va_K.moved hW.alike hK9, hD9⟩, hS.F ht⟩) hS.2.2 dX4_read_64
  exact lp_k_3 (31 - 0 + 1) 0 s1 s2 0 0 0 ([]) ([]) (by omega) rfl rfl rfl (by omega) rfl rfl (by omega) _ _ hP hD hS ls (lv_sub hl [0, 1, 2] rfl) (by omega)

theorem dX4_read_10 : decode cX4_read 10 = .ok (.ldc 43, 2) := kDs1 kf_18 (by decide +kernel)
theorem dX4_read_25 : decode cX4_read 25 = .ok (.ldc 47, 2) := kDs1 kf_18 (by decide +kernel)
def w_s_read4x_1 : List Cond := .code yX4_read cX4_read 3 (some .int) :: ([.fieldLink RX4 30 "NotEnded$Reader" "labelSigns" "Ljava/lang/String;", .fieldLink RX4 34 "NotEnded$Reader" "letterSigns" "Ljava/lang/String;", .fieldLink RX4 18 "NotEnded$Reader" "written" "I", .fieldLink RX4 22 "NotEnded$Reader" "filled" "I", .fieldLink RX4 25 "NotEnded$Reader" "place" "I", .initialized RX4, .selects RX4 yX4_readClause yX4_readClause, .instanceMethod yX4_readClause, .methodLink RX4 49 yX4_readClause, .selects RX4 yX4_look yX4_look, .instanceMethod yX4_look, .methodLink RX4 53 yX4_look, .selects RX4 yX4_take yX4_take, .instanceMethod yX4_take, .methodLink RX4 57 yX4_take] ++ (wsX40 ++ (w_s_clause4x ++ (w_s_look4x ++ (w_s_take4_59)))))
theorem gw_s_read4x_1 : (w_s_read4x_1).all goodWord = true := kGc rfl (kGa (by decide +kernel) (kGa gw_wsX40 (kGa gw_s_clause4x (kGa gw_s_look4x gw_s_take4_59))))
set_option maxHeartbeats 4000000 in
set_option maxRecDepth 100000 in
theorem s_read4x_1 (l : Launch) (dC : Nat → ClassId) (dI : Nat → Nat → Nat) (ad : Nat → Nat) (jT : Nat) (t0 : Nat) (cC : ClassId) (gT : Nat → Int32) (kt : Nat) (hkt : kt ≤ 120) (hgT : ∀ j : Nat, narrow .char (.int (gT j)) = .int (gT j)) (bt : Nat → Nat) (hbt : ∀ j : Nat, gT j = nI (bt j)) (hb8 : ∀ j : Nat, bt j < 256) (jR : Nat) (r1 : Nat) (r2 : Nat) (c1 : ClassId) (c2 : ClassId) (s1 : Nat → Int32) (s2 : Nat → Int32) (wr : Nat) (fi : Nat) (hwr : wr ≤ 120) (hfi : fi ≤ 124) (pl : Int32) (v6 : Value) (v7 : Value) (b6 : Nat) (n6 : Nat) (g6 : Nat → Int32) (hn6 : n6 ≤ 8) (b7 : Nat) (n7 : Nat) (g7 : Nat → Int32) (hn7 : n7 ≤ 8) (gn6 : ∀ k : Nat, ∃ v : Nat, v < 128 ∧ g6 k = nI v) (hz6 : kIx g6 n6 (nI 0) = n6) (gn7 : ∀ k : Nat, ∃ v : Nat, v < 128 ∧ g7 k = nI v) (hz7 : kIx g7 n7 (nI 0) = n7) (sz : Nat) : Met l yX4_read w_s_read4x_1 ({ frames := 49, cells := 0, slots := 0, locals := 2940 }) (kW dC dI [.ref jR, .int 1] [(jR, .inr (4, [.ref jT, .ref r1, .ref r2, .int (nI (wr)), .int (nI (fi)), .int pl, v6, v7])), (r1, .inl (c1, 120, .inl s1)), (r2, .inl (c2, 124, .inl s2)), (jT, .inr (8, [.ref t0, .int (nI (kt))])), (t0, .inl (cC, 120, .inl gT))] [(c1, .int), (c2, .int), (cC, .char)] (kRd ad 2 4 b6 n6 g6 b7 n7 g7 (va_A [(jR, .inr (4, [.ref jT, .ref r1, .ref r2, .int (nI (wr)), .int (nI (fi)), .int pl, v6, v7])), (r1, .inl (c1, 120, .inl s1)), (r2, .inl (c2, 124, .inl s2)), (jT, .inr (8, [.ref t0, .int (nI (kt))])), (t0, .inl (cC, 120, .inl gT))] sz)) sz) (va_Qi (fun (r : Int32) (u : (Nat → Int32) × (Nat → Int32) × Nat × Nat × Nat × Value × Value × Bool × (List Int32) × (List Int32)) => match u with | (S1, S2, Wr, Fi, Pn, V6, V7, xo, xl, xc) => (kRead bt kt g6 n6 g7 n7 = (xo, Pn, xl, xc) ∧ r = kFt xo Pn ∧ Wr ≤ 120 ∧ Fi ≤ 124 ∧ Pn ≤ kt ∧ (xo = true → Wr = xl.length ∧ S1 = kWrt s1 0 xl ∧ Fi = xc.length ∧ S2 = kWrt s2 0 xc))) (fun (u : (Nat → Int32) × (Nat → Int32) × Nat × Nat × Nat × Value × Value × Bool × (List Int32) × (List Int32)) => match u with | (S1, S2, Wr, Fi, Pn, V6, V7, xo, xl, xc) => fun t : State => kB dC dI [(jR, .inr (4, [.ref jT, .ref r1, .ref r2, .int (nI (Wr)), .int (nI (Fi)), .int (nI (Pn)), V6, V7])), (r1, .inl (c1, 120, .inl S1)), (r2, .inl (c2, 124, .inl S2)), (jT, .inr (8, [.ref t0, .int (nI (kt))])), (t0, .inl (cC, 120, .inl gT))] [(c1, .int), (c2, .int), (cC, .char)] (va_A [(jR, .inr (4, [.ref jT, .ref r1, .ref r2, .int (nI (wr)), .int (nI (fi)), .int pl, v6, v7])), (r1, .inl (c1, 120, .inl s1)), (r2, .inl (c2, 124, .inl s2)), (jT, .inr (8, [.ref t0, .int (nI (kt))])), (t0, .inl (cC, 120, .inl gT))] sz) t) (va_A [(jR, .inr (4, [.ref jT, .ref r1, .ref r2, .int (nI (wr)), .int (nI (fi)), .int pl, v6, v7])), (r1, .inl (c1, 120, .inl s1)), (r2, .inl (c2, 124, .inl s2)), (jT, .inr (8, [.ref t0, .int (nI (kt))])), (t0, .inl (cC, 120, .inl gT))] sz)) 0 0 (va_A [(jR, .inr (4, [.ref jT, .ref r1, .ref r2, .int (nI (wr)), .int (nI (fi)), .int pl, v6, v7])), (r1, .inl (c1, 120, .inl s1)), (r2, .inl (c2, 124, .inl s2)), (jT, .inr (8, [.ref t0, .int (nI (kt))])), (t0, .inl (cC, 120, .inl gT))] sz) := by
  refine Met.ofW (cc := cX4_read) (maxL := 3) (ret := (some .int)) (by decide) rfl ?_
  intro p e s m args below meth c s₁ B hml hv
  obtain ⟨rfl, hsz, hP, hK, hD0, hX⟩ := hv
  have hx := B.exec
  have hb := B.bytes
  have hr := B.returns
  have hts := atoms_spec (ws := w_s_read4x_1) B.pre
  have hown : s.vm.findClass RX4 = some m.cls := findClass_of_methodNamed B.named
  have hlocks := B.notSynchronized
  subst hsz
  have hD := hD0.self (sz := s.heap.size)
  generalize hAe : va_A [(jR, .inr (4, [.ref jT, .ref r1, .ref r2, .int (nI (wr)), .int (nI (fi)), .int pl, v6, v7])), (r1, .inl (c1, 120, .inl s1)), (r2, .inl (c2, 124, .inl s2)), (jT, .inr (8, [.ref t0, .int (nI (kt))])), (t0, .inl (cC, 120, .inl gT))] s.heap.size = A at hD hX ⊢
  have hA : ∀ q : Nat, s.heap.size ≤ q → A q := fun q h => by rw [← hAe]; exact Or.inr h
  have hS : va_S A s.heap s.heap [] := va_S.rf
  have hP : va_P (dC, dI) vwCl [(jR, .inr (4, [.ref jT, .ref r1, .ref r2, .int (nI (wr)), .int (nI (fi)), .int pl, v6, v7])), (r1, .inl (c1, 120, .inl s1)), (r2, .inl (c2, 124, .inl s2)), (jT, .inr (8, [.ref t0, .int (nI (kt))])), (t0, .inl (cC, 120, .inl gT))] s.heap := hP
  have hl := lv_entry ([.ref jR, .int 1]) (n := 3) (Nat.le_of_ble_eq_true rfl)
  rw [lg_entry_eq]
  generalize (lg_sl ([.ref jR, .int 1]) ++ List.replicate (3 - (lg_sl ([.ref jR, .int 1])).length) Slot.unset).toArray = ls at hl ⊢
  have hl : lv_has ls 3 [(0, .ref jR), (1, .int 1)] := hl
  refine kQ (fun Q hQ => ?_)
  refine lv_aload_n hx hb dX4_read_0 rfl (lv_at hl 0 rfl) ?_
  refine lv_iload_n hx hb dX4_read_1 rfl (lv_at hl 1 rfl) ?_
  refine lv_if_ne (tgt := 10) hx hb dX4_read_2 kc_t_2_8 (fun c_1 => ?_) (fun c_1 => absurd c_1 (by decide))
  refine va_ldcS hx hb hown hX.1.2.2.1 dX4_read_10 ?_
  refine va_put (D := (dC, dI)) (ci := 4) (v := .ref (ad 2)) (ty := tyX4 6) (C := RX4) (T := TX4) (N := 8) hx hb hts (fun _ h => List.mem_cons_of_mem _ (List.mem_append_right _ (List.mem_append_left _ h))) tyX4 tyX4_ok nmX4 hown hK hP hD hS 0 rfl rfl 6 kc_l_6_8 (hts (.fieldLink RX4 30 "NotEnded$Reader" "labelSigns" "Ljava/lang/String;") (List.mem_cons_of_mem _ (List.mem_append_left _ (List.mem_of_getElem? (i := 0) rfl)))) (fun _ h9 => h9) rfl (tyX4_ok 6 kc_l_6_8) rfl rfl (Nat.le_of_ble_eq_true rfl) dX4_read_12 (fun H locs hP hD hS => ?_)
  have hPD : kPD dC dI A [(jR, .inr (4, [.ref jT, .ref r1, .ref r2, .int (nI (wr)), .int (nI (fi)), .int pl, .ref (ad 2), v7])), (r1, .inl (c1, 120, .inl s1)), (r2, .inl (c2, 124, .inl s2)), (jT, .inr (8, [.ref t0, .int (nI (kt))])), (t0, .inl (cC, 120, .inl gT))] H := ⟨hP, hD⟩
  have hP := hPD.1
  have hD := hPD.2
  refine lv_aload_n hx hb dX4_read_15 rfl (lv_at hl 0 rfl) ?_
  refine lv_iload_n hx hb dX4_read_16 rfl (lv_at hl 1 rfl) ?_
  refine lv_if_ne (tgt := 25) hx hb dX4_read_17 kc_t_17_8 (fun c_2 => ?_) (fun c_2 => absurd c_2 (by decide))
  refine va_ldcS hx hb hown hX.1.2.2.2.2.1 dX4_read_25 ?_
  refine va_put (D := (dC, dI)) (ci := 4) (v := .ref (ad 4)) (ty := tyX4 7) (C := RX4) (T := TX4) (N := 8) hx hb hts (fun _ h => List.mem_cons_of_mem _ (List.mem_append_right _ (List.mem_append_left _ h))) tyX4 tyX4_ok nmX4 hown hK hP hD hS 0 rfl rfl 7 kc_l_7_8 (hts (.fieldLink RX4 34 "NotEnded$Reader" "letterSigns" "Ljava/lang/String;") (List.mem_cons_of_mem _ (List.mem_append_left _ (List.mem_of_getElem? (i := 1) rfl)))) (fun _ h9 => h9) rfl (tyX4_ok 7 kc_l_7_8) rfl rfl (Nat.le_of_ble_eq_true rfl) dX4_read_27 (fun H locs hP hD hS => ?_)
  have hPD : kPD dC dI A [(jR, .inr (4, [.ref jT, .ref r1, .ref r2, .int (nI (wr)), .int (nI (fi)), .int pl, .ref (ad 2), .ref (ad 4)])), (r1, .inl (c1, 120, .inl s1)), (r2, .inl (c2, 124, .inl s2)), (jT, .inr (8, [.ref t0, .int (nI (kt))])), (t0, .inl (cC, 120, .inl gT))] H := ⟨hP, hD⟩
  have hP := hPD.1
  have hD := hPD.2
  refine lv_aload_n hx hb dX4_read_30 rfl (lv_at hl 0 rfl) ?_
  refine lv_iconst (v := 0) hx hb dX4_read_31 kc_i_0 ?_
  refine va_put (D := (dC, dI)) (ci := 4) (v := .int 0) (ty := tyX4 3) (C := RX4) (T := TX4) (N := 8) hx hb hts (fun _ h => List.mem_cons_of_mem _ (List.mem_append_right _ (List.mem_append_left _ h))) tyX4 tyX4_ok nmX4 hown hK hP hD hS 0 rfl rfl 3 kc_l_3_8 (hts (.fieldLink RX4 18 "NotEnded$Reader" "written" "I") (List.mem_cons_of_mem _ (List.mem_append_left _ (List.mem_of_getElem? (i := 2) rfl)))) (fun _ h9 => h9) rfl (tyX4_ok 3 kc_l_3_8) rfl rfl (Nat.le_of_ble_eq_true rfl) dX4_read_32 (fun H locs hP hD hS => ?_)
  have hPD : kPD dC dI A [(jR, .inr (4, [.ref jT, .ref r1, .ref r2, .int 0, .int (nI (fi)), .int pl, .ref (ad 2), .ref (ad 4)])), (r1, .inl (c1, 120, .inl s1)), (r2, .inl (c2, 124, .inl s2)), (jT, .inr (8, [.ref t0, .int (nI (kt))])), (t0, .inl (cC, 120, .inl gT))] H := ⟨hP, hD⟩
  have hP := hPD.1
  have hD := hPD.2
  refine lv_aload_n hx hb dX4_read_35 rfl (lv_at hl 0 rfl) ?_
  refine lv_iconst (v := 0) hx hb dX4_read_36 kc_i_0 ?_
  refine va_put (D := (dC, dI)) (ci := 4) (v := .int 0) (ty := tyX4 4) (C := RX4) (T := TX4) (N := 8) hx hb hts (fun _ h => List.mem_cons_of_mem _ (List.mem_append_right _ (List.mem_append_left _ h))) tyX4 tyX4_ok nmX4 hown hK hP hD hS 0 rfl rfl 4 kc_l_4_8 (hts (.fieldLink RX4 22 "NotEnded$Reader" "filled" "I") (List.mem_cons_of_mem _ (List.mem_append_left _ (List.mem_of_getElem? (i := 3) rfl)))) (fun _ h9 => h9) rfl (tyX4_ok 4 kc_l_4_8) rfl rfl (Nat.le_of_ble_eq_true rfl) dX4_read_37 (fun H locs hP hD hS => ?_)
  have hPD : kPD dC dI A [(jR, .inr (4, [.ref jT, .ref r1, .ref r2, .int 0, .int 0, .int pl, .ref (ad 2), .ref (ad 4)])), (r1, .inl (c1, 120, .inl s1)), (r2, .inl (c2, 124, .inl s2)), (jT, .inr (8, [.ref t0, .int (nI (kt))])), (t0, .inl (cC, 120, .inl gT))] H := ⟨hP, hD⟩
  have hP := hPD.1
  have hD := hPD.2
  refine lv_aload_n hx hb dX4_read_40 rfl (lv_at hl 0 rfl) ?_
  refine lv_iconst (v := 0) hx hb dX4_read_41 kc_i_0 ?_
  refine va_put (D := (dC, dI)) (ci := 4) (v := .int 0) (ty := tyX4 5) (C := RX4) (T := TX4) (N := 8) hx hb hts (fun _ h => List.mem_cons_of_mem _ (List.mem_append_right _ (List.mem_append_left _ h))) tyX4 tyX4_ok nmX4 hown hK hP hD hS 0 rfl rfl 5 kc_l_5_8 (hts (.fieldLink RX4 25 "NotEnded$Reader" "place" "I") (List.mem_cons_of_mem _ (List.mem_append_left _ (List.mem_of_getElem? (i := 4) rfl)))) (fun _ h9 => h9) rfl (tyX4_ok 5 kc_l_5_8) rfl rfl (Nat.le_of_ble_eq_true rfl) dX4_read_42 (fun H locs hP hD hS => ?_)
  have hPD : kPD dC dI A [(jR, .inr (4, [.ref jT, .ref r1, .ref r2, .int 0, .int 0, .int 0, .ref (ad 2), .ref (ad 4)])), (r1, .inl (c1, 120, .inl s1)), (r2, .inl (c2, 124, .inl s2)), (jT, .inr (8, [.ref t0, .int (nI (kt))])), (t0, .inl (cC, 120, .inl gT))] H := ⟨hP, hD⟩
  have hP := hPD.1
  have hD := hPD.2
  refine lv_iconst (v := 0) hx hb dX4_read_45 kc_i_0 ?_
  refine lv_istore_n hx hb dX4_read_46 rfl hl kc_l_2_3 (kTo [(2, .int 0), (0, .ref jR), (1, .int 1)]) (fun ls hl => ?_)
  have lp_k_3 : ∀ (n9 : Nat) (i : Nat) (xs1 : Nat → Int32) (xs2 : Nat → Int32) (xpn : Nat) (xwr : Nat) (xfi : Nat) (xl : List Int32) (xc : List Int32) (ivk_3_0 : i ≤ 31) (ivk_3_1 : kRdL bt kt g6 n6 g7 n7 (31 - i) xpn xl xc = kRead bt kt g6 n6 g7 n7) (ivk_3_2 : xwr = xl.length) (ivk_3_3 : xs1 = kWrt s1 0 xl) (ivk_3_4 : xfi = 4 * i) (ivk_3_5 : xs2 = kWrt s2 0 xc) (ivk_3_6 : xfi = xc.length) (ivk_3_7 : (xwr ≤ xpn ∧ xpn ≤ kt)) (H : Heap) (locs : List Loc) (_ : va_P (dC, dI) vwCl [(jR, .inr (4, [.ref jT, .ref r1, .ref r2, .int (nI (xwr)), .int (nI (xfi)), .int (nI (xpn)), .ref (ad 2), .ref (ad 4)])), (r1, .inl (c1, 120, .inl xs1)), (r2, .inl (c2, 124, .inl xs2)), (jT, .inr (8, [.ref t0, .int (nI (kt))])), (t0, .inl (cC, 120, .inl gT))] H) (_ : va_D A [(jR, .inr (4, [.ref jT, .ref r1, .ref r2, .int (nI (xwr)), .int (nI (xfi)), .int (nI (xpn)), .ref (ad 2), .ref (ad 4)])), (r1, .inl (c1, 120, .inl xs1)), (r2, .inl (c2, 124, .inl xs2)), (jT, .inr (8, [.ref t0, .int (nI (kt))])), (t0, .inl (cC, 120, .inl gT))]) (_ : va_S A s.heap H locs) (ls : Array Slot) (_ : lv_has ls 3 [(2, .int (nI (i))), (0, .ref jR), (1, .int 1)]) (_ : 31 - i < n9), W p l e (headSpec w_s_read4x_1 ({ frames := 49, cells := 0, slots := 0, locals := 2940 })).room s m (#[.ref jR, .int 1] : Array Value) below meth c H locs 0 0 Q (F0 m 47 ls []) := by
    intro n9
    induction n9 with
    | zero => intro i xs1 xs2 xpn xwr xfi xl xc ivk_3_0 ivk_3_1 ivk_3_2 ivk_3_3 ivk_3_4 ivk_3_5 ivk_3_6 ivk_3_7 H locs hP hD hS ls hl hm9; exact absurd hm9 (Nat.not_lt_zero _)
    | succ n9 ih_k_3 =>
      intro i xs1 xs2 xpn xwr xfi xl xc ivk_3_0 ivk_3_1 ivk_3_2 ivk_3_3 ivk_3_4 ivk_3_5 ivk_3_6 ivk_3_7 H locs hP hD hS ls hl hm9
      refine lv_iload_n hx hb dX4_read_47 rfl (lv_at hl 0 rfl) ?_
      refine lv_bipush (v := 31) hx hb dX4_read_48 kc_b_31 ?_
      refine lv_icmp_ge (tgt := 94) hx hb dX4_read_50 kc_t_50_44 (fun c_4 => ?_) (fun c_4 => ?_)
      · have bd_6 : i < 2147483648 := by omega
        have hn_5 := kle (a := 31) (b := i) kc_31_31 bd_6 c_4
        refine lv_aload_n hx hb dX4_read_94 rfl (lv_at hl 1 rfl) ?_
        refine va_get (D := (dC, dI)) (ci := 4) (v := .int (nI (xpn))) (C := RX4) (T := TX4) (N := 8) hx hb hts (fun _ h => List.mem_cons_of_mem _ (List.mem_append_right _ (List.mem_append_left _ h))) hown hK hP 0 rfl rfl 5 kc_l_5_8 (hts (.fieldLink RX4 25 "NotEnded$Reader" "place" "I") (List.mem_cons_of_mem _ (List.mem_append_left _ (List.mem_of_getElem? (i := 4) rfl)))) (fun _ h9 => h9) rfl dX4_read_95 ?_
        have hP9 := hP
        have hD9 := hD
        have hK9 := hK
        rw [hQ]
        exact W.iret (v := nI (xpn)) hx hb hr (fun t ht hW => ⟨⟨nI (xpn), (xs1, xs2, xwr, xfi, xpn, (.ref (ad 2) : Value), (.ref (ad 4) : Value), false, ([]), ([])), rfl, ⟨(by rw [← ivk_3_1, show 31 - i = 0 by omega]; rfl), rfl, by omega, by omega, by omega, fun z => absurd z (by decide)⟩,  by rw [ht]; exact hP9, va_K.moved hW.alike hK9, hD9⟩, hS.F ht⟩) hS.2.2 dX4_read_98
      · have bd_8 : i < 2147483648 := by omega
        have hn_7 := knle (a := 31) (b := i) kc_31_31 bd_8 c_4
        refine lv_aload_n hx hb dX4_read_53 rfl (lv_at hl 1 rfl) ?_
        have bd_9 : xwr ≤ 120 := by omega
        have bd_10 : xfi ≤ 124 := by omega
        have bd_11 : xpn ≤ kt := by omega
        have bd_12 : xwr ≤ xpn := by omega
        have bd_13 : xfi ≤ 120 := by omega
        have hCu := kCut (wc := [(jR, .inr (4, [.ref jT, .ref r1, .ref r2, .int (nI (xwr)), .int (nI (xfi)), .int (nI (xpn)), .ref (ad 2), .ref (ad 4)])), (r1, .inl (c1, 120, .inl xs1)), (r2, .inl (c2, 124, .inl xs2)), (jT, .inr (8, [.ref t0, .int (nI (kt))])), (t0, .inl (cC, 120, .inl gT))]) hP hD hS hA [0, 1, 2, 3, 4] rfl kc_nd_311 rfl
        have hPc := hCu.1
        have hDc := hCu.2.1
        have hFc := hCu.2.2
        have hKc := hK.sb (tys2 := [(c1, .int), (c2, .int), (cC, .char)]) [0, 1, 2] rfl
        refine va_calli (va_runV (As := []) (rest := []) ⟨hx, hb, hml, hown, hts⟩ (s_clause4x l dC dI jT t0 cC gT kt hkt hgT bt hbt hb8 jR r1 r2 c1 c2 xs1 xs2 xwr xfi (ad 2) (ad 4) bd_9 bd_10 xpn bd_11 bd_12 b6 n6 g6 hn6 b7 n7 g7 hn7 gn6 hz6 gn7 hz7 bd_13 H.size) (cwV 0 hts (kG (List.forall_mem_cons.mpr ⟨(List.mem_cons_of_mem _ (List.mem_append_left _ (List.mem_of_getElem? (i := 8) rfl))), (List.forall_mem_cons.mpr ⟨(List.mem_cons_of_mem _ (List.mem_append_left _ (List.mem_of_getElem? (i := 7) rfl))), (List.forall_mem_cons.mpr ⟨(List.mem_cons_of_mem _ (List.mem_append_left _ (List.mem_of_getElem? (i := 6) rfl))), (List.forall_mem_cons.mpr ⟨(List.mem_cons_of_mem _ (List.mem_append_left _ (List.mem_of_getElem? (i := 5) rfl))), (fun _ h => absurd h List.not_mem_nil)⟩)⟩)⟩)⟩) (kGV _ _ _ _) (fun _ h => List.mem_cons_of_mem _ (List.mem_append_right _ (List.mem_append_right _ (List.mem_append_left _ h)))) gw_s_clause4x) rfl rfl rfl ⟨rfl, hd_X4_readClause⟩ ⟨(Nat.le_of_ble_eq_true rfl), (Nat.le_of_ble_eq_true rfl)⟩) (kW_V kS2_blind (kS2_give hX.2 hS hFc) (va_recv hKc hPc (ci := 4) (q0 := 0) rfl rfl) hPc hKc hDc) rfl rfl hl.1 rfl (lv_room (Nat.le_of_ble_eq_true rfl)) dX4_read_54 ⟨(Nat.le_of_ble_eq_true rfl), (Nat.le_of_ble_eq_true rfl)⟩) hS (fun q _ h => hFc q h) hFc (fun r_14 => kU9 (fun S1_15 S2_16 Wr_17 Fi_18 Pn_19 xo_20 xl_21 xj_22 xk_23 t H_24 locs ht hvm hw hB hz1 hk1 hS => ?_))
        try dsimp only at hw
        have hPD : kPD dC dI A [(jR, .inr (4, [.ref jT, .ref r1, .ref r2, .int (nI (Wr_17)), .int (nI (Fi_18)), .int (nI (Pn_19)), .ref (ad 2), .ref (ad 4)])), (r1, .inl (c1, 120, .inl S1_15)), (r2, .inl (c2, 124, .inl S2_16)), (jT, .inr (8, [.ref t0, .int (nI (kt))])), (t0, .inl (cC, 120, .inl gT))] H_24 := kJoinX hP hD [0, 1, 2, 3, 4] rfl hk1 hFc hB.1 ht hB.2.2 rfl [some 0, some 1, some 2, some 3, some 4] rfl rfl
        have hP := hPD.1
        have hD := hPD.2
        have hw_25 := hw
        have hw_25_k := hw_25.2.2.1
        have hw_25_w := hw_25.2.2.2.1
        have hw_25_i := hw_25.2.2.2.2.1
        refine lv_if_ne (tgt := 65) hx hb dX4_read_57 kc_t_57_8 (fun c_26 => ?_) (fun c_26 => ?_)
        · obtain rfl : xo_20 = true := kBo_t (kNz9 hw_25.1 c_26)
          obtain ⟨hw_25_W, hw_25_S, hw_25_F, hw_25_C, hw_25_l, hw_25_p⟩ := hw_25.2.2.2.2.2 rfl
          refine lv_aload_n hx hb dX4_read_65 rfl (lv_at hl 1 rfl) ?_
          have bd_27 : Wr_17 ≤ 120 := by omega
          have bd_28 : Fi_18 ≤ 124 := by omega
          have bd_29 : Pn_19 ≤ kt := by omega
          have hCu := kCut (wc := [(jR, .inr (4, [.ref jT, .ref r1, .ref r2, .int (nI (Wr_17)), .int (nI (Fi_18)), .int (nI (Pn_19)), .ref (ad 2), .ref (ad 4)])), (r1, .inl (c1, 120, .inl S1_15)), (r2, .inl (c2, 124, .inl S2_16)), (jT, .inr (8, [.ref t0, .int (nI (kt))])), (t0, .inl (cC, 120, .inl gT))]) hP hD hS hA [0, 1, 2, 3, 4] rfl kc_nd_311 rfl
          have hPc := hCu.1
          have hDc := hCu.2.1
          have hFc := hCu.2.2
          have hKc := hK.sb (tys2 := [(c1, .int), (c2, .int), (cC, .char)]) [0, 1, 2] rfl
          refine va_calli (va_runV (As := []) (rest := []) ⟨hx, hb, hml, hown, hts⟩ (s_look4x l dC dI jT t0 cC gT kt hkt hgT bt hbt hb8 jR r1 r2 c1 c2 S1_15 S2_16 Wr_17 Fi_18 (ad 2) (ad 4) bd_27 bd_28 Pn_19 bd_29 H_24.size) (cwV 0 hts (kG (List.forall_mem_cons.mpr ⟨(List.mem_cons_of_mem _ (List.mem_append_left _ (List.mem_of_getElem? (i := 11) rfl))), (List.forall_mem_cons.mpr ⟨(List.mem_cons_of_mem _ (List.mem_append_left _ (List.mem_of_getElem? (i := 10) rfl))), (List.forall_mem_cons.mpr ⟨(List.mem_cons_of_mem _ (List.mem_append_left _ (List.mem_of_getElem? (i := 9) rfl))), (List.forall_mem_cons.mpr ⟨(List.mem_cons_of_mem _ (List.mem_append_left _ (List.mem_of_getElem? (i := 5) rfl))), (fun _ h => absurd h List.not_mem_nil)⟩)⟩)⟩)⟩) (kGV _ _ _ _) (fun _ h => List.mem_cons_of_mem _ (List.mem_append_right _ (List.mem_append_right _ (List.mem_append_right _ (List.mem_append_left _ h))))) gw_s_look4x) rfl rfl rfl ⟨rfl, hd_X4_look⟩ ⟨(Nat.le_of_ble_eq_true rfl), (Nat.le_of_ble_eq_true rfl)⟩) (kW_V kT_blind kT_give (va_recv hKc hPc (ci := 4) (q0 := 0) rfl rfl) hPc hKc hDc) rfl rfl hl.1 rfl (lv_room (Nat.le_of_ble_eq_true rfl)) dX4_read_66 ⟨(Nat.le_of_ble_eq_true rfl), (Nat.le_of_ble_eq_true rfl)⟩) hS (fun q _ h => hFc q h) hFc (fun r_30 => kU2 (fun Pn_31 ch_32 t H_33 locs ht hvm hw hB hz1 hk1 hS => ?_))
          try dsimp only at hw
          have hPD : kPD dC dI A [(jR, .inr (4, [.ref jT, .ref r1, .ref r2, .int (nI (Wr_17)), .int (nI (Fi_18)), .int (nI (Pn_31)), .ref (ad 2), .ref (ad 4)])), (r1, .inl (c1, 120, .inl S1_15)), (r2, .inl (c2, 124, .inl S2_16)), (jT, .inr (8, [.ref t0, .int (nI (kt))])), (t0, .inl (cC, 120, .inl gT))] H_33 := kJoinX hP hD [0, 1, 2, 3, 4] rfl hk1 hFc hB.1 ht hB.2.2 rfl [some 0, some 1, some 2, some 3, some 4] rfl rfl
          have hP := hPD.1
          have hD := hPD.2
          obtain ⟨rfl, hw_34_0, hw_34_1, hw_34_2, hw_34_3, hw_34_4, hw_34_5, hw_34_6⟩ := hw
          refine lv_if_ne (tgt := 74) hx hb dX4_read_69 kc_t_69_5 (fun c_35 => ?_) (fun c_35 => ?_)
          · have bd_37 : ch_32 < 2147483648 := by omega
            have hn_36 := kneq (a := ch_32) (b := 0) bd_37 kc_31_0 c_35
            refine lv_aload_n hx hb dX4_read_74 rfl (lv_at hl 1 rfl) ?_
            refine lv_bipush (v := 59) hx hb dX4_read_75 kc_b_59 ?_
            have bd_38 : Pn_31 ≤ kt := by omega
            have hCu := kCut (wc := [(jR, .inr (4, [.ref jT, .ref r1, .ref r2, .int (nI (Wr_17)), .int (nI (Fi_18)), .int (nI (Pn_31)), .ref (ad 2), .ref (ad 4)])), (r1, .inl (c1, 120, .inl S1_15)), (r2, .inl (c2, 124, .inl S2_16)), (jT, .inr (8, [.ref t0, .int (nI (kt))])), (t0, .inl (cC, 120, .inl gT))]) hP hD hS hA [0, 1, 2, 3, 4] rfl kc_nd_311 rfl
            have hPc := hCu.1
            have hDc := hCu.2.1
            have hFc := hCu.2.2
            have hKc := hK.sb (tys2 := [(c1, .int), (c2, .int), (cC, .char)]) [0, 1, 2] rfl
            refine va_calli (va_runV (As := [.int 59]) (rest := []) ⟨hx, hb, hml, hown, hts⟩ (s_take4_59 l dC dI jT t0 cC gT kt hkt hgT bt hbt hb8 jR r1 r2 c1 c2 S1_15 S2_16 Wr_17 Fi_18 (ad 2) (ad 4) bd_27 bd_28 Pn_31 bd_38 H_33.size) (cwV 1 hts (kG (List.forall_mem_cons.mpr ⟨(List.mem_cons_of_mem _ (List.mem_append_left _ (List.mem_of_getElem? (i := 14) rfl))), (List.forall_mem_cons.mpr ⟨(List.mem_cons_of_mem _ (List.mem_append_left _ (List.mem_of_getElem? (i := 13) rfl))), (List.forall_mem_cons.mpr ⟨(List.mem_cons_of_mem _ (List.mem_append_left _ (List.mem_of_getElem? (i := 12) rfl))), (List.forall_mem_cons.mpr ⟨(List.mem_cons_of_mem _ (List.mem_append_left _ (List.mem_of_getElem? (i := 5) rfl))), (fun _ h => absurd h List.not_mem_nil)⟩)⟩)⟩)⟩) (kGV _ _ _ _) (fun _ h => List.mem_cons_of_mem _ (List.mem_append_right _ (List.mem_append_right _ (List.mem_append_right _ (List.mem_append_right _ h))))) gw_s_take4_59) rfl rfl rfl ⟨rfl, hd_X4_take⟩ ⟨(Nat.le_of_ble_eq_true rfl), (Nat.le_of_ble_eq_true rfl)⟩) (kW_V kT_blind kT_give (va_recv hKc hPc (ci := 4) (q0 := 0) rfl rfl) hPc hKc hDc) rfl rfl hl.1 rfl (lv_room (Nat.le_of_ble_eq_true rfl)) dX4_read_77 ⟨(Nat.le_of_ble_eq_true rfl), (Nat.le_of_ble_eq_true rfl)⟩) hS (fun q _ h => hFc q h) hFc (fun r_39 => kU2 (fun Pn_40 xo_41 t H_42 locs ht hvm hw hB hz1 hk1 hS => ?_))
            try dsimp only at hw
            have hPD : kPD dC dI A [(jR, .inr (4, [.ref jT, .ref r1, .ref r2, .int (nI (Wr_17)), .int (nI (Fi_18)), .int (nI (Pn_40)), .ref (ad 2), .ref (ad 4)])), (r1, .inl (c1, 120, .inl S1_15)), (r2, .inl (c2, 124, .inl S2_16)), (jT, .inr (8, [.ref t0, .int (nI (kt))])), (t0, .inl (cC, 120, .inl gT))] H_42 := kJoinX hP hD [0, 1, 2, 3, 4] rfl hk1 hFc hB.1 ht hB.2.2 rfl [some 0, some 1, some 2, some 3, some 4] rfl rfl
            have hP := hPD.1
            have hD := hPD.2
            have hw_43 := hw
            have hw_43_z := kTk_at (by omega) hw_34_1 hw_43.2.1
            have hw_43_k := hw_43.2.2.2.1
            refine lv_if_ne (tgt := 88) hx hb dX4_read_80 kc_t_80_8 (fun c_44 => ?_) (fun c_44 => ?_)
            · obtain rfl : xo_41 = true := kBo_t (kNz9 hw_43.1 c_44)
              obtain ⟨hw_43_c, hw_43_P⟩ := hw_43_z.1 rfl
              refine lv_iinc (v := nI (i + 1)) hx hb dX4_read_88 hl (k := 0) rfl (kInc _ 1) kc_l_2_3 (kTo [(2, .int (nI (i + 1))), (0, .ref jR), (1, .int 1)]) (fun ls hl => ?_)
              refine lv_goto (tgt := 47) hx hb dX4_read_91 kc_t_91_m44 ?_
              exact ih_k_3 (i + 1) S1_15 S2_16 Pn_40 Wr_17 Fi_18 (xl ++ xl_21) (xc ++ [nI xj_22, nI xl.length, nI (xl.length + xk_23), nI (xl.length + xl_21.length)]) (by omega) (by rw [← ivk_3_1, show 31 - i = (31 - (i + 1)) + 1 by omega, kRdL_t hw_25.2.1, kRdA_s hw_43_c, ← hw_34_1, ← hw_43_P]) (by rw [List.length_append]; omega) (kWrtN ivk_3_3 ivk_3_2 hw_25_S) (by omega) (kWrtN ivk_3_5 ivk_3_6 (by rw [hw_25_C, ivk_3_2])) (by rw [List.length_append]; show _ = _ + 4; omega) (by omega) _ _ hP hD hS ls (lv_sub hl [0, 1, 2] rfl) (by omega)
            · obtain rfl : xo_41 = false := kBo_f (kZr9 hw_43.1 c_44)
              obtain ⟨hw_43_c, hw_43_P⟩ := hw_43_z.2 rfl
              refine lv_aload_n hx hb dX4_read_83 rfl (lv_at hl 1 rfl) ?_
              refine va_get (D := (dC, dI)) (ci := 4) (v := .int (nI (Pn_40))) (C := RX4) (T := TX4) (N := 8) hx hb hts (fun _ h => List.mem_cons_of_mem _ (List.mem_append_right _ (List.mem_append_left _ h))) hown hK hP 0 rfl rfl 5 kc_l_5_8 (hts (.fieldLink RX4 25 "NotEnded$Reader" "place" "I") (List.mem_cons_of_mem _ (List.mem_append_left _ (List.mem_of_getElem? (i := 4) rfl)))) (fun _ h9 => h9) rfl dX4_read_84 ?_
              have hP9 := hP
              have hD9 := hD
              have hK9 := hK
              rw [hQ]
              exact W.iret (v := nI (Pn_40)) hx hb hr (fun t ht hW => ⟨⟨nI (Pn_40), (S1_15, S2_16, Wr_17, Fi_18, Pn_40, (.ref (ad 2) : Value), (.ref (ad 4) : Value), false, ([]), ([])), rfl, ⟨(by rw [← ivk_3_1, show 31 - i = (30 - i) + 1 by omega, kRdL_t hw_25.2.1, kRdA_f (by rw [← hw_34_0]; omega) hw_43_c, ← hw_34_1, ← hw_43_P]), rfl, by omega, by omega, by omega, fun z => absurd z (by decide)⟩,  by rw [ht]; exact hP9, va_K.moved hW.alike hK9, hD9⟩, hS.F ht⟩) hS.2.2 dX4_read_87
          · have bd_46 : ch_32 < 2147483648 := by omega
            have hn_45 := keq (a := ch_32) (b := 0) bd_46 kc_31_0 c_35
            refine lv_iconst (v := (-1)) hx hb dX4_read_72 kc_i_m1 ?_
            have hP9 := hP
            have hD9 := hD
            have hK9 := hK
            rw [hQ]
            exact W.iret (v := (-1)) hx hb hr (fun t ht hW => ⟨⟨(-1), (S1_15, S2_16, Wr_17, Fi_18, Pn_31, (.ref (ad 2) : Value), (.ref (ad 4) : Value), true, (xl ++ xl_21), (xc ++ [nI xj_22, nI xl.length, nI (xl.length + xk_23), nI (xl.length + xl_21.length)])), rfl, ⟨(by rw [← ivk_3_1, show 31 - i = (30 - i) + 1 by omega, kRdL_t hw_25.2.1, kRdA_0 (by rw [← hw_34_0]; omega), ← hw_34_1]), rfl, by omega, by omega, by omega, fun _ => ⟨by rw [List.length_append]; omega, kWrtN ivk_3_3 ivk_3_2 hw_25_S, by rw [List.length_append]; show _ = _ + 4; omega, kWrtN ivk_3_5 ivk_3_6 (by rw [hw_25_C, ivk_3_2])⟩⟩,  by rw [ht]; exact hP9, va_K.moved hW.alike hK9, hD9⟩, hS.F ht⟩) hS.2.2 dX4_read_73
        · obtain rfl : xo_20 = false := kBo_f (kZr9 hw_25.1 c_26)
          refine lv_aload_n hx hb dX4_read_60 rfl (lv_at hl 1 rfl) ?_
          refine va_get (D := (dC, dI)) (ci := 4) (v := .int (nI (Pn_19))) (C := RX4) (T := TX4) (N := 8) hx hb hts (fun _ h => List.mem_cons_of_mem _ (List.mem_append_right _ (List.mem_append_left _ h))) hown hK hP 0 rfl rfl 5 kc_l_5_8 (hts (.fieldLink RX4 25 "NotEnded$Reader" "place" "I") (List.mem_cons_of_mem _ (List.mem_append_left _ (List.mem_of_getElem? (i := 4) rfl)))) (fun _ h9 => h9) rfl dX4_read_61 ?_
          have hP9 := hP
          have hD9 := hD
          have hK9 := hK
          rw [hQ]
          exact W.iret (v := nI (Pn_19)) hx hb hr (fun t ht hW => ⟨⟨nI (Pn_19), (S1_15, S2_16, Wr_17, Fi_18, Pn_19, (.ref (ad 2) : Value), (.ref (ad 4) : Value), false, ([]), ([])), rfl, ⟨(by rw [← ivk_3_1, show 31 - i = (30 - i) + 1 by omega]; exact kRdL_f hw_25.2.1), rfl, by omega, by omega, by omega, fun z => absurd z (by decide)⟩,  by rw [ht]; exact hP9, va_K.moved hW.alike hK9, hD9⟩, hS.F ht⟩) hS.2.2 dX4_read_64
  exact lp_k_3 (31 - 0 + 1) 0 s1 s2 0 0 0 ([]) ([]) (by omega) rfl rfl rfl (by omega) rfl rfl (by omega) _ _ hP hD hS ls (lv_sub hl [0, 1, 2] rfl) (by omega)

/-- a byte of a word, as the reference shifts it -/
def kS (x k : Int32) : Int32 := (x >>> (k &&& 31)) &&& 255
def kC1 (x k : Int32) : Nat := if kS x k = 0 then 0 else 1
/-- how many bytes of a word are not 0 -/
def kCnt (x : Int32) : Nat := kC1 x 24 + kC1 x 16 + kC1 x 8 + kC1 x 0
theorem kC1_le (x k : Int32) : kC1 x k ≤ 1 := by unfold kC1; split <;> omega
theorem kCnt_le (x : Int32) : kCnt x ≤ 4 := by
  have h1 := kC1_le x 24; have h2 := kC1_le x 16; have h3 := kC1_le x 8; have h4 := kC1_le x 0
  unfold kCnt; omega
theorem kSu_255 : ∀ j : Fin 32, 8 ≤ j.val → (255#32).getLsbD j.val = false := by decide
theorem kSu_aux (x : BitVec 32) (k : Nat) (hk : k + 8 ≤ 32) : (x >>> k) &&& 255#32 = (x.sshiftRight k) &&& 255#32 := by
  ext i hi
  simp only [BitVec.getElem_and, BitVec.getElem_ushiftRight, BitVec.getElem_sshiftRight]
  by_cases h8 : i < 8
  · rw [dif_pos (by omega)]
    simp [BitVec.getLsbD_eq_getElem (show k + i < 32 by omega)]
  · have h2 : (255#32)[i] = false := by
      have h3 := kSu_255 ⟨i, hi⟩ (by simpa using h8)
      rw [← BitVec.getLsbD_eq_getElem]
      exact h3
    rw [h2, Bool.and_false, Bool.and_false]
theorem kSu24 (x : Int32) : (x.toUInt32 >>> (Int32.toUInt32 24 &&& Int32.toUInt32 31)).toInt32 &&& 255 = kS x 24 := Int32.toBitVec_inj.mp (kSu_aux x.toBitVec 24 (by decide))
theorem kSu16 (x : Int32) : (x.toUInt32 >>> (Int32.toUInt32 16 &&& Int32.toUInt32 31)).toInt32 &&& 255 = kS x 16 := Int32.toBitVec_inj.mp (kSu_aux x.toBitVec 16 (by decide))
theorem kSu8 (x : Int32) : (x.toUInt32 >>> (Int32.toUInt32 8 &&& Int32.toUInt32 31)).toInt32 &&& 255 = kS x 8 := Int32.toBitVec_inj.mp (kSu_aux x.toBitVec 8 (by decide))
theorem kSu0 (x : Int32) : (x.toUInt32 >>> (Int32.toUInt32 0 &&& Int32.toUInt32 31)).toInt32 &&& 255 = kS x 0 := Int32.toBitVec_inj.mp (kSu_aux x.toBitVec 0 (by decide))
/-- a byte of a word, as a natural -/
def kSn (x k : Int32) : Nat := (x >>> (k &&& 31)).toBitVec.toNat % 256
theorem kS_n (x k : Int32) : kS x k = nI (kSn x k) := pk_and _ 8 (by decide)
theorem kSn_b (x k : Int32) : kSn x k < 256 := Nat.mod_lt _ (by decide)
theorem kSn_1 {x k : Int32} (h : ¬ kS x k = 0) : 1 ≤ kSn x k := Nat.pos_of_ne_zero (fun z => h (by rw [kS_n, z]; rfl))
def kUpN (t : Nat → Nat) (k v : Nat) : Nat → Nat := fun j => if j = k then v else t j
def kP1 (x k : Int32) (s : (Nat → Nat) × Nat) : (Nat → Nat) × Nat := if kS x k = 0 then s else (kUpN s.1 s.2 (kSn x k), s.2 + 1)
def kPut (x : Int32) (s : (Nat → Nat) × Nat) : (Nat → Nat) × Nat := kP1 x 0 (kP1 x 8 (kP1 x 16 (kP1 x 24 s)))
theorem kP1_z {x k : Int32} {s : (Nat → Nat) × Nat} (h : kS x k = 0) : kP1 x k s = s := if_pos h
theorem kP1_n {x k : Int32} {t : Nat → Nat} {n : Nat} (h : ¬ kS x k = 0) : kP1 x k (t, n) = (kUpN t n (kSn x k), n + 1) := if_neg h
def kFed (a b c d e : Int32) (t : Nat → Nat) (k : Nat) : (Nat → Nat) × Nat := if 120 < k + (kCnt a + kCnt b + kCnt c + kCnt d + kCnt e) then (t, k) else kPut e (kPut d (kPut c (kPut b (kPut a (t, k)))))
def kFeA (a b c d e : Int32) (k k1 : Nat) : Int32 := if 120 < k + (kCnt a + kCnt b + kCnt c + kCnt d + kCnt e) then -1 else nI k1
/-- bytes stand where the tape is -/
def kNz (s : (Nat → Nat) × Nat) : Prop := ∀ j : Nat, j < s.2 → 1 ≤ s.1 j
theorem kP1_nz {x k : Int32} {s : (Nat → Nat) × Nat} (h : kNz s) : kNz (kP1 x k s) := by
  unfold kP1
  split
  · exact h
  · next z =>
    intro j hj
    show 1 ≤ kUpN s.1 s.2 (kSn x k) j
    unfold kUpN
    split
    · exact kSn_1 z
    · exact h j (by have hj2 : j < s.2 + 1 := hj; omega)
theorem kFed_nz {a b c d e : Int32} {t : Nat → Nat} {k : Nat} (h : ∀ j : Nat, j < k → 1 ≤ t j) : kNz (kFed a b c d e t k) := by
  have h0 : kNz (t, k) := h
  unfold kFed
  split
  · exact h0
  · unfold kPut
    exact kP1_nz (kP1_nz (kP1_nz (kP1_nz (kP1_nz (kP1_nz (kP1_nz (kP1_nz (kP1_nz (kP1_nz (kP1_nz (kP1_nz (kP1_nz (kP1_nz (kP1_nz (kP1_nz (kP1_nz (kP1_nz (kP1_nz (kP1_nz h0)))))))))))))))))))
theorem kCharF : ∀ v : Fin 256, vp_nar .char ((Int32.toUInt32 (nI v.val) % 65536).toInt32) = nI v.val := by decide +kernel
theorem kUpB {g g1 : Nat → Int32} {t : Nat → Nat} {k : Nat} {x y p h : Int32} (hk : k < 2 ^ 31) (e : g1 = upd g (Int32.toNatClampNeg (nI k)) (vp_nar .char x)) (ex : x = (Int32.toUInt32 y % 65536).toInt32) (hy : kS p h = y) (H : ∀ j : Nat, g j = nI (t j)) : ∀ j : Nat, g1 j = nI (kUpN t k (kSn p h) j) := fun j => by
  rw [e, nI_clamp hk]
  unfold kUpN
  by_cases z : j = k
  · rw [if_pos z, z, pk_us, ex, ← hy, kS_n]
    exact kCharF ⟨kSn p h, kSn_b p h⟩
  · rw [if_neg z, pk_un z]; exact H j
theorem kUp8 {t : Nat → Nat} {k : Nat} {p h : Int32} (H : ∀ j : Nat, t j < 256) : ∀ j : Nat, kUpN t k (kSn p h) j < 256 := fun j => by
  unfold kUpN
  split
  · exact kSn_b p h
  · exact H j
theorem kHgT {g : Nat → Int32} {t : Nat → Nat} (h : ∀ j : Nat, g j = nI (t j)) (h8 : ∀ j : Nat, t j < 256) : ∀ j : Nat, narrow .char (.int (g j)) = .int (g j) := fun j => by rw [h j]; exact kNarCh (h8 j)
/-- what end answers, and how long the tape is then -/
def kEnA (n : Int32) (k : Nat) : Int32 := if n < 0 then 0 else if nI k < n then 0 else 1
def kEnK (n : Int32) (k : Nat) : Nat := if n < 0 then k else if nI k < n then k else Int32.toNatClampNeg n
/-- what a told text becomes: nothing, a law, a turning -/
def kTc (s : Int32) (o0 o1 : Bool) (kl ku : Nat) : Nat := if s = 0 then (if kl < 6 then (if o0 then 1 else 0) else 0) else if s = 1 then (if ku < 8 then (if o1 then 2 else 0) else 0) else 0
def kTcA (c kl ku : Nat) : Int32 := if c = 1 then nI kl else if c = 2 then nI ku else -1
def kTcT (c kt : Nat) : Nat := if c = 0 then kt else 0
def kTcL (c kl : Nat) : Nat := if c = 1 then kl + 1 else kl
def kTcU (c ku : Nat) : Nat := if c = 2 then ku + 1 else ku
def kFtA (s : Int32) (o0 : Bool) (p0 : Nat) (o1 : Bool) (p1 : Nat) : Int32 := if s = 0 then kFt o0 p0 else if s = 1 then kFt o1 p1 else -2
theorem kFt_t {xo : Bool} {p : Nat} (hp : p < 2 ^ 31) (h : kFt xo p = -1) : xo = true := by
  cases xo with
  | true => rfl
  | false =>
    have h1 := nI_toInt hp
    have h0 : nI p = -1 := h
    rw [h0] at h1
    have h2 : ((-1 : Int32)).toInt = -1 := by decide
    rw [h2] at h1
    omega
theorem kFt_f {xo : Bool} {p : Nat} (h : ¬ kFt xo p = -1) : xo = false := by
  cases xo with
  | true => exact absurd rfl h
  | false => rfl
def kCtA (w : Int32) (kl ku ks kw kn ka kt : Nat) : Int32 := if w = 0 then nI kl else if w = 1 then nI ku else if w = 2 then nI ks else if w = 3 then nI kw else if w = 4 then nI kn else if w = 5 then nI ka else if w = 6 then nI kt else -1

def w_s_bytes8x : List Cond := .code yX8_bytesIn cX8_bytesIn 3 (some .int) :: ([])
theorem gw_s_bytes8x : (w_s_bytes8x).all goodWord = true := kGc rfl kGn
set_option maxHeartbeats 4000000 in
set_option maxRecDepth 100000 in
theorem s_bytes8x (l : Launch) (dC : Nat → ClassId) (dI : Nat → Nat → Nat) (p0 : Int32) : Met l yX8_bytesIn w_s_bytes8x ({ frames := 1, cells := 0, slots := 0, locals := 60 }) (kR dC dI [.int p0] [] [] kT) (vp_Si (fun r : Int32 => r = nI (kCnt p0))) 0 0 (fun _ => False) := by
  refine Met.ofW (cc := cX8_bytesIn) (maxL := 3) (ret := (some .int)) (by decide) rfl ?_
  intro p e s m args below meth c s₁ B hml hv
  obtain ⟨rfl, hP, hK, hX⟩ := hv
  have hx := B.exec
  have hb := B.bytes
  have hr := B.returns
  have hts := atoms_spec (ws := w_s_bytes8x) B.pre
  have hown : s.vm.findClass RX8 = some m.cls := findClass_of_methodNamed B.named
  have hlocks := B.notSynchronized
  have hP : va_P (dC, dI) vwCl [] s.heap := hP
  have hl := lv_entry ([.int p0]) (n := 3) (Nat.le_of_ble_eq_true rfl)
  rw [lg_entry_eq]
  generalize (lg_sl ([.int p0]) ++ List.replicate (3 - (lg_sl ([.int p0])).length) Slot.unset).toArray = ls at hl ⊢
  have hl : lv_has ls 3 [(0, .int p0)] := hl
  refine kQ (fun Q hQ => ?_)
  refine lv_iconst (v := 0) hx hb dX8_bytesIn_0 kc_i_0 ?_
  refine lv_istore_n hx hb dX8_bytesIn_1 rfl hl kc_l_1_3 (kTo [(1, .int 0), (0, .int p0)]) (fun ls hl => ?_)
  refine lv_bipush (v := 24) hx hb dX8_bytesIn_2 kc_b_24 ?_
  refine lv_istore_n hx hb dX8_bytesIn_4 rfl hl kc_l_2_3 (kTo [(2, .int 24), (1, .int 0), (0, .int p0)]) (fun ls hl => ?_)
  refine lv_iload_n hx hb dX8_bytesIn_5 rfl (lv_at hl 0 rfl) ?_
  refine lv_if_lt (tgt := 28) hx hb dX8_bytesIn_6 kc_t_6_22 (fun c_1 => absurd c_1 (by decide)) (fun c_1 => ?_)
  refine lv_iload_n hx hb dX8_bytesIn_9 rfl (lv_at hl 2 rfl) ?_
  refine lv_iload_n hx hb dX8_bytesIn_10 rfl (lv_at hl 0 rfl) ?_
  obtain ⟨x_2, ex_2⟩ : ∃ z : Int32, z = (Int32.toUInt32 p0 >>> (Int32.toUInt32 24 &&& Int32.toUInt32 31)).toInt32 := ⟨_, rfl⟩
  refine lv_iushr (v := x_2) hx hb dX8_bytesIn_11 ex_2.symm ?_
  refine lv_sipush (v := 255) hx hb dX8_bytesIn_12 kc_s_255 ?_
  refine lv_iand hx hb dX8_bytesIn_15 ?_
  refine lv_topi (fun x_3 ex_3 => ?_)
  have hy_4 : kS p0 24 = x_3 := by rw [ex_3, ex_2]; exact (kSu24 p0).symm
  refine lv_if_eq (tgt := 22) hx hb dX8_bytesIn_16 kc_t_16_6 (fun c_5 => ?_) (fun c_5 => ?_)
  · refine lv_iinc (v := 16) hx hb dX8_bytesIn_22 hl (k := 0) rfl (by decide) kc_l_2_3 (kTo [(2, .int 16), (1, .int 0), (0, .int p0)]) (fun ls hl => ?_)
    refine lv_goto (tgt := 5) hx hb dX8_bytesIn_25 kc_t_25_m20 ?_
    refine lv_iload_n hx hb dX8_bytesIn_5 rfl (lv_at hl 0 rfl) ?_
    refine lv_if_lt (tgt := 28) hx hb dX8_bytesIn_6 kc_t_6_22 (fun c_6 => absurd c_6 (by decide)) (fun c_6 => ?_)
    refine lv_iload_n hx hb dX8_bytesIn_9 rfl (lv_at hl 2 rfl) ?_
    refine lv_iload_n hx hb dX8_bytesIn_10 rfl (lv_at hl 0 rfl) ?_
    obtain ⟨x_7, ex_7⟩ : ∃ z : Int32, z = (Int32.toUInt32 p0 >>> (Int32.toUInt32 16 &&& Int32.toUInt32 31)).toInt32 := ⟨_, rfl⟩
    refine lv_iushr (v := x_7) hx hb dX8_bytesIn_11 ex_7.symm ?_
    refine lv_sipush (v := 255) hx hb dX8_bytesIn_12 kc_s_255 ?_
    refine lv_iand hx hb dX8_bytesIn_15 ?_
    refine lv_topi (fun x_8 ex_8 => ?_)
    have hy_9 : kS p0 16 = x_8 := by rw [ex_8, ex_7]; exact (kSu16 p0).symm
    refine lv_if_eq (tgt := 22) hx hb dX8_bytesIn_16 kc_t_16_6 (fun c_10 => ?_) (fun c_10 => ?_)
    · refine lv_iinc (v := 8) hx hb dX8_bytesIn_22 hl (k := 0) rfl (by decide) kc_l_2_3 (kTo [(2, .int 8), (1, .int 0), (0, .int p0)]) (fun ls hl => ?_)
      refine lv_goto (tgt := 5) hx hb dX8_bytesIn_25 kc_t_25_m20 ?_
      refine lv_iload_n hx hb dX8_bytesIn_5 rfl (lv_at hl 0 rfl) ?_
      refine lv_if_lt (tgt := 28) hx hb dX8_bytesIn_6 kc_t_6_22 (fun c_11 => absurd c_11 (by decide)) (fun c_11 => ?_)
      refine lv_iload_n hx hb dX8_bytesIn_9 rfl (lv_at hl 2 rfl) ?_
      refine lv_iload_n hx hb dX8_bytesIn_10 rfl (lv_at hl 0 rfl) ?_
      obtain ⟨x_12, ex_12⟩ : ∃ z : Int32, z = (Int32.toUInt32 p0 >>> (Int32.toUInt32 8 &&& Int32.toUInt32 31)).toInt32 := ⟨_, rfl⟩
      refine lv_iushr (v := x_12) hx hb dX8_bytesIn_11 ex_12.symm ?_
      refine lv_sipush (v := 255) hx hb dX8_bytesIn_12 kc_s_255 ?_
      refine lv_iand hx hb dX8_bytesIn_15 ?_
      refine lv_topi (fun x_13 ex_13 => ?_)
      have hy_14 : kS p0 8 = x_13 := by rw [ex_13, ex_12]; exact (kSu8 p0).symm
      refine lv_if_eq (tgt := 22) hx hb dX8_bytesIn_16 kc_t_16_6 (fun c_15 => ?_) (fun c_15 => ?_)
      · refine lv_iinc (v := 0) hx hb dX8_bytesIn_22 hl (k := 0) rfl (by decide) kc_l_2_3 (kTo [(2, .int 0), (1, .int 0), (0, .int p0)]) (fun ls hl => ?_)
        refine lv_goto (tgt := 5) hx hb dX8_bytesIn_25 kc_t_25_m20 ?_
        refine lv_iload_n hx hb dX8_bytesIn_5 rfl (lv_at hl 0 rfl) ?_
        refine lv_if_lt (tgt := 28) hx hb dX8_bytesIn_6 kc_t_6_22 (fun c_16 => absurd c_16 (by decide)) (fun c_16 => ?_)
        refine lv_iload_n hx hb dX8_bytesIn_9 rfl (lv_at hl 2 rfl) ?_
        refine lv_iload_n hx hb dX8_bytesIn_10 rfl (lv_at hl 0 rfl) ?_
        obtain ⟨x_17, ex_17⟩ : ∃ z : Int32, z = (Int32.toUInt32 p0 >>> (Int32.toUInt32 0 &&& Int32.toUInt32 31)).toInt32 := ⟨_, rfl⟩
        refine lv_iushr (v := x_17) hx hb dX8_bytesIn_11 ex_17.symm ?_
        refine lv_sipush (v := 255) hx hb dX8_bytesIn_12 kc_s_255 ?_
        refine lv_iand hx hb dX8_bytesIn_15 ?_
        refine lv_topi (fun x_18 ex_18 => ?_)
        have hy_19 : kS p0 0 = x_18 := by rw [ex_18, ex_17]; exact (kSu0 p0).symm
        refine lv_if_eq (tgt := 22) hx hb dX8_bytesIn_16 kc_t_16_6 (fun c_20 => ?_) (fun c_20 => ?_)
        · refine lv_iinc (v := (-8)) hx hb dX8_bytesIn_22 hl (k := 0) rfl (by decide) kc_l_2_3 (kTo [(2, .int (-8)), (1, .int 0), (0, .int p0)]) (fun ls hl => ?_)
          refine lv_goto (tgt := 5) hx hb dX8_bytesIn_25 kc_t_25_m20 ?_
          refine lv_iload_n hx hb dX8_bytesIn_5 rfl (lv_at hl 0 rfl) ?_
          refine lv_if_lt (tgt := 28) hx hb dX8_bytesIn_6 kc_t_6_22 (fun c_21 => ?_) (fun c_21 => absurd (by decide) c_21)
          refine lv_iload_n hx hb dX8_bytesIn_28 rfl (lv_at hl 1 rfl) ?_
          have hk : kCnt p0 = 0 := by simp [kCnt, kC1, hy_4, hy_9, hy_14, hy_19, c_5, c_10, c_15, c_20]
          rw [hQ]
          exact W.iret (v := 0) hx hb hr (fun t ht hW => ⟨0, rfl, (by rw [hk]; rfl), ht⟩) (fun _ h => nomatch h) dX8_bytesIn_29
        · refine lv_iinc (v := 1) hx hb dX8_bytesIn_19 hl (k := 1) rfl (by decide) kc_l_1_3 (kTo [(1, .int 1), (2, .int 0), (0, .int p0)]) (fun ls hl => ?_)
          refine lv_iinc (v := (-8)) hx hb dX8_bytesIn_22 hl (k := 1) rfl (by decide) kc_l_2_3 (kTo [(2, .int (-8)), (1, .int 1), (0, .int p0)]) (fun ls hl => ?_)
          refine lv_goto (tgt := 5) hx hb dX8_bytesIn_25 kc_t_25_m20 ?_
          refine lv_iload_n hx hb dX8_bytesIn_5 rfl (lv_at hl 0 rfl) ?_
          refine lv_if_lt (tgt := 28) hx hb dX8_bytesIn_6 kc_t_6_22 (fun c_22 => ?_) (fun c_22 => absurd (by decide) c_22)
          refine lv_iload_n hx hb dX8_bytesIn_28 rfl (lv_at hl 1 rfl) ?_
          have hk : kCnt p0 = 1 := by simp [kCnt, kC1, hy_4, hy_9, hy_14, hy_19, c_5, c_10, c_15, c_20]
          rw [hQ]
          exact W.iret (v := 1) hx hb hr (fun t ht hW => ⟨1, rfl, (by rw [hk]; rfl), ht⟩) (fun _ h => nomatch h) dX8_bytesIn_29
      · refine lv_iinc (v := 1) hx hb dX8_bytesIn_19 hl (k := 1) rfl (by decide) kc_l_1_3 (kTo [(1, .int 1), (2, .int 8), (0, .int p0)]) (fun ls hl => ?_)
        refine lv_iinc (v := 0) hx hb dX8_bytesIn_22 hl (k := 1) rfl (by decide) kc_l_2_3 (kTo [(2, .int 0), (1, .int 1), (0, .int p0)]) (fun ls hl => ?_)
        refine lv_goto (tgt := 5) hx hb dX8_bytesIn_25 kc_t_25_m20 ?_
        refine lv_iload_n hx hb dX8_bytesIn_5 rfl (lv_at hl 0 rfl) ?_
        refine lv_if_lt (tgt := 28) hx hb dX8_bytesIn_6 kc_t_6_22 (fun c_23 => absurd c_23 (by decide)) (fun c_23 => ?_)
        refine lv_iload_n hx hb dX8_bytesIn_9 rfl (lv_at hl 2 rfl) ?_
        refine lv_iload_n hx hb dX8_bytesIn_10 rfl (lv_at hl 0 rfl) ?_
        obtain ⟨x_24, ex_24⟩ : ∃ z : Int32, z = (Int32.toUInt32 p0 >>> (Int32.toUInt32 0 &&& Int32.toUInt32 31)).toInt32 := ⟨_, rfl⟩
        refine lv_iushr (v := x_24) hx hb dX8_bytesIn_11 ex_24.symm ?_
        refine lv_sipush (v := 255) hx hb dX8_bytesIn_12 kc_s_255 ?_
        refine lv_iand hx hb dX8_bytesIn_15 ?_
        refine lv_topi (fun x_25 ex_25 => ?_)
        have hy_26 : kS p0 0 = x_25 := by rw [ex_25, ex_24]; exact (kSu0 p0).symm
        refine lv_if_eq (tgt := 22) hx hb dX8_bytesIn_16 kc_t_16_6 (fun c_27 => ?_) (fun c_27 => ?_)
        · refine lv_iinc (v := (-8)) hx hb dX8_bytesIn_22 hl (k := 0) rfl (by decide) kc_l_2_3 (kTo [(2, .int (-8)), (1, .int 1), (0, .int p0)]) (fun ls hl => ?_)
          refine lv_goto (tgt := 5) hx hb dX8_bytesIn_25 kc_t_25_m20 ?_
          refine lv_iload_n hx hb dX8_bytesIn_5 rfl (lv_at hl 0 rfl) ?_
          refine lv_if_lt (tgt := 28) hx hb dX8_bytesIn_6 kc_t_6_22 (fun c_28 => ?_) (fun c_28 => absurd (by decide) c_28)
          refine lv_iload_n hx hb dX8_bytesIn_28 rfl (lv_at hl 1 rfl) ?_
          have hk : kCnt p0 = 1 := by simp [kCnt, kC1, hy_4, hy_9, hy_14, hy_26, c_5, c_10, c_15, c_27]
          rw [hQ]
          exact W.iret (v := 1) hx hb hr (fun t ht hW => ⟨1, rfl, (by rw [hk]; rfl), ht⟩) (fun _ h => nomatch h) dX8_bytesIn_29
        · refine lv_iinc (v := 2) hx hb dX8_bytesIn_19 hl (k := 1) rfl (by decide) kc_l_1_3 (kTo [(1, .int 2), (2, .int 0), (0, .int p0)]) (fun ls hl => ?_)
          refine lv_iinc (v := (-8)) hx hb dX8_bytesIn_22 hl (k := 1) rfl (by decide) kc_l_2_3 (kTo [(2, .int (-8)), (1, .int 2), (0, .int p0)]) (fun ls hl => ?_)
          refine lv_goto (tgt := 5) hx hb dX8_bytesIn_25 kc_t_25_m20 ?_
          refine lv_iload_n hx hb dX8_bytesIn_5 rfl (lv_at hl 0 rfl) ?_
          refine lv_if_lt (tgt := 28) hx hb dX8_bytesIn_6 kc_t_6_22 (fun c_29 => ?_) (fun c_29 => absurd (by decide) c_29)
          refine lv_iload_n hx hb dX8_bytesIn_28 rfl (lv_at hl 1 rfl) ?_
          have hk : kCnt p0 = 2 := by simp [kCnt, kC1, hy_4, hy_9, hy_14, hy_26, c_5, c_10, c_15, c_27]
          rw [hQ]
          exact W.iret (v := 2) hx hb hr (fun t ht hW => ⟨2, rfl, (by rw [hk]; rfl), ht⟩) (fun _ h => nomatch h) dX8_bytesIn_29
    · refine lv_iinc (v := 1) hx hb dX8_bytesIn_19 hl (k := 1) rfl (by decide) kc_l_1_3 (kTo [(1, .int 1), (2, .int 16), (0, .int p0)]) (fun ls hl => ?_)
      refine lv_iinc (v := 8) hx hb dX8_bytesIn_22 hl (k := 1) rfl (by decide) kc_l_2_3 (kTo [(2, .int 8), (1, .int 1), (0, .int p0)]) (fun ls hl => ?_)
      refine lv_goto (tgt := 5) hx hb dX8_bytesIn_25 kc_t_25_m20 ?_
      refine lv_iload_n hx hb dX8_bytesIn_5 rfl (lv_at hl 0 rfl) ?_
      refine lv_if_lt (tgt := 28) hx hb dX8_bytesIn_6 kc_t_6_22 (fun c_30 => absurd c_30 (by decide)) (fun c_30 => ?_)
      refine lv_iload_n hx hb dX8_bytesIn_9 rfl (lv_at hl 2 rfl) ?_
      refine lv_iload_n hx hb dX8_bytesIn_10 rfl (lv_at hl 0 rfl) ?_
      obtain ⟨x_31, ex_31⟩ : ∃ z : Int32, z = (Int32.toUInt32 p0 >>> (Int32.toUInt32 8 &&& Int32.toUInt32 31)).toInt32 := ⟨_, rfl⟩
      refine lv_iushr (v := x_31) hx hb dX8_bytesIn_11 ex_31.symm ?_
      refine lv_sipush (v := 255) hx hb dX8_bytesIn_12 kc_s_255 ?_
      refine lv_iand hx hb dX8_bytesIn_15 ?_
      refine lv_topi (fun x_32 ex_32 => ?_)
      have hy_33 : kS p0 8 = x_32 := by rw [ex_32, ex_31]; exact (kSu8 p0).symm
      refine lv_if_eq (tgt := 22) hx hb dX8_bytesIn_16 kc_t_16_6 (fun c_34 => ?_) (fun c_34 => ?_)
      · refine lv_iinc (v := 0) hx hb dX8_bytesIn_22 hl (k := 0) rfl (by decide) kc_l_2_3 (kTo [(2, .int 0), (1, .int 1), (0, .int p0)]) (fun ls hl => ?_)
        refine lv_goto (tgt := 5) hx hb dX8_bytesIn_25 kc_t_25_m20 ?_
        refine lv_iload_n hx hb dX8_bytesIn_5 rfl (lv_at hl 0 rfl) ?_
        refine lv_if_lt (tgt := 28) hx hb dX8_bytesIn_6 kc_t_6_22 (fun c_35 => absurd c_35 (by decide)) (fun c_35 => ?_)
        refine lv_iload_n hx hb dX8_bytesIn_9 rfl (lv_at hl 2 rfl) ?_
        refine lv_iload_n hx hb dX8_bytesIn_10 rfl (lv_at hl 0 rfl) ?_
        obtain ⟨x_36, ex_36⟩ : ∃ z : Int32, z = (Int32.toUInt32 p0 >>> (Int32.toUInt32 0 &&& Int32.toUInt32 31)).toInt32 := ⟨_, rfl⟩
        refine lv_iushr (v := x_36) hx hb dX8_bytesIn_11 ex_36.symm ?_
        refine lv_sipush (v := 255) hx hb dX8_bytesIn_12 kc_s_255 ?_
        refine lv_iand hx hb dX8_bytesIn_15 ?_
        refine lv_topi (fun x_37 ex_37 => ?_)
        have hy_38 : kS p0 0 = x_37 := by rw [ex_37, ex_36]; exact (kSu0 p0).symm
        refine lv_if_eq (tgt := 22) hx hb dX8_bytesIn_16 kc_t_16_6 (fun c_39 => ?_) (fun c_39 => ?_)
        · refine lv_iinc (v := (-8)) hx hb dX8_bytesIn_22 hl (k := 0) rfl (by decide) kc_l_2_3 (kTo [(2, .int (-8)), (1, .int 1), (0, .int p0)]) (fun ls hl => ?_)
          refine lv_goto (tgt := 5) hx hb dX8_bytesIn_25 kc_t_25_m20 ?_
          refine lv_iload_n hx hb dX8_bytesIn_5 rfl (lv_at hl 0 rfl) ?_
          refine lv_if_lt (tgt := 28) hx hb dX8_bytesIn_6 kc_t_6_22 (fun c_40 => ?_) (fun c_40 => absurd (by decide) c_40)
          refine lv_iload_n hx hb dX8_bytesIn_28 rfl (lv_at hl 1 rfl) ?_
          have hk : kCnt p0 = 1 := by simp [kCnt, kC1, hy_4, hy_9, hy_33, hy_38, c_5, c_10, c_34, c_39]
          rw [hQ]
          exact W.iret (v := 1) hx hb hr (fun t ht hW => ⟨1, rfl, (by rw [hk]; rfl), ht⟩) (fun _ h => nomatch h) dX8_bytesIn_29
        · refine lv_iinc (v := 2) hx hb dX8_bytesIn_19 hl (k := 1) rfl (by decide) kc_l_1_3 (kTo [(1, .int 2), (2, .int 0), (0, .int p0)]) (fun ls hl => ?_)
          refine lv_iinc (v := (-8)) hx hb dX8_bytesIn_22 hl (k := 1) rfl (by decide) kc_l_2_3 (kTo [(2, .int (-8)), (1, .int 2), (0, .int p0)]) (fun ls hl => ?_)
          refine lv_goto (tgt := 5) hx hb dX8_bytesIn_25 kc_t_25_m20 ?_
          refine lv_iload_n hx hb dX8_bytesIn_5 rfl (lv_at hl 0 rfl) ?_
          refine lv_if_lt (tgt := 28) hx hb dX8_bytesIn_6 kc_t_6_22 (fun c_41 => ?_) (fun c_41 => absurd (by decide) c_41)
          refine lv_iload_n hx hb dX8_bytesIn_28 rfl (lv_at hl 1 rfl) ?_
          have hk : kCnt p0 = 2 := by simp [kCnt, kC1, hy_4, hy_9, hy_33, hy_38, c_5, c_10, c_34, c_39]
          rw [hQ]
          exact W.iret (v := 2) hx hb hr (fun t ht hW => ⟨2, rfl, (by rw [hk]; rfl), ht⟩) (fun _ h => nomatch h) dX8_bytesIn_29
      · refine lv_iinc (v := 2) hx hb dX8_bytesIn_19 hl (k := 1) rfl (by decide) kc_l_1_3 (kTo [(1, .int 2), (2, .int 8), (0, .int p0)]) (fun ls hl => ?_)
        refine lv_iinc (v := 0) hx hb dX8_bytesIn_22 hl (k := 1) rfl (by decide) kc_l_2_3 (kTo [(2, .int 0), (1, .int 2), (0, .int p0)]) (fun ls hl => ?_)
        refine lv_goto (tgt := 5) hx hb dX8_bytesIn_25 kc_t_25_m20 ?_
        refine lv_iload_n hx hb dX8_bytesIn_5 rfl (lv_at hl 0 rfl) ?_
        refine lv_if_lt (tgt := 28) hx hb dX8_bytesIn_6 kc_t_6_22 (fun c_42 => absurd c_42 (by decide)) (fun c_42 => ?_)
        refine lv_iload_n hx hb dX8_bytesIn_9 rfl (lv_at hl 2 rfl) ?_
        refine lv_iload_n hx hb dX8_bytesIn_10 rfl (lv_at hl 0 rfl) ?_
        obtain ⟨x_43, ex_43⟩ : ∃ z : Int32, z = (Int32.toUInt32 p0 >>> (Int32.toUInt32 0 &&& Int32.toUInt32 31)).toInt32 := ⟨_, rfl⟩
        refine lv_iushr (v := x_43) hx hb dX8_bytesIn_11 ex_43.symm ?_
        refine lv_sipush (v := 255) hx hb dX8_bytesIn_12 kc_s_255 ?_
        refine lv_iand hx hb dX8_bytesIn_15 ?_
        refine lv_topi (fun x_44 ex_44 => ?_)
        have hy_45 : kS p0 0 = x_44 := by rw [ex_44, ex_43]; exact (kSu0 p0).symm
        refine lv_if_eq (tgt := 22) hx hb dX8_bytesIn_16 kc_t_16_6 (fun c_46 => ?_) (fun c_46 => ?_)
        · refine lv_iinc (v := (-8)) hx hb dX8_bytesIn_22 hl (k := 0) rfl (by decide) kc_l_2_3 (kTo [(2, .int (-8)), (1, .int 2), (0, .int p0)]) (fun ls hl => ?_)
          refine lv_goto (tgt := 5) hx hb dX8_bytesIn_25 kc_t_25_m20 ?_
          refine lv_iload_n hx hb dX8_bytesIn_5 rfl (lv_at hl 0 rfl) ?_
          refine lv_if_lt (tgt := 28) hx hb dX8_bytesIn_6 kc_t_6_22 (fun c_47 => ?_) (fun c_47 => absurd (by decide) c_47)
          refine lv_iload_n hx hb dX8_bytesIn_28 rfl (lv_at hl 1 rfl) ?_
          have hk : kCnt p0 = 2 := by simp [kCnt, kC1, hy_4, hy_9, hy_33, hy_45, c_5, c_10, c_34, c_46]
          rw [hQ]
          exact W.iret (v := 2) hx hb hr (fun t ht hW => ⟨2, rfl, (by rw [hk]; rfl), ht⟩) (fun _ h => nomatch h) dX8_bytesIn_29
        · refine lv_iinc (v := 3) hx hb dX8_bytesIn_19 hl (k := 1) rfl (by decide) kc_l_1_3 (kTo [(1, .int 3), (2, .int 0), (0, .int p0)]) (fun ls hl => ?_)
          refine lv_iinc (v := (-8)) hx hb dX8_bytesIn_22 hl (k := 1) rfl (by decide) kc_l_2_3 (kTo [(2, .int (-8)), (1, .int 3), (0, .int p0)]) (fun ls hl => ?_)
          refine lv_goto (tgt := 5) hx hb dX8_bytesIn_25 kc_t_25_m20 ?_
          refine lv_iload_n hx hb dX8_bytesIn_5 rfl (lv_at hl 0 rfl) ?_
          refine lv_if_lt (tgt := 28) hx hb dX8_bytesIn_6 kc_t_6_22 (fun c_48 => ?_) (fun c_48 => absurd (by decide) c_48)
          refine lv_iload_n hx hb dX8_bytesIn_28 rfl (lv_at hl 1 rfl) ?_
          have hk : kCnt p0 = 3 := by simp [kCnt, kC1, hy_4, hy_9, hy_33, hy_45, c_5, c_10, c_34, c_46]
          rw [hQ]
          exact W.iret (v := 3) hx hb hr (fun t ht hW => ⟨3, rfl, (by rw [hk]; rfl), ht⟩) (fun _ h => nomatch h) dX8_bytesIn_29
  · refine lv_iinc (v := 1) hx hb dX8_bytesIn_19 hl (k := 1) rfl (by decide) kc_l_1_3 (kTo [(1, .int 1), (2, .int 24), (0, .int p0)]) (fun ls hl => ?_)
    refine lv_iinc (v := 16) hx hb dX8_bytesIn_22 hl (k := 1) rfl (by decide) kc_l_2_3 (kTo [(2, .int 16), (1, .int 1), (0, .int p0)]) (fun ls hl => ?_)
    refine lv_goto (tgt := 5) hx hb dX8_bytesIn_25 kc_t_25_m20 ?_
    refine lv_iload_n hx hb dX8_bytesIn_5 rfl (lv_at hl 0 rfl) ?_
    refine lv_if_lt (tgt := 28) hx hb dX8_bytesIn_6 kc_t_6_22 (fun c_49 => absurd c_49 (by decide)) (fun c_49 => ?_)
    refine lv_iload_n hx hb dX8_bytesIn_9 rfl (lv_at hl 2 rfl) ?_
    refine lv_iload_n hx hb dX8_bytesIn_10 rfl (lv_at hl 0 rfl) ?_
    obtain ⟨x_50, ex_50⟩ : ∃ z : Int32, z = (Int32.toUInt32 p0 >>> (Int32.toUInt32 16 &&& Int32.toUInt32 31)).toInt32 := ⟨_, rfl⟩
    refine lv_iushr (v := x_50) hx hb dX8_bytesIn_11 ex_50.symm ?_
    refine lv_sipush (v := 255) hx hb dX8_bytesIn_12 kc_s_255 ?_
    refine lv_iand hx hb dX8_bytesIn_15 ?_
    refine lv_topi (fun x_51 ex_51 => ?_)
    have hy_52 : kS p0 16 = x_51 := by rw [ex_51, ex_50]; exact (kSu16 p0).symm
    refine lv_if_eq (tgt := 22) hx hb dX8_bytesIn_16 kc_t_16_6 (fun c_53 => ?_) (fun c_53 => ?_)
    · refine lv_iinc (v := 8) hx hb dX8_bytesIn_22 hl (k := 0) rfl (by decide) kc_l_2_3 (kTo [(2, .int 8), (1, .int 1), (0, .int p0)]) (fun ls hl => ?_)
      refine lv_goto (tgt := 5) hx hb dX8_bytesIn_25 kc_t_25_m20 ?_
      refine lv_iload_n hx hb dX8_bytesIn_5 rfl (lv_at hl 0 rfl) ?_
      refine lv_if_lt (tgt := 28) hx hb dX8_bytesIn_6 kc_t_6_22 (fun c_54 => absurd c_54 (by decide)) (fun c_54 => ?_)
      refine lv_iload_n hx hb dX8_bytesIn_9 rfl (lv_at hl 2 rfl) ?_
      refine lv_iload_n hx hb dX8_bytesIn_10 rfl (lv_at hl 0 rfl) ?_
      obtain ⟨x_55, ex_55⟩ : ∃ z : Int32, z = (Int32.toUInt32 p0 >>> (Int32.toUInt32 8 &&& Int32.toUInt32 31)).toInt32 := ⟨_, rfl⟩
      refine lv_iushr (v := x_55) hx hb dX8_bytesIn_11 ex_55.symm ?_
      refine lv_sipush (v := 255) hx hb dX8_bytesIn_12 kc_s_255 ?_
      refine lv_iand hx hb dX8_bytesIn_15 ?_
      refine lv_topi (fun x_56 ex_56 => ?_)
      have hy_57 : kS p0 8 = x_56 := by rw [ex_56, ex_55]; exact (kSu8 p0).symm
      refine lv_if_eq (tgt := 22) hx hb dX8_bytesIn_16 kc_t_16_6 (fun c_58 => ?_) (fun c_58 => ?_)
      · refine lv_iinc (v := 0) hx hb dX8_bytesIn_22 hl (k := 0) rfl (by decide) kc_l_2_3 (kTo [(2, .int 0), (1, .int 1), (0, .int p0)]) (fun ls hl => ?_)
        refine lv_goto (tgt := 5) hx hb dX8_bytesIn_25 kc_t_25_m20 ?_
        refine lv_iload_n hx hb dX8_bytesIn_5 rfl (lv_at hl 0 rfl) ?_
        refine lv_if_lt (tgt := 28) hx hb dX8_bytesIn_6 kc_t_6_22 (fun c_59 => absurd c_59 (by decide)) (fun c_59 => ?_)
        refine lv_iload_n hx hb dX8_bytesIn_9 rfl (lv_at hl 2 rfl) ?_
        refine lv_iload_n hx hb dX8_bytesIn_10 rfl (lv_at hl 0 rfl) ?_
        obtain ⟨x_60, ex_60⟩ : ∃ z : Int32, z = (Int32.toUInt32 p0 >>> (Int32.toUInt32 0 &&& Int32.toUInt32 31)).toInt32 := ⟨_, rfl⟩
        refine lv_iushr (v := x_60) hx hb dX8_bytesIn_11 ex_60.symm ?_
        refine lv_sipush (v := 255) hx hb dX8_bytesIn_12 kc_s_255 ?_
        refine lv_iand hx hb dX8_bytesIn_15 ?_
        refine lv_topi (fun x_61 ex_61 => ?_)
        have hy_62 : kS p0 0 = x_61 := by rw [ex_61, ex_60]; exact (kSu0 p0).symm
        refine lv_if_eq (tgt := 22) hx hb dX8_bytesIn_16 kc_t_16_6 (fun c_63 => ?_) (fun c_63 => ?_)
        · refine lv_iinc (v := (-8)) hx hb dX8_bytesIn_22 hl (k := 0) rfl (by decide) kc_l_2_3 (kTo [(2, .int (-8)), (1, .int 1), (0, .int p0)]) (fun ls hl => ?_)
          refine lv_goto (tgt := 5) hx hb dX8_bytesIn_25 kc_t_25_m20 ?_
          refine lv_iload_n hx hb dX8_bytesIn_5 rfl (lv_at hl 0 rfl) ?_
          refine lv_if_lt (tgt := 28) hx hb dX8_bytesIn_6 kc_t_6_22 (fun c_64 => ?_) (fun c_64 => absurd (by decide) c_64)
          refine lv_iload_n hx hb dX8_bytesIn_28 rfl (lv_at hl 1 rfl) ?_
          have hk : kCnt p0 = 1 := by simp [kCnt, kC1, hy_4, hy_52, hy_57, hy_62, c_5, c_53, c_58, c_63]
          rw [hQ]
          exact W.iret (v := 1) hx hb hr (fun t ht hW => ⟨1, rfl, (by rw [hk]; rfl), ht⟩) (fun _ h => nomatch h) dX8_bytesIn_29
        · refine lv_iinc (v := 2) hx hb dX8_bytesIn_19 hl (k := 1) rfl (by decide) kc_l_1_3 (kTo [(1, .int 2), (2, .int 0), (0, .int p0)]) (fun ls hl => ?_)
          refine lv_iinc (v := (-8)) hx hb dX8_bytesIn_22 hl (k := 1) rfl (by decide) kc_l_2_3 (kTo [(2, .int (-8)), (1, .int 2), (0, .int p0)]) (fun ls hl => ?_)
          refine lv_goto (tgt := 5) hx hb dX8_bytesIn_25 kc_t_25_m20 ?_
          refine lv_iload_n hx hb dX8_bytesIn_5 rfl (lv_at hl 0 rfl) ?_
          refine lv_if_lt (tgt := 28) hx hb dX8_bytesIn_6 kc_t_6_22 (fun c_65 => ?_) (fun c_65 => absurd (by decide) c_65)
          refine lv_iload_n hx hb dX8_bytesIn_28 rfl (lv_at hl 1 rfl) ?_
          have hk : kCnt p0 = 2 := by simp [kCnt, kC1, hy_4, hy_52, hy_57, hy_62, c_5, c_53, c_58, c_63]
          rw [hQ]
          exact W.iret (v := 2) hx hb hr (fun t ht hW => ⟨2, rfl, (by rw [hk]; rfl), ht⟩) (fun _ h => nomatch h) dX8_bytesIn_29
      · refine lv_iinc (v := 2) hx hb dX8_bytesIn_19 hl (k := 1) rfl (by decide) kc_l_1_3 (kTo [(1, .int 2), (2, .int 8), (0, .int p0)]) (fun ls hl => ?_)
        refine lv_iinc (v := 0) hx hb dX8_bytesIn_22 hl (k := 1) rfl (by decide) kc_l_2_3 (kTo [(2, .int 0), (1, .int 2), (0, .int p0)]) (fun ls hl => ?_)
        refine lv_goto (tgt := 5) hx hb dX8_bytesIn_25 kc_t_25_m20 ?_
        refine lv_iload_n hx hb dX8_bytesIn_5 rfl (lv_at hl 0 rfl) ?_
        refine lv_if_lt (tgt := 28) hx hb dX8_bytesIn_6 kc_t_6_22 (fun c_66 => absurd c_66 (by decide)) (fun c_66 => ?_)
        refine lv_iload_n hx hb dX8_bytesIn_9 rfl (lv_at hl 2 rfl) ?_
        refine lv_iload_n hx hb dX8_bytesIn_10 rfl (lv_at hl 0 rfl) ?_
        obtain ⟨x_67, ex_67⟩ : ∃ z : Int32, z = (Int32.toUInt32 p0 >>> (Int32.toUInt32 0 &&& Int32.toUInt32 31)).toInt32 := ⟨_, rfl⟩
        refine lv_iushr (v := x_67) hx hb dX8_bytesIn_11 ex_67.symm ?_
        refine lv_sipush (v := 255) hx hb dX8_bytesIn_12 kc_s_255 ?_
        refine lv_iand hx hb dX8_bytesIn_15 ?_
        refine lv_topi (fun x_68 ex_68 => ?_)
        have hy_69 : kS p0 0 = x_68 := by rw [ex_68, ex_67]; exact (kSu0 p0).symm
        refine lv_if_eq (tgt := 22) hx hb dX8_bytesIn_16 kc_t_16_6 (fun c_70 => ?_) (fun c_70 => ?_)
        · refine lv_iinc (v := (-8)) hx hb dX8_bytesIn_22 hl (k := 0) rfl (by decide) kc_l_2_3 (kTo [(2, .int (-8)), (1, .int 2), (0, .int p0)]) (fun ls hl => ?_)
          refine lv_goto (tgt := 5) hx hb dX8_bytesIn_25 kc_t_25_m20 ?_
          refine lv_iload_n hx hb dX8_bytesIn_5 rfl (lv_at hl 0 rfl) ?_
          refine lv_if_lt (tgt := 28) hx hb dX8_bytesIn_6 kc_t_6_22 (fun c_71 => ?_) (fun c_71 => absurd (by decide) c_71)
          refine lv_iload_n hx hb dX8_bytesIn_28 rfl (lv_at hl 1 rfl) ?_
          have hk : kCnt p0 = 2 := by simp [kCnt, kC1, hy_4, hy_52, hy_57, hy_69, c_5, c_53, c_58, c_70]
          rw [hQ]
          exact W.iret (v := 2) hx hb hr (fun t ht hW => ⟨2, rfl, (by rw [hk]; rfl), ht⟩) (fun _ h => nomatch h) dX8_bytesIn_29
        · refine lv_iinc (v := 3) hx hb dX8_bytesIn_19 hl (k := 1) rfl (by decide) kc_l_1_3 (kTo [(1, .int 3), (2, .int 0), (0, .int p0)]) (fun ls hl => ?_)
          refine lv_iinc (v := (-8)) hx hb dX8_bytesIn_22 hl (k := 1) rfl (by decide) kc_l_2_3 (kTo [(2, .int (-8)), (1, .int 3), (0, .int p0)]) (fun ls hl => ?_)
          refine lv_goto (tgt := 5) hx hb dX8_bytesIn_25 kc_t_25_m20 ?_
          refine lv_iload_n hx hb dX8_bytesIn_5 rfl (lv_at hl 0 rfl) ?_
          refine lv_if_lt (tgt := 28) hx hb dX8_bytesIn_6 kc_t_6_22 (fun c_72 => ?_) (fun c_72 => absurd (by decide) c_72)
          refine lv_iload_n hx hb dX8_bytesIn_28 rfl (lv_at hl 1 rfl) ?_
          have hk : kCnt p0 = 3 := by simp [kCnt, kC1, hy_4, hy_52, hy_57, hy_69, c_5, c_53, c_58, c_70]
          rw [hQ]
          exact W.iret (v := 3) hx hb hr (fun t ht hW => ⟨3, rfl, (by rw [hk]; rfl), ht⟩) (fun _ h => nomatch h) dX8_bytesIn_29
    · refine lv_iinc (v := 2) hx hb dX8_bytesIn_19 hl (k := 1) rfl (by decide) kc_l_1_3 (kTo [(1, .int 2), (2, .int 16), (0, .int p0)]) (fun ls hl => ?_)
      refine lv_iinc (v := 8) hx hb dX8_bytesIn_22 hl (k := 1) rfl (by decide) kc_l_2_3 (kTo [(2, .int 8), (1, .int 2), (0, .int p0)]) (fun ls hl => ?_)
      refine lv_goto (tgt := 5) hx hb dX8_bytesIn_25 kc_t_25_m20 ?_
      refine lv_iload_n hx hb dX8_bytesIn_5 rfl (lv_at hl 0 rfl) ?_
      refine lv_if_lt (tgt := 28) hx hb dX8_bytesIn_6 kc_t_6_22 (fun c_73 => absurd c_73 (by decide)) (fun c_73 => ?_)
      refine lv_iload_n hx hb dX8_bytesIn_9 rfl (lv_at hl 2 rfl) ?_
      refine lv_iload_n hx hb dX8_bytesIn_10 rfl (lv_at hl 0 rfl) ?_
      obtain ⟨x_74, ex_74⟩ : ∃ z : Int32, z = (Int32.toUInt32 p0 >>> (Int32.toUInt32 8 &&& Int32.toUInt32 31)).toInt32 := ⟨_, rfl⟩
      refine lv_iushr (v := x_74) hx hb dX8_bytesIn_11 ex_74.symm ?_
      refine lv_sipush (v := 255) hx hb dX8_bytesIn_12 kc_s_255 ?_
      refine lv_iand hx hb dX8_bytesIn_15 ?_
      refine lv_topi (fun x_75 ex_75 => ?_)
      have hy_76 : kS p0 8 = x_75 := by rw [ex_75, ex_74]; exact (kSu8 p0).symm
      refine lv_if_eq (tgt := 22) hx hb dX8_bytesIn_16 kc_t_16_6 (fun c_77 => ?_) (fun c_77 => ?_)
      · refine lv_iinc (v := 0) hx hb dX8_bytesIn_22 hl (k := 0) rfl (by decide) kc_l_2_3 (kTo [(2, .int 0), (1, .int 2), (0, .int p0)]) (fun ls hl => ?_)
        refine lv_goto (tgt := 5) hx hb dX8_bytesIn_25 kc_t_25_m20 ?_
        refine lv_iload_n hx hb dX8_bytesIn_5 rfl (lv_at hl 0 rfl) ?_
        refine lv_if_lt (tgt := 28) hx hb dX8_bytesIn_6 kc_t_6_22 (fun c_78 => absurd c_78 (by decide)) (fun c_78 => ?_)
        refine lv_iload_n hx hb dX8_bytesIn_9 rfl (lv_at hl 2 rfl) ?_
        refine lv_iload_n hx hb dX8_bytesIn_10 rfl (lv_at hl 0 rfl) ?_
        obtain ⟨x_79, ex_79⟩ : ∃ z : Int32, z = (Int32.toUInt32 p0 >>> (Int32.toUInt32 0 &&& Int32.toUInt32 31)).toInt32 := ⟨_, rfl⟩
        refine lv_iushr (v := x_79) hx hb dX8_bytesIn_11 ex_79.symm ?_
        refine lv_sipush (v := 255) hx hb dX8_bytesIn_12 kc_s_255 ?_
        refine lv_iand hx hb dX8_bytesIn_15 ?_
        refine lv_topi (fun x_80 ex_80 => ?_)
        have hy_81 : kS p0 0 = x_80 := by rw [ex_80, ex_79]; exact (kSu0 p0).symm
        refine lv_if_eq (tgt := 22) hx hb dX8_bytesIn_16 kc_t_16_6 (fun c_82 => ?_) (fun c_82 => ?_)
        · refine lv_iinc (v := (-8)) hx hb dX8_bytesIn_22 hl (k := 0) rfl (by decide) kc_l_2_3 (kTo [(2, .int (-8)), (1, .int 2), (0, .int p0)]) (fun ls hl => ?_)
          refine lv_goto (tgt := 5) hx hb dX8_bytesIn_25 kc_t_25_m20 ?_
          refine lv_iload_n hx hb dX8_bytesIn_5 rfl (lv_at hl 0 rfl) ?_
          refine lv_if_lt (tgt := 28) hx hb dX8_bytesIn_6 kc_t_6_22 (fun c_83 => ?_) (fun c_83 => absurd (by decide) c_83)
          refine lv_iload_n hx hb dX8_bytesIn_28 rfl (lv_at hl 1 rfl) ?_
          have hk : kCnt p0 = 2 := by simp [kCnt, kC1, hy_4, hy_52, hy_76, hy_81, c_5, c_53, c_77, c_82]
          rw [hQ]
          exact W.iret (v := 2) hx hb hr (fun t ht hW => ⟨2, rfl, (by rw [hk]; rfl), ht⟩) (fun _ h => nomatch h) dX8_bytesIn_29
        · refine lv_iinc (v := 3) hx hb dX8_bytesIn_19 hl (k := 1) rfl (by decide) kc_l_1_3 (kTo [(1, .int 3), (2, .int 0), (0, .int p0)]) (fun ls hl => ?_)
          refine lv_iinc (v := (-8)) hx hb dX8_bytesIn_22 hl (k := 1) rfl (by decide) kc_l_2_3 (kTo [(2, .int (-8)), (1, .int 3), (0, .int p0)]) (fun ls hl => ?_)
          refine lv_goto (tgt := 5) hx hb dX8_bytesIn_25 kc_t_25_m20 ?_
          refine lv_iload_n hx hb dX8_bytesIn_5 rfl (lv_at hl 0 rfl) ?_
          refine lv_if_lt (tgt := 28) hx hb dX8_bytesIn_6 kc_t_6_22 (fun c_84 => ?_) (fun c_84 => absurd (by decide) c_84)
          refine lv_iload_n hx hb dX8_bytesIn_28 rfl (lv_at hl 1 rfl) ?_
          have hk : kCnt p0 = 3 := by simp [kCnt, kC1, hy_4, hy_52, hy_76, hy_81, c_5, c_53, c_77, c_82]
          rw [hQ]
          exact W.iret (v := 3) hx hb hr (fun t ht hW => ⟨3, rfl, (by rw [hk]; rfl), ht⟩) (fun _ h => nomatch h) dX8_bytesIn_29
      · refine lv_iinc (v := 3) hx hb dX8_bytesIn_19 hl (k := 1) rfl (by decide) kc_l_1_3 (kTo [(1, .int 3), (2, .int 8), (0, .int p0)]) (fun ls hl => ?_)
        refine lv_iinc (v := 0) hx hb dX8_bytesIn_22 hl (k := 1) rfl (by decide) kc_l_2_3 (kTo [(2, .int 0), (1, .int 3), (0, .int p0)]) (fun ls hl => ?_)
        refine lv_goto (tgt := 5) hx hb dX8_bytesIn_25 kc_t_25_m20 ?_
        refine lv_iload_n hx hb dX8_bytesIn_5 rfl (lv_at hl 0 rfl) ?_
        refine lv_if_lt (tgt := 28) hx hb dX8_bytesIn_6 kc_t_6_22 (fun c_85 => absurd c_85 (by decide)) (fun c_85 => ?_)
        refine lv_iload_n hx hb dX8_bytesIn_9 rfl (lv_at hl 2 rfl) ?_
        refine lv_iload_n hx hb dX8_bytesIn_10 rfl (lv_at hl 0 rfl) ?_
        obtain ⟨x_86, ex_86⟩ : ∃ z : Int32, z = (Int32.toUInt32 p0 >>> (Int32.toUInt32 0 &&& Int32.toUInt32 31)).toInt32 := ⟨_, rfl⟩
        refine lv_iushr (v := x_86) hx hb dX8_bytesIn_11 ex_86.symm ?_
        refine lv_sipush (v := 255) hx hb dX8_bytesIn_12 kc_s_255 ?_
        refine lv_iand hx hb dX8_bytesIn_15 ?_
        refine lv_topi (fun x_87 ex_87 => ?_)
        have hy_88 : kS p0 0 = x_87 := by rw [ex_87, ex_86]; exact (kSu0 p0).symm
        refine lv_if_eq (tgt := 22) hx hb dX8_bytesIn_16 kc_t_16_6 (fun c_89 => ?_) (fun c_89 => ?_)
        · refine lv_iinc (v := (-8)) hx hb dX8_bytesIn_22 hl (k := 0) rfl (by decide) kc_l_2_3 (kTo [(2, .int (-8)), (1, .int 3), (0, .int p0)]) (fun ls hl => ?_)
          refine lv_goto (tgt := 5) hx hb dX8_bytesIn_25 kc_t_25_m20 ?_
          refine lv_iload_n hx hb dX8_bytesIn_5 rfl (lv_at hl 0 rfl) ?_
          refine lv_if_lt (tgt := 28) hx hb dX8_bytesIn_6 kc_t_6_22 (fun c_90 => ?_) (fun c_90 => absurd (by decide) c_90)
          refine lv_iload_n hx hb dX8_bytesIn_28 rfl (lv_at hl 1 rfl) ?_
          have hk : kCnt p0 = 3 := by simp [kCnt, kC1, hy_4, hy_52, hy_76, hy_88, c_5, c_53, c_77, c_89]
          rw [hQ]
          exact W.iret (v := 3) hx hb hr (fun t ht hW => ⟨3, rfl, (by rw [hk]; rfl), ht⟩) (fun _ h => nomatch h) dX8_bytesIn_29
        · refine lv_iinc (v := 4) hx hb dX8_bytesIn_19 hl (k := 1) rfl (by decide) kc_l_1_3 (kTo [(1, .int 4), (2, .int 0), (0, .int p0)]) (fun ls hl => ?_)
          refine lv_iinc (v := (-8)) hx hb dX8_bytesIn_22 hl (k := 1) rfl (by decide) kc_l_2_3 (kTo [(2, .int (-8)), (1, .int 4), (0, .int p0)]) (fun ls hl => ?_)
          refine lv_goto (tgt := 5) hx hb dX8_bytesIn_25 kc_t_25_m20 ?_
          refine lv_iload_n hx hb dX8_bytesIn_5 rfl (lv_at hl 0 rfl) ?_
          refine lv_if_lt (tgt := 28) hx hb dX8_bytesIn_6 kc_t_6_22 (fun c_91 => ?_) (fun c_91 => absurd (by decide) c_91)
          refine lv_iload_n hx hb dX8_bytesIn_28 rfl (lv_at hl 1 rfl) ?_
          have hk : kCnt p0 = 4 := by simp [kCnt, kC1, hy_4, hy_52, hy_76, hy_88, c_5, c_53, c_77, c_89]
          rw [hQ]
          exact W.iret (v := 4) hx hb hr (fun t ht hW => ⟨4, rfl, (by rw [hk]; rfl), ht⟩) (fun _ h => nomatch h) dX8_bytesIn_29

def w_s_append8x : List Cond := .code yX8_append cX8_append 4 none :: ([.fieldLink RX8 15 "NotEnded$Tape" "length" "I", .fieldLink RX8 9 "NotEnded$Tape" "signs" "[C"] ++ (wsX80))
theorem gw_s_append8x : (w_s_append8x).all goodWord = true := kGc rfl (kGa (by decide +kernel) gw_wsX80)
set_option maxHeartbeats 4000000 in
set_option maxRecDepth 100000 in
theorem s_append8x (l : Launch) (dC : Nat → ClassId) (dI : Nat → Nat → Nat) (jT : Nat) (t0 : Nat) (cC : ClassId) (gT : Nat → Int32) (kt : Nat) (hkt : kt ≤ 120) (bt : Nat → Nat) (hbt : ∀ j : Nat, gT j = nI (bt j)) (hb8 : ∀ j : Nat, bt j < 256) (p0 : Int32) (hk9 : kt + kCnt p0 ≤ 120) (sz : Nat) : Met l yX8_append w_s_append8x ({ frames := 1, cells := 0, slots := 0, locals := 60 }) (kW dC dI [.ref jT, .int p0] [(jT, .inr (8, [.ref t0, .int (nI (kt))])), (t0, .inl (cC, 120, .inl gT))] [(cC, .char)] kT sz) (va_Qv (fun (u : (Nat → Int32) × Nat × (Nat → Nat)) => match u with | (gU, ku, tU) => (kPut p0 (bt, kt) = (tU, ku) ∧ (∀ j : Nat, gU j = nI (tU j)) ∧ (∀ j : Nat, tU j < 256) ∧ ku = kt + kCnt p0)) (fun (u : (Nat → Int32) × Nat × (Nat → Nat)) => match u with | (gU, ku, tU) => fun t : State => kB dC dI [(jT, .inr (8, [.ref t0, .int (nI (ku))])), (t0, .inl (cC, 120, .inl gU))] [(cC, .char)] (va_A [(jT, .inr (8, [.ref t0, .int (nI (kt))])), (t0, .inl (cC, 120, .inl gT))] sz) t) (va_A [(jT, .inr (8, [.ref t0, .int (nI (kt))])), (t0, .inl (cC, 120, .inl gT))] sz)) 0 0 (va_A [(jT, .inr (8, [.ref t0, .int (nI (kt))])), (t0, .inl (cC, 120, .inl gT))] sz) := by
  refine Met.ofW (cc := cX8_append) (maxL := 4) (ret := none) (by decide) rfl ?_
  intro p e s m args below meth c s₁ B hml hv
  obtain ⟨rfl, hsz, hP, hK, hD0, hX⟩ := hv
  have hx := B.exec
  have hb := B.bytes
  have hr := B.returns
  have hts := atoms_spec (ws := w_s_append8x) B.pre
  have hown : s.vm.findClass RX8 = some m.cls := findClass_of_methodNamed B.named
  have hlocks := B.notSynchronized
  subst hsz
  have hD := hD0.self (sz := s.heap.size)
  generalize hAe : va_A [(jT, .inr (8, [.ref t0, .int (nI (kt))])), (t0, .inl (cC, 120, .inl gT))] s.heap.size = A at hD ⊢
  have hA : ∀ q : Nat, s.heap.size ≤ q → A q := fun q h => by rw [← hAe]; exact Or.inr h
  have hS : va_S A s.heap s.heap [] := va_S.rf
  have hP : va_P (dC, dI) vwCl [(jT, .inr (8, [.ref t0, .int (nI (kt))])), (t0, .inl (cC, 120, .inl gT))] s.heap := hP
  have hl := lv_entry ([.ref jT, .int p0]) (n := 4) (Nat.le_of_ble_eq_true rfl)
  rw [lg_entry_eq]
  generalize (lg_sl ([.ref jT, .int p0]) ++ List.replicate (4 - (lg_sl ([.ref jT, .int p0])).length) Slot.unset).toArray = ls at hl ⊢
  have hl : lv_has ls 4 [(0, .ref jT), (1, .int p0)] := hl
  refine kQ (fun Q hQ => ?_)
  have hu9 : kCnt p0 = kC1 p0 24 + kC1 p0 16 + kC1 p0 8 + kC1 p0 0 := rfl
  refine lv_bipush (v := 24) hx hb dX8_append_0 kc_b_24 ?_
  refine lv_istore_n hx hb dX8_append_2 rfl hl kc_l_2_4 (kTo [(2, .int 24), (0, .ref jT), (1, .int p0)]) (fun ls hl => ?_)
  refine lv_iload_n hx hb dX8_append_3 rfl (lv_at hl 0 rfl) ?_
  refine lv_if_lt (tgt := 58) hx hb dX8_append_4 kc_t_4_54 (fun c_1 => absurd c_1 (by decide)) (fun c_1 => ?_)
  refine lv_iload_n hx hb dX8_append_7 rfl (lv_at hl 2 rfl) ?_
  refine lv_iload_n hx hb dX8_append_8 rfl (lv_at hl 0 rfl) ?_
  obtain ⟨x_2, ex_2⟩ : ∃ z : Int32, z = (Int32.toUInt32 p0 >>> (Int32.toUInt32 24 &&& Int32.toUInt32 31)).toInt32 := ⟨_, rfl⟩
  refine lv_iushr (v := x_2) hx hb dX8_append_9 ex_2.symm ?_
  refine lv_sipush (v := 255) hx hb dX8_append_10 kc_s_255 ?_
  refine lv_iand hx hb dX8_append_13 ?_
  refine lv_topi (fun x_3 ex_3 => ?_)
  refine lv_istore_n hx hb dX8_append_14 rfl hl kc_l_3_4 (kTo [(3, .int x_3), (2, .int 24), (0, .ref jT), (1, .int p0)]) (fun ls hl => ?_)
  refine lv_iload_n hx hb dX8_append_15 rfl (lv_at hl 0 rfl) ?_
  have hy_4 : kS p0 24 = x_3 := by rw [ex_3, ex_2]; exact (kSu24 p0).symm
  refine lv_if_eq (tgt := 52) hx hb dX8_append_16 kc_t_16_36 (fun c_5 => ?_) (fun c_5 => ?_)
  · refine lv_iinc (v := 16) hx hb dX8_append_52 hl (k := 1) rfl (by decide) kc_l_2_4 (kTo [(2, .int 16), (3, .int x_3), (0, .ref jT), (1, .int p0)]) (fun ls hl => ?_)
    refine lv_goto (tgt := 3) hx hb dX8_append_55 kc_t_55_m52 ?_
    refine lv_iload_n hx hb dX8_append_3 rfl (lv_at hl 0 rfl) ?_
    refine lv_if_lt (tgt := 58) hx hb dX8_append_4 kc_t_4_54 (fun c_6 => absurd c_6 (by decide)) (fun c_6 => ?_)
    refine lv_iload_n hx hb dX8_append_7 rfl (lv_at hl 3 rfl) ?_
    refine lv_iload_n hx hb dX8_append_8 rfl (lv_at hl 0 rfl) ?_
    obtain ⟨x_7, ex_7⟩ : ∃ z : Int32, z = (Int32.toUInt32 p0 >>> (Int32.toUInt32 16 &&& Int32.toUInt32 31)).toInt32 := ⟨_, rfl⟩
    refine lv_iushr (v := x_7) hx hb dX8_append_9 ex_7.symm ?_
    refine lv_sipush (v := 255) hx hb dX8_append_10 kc_s_255 ?_
    refine lv_iand hx hb dX8_append_13 ?_
    refine lv_topi (fun x_8 ex_8 => ?_)
    refine lv_istore_n hx hb dX8_append_14 rfl hl kc_l_3_4 (kTo [(3, .int x_8), (2, .int 16), (0, .ref jT), (1, .int p0)]) (fun ls hl => ?_)
    refine lv_iload_n hx hb dX8_append_15 rfl (lv_at hl 0 rfl) ?_
    have hy_9 : kS p0 16 = x_8 := by rw [ex_8, ex_7]; exact (kSu16 p0).symm
    refine lv_if_eq (tgt := 52) hx hb dX8_append_16 kc_t_16_36 (fun c_10 => ?_) (fun c_10 => ?_)
    · refine lv_iinc (v := 8) hx hb dX8_append_52 hl (k := 1) rfl (by decide) kc_l_2_4 (kTo [(2, .int 8), (3, .int x_8), (0, .ref jT), (1, .int p0)]) (fun ls hl => ?_)
      refine lv_goto (tgt := 3) hx hb dX8_append_55 kc_t_55_m52 ?_
      refine lv_iload_n hx hb dX8_append_3 rfl (lv_at hl 0 rfl) ?_
      refine lv_if_lt (tgt := 58) hx hb dX8_append_4 kc_t_4_54 (fun c_11 => absurd c_11 (by decide)) (fun c_11 => ?_)
      refine lv_iload_n hx hb dX8_append_7 rfl (lv_at hl 3 rfl) ?_
      refine lv_iload_n hx hb dX8_append_8 rfl (lv_at hl 0 rfl) ?_
      obtain ⟨x_12, ex_12⟩ : ∃ z : Int32, z = (Int32.toUInt32 p0 >>> (Int32.toUInt32 8 &&& Int32.toUInt32 31)).toInt32 := ⟨_, rfl⟩
      refine lv_iushr (v := x_12) hx hb dX8_append_9 ex_12.symm ?_
      refine lv_sipush (v := 255) hx hb dX8_append_10 kc_s_255 ?_
      refine lv_iand hx hb dX8_append_13 ?_
      refine lv_topi (fun x_13 ex_13 => ?_)
      refine lv_istore_n hx hb dX8_append_14 rfl hl kc_l_3_4 (kTo [(3, .int x_13), (2, .int 8), (0, .ref jT), (1, .int p0)]) (fun ls hl => ?_)
      refine lv_iload_n hx hb dX8_append_15 rfl (lv_at hl 0 rfl) ?_
      have hy_14 : kS p0 8 = x_13 := by rw [ex_13, ex_12]; exact (kSu8 p0).symm
      refine lv_if_eq (tgt := 52) hx hb dX8_append_16 kc_t_16_36 (fun c_15 => ?_) (fun c_15 => ?_)
      · refine lv_iinc (v := 0) hx hb dX8_append_52 hl (k := 1) rfl (by decide) kc_l_2_4 (kTo [(2, .int 0), (3, .int x_13), (0, .ref jT), (1, .int p0)]) (fun ls hl => ?_)
        refine lv_goto (tgt := 3) hx hb dX8_append_55 kc_t_55_m52 ?_
        refine lv_iload_n hx hb dX8_append_3 rfl (lv_at hl 0 rfl) ?_
        refine lv_if_lt (tgt := 58) hx hb dX8_append_4 kc_t_4_54 (fun c_16 => absurd c_16 (by decide)) (fun c_16 => ?_)
        refine lv_iload_n hx hb dX8_append_7 rfl (lv_at hl 3 rfl) ?_
        refine lv_iload_n hx hb dX8_append_8 rfl (lv_at hl 0 rfl) ?_
        obtain ⟨x_17, ex_17⟩ : ∃ z : Int32, z = (Int32.toUInt32 p0 >>> (Int32.toUInt32 0 &&& Int32.toUInt32 31)).toInt32 := ⟨_, rfl⟩
        refine lv_iushr (v := x_17) hx hb dX8_append_9 ex_17.symm ?_
        refine lv_sipush (v := 255) hx hb dX8_append_10 kc_s_255 ?_
        refine lv_iand hx hb dX8_append_13 ?_
        refine lv_topi (fun x_18 ex_18 => ?_)
        refine lv_istore_n hx hb dX8_append_14 rfl hl kc_l_3_4 (kTo [(3, .int x_18), (2, .int 0), (0, .ref jT), (1, .int p0)]) (fun ls hl => ?_)
        refine lv_iload_n hx hb dX8_append_15 rfl (lv_at hl 0 rfl) ?_
        have hy_19 : kS p0 0 = x_18 := by rw [ex_18, ex_17]; exact (kSu0 p0).symm
        refine lv_if_eq (tgt := 52) hx hb dX8_append_16 kc_t_16_36 (fun c_20 => ?_) (fun c_20 => ?_)
        · refine lv_iinc (v := (-8)) hx hb dX8_append_52 hl (k := 1) rfl (by decide) kc_l_2_4 (kTo [(2, .int (-8)), (3, .int x_18), (0, .ref jT), (1, .int p0)]) (fun ls hl => ?_)
          refine lv_goto (tgt := 3) hx hb dX8_append_55 kc_t_55_m52 ?_
          refine lv_iload_n hx hb dX8_append_3 rfl (lv_at hl 0 rfl) ?_
          refine lv_if_lt (tgt := 58) hx hb dX8_append_4 kc_t_4_54 (fun c_21 => ?_) (fun c_21 => absurd (by decide) c_21)
          have hk8 : kCnt p0 = 0 := by simp [kCnt, kC1, hy_4, hy_9, hy_14, hy_19, c_5, c_10, c_15, c_20]
          have hP9 := hP
          have hD9 := hD
          have hK9 := hK
          rw [hQ]
          exact W.vret hx hb hr (fun t ht hW => ⟨⟨(gT, kt, bt), rfl, ⟨by unfold kPut; rw [kP1_z (k := 24) (hy_4.trans c_5), kP1_z (k := 16) (hy_9.trans c_10), kP1_z (k := 8) (hy_14.trans c_15), kP1_z (k := 0) (hy_19.trans c_20)], hbt, hb8, by omega⟩,  by rw [ht]; exact hP9, va_K.moved hW.alike hK9, hD9⟩, hS.F ht⟩) hS.2.2 dX8_append_58
        · refine lv_aload_n hx hb dX8_append_19 rfl (lv_at hl 2 rfl) ?_
          refine va_get (D := (dC, dI)) (ci := 8) (v := .int (nI (kt))) (C := RX8) (T := TX8) (N := 2) hx hb hts (fun _ h => List.mem_cons_of_mem _ (List.mem_append_right _ h)) hown hK hP 0 rfl rfl 1 kc_l_1_2 (hts (.fieldLink RX8 15 "NotEnded$Tape" "length" "I") (List.mem_cons_of_mem _ (List.mem_append_left _ (List.mem_of_getElem? (i := 0) rfl)))) (fun _ h9 => h9) rfl dX8_append_20 ?_
          refine lv_aload_n hx hb dX8_append_23 rfl (lv_at hl 2 rfl) ?_
          refine va_get (D := (dC, dI)) (ci := 8) (v := .ref t0) (C := RX8) (T := TX8) (N := 2) hx hb hts (fun _ h => List.mem_cons_of_mem _ (List.mem_append_right _ h)) hown hK hP 0 rfl rfl 0 kc_l_0_2 (hts (.fieldLink RX8 9 "NotEnded$Tape" "signs" "[C") (List.mem_cons_of_mem _ (List.mem_append_left _ (List.mem_of_getElem? (i := 1) rfl)))) (fun _ h9 => h9) rfl dX8_append_24 ?_
          refine va_alen hx hb hK hP 1 0 rfl rfl (v := 120) rfl dX8_append_27 ?_
          have hy_19_c : kC1 p0 0 = 1 := by simp [kC1, hy_19, c_20]
          refine lv_icmp_ge (tgt := 52) hx hb dX8_append_28 kc_t_28_24 (fun c_22 => absurd c_22 (nI_ge (a := kt) (b := 120) (by omega) (by decide))) (fun c_22 => ?_)
          refine lv_aload_n hx hb dX8_append_31 rfl (lv_at hl 2 rfl) ?_
          refine va_get (D := (dC, dI)) (ci := 8) (v := .ref t0) (C := RX8) (T := TX8) (N := 2) hx hb hts (fun _ h => List.mem_cons_of_mem _ (List.mem_append_right _ h)) hown hK hP 0 rfl rfl 0 kc_l_0_2 (hts (.fieldLink RX8 9 "NotEnded$Tape" "signs" "[C") (List.mem_cons_of_mem _ (List.mem_append_left _ (List.mem_of_getElem? (i := 1) rfl)))) (fun _ h9 => h9) rfl dX8_append_32 ?_
          refine lv_aload_n hx hb dX8_append_35 rfl (lv_at hl 2 rfl) ?_
          refine va_get (D := (dC, dI)) (ci := 8) (v := .int (nI (kt))) (C := RX8) (T := TX8) (N := 2) hx hb hts (fun _ h => List.mem_cons_of_mem _ (List.mem_append_right _ h)) hown hK hP 0 rfl rfl 1 kc_l_1_2 (hts (.fieldLink RX8 15 "NotEnded$Tape" "length" "I") (List.mem_cons_of_mem _ (List.mem_append_left _ (List.mem_of_getElem? (i := 0) rfl)))) (fun _ h9 => h9) rfl dX8_append_36 ?_
          refine lv_iload_n hx hb dX8_append_39 rfl (lv_at hl 0 rfl) ?_
          obtain ⟨x_23, ex_23⟩ : ∃ z : Int32, z = (Int32.toUInt32 x_18 % 65536).toInt32 := ⟨_, rfl⟩
          refine lv_i2c (v := x_23) hx hb dX8_append_40 ex_23.symm ?_
          have bd_25 : kt < 120 := by omega
          refine va_cast hx hb hK hP hD hS 1 0 rfl rfl (vp_in_nI (n := kt) (N := 120) bd_25 kc_31_120) dX8_append_41 (fun H locs hP hD hS => ?_)
          obtain ⟨f_24, ef_24⟩ : ∃ gg9 : Nat → Int32, gg9 = upd gT (Int32.toNatClampNeg (nI (kt))) (vp_nar .char x_23) := ⟨_, rfl⟩
          have hPD : kPD dC dI A [(jT, .inr (8, [.ref t0, .int (nI (kt))])), (t0, .inl (cC, 120, .inl f_24))] H := by rw [ef_24]; exact ⟨hP, hD⟩
          have hP := hPD.1
          have hD := hPD.2
          refine lv_aload_n hx hb dX8_append_42 rfl (lv_at hl 2 rfl) ?_
          refine lv_dup hx hb dX8_append_43 rfl ?_
          refine va_get (D := (dC, dI)) (ci := 8) (v := .int (nI (kt))) (C := RX8) (T := TX8) (N := 2) hx hb hts (fun _ h => List.mem_cons_of_mem _ (List.mem_append_right _ h)) hown hK hP 0 rfl rfl 1 kc_l_1_2 (hts (.fieldLink RX8 15 "NotEnded$Tape" "length" "I") (List.mem_cons_of_mem _ (List.mem_append_left _ (List.mem_of_getElem? (i := 0) rfl)))) (fun _ h9 => h9) rfl dX8_append_44 ?_
          refine lv_iconst (v := 1) hx hb dX8_append_47 kc_i_1 ?_
          refine lv_iadd hx hb dX8_append_48 ?_
          refine lv_topi (fun y_26 ey_26 => ?_)
          obtain rfl : y_26 = nI (kt + 1) := ey_26.trans (nI_add (kt) (1))
          refine va_put (D := (dC, dI)) (ci := 8) (v := .int (nI (kt + 1))) (ty := tyX8 1) (C := RX8) (T := TX8) (N := 2) hx hb hts (fun _ h => List.mem_cons_of_mem _ (List.mem_append_right _ h)) tyX8 tyX8_ok nmX8 hown hK hP hD hS 0 rfl rfl 1 kc_l_1_2 (hts (.fieldLink RX8 15 "NotEnded$Tape" "length" "I") (List.mem_cons_of_mem _ (List.mem_append_left _ (List.mem_of_getElem? (i := 0) rfl)))) (fun _ h9 => h9) rfl (tyX8_ok 1 kc_l_1_2) rfl rfl (Nat.le_of_ble_eq_true rfl) dX8_append_49 (fun H locs hP hD hS => ?_)
          have hPD : kPD dC dI A [(jT, .inr (8, [.ref t0, .int (nI (kt + 1))])), (t0, .inl (cC, 120, .inl f_24))] H := ⟨hP, hD⟩
          have hP := hPD.1
          have hD := hPD.2
          refine lv_iinc (v := (-8)) hx hb dX8_append_52 hl (k := 1) rfl (by decide) kc_l_2_4 (kTo [(2, .int (-8)), (3, .int x_18), (0, .ref jT), (1, .int p0)]) (fun ls hl => ?_)
          refine lv_goto (tgt := 3) hx hb dX8_append_55 kc_t_55_m52 ?_
          refine lv_iload_n hx hb dX8_append_3 rfl (lv_at hl 0 rfl) ?_
          refine lv_if_lt (tgt := 58) hx hb dX8_append_4 kc_t_4_54 (fun c_27 => ?_) (fun c_27 => absurd (by decide) c_27)
          have hk8 : kCnt p0 = 1 := by simp [kCnt, kC1, hy_4, hy_9, hy_14, hy_19, c_5, c_10, c_15, c_20]
          have hP9 := hP
          have hD9 := hD
          have hK9 := hK
          rw [hQ]
          exact W.vret hx hb hr (fun t ht hW => ⟨⟨(f_24, (kt + 1), (kUpN bt kt (kSn p0 0))), rfl, ⟨by unfold kPut; rw [kP1_z (k := 24) (hy_4.trans c_5), kP1_z (k := 16) (hy_9.trans c_10), kP1_z (k := 8) (hy_14.trans c_15), kP1_n (k := 0) (fun z => c_20 (hy_19.symm.trans z))], (kUpB (by omega) ef_24 ex_23 hy_19 hbt), (kUp8 hb8), by omega⟩,  by rw [ht]; exact hP9, va_K.moved hW.alike hK9, hD9⟩, hS.F ht⟩) hS.2.2 dX8_append_58
      · refine lv_aload_n hx hb dX8_append_19 rfl (lv_at hl 2 rfl) ?_
        refine va_get (D := (dC, dI)) (ci := 8) (v := .int (nI (kt))) (C := RX8) (T := TX8) (N := 2) hx hb hts (fun _ h => List.mem_cons_of_mem _ (List.mem_append_right _ h)) hown hK hP 0 rfl rfl 1 kc_l_1_2 (hts (.fieldLink RX8 15 "NotEnded$Tape" "length" "I") (List.mem_cons_of_mem _ (List.mem_append_left _ (List.mem_of_getElem? (i := 0) rfl)))) (fun _ h9 => h9) rfl dX8_append_20 ?_
        refine lv_aload_n hx hb dX8_append_23 rfl (lv_at hl 2 rfl) ?_
        refine va_get (D := (dC, dI)) (ci := 8) (v := .ref t0) (C := RX8) (T := TX8) (N := 2) hx hb hts (fun _ h => List.mem_cons_of_mem _ (List.mem_append_right _ h)) hown hK hP 0 rfl rfl 0 kc_l_0_2 (hts (.fieldLink RX8 9 "NotEnded$Tape" "signs" "[C") (List.mem_cons_of_mem _ (List.mem_append_left _ (List.mem_of_getElem? (i := 1) rfl)))) (fun _ h9 => h9) rfl dX8_append_24 ?_
        refine va_alen hx hb hK hP 1 0 rfl rfl (v := 120) rfl dX8_append_27 ?_
        have hy_14_c : kC1 p0 8 = 1 := by simp [kC1, hy_14, c_15]
        refine lv_icmp_ge (tgt := 52) hx hb dX8_append_28 kc_t_28_24 (fun c_28 => absurd c_28 (nI_ge (a := kt) (b := 120) (by omega) (by decide))) (fun c_28 => ?_)
        refine lv_aload_n hx hb dX8_append_31 rfl (lv_at hl 2 rfl) ?_
        refine va_get (D := (dC, dI)) (ci := 8) (v := .ref t0) (C := RX8) (T := TX8) (N := 2) hx hb hts (fun _ h => List.mem_cons_of_mem _ (List.mem_append_right _ h)) hown hK hP 0 rfl rfl 0 kc_l_0_2 (hts (.fieldLink RX8 9 "NotEnded$Tape" "signs" "[C") (List.mem_cons_of_mem _ (List.mem_append_left _ (List.mem_of_getElem? (i := 1) rfl)))) (fun _ h9 => h9) rfl dX8_append_32 ?_
        refine lv_aload_n hx hb dX8_append_35 rfl (lv_at hl 2 rfl) ?_
        refine va_get (D := (dC, dI)) (ci := 8) (v := .int (nI (kt))) (C := RX8) (T := TX8) (N := 2) hx hb hts (fun _ h => List.mem_cons_of_mem _ (List.mem_append_right _ h)) hown hK hP 0 rfl rfl 1 kc_l_1_2 (hts (.fieldLink RX8 15 "NotEnded$Tape" "length" "I") (List.mem_cons_of_mem _ (List.mem_append_left _ (List.mem_of_getElem? (i := 0) rfl)))) (fun _ h9 => h9) rfl dX8_append_36 ?_
        refine lv_iload_n hx hb dX8_append_39 rfl (lv_at hl 0 rfl) ?_
        obtain ⟨x_29, ex_29⟩ : ∃ z : Int32, z = (Int32.toUInt32 x_13 % 65536).toInt32 := ⟨_, rfl⟩
        refine lv_i2c (v := x_29) hx hb dX8_append_40 ex_29.symm ?_
        have bd_31 : kt < 120 := by omega
        refine va_cast hx hb hK hP hD hS 1 0 rfl rfl (vp_in_nI (n := kt) (N := 120) bd_31 kc_31_120) dX8_append_41 (fun H locs hP hD hS => ?_)
        obtain ⟨f_30, ef_30⟩ : ∃ gg9 : Nat → Int32, gg9 = upd gT (Int32.toNatClampNeg (nI (kt))) (vp_nar .char x_29) := ⟨_, rfl⟩
        have hPD : kPD dC dI A [(jT, .inr (8, [.ref t0, .int (nI (kt))])), (t0, .inl (cC, 120, .inl f_30))] H := by rw [ef_30]; exact ⟨hP, hD⟩
        have hP := hPD.1
        have hD := hPD.2
        refine lv_aload_n hx hb dX8_append_42 rfl (lv_at hl 2 rfl) ?_
        refine lv_dup hx hb dX8_append_43 rfl ?_
        refine va_get (D := (dC, dI)) (ci := 8) (v := .int (nI (kt))) (C := RX8) (T := TX8) (N := 2) hx hb hts (fun _ h => List.mem_cons_of_mem _ (List.mem_append_right _ h)) hown hK hP 0 rfl rfl 1 kc_l_1_2 (hts (.fieldLink RX8 15 "NotEnded$Tape" "length" "I") (List.mem_cons_of_mem _ (List.mem_append_left _ (List.mem_of_getElem? (i := 0) rfl)))) (fun _ h9 => h9) rfl dX8_append_44 ?_
        refine lv_iconst (v := 1) hx hb dX8_append_47 kc_i_1 ?_
        refine lv_iadd hx hb dX8_append_48 ?_
        refine lv_topi (fun y_32 ey_32 => ?_)
        obtain rfl : y_32 = nI (kt + 1) := ey_32.trans (nI_add (kt) (1))
        refine va_put (D := (dC, dI)) (ci := 8) (v := .int (nI (kt + 1))) (ty := tyX8 1) (C := RX8) (T := TX8) (N := 2) hx hb hts (fun _ h => List.mem_cons_of_mem _ (List.mem_append_right _ h)) tyX8 tyX8_ok nmX8 hown hK hP hD hS 0 rfl rfl 1 kc_l_1_2 (hts (.fieldLink RX8 15 "NotEnded$Tape" "length" "I") (List.mem_cons_of_mem _ (List.mem_append_left _ (List.mem_of_getElem? (i := 0) rfl)))) (fun _ h9 => h9) rfl (tyX8_ok 1 kc_l_1_2) rfl rfl (Nat.le_of_ble_eq_true rfl) dX8_append_49 (fun H locs hP hD hS => ?_)
        have hPD : kPD dC dI A [(jT, .inr (8, [.ref t0, .int (nI (kt + 1))])), (t0, .inl (cC, 120, .inl f_30))] H := ⟨hP, hD⟩
        have hP := hPD.1
        have hD := hPD.2
        refine lv_iinc (v := 0) hx hb dX8_append_52 hl (k := 1) rfl (by decide) kc_l_2_4 (kTo [(2, .int 0), (3, .int x_13), (0, .ref jT), (1, .int p0)]) (fun ls hl => ?_)
        refine lv_goto (tgt := 3) hx hb dX8_append_55 kc_t_55_m52 ?_
        refine lv_iload_n hx hb dX8_append_3 rfl (lv_at hl 0 rfl) ?_
        refine lv_if_lt (tgt := 58) hx hb dX8_append_4 kc_t_4_54 (fun c_33 => absurd c_33 (by decide)) (fun c_33 => ?_)
        refine lv_iload_n hx hb dX8_append_7 rfl (lv_at hl 3 rfl) ?_
        refine lv_iload_n hx hb dX8_append_8 rfl (lv_at hl 0 rfl) ?_
        obtain ⟨x_34, ex_34⟩ : ∃ z : Int32, z = (Int32.toUInt32 p0 >>> (Int32.toUInt32 0 &&& Int32.toUInt32 31)).toInt32 := ⟨_, rfl⟩
        refine lv_iushr (v := x_34) hx hb dX8_append_9 ex_34.symm ?_
        refine lv_sipush (v := 255) hx hb dX8_append_10 kc_s_255 ?_
        refine lv_iand hx hb dX8_append_13 ?_
        refine lv_topi (fun x_35 ex_35 => ?_)
        refine lv_istore_n hx hb dX8_append_14 rfl hl kc_l_3_4 (kTo [(3, .int x_35), (2, .int 0), (0, .ref jT), (1, .int p0)]) (fun ls hl => ?_)
        refine lv_iload_n hx hb dX8_append_15 rfl (lv_at hl 0 rfl) ?_
        have hy_36 : kS p0 0 = x_35 := by rw [ex_35, ex_34]; exact (kSu0 p0).symm
        refine lv_if_eq (tgt := 52) hx hb dX8_append_16 kc_t_16_36 (fun c_37 => ?_) (fun c_37 => ?_)
        · refine lv_iinc (v := (-8)) hx hb dX8_append_52 hl (k := 1) rfl (by decide) kc_l_2_4 (kTo [(2, .int (-8)), (3, .int x_35), (0, .ref jT), (1, .int p0)]) (fun ls hl => ?_)
          refine lv_goto (tgt := 3) hx hb dX8_append_55 kc_t_55_m52 ?_
          refine lv_iload_n hx hb dX8_append_3 rfl (lv_at hl 0 rfl) ?_
          refine lv_if_lt (tgt := 58) hx hb dX8_append_4 kc_t_4_54 (fun c_38 => ?_) (fun c_38 => absurd (by decide) c_38)
          have hk8 : kCnt p0 = 1 := by simp [kCnt, kC1, hy_4, hy_9, hy_14, hy_36, c_5, c_10, c_15, c_37]
          have hP9 := hP
          have hD9 := hD
          have hK9 := hK
          rw [hQ]
          exact W.vret hx hb hr (fun t ht hW => ⟨⟨(f_30, (kt + 1), (kUpN bt kt (kSn p0 8))), rfl, ⟨by unfold kPut; rw [kP1_z (k := 24) (hy_4.trans c_5), kP1_z (k := 16) (hy_9.trans c_10), kP1_n (k := 8) (fun z => c_15 (hy_14.symm.trans z)), kP1_z (k := 0) (hy_36.trans c_37)], (kUpB (by omega) ef_30 ex_29 hy_14 hbt), (kUp8 hb8), by omega⟩,  by rw [ht]; exact hP9, va_K.moved hW.alike hK9, hD9⟩, hS.F ht⟩) hS.2.2 dX8_append_58
        · refine lv_aload_n hx hb dX8_append_19 rfl (lv_at hl 2 rfl) ?_
          refine va_get (D := (dC, dI)) (ci := 8) (v := .int (nI (kt + 1))) (C := RX8) (T := TX8) (N := 2) hx hb hts (fun _ h => List.mem_cons_of_mem _ (List.mem_append_right _ h)) hown hK hP 0 rfl rfl 1 kc_l_1_2 (hts (.fieldLink RX8 15 "NotEnded$Tape" "length" "I") (List.mem_cons_of_mem _ (List.mem_append_left _ (List.mem_of_getElem? (i := 0) rfl)))) (fun _ h9 => h9) rfl dX8_append_20 ?_
          refine lv_aload_n hx hb dX8_append_23 rfl (lv_at hl 2 rfl) ?_
          refine va_get (D := (dC, dI)) (ci := 8) (v := .ref t0) (C := RX8) (T := TX8) (N := 2) hx hb hts (fun _ h => List.mem_cons_of_mem _ (List.mem_append_right _ h)) hown hK hP 0 rfl rfl 0 kc_l_0_2 (hts (.fieldLink RX8 9 "NotEnded$Tape" "signs" "[C") (List.mem_cons_of_mem _ (List.mem_append_left _ (List.mem_of_getElem? (i := 1) rfl)))) (fun _ h9 => h9) rfl dX8_append_24 ?_
          refine va_alen hx hb hK hP 1 0 rfl rfl (v := 120) rfl dX8_append_27 ?_
          have hy_36_c : kC1 p0 0 = 1 := by simp [kC1, hy_36, c_37]
          refine lv_icmp_ge (tgt := 52) hx hb dX8_append_28 kc_t_28_24 (fun c_39 => absurd c_39 (nI_ge (a := kt + 1) (b := 120) (by omega) (by decide))) (fun c_39 => ?_)
          refine lv_aload_n hx hb dX8_append_31 rfl (lv_at hl 2 rfl) ?_
          refine va_get (D := (dC, dI)) (ci := 8) (v := .ref t0) (C := RX8) (T := TX8) (N := 2) hx hb hts (fun _ h => List.mem_cons_of_mem _ (List.mem_append_right _ h)) hown hK hP 0 rfl rfl 0 kc_l_0_2 (hts (.fieldLink RX8 9 "NotEnded$Tape" "signs" "[C") (List.mem_cons_of_mem _ (List.mem_append_left _ (List.mem_of_getElem? (i := 1) rfl)))) (fun _ h9 => h9) rfl dX8_append_32 ?_
          refine lv_aload_n hx hb dX8_append_35 rfl (lv_at hl 2 rfl) ?_
          refine va_get (D := (dC, dI)) (ci := 8) (v := .int (nI (kt + 1))) (C := RX8) (T := TX8) (N := 2) hx hb hts (fun _ h => List.mem_cons_of_mem _ (List.mem_append_right _ h)) hown hK hP 0 rfl rfl 1 kc_l_1_2 (hts (.fieldLink RX8 15 "NotEnded$Tape" "length" "I") (List.mem_cons_of_mem _ (List.mem_append_left _ (List.mem_of_getElem? (i := 0) rfl)))) (fun _ h9 => h9) rfl dX8_append_36 ?_
          refine lv_iload_n hx hb dX8_append_39 rfl (lv_at hl 0 rfl) ?_
          obtain ⟨x_40, ex_40⟩ : ∃ z : Int32, z = (Int32.toUInt32 x_35 % 65536).toInt32 := ⟨_, rfl⟩
          refine lv_i2c (v := x_40) hx hb dX8_append_40 ex_40.symm ?_
          have bd_42 : kt + 1 < 120 := by omega
          refine va_cast hx hb hK hP hD hS 1 0 rfl rfl (vp_in_nI (n := kt + 1) (N := 120) bd_42 kc_31_120) dX8_append_41 (fun H locs hP hD hS => ?_)
          obtain ⟨f_41, ef_41⟩ : ∃ gg9 : Nat → Int32, gg9 = upd f_30 (Int32.toNatClampNeg (nI (kt + 1))) (vp_nar .char x_40) := ⟨_, rfl⟩
          have hPD : kPD dC dI A [(jT, .inr (8, [.ref t0, .int (nI (kt + 1))])), (t0, .inl (cC, 120, .inl f_41))] H := by rw [ef_41]; exact ⟨hP, hD⟩
          have hP := hPD.1
          have hD := hPD.2
          refine lv_aload_n hx hb dX8_append_42 rfl (lv_at hl 2 rfl) ?_
          refine lv_dup hx hb dX8_append_43 rfl ?_
          refine va_get (D := (dC, dI)) (ci := 8) (v := .int (nI (kt + 1))) (C := RX8) (T := TX8) (N := 2) hx hb hts (fun _ h => List.mem_cons_of_mem _ (List.mem_append_right _ h)) hown hK hP 0 rfl rfl 1 kc_l_1_2 (hts (.fieldLink RX8 15 "NotEnded$Tape" "length" "I") (List.mem_cons_of_mem _ (List.mem_append_left _ (List.mem_of_getElem? (i := 0) rfl)))) (fun _ h9 => h9) rfl dX8_append_44 ?_
          refine lv_iconst (v := 1) hx hb dX8_append_47 kc_i_1 ?_
          refine lv_iadd hx hb dX8_append_48 ?_
          refine lv_topi (fun y_43 ey_43 => ?_)
          obtain rfl : y_43 = nI (kt + 1 + 1) := ey_43.trans (nI_add (kt + 1) (1))
          refine va_put (D := (dC, dI)) (ci := 8) (v := .int (nI (kt + 1 + 1))) (ty := tyX8 1) (C := RX8) (T := TX8) (N := 2) hx hb hts (fun _ h => List.mem_cons_of_mem _ (List.mem_append_right _ h)) tyX8 tyX8_ok nmX8 hown hK hP hD hS 0 rfl rfl 1 kc_l_1_2 (hts (.fieldLink RX8 15 "NotEnded$Tape" "length" "I") (List.mem_cons_of_mem _ (List.mem_append_left _ (List.mem_of_getElem? (i := 0) rfl)))) (fun _ h9 => h9) rfl (tyX8_ok 1 kc_l_1_2) rfl rfl (Nat.le_of_ble_eq_true rfl) dX8_append_49 (fun H locs hP hD hS => ?_)
          have hPD : kPD dC dI A [(jT, .inr (8, [.ref t0, .int (nI (kt + 1 + 1))])), (t0, .inl (cC, 120, .inl f_41))] H := ⟨hP, hD⟩
          have hP := hPD.1
          have hD := hPD.2
          refine lv_iinc (v := (-8)) hx hb dX8_append_52 hl (k := 1) rfl (by decide) kc_l_2_4 (kTo [(2, .int (-8)), (3, .int x_35), (0, .ref jT), (1, .int p0)]) (fun ls hl => ?_)
          refine lv_goto (tgt := 3) hx hb dX8_append_55 kc_t_55_m52 ?_
          refine lv_iload_n hx hb dX8_append_3 rfl (lv_at hl 0 rfl) ?_
          refine lv_if_lt (tgt := 58) hx hb dX8_append_4 kc_t_4_54 (fun c_44 => ?_) (fun c_44 => absurd (by decide) c_44)
          have hk8 : kCnt p0 = 2 := by simp [kCnt, kC1, hy_4, hy_9, hy_14, hy_36, c_5, c_10, c_15, c_37]
          have hP9 := hP
          have hD9 := hD
          have hK9 := hK
          rw [hQ]
          exact W.vret hx hb hr (fun t ht hW => ⟨⟨(f_41, (kt + 1 + 1), (kUpN (kUpN bt kt (kSn p0 8)) (kt + 1) (kSn p0 0))), rfl, ⟨by unfold kPut; rw [kP1_z (k := 24) (hy_4.trans c_5), kP1_z (k := 16) (hy_9.trans c_10), kP1_n (k := 8) (fun z => c_15 (hy_14.symm.trans z)), kP1_n (k := 0) (fun z => c_37 (hy_36.symm.trans z))], (kUpB (by omega) ef_41 ex_40 hy_36 (kUpB (by omega) ef_30 ex_29 hy_14 hbt)), (kUp8 (kUp8 hb8)), by omega⟩,  by rw [ht]; exact hP9, va_K.moved hW.alike hK9, hD9⟩, hS.F ht⟩) hS.2.2 dX8_append_58
    · refine lv_aload_n hx hb dX8_append_19 rfl (lv_at hl 2 rfl) ?_
      refine va_get (D := (dC, dI)) (ci := 8) (v := .int (nI (kt))) (C := RX8) (T := TX8) (N := 2) hx hb hts (fun _ h => List.mem_cons_of_mem _ (List.mem_append_right _ h)) hown hK hP 0 rfl rfl 1 kc_l_1_2 (hts (.fieldLink RX8 15 "NotEnded$Tape" "length" "I") (List.mem_cons_of_mem _ (List.mem_append_left _ (List.mem_of_getElem? (i := 0) rfl)))) (fun _ h9 => h9) rfl dX8_append_20 ?_
      refine lv_aload_n hx hb dX8_append_23 rfl (lv_at hl 2 rfl) ?_
      refine va_get (D := (dC, dI)) (ci := 8) (v := .ref t0) (C := RX8) (T := TX8) (N := 2) hx hb hts (fun _ h => List.mem_cons_of_mem _ (List.mem_append_right _ h)) hown hK hP 0 rfl rfl 0 kc_l_0_2 (hts (.fieldLink RX8 9 "NotEnded$Tape" "signs" "[C") (List.mem_cons_of_mem _ (List.mem_append_left _ (List.mem_of_getElem? (i := 1) rfl)))) (fun _ h9 => h9) rfl dX8_append_24 ?_
      refine va_alen hx hb hK hP 1 0 rfl rfl (v := 120) rfl dX8_append_27 ?_
      have hy_9_c : kC1 p0 16 = 1 := by simp [kC1, hy_9, c_10]
      refine lv_icmp_ge (tgt := 52) hx hb dX8_append_28 kc_t_28_24 (fun c_45 => absurd c_45 (nI_ge (a := kt) (b := 120) (by omega) (by decide))) (fun c_45 => ?_)
      refine lv_aload_n hx hb dX8_append_31 rfl (lv_at hl 2 rfl) ?_
      refine va_get (D := (dC, dI)) (ci := 8) (v := .ref t0) (C := RX8) (T := TX8) (N := 2) hx hb hts (fun _ h => List.mem_cons_of_mem _ (List.mem_append_right _ h)) hown hK hP 0 rfl rfl 0 kc_l_0_2 (hts (.fieldLink RX8 9 "NotEnded$Tape" "signs" "[C") (List.mem_cons_of_mem _ (List.mem_append_left _ (List.mem_of_getElem? (i := 1) rfl)))) (fun _ h9 => h9) rfl dX8_append_32 ?_
      refine lv_aload_n hx hb dX8_append_35 rfl (lv_at hl 2 rfl) ?_
      refine va_get (D := (dC, dI)) (ci := 8) (v := .int (nI (kt))) (C := RX8) (T := TX8) (N := 2) hx hb hts (fun _ h => List.mem_cons_of_mem _ (List.mem_append_right _ h)) hown hK hP 0 rfl rfl 1 kc_l_1_2 (hts (.fieldLink RX8 15 "NotEnded$Tape" "length" "I") (List.mem_cons_of_mem _ (List.mem_append_left _ (List.mem_of_getElem? (i := 0) rfl)))) (fun _ h9 => h9) rfl dX8_append_36 ?_
      refine lv_iload_n hx hb dX8_append_39 rfl (lv_at hl 0 rfl) ?_
      obtain ⟨x_46, ex_46⟩ : ∃ z : Int32, z = (Int32.toUInt32 x_8 % 65536).toInt32 := ⟨_, rfl⟩
      refine lv_i2c (v := x_46) hx hb dX8_append_40 ex_46.symm ?_
      have bd_48 : kt < 120 := by omega
      refine va_cast hx hb hK hP hD hS 1 0 rfl rfl (vp_in_nI (n := kt) (N := 120) bd_48 kc_31_120) dX8_append_41 (fun H locs hP hD hS => ?_)
      obtain ⟨f_47, ef_47⟩ : ∃ gg9 : Nat → Int32, gg9 = upd gT (Int32.toNatClampNeg (nI (kt))) (vp_nar .char x_46) := ⟨_, rfl⟩
      have hPD : kPD dC dI A [(jT, .inr (8, [.ref t0, .int (nI (kt))])), (t0, .inl (cC, 120, .inl f_47))] H := by rw [ef_47]; exact ⟨hP, hD⟩
      have hP := hPD.1
      have hD := hPD.2
      refine lv_aload_n hx hb dX8_append_42 rfl (lv_at hl 2 rfl) ?_
      refine lv_dup hx hb dX8_append_43 rfl ?_
      refine va_get (D := (dC, dI)) (ci := 8) (v := .int (nI (kt))) (C := RX8) (T := TX8) (N := 2) hx hb hts (fun _ h => List.mem_cons_of_mem _ (List.mem_append_right _ h)) hown hK hP 0 rfl rfl 1 kc_l_1_2 (hts (.fieldLink RX8 15 "NotEnded$Tape" "length" "I") (List.mem_cons_of_mem _ (List.mem_append_left _ (List.mem_of_getElem? (i := 0) rfl)))) (fun _ h9 => h9) rfl dX8_append_44 ?_
      refine lv_iconst (v := 1) hx hb dX8_append_47 kc_i_1 ?_
      refine lv_iadd hx hb dX8_append_48 ?_
      refine lv_topi (fun y_49 ey_49 => ?_)
      obtain rfl : y_49 = nI (kt + 1) := ey_49.trans (nI_add (kt) (1))
      refine va_put (D := (dC, dI)) (ci := 8) (v := .int (nI (kt + 1))) (ty := tyX8 1) (C := RX8) (T := TX8) (N := 2) hx hb hts (fun _ h => List.mem_cons_of_mem _ (List.mem_append_right _ h)) tyX8 tyX8_ok nmX8 hown hK hP hD hS 0 rfl rfl 1 kc_l_1_2 (hts (.fieldLink RX8 15 "NotEnded$Tape" "length" "I") (List.mem_cons_of_mem _ (List.mem_append_left _ (List.mem_of_getElem? (i := 0) rfl)))) (fun _ h9 => h9) rfl (tyX8_ok 1 kc_l_1_2) rfl rfl (Nat.le_of_ble_eq_true rfl) dX8_append_49 (fun H locs hP hD hS => ?_)
      have hPD : kPD dC dI A [(jT, .inr (8, [.ref t0, .int (nI (kt + 1))])), (t0, .inl (cC, 120, .inl f_47))] H := ⟨hP, hD⟩
      have hP := hPD.1
      have hD := hPD.2
      refine lv_iinc (v := 8) hx hb dX8_append_52 hl (k := 1) rfl (by decide) kc_l_2_4 (kTo [(2, .int 8), (3, .int x_8), (0, .ref jT), (1, .int p0)]) (fun ls hl => ?_)
      refine lv_goto (tgt := 3) hx hb dX8_append_55 kc_t_55_m52 ?_
      refine lv_iload_n hx hb dX8_append_3 rfl (lv_at hl 0 rfl) ?_
      refine lv_if_lt (tgt := 58) hx hb dX8_append_4 kc_t_4_54 (fun c_50 => absurd c_50 (by decide)) (fun c_50 => ?_)
      refine lv_iload_n hx hb dX8_append_7 rfl (lv_at hl 3 rfl) ?_
      refine lv_iload_n hx hb dX8_append_8 rfl (lv_at hl 0 rfl) ?_
      obtain ⟨x_51, ex_51⟩ : ∃ z : Int32, z = (Int32.toUInt32 p0 >>> (Int32.toUInt32 8 &&& Int32.toUInt32 31)).toInt32 := ⟨_, rfl⟩
      refine lv_iushr (v := x_51) hx hb dX8_append_9 ex_51.symm ?_
      refine lv_sipush (v := 255) hx hb dX8_append_10 kc_s_255 ?_
      refine lv_iand hx hb dX8_append_13 ?_
      refine lv_topi (fun x_52 ex_52 => ?_)
      refine lv_istore_n hx hb dX8_append_14 rfl hl kc_l_3_4 (kTo [(3, .int x_52), (2, .int 8), (0, .ref jT), (1, .int p0)]) (fun ls hl => ?_)
      refine lv_iload_n hx hb dX8_append_15 rfl (lv_at hl 0 rfl) ?_
      have hy_53 : kS p0 8 = x_52 := by rw [ex_52, ex_51]; exact (kSu8 p0).symm
      refine lv_if_eq (tgt := 52) hx hb dX8_append_16 kc_t_16_36 (fun c_54 => ?_) (fun c_54 => ?_)
      · refine lv_iinc (v := 0) hx hb dX8_append_52 hl (k := 1) rfl (by decide) kc_l_2_4 (kTo [(2, .int 0), (3, .int x_52), (0, .ref jT), (1, .int p0)]) (fun ls hl => ?_)
        refine lv_goto (tgt := 3) hx hb dX8_append_55 kc_t_55_m52 ?_
        refine lv_iload_n hx hb dX8_append_3 rfl (lv_at hl 0 rfl) ?_
        refine lv_if_lt (tgt := 58) hx hb dX8_append_4 kc_t_4_54 (fun c_55 => absurd c_55 (by decide)) (fun c_55 => ?_)
        refine lv_iload_n hx hb dX8_append_7 rfl (lv_at hl 3 rfl) ?_
        refine lv_iload_n hx hb dX8_append_8 rfl (lv_at hl 0 rfl) ?_
        obtain ⟨x_56, ex_56⟩ : ∃ z : Int32, z = (Int32.toUInt32 p0 >>> (Int32.toUInt32 0 &&& Int32.toUInt32 31)).toInt32 := ⟨_, rfl⟩
        refine lv_iushr (v := x_56) hx hb dX8_append_9 ex_56.symm ?_
        refine lv_sipush (v := 255) hx hb dX8_append_10 kc_s_255 ?_
        refine lv_iand hx hb dX8_append_13 ?_
        refine lv_topi (fun x_57 ex_57 => ?_)
        refine lv_istore_n hx hb dX8_append_14 rfl hl kc_l_3_4 (kTo [(3, .int x_57), (2, .int 0), (0, .ref jT), (1, .int p0)]) (fun ls hl => ?_)
        refine lv_iload_n hx hb dX8_append_15 rfl (lv_at hl 0 rfl) ?_
        have hy_58 : kS p0 0 = x_57 := by rw [ex_57, ex_56]; exact (kSu0 p0).symm
        refine lv_if_eq (tgt := 52) hx hb dX8_append_16 kc_t_16_36 (fun c_59 => ?_) (fun c_59 => ?_)
        · refine lv_iinc (v := (-8)) hx hb dX8_append_52 hl (k := 1) rfl (by decide) kc_l_2_4 (kTo [(2, .int (-8)), (3, .int x_57), (0, .ref jT), (1, .int p0)]) (fun ls hl => ?_)
          refine lv_goto (tgt := 3) hx hb dX8_append_55 kc_t_55_m52 ?_
          refine lv_iload_n hx hb dX8_append_3 rfl (lv_at hl 0 rfl) ?_
          refine lv_if_lt (tgt := 58) hx hb dX8_append_4 kc_t_4_54 (fun c_60 => ?_) (fun c_60 => absurd (by decide) c_60)
          have hk8 : kCnt p0 = 1 := by simp [kCnt, kC1, hy_4, hy_9, hy_53, hy_58, c_5, c_10, c_54, c_59]
          have hP9 := hP
          have hD9 := hD
          have hK9 := hK
          rw [hQ]
          exact W.vret hx hb hr (fun t ht hW => ⟨⟨(f_47, (kt + 1), (kUpN bt kt (kSn p0 16))), rfl, ⟨by unfold kPut; rw [kP1_z (k := 24) (hy_4.trans c_5), kP1_n (k := 16) (fun z => c_10 (hy_9.symm.trans z)), kP1_z (k := 8) (hy_53.trans c_54), kP1_z (k := 0) (hy_58.trans c_59)], (kUpB (by omega) ef_47 ex_46 hy_9 hbt), (kUp8 hb8), by omega⟩,  by rw [ht]; exact hP9, va_K.moved hW.alike hK9, hD9⟩, hS.F ht⟩) hS.2.2 dX8_append_58
        · refine lv_aload_n hx hb dX8_append_19 rfl (lv_at hl 2 rfl) ?_
          refine va_get (D := (dC, dI)) (ci := 8) (v := .int (nI (kt + 1))) (C := RX8) (T := TX8) (N := 2) hx hb hts (fun _ h => List.mem_cons_of_mem _ (List.mem_append_right _ h)) hown hK hP 0 rfl rfl 1 kc_l_1_2 (hts (.fieldLink RX8 15 "NotEnded$Tape" "length" "I") (List.mem_cons_of_mem _ (List.mem_append_left _ (List.mem_of_getElem? (i := 0) rfl)))) (fun _ h9 => h9) rfl dX8_append_20 ?_
          refine lv_aload_n hx hb dX8_append_23 rfl (lv_at hl 2 rfl) ?_
          refine va_get (D := (dC, dI)) (ci := 8) (v := .ref t0) (C := RX8) (T := TX8) (N := 2) hx hb hts (fun _ h => List.mem_cons_of_mem _ (List.mem_append_right _ h)) hown hK hP 0 rfl rfl 0 kc_l_0_2 (hts (.fieldLink RX8 9 "NotEnded$Tape" "signs" "[C") (List.mem_cons_of_mem _ (List.mem_append_left _ (List.mem_of_getElem? (i := 1) rfl)))) (fun _ h9 => h9) rfl dX8_append_24 ?_
          refine va_alen hx hb hK hP 1 0 rfl rfl (v := 120) rfl dX8_append_27 ?_
          have hy_58_c : kC1 p0 0 = 1 := by simp [kC1, hy_58, c_59]
          refine lv_icmp_ge (tgt := 52) hx hb dX8_append_28 kc_t_28_24 (fun c_61 => absurd c_61 (nI_ge (a := kt + 1) (b := 120) (by omega) (by decide))) (fun c_61 => ?_)
          refine lv_aload_n hx hb dX8_append_31 rfl (lv_at hl 2 rfl) ?_
          refine va_get (D := (dC, dI)) (ci := 8) (v := .ref t0) (C := RX8) (T := TX8) (N := 2) hx hb hts (fun _ h => List.mem_cons_of_mem _ (List.mem_append_right _ h)) hown hK hP 0 rfl rfl 0 kc_l_0_2 (hts (.fieldLink RX8 9 "NotEnded$Tape" "signs" "[C") (List.mem_cons_of_mem _ (List.mem_append_left _ (List.mem_of_getElem? (i := 1) rfl)))) (fun _ h9 => h9) rfl dX8_append_32 ?_
          refine lv_aload_n hx hb dX8_append_35 rfl (lv_at hl 2 rfl) ?_
          refine va_get (D := (dC, dI)) (ci := 8) (v := .int (nI (kt + 1))) (C := RX8) (T := TX8) (N := 2) hx hb hts (fun _ h => List.mem_cons_of_mem _ (List.mem_append_right _ h)) hown hK hP 0 rfl rfl 1 kc_l_1_2 (hts (.fieldLink RX8 15 "NotEnded$Tape" "length" "I") (List.mem_cons_of_mem _ (List.mem_append_left _ (List.mem_of_getElem? (i := 0) rfl)))) (fun _ h9 => h9) rfl dX8_append_36 ?_
          refine lv_iload_n hx hb dX8_append_39 rfl (lv_at hl 0 rfl) ?_
          obtain ⟨x_62, ex_62⟩ : ∃ z : Int32, z = (Int32.toUInt32 x_57 % 65536).toInt32 := ⟨_, rfl⟩
          refine lv_i2c (v := x_62) hx hb dX8_append_40 ex_62.symm ?_
          have bd_64 : kt + 1 < 120 := by omega
          refine va_cast hx hb hK hP hD hS 1 0 rfl rfl (vp_in_nI (n := kt + 1) (N := 120) bd_64 kc_31_120) dX8_append_41 (fun H locs hP hD hS => ?_)
          obtain ⟨f_63, ef_63⟩ : ∃ gg9 : Nat → Int32, gg9 = upd f_47 (Int32.toNatClampNeg (nI (kt + 1))) (vp_nar .char x_62) := ⟨_, rfl⟩
          have hPD : kPD dC dI A [(jT, .inr (8, [.ref t0, .int (nI (kt + 1))])), (t0, .inl (cC, 120, .inl f_63))] H := by rw [ef_63]; exact ⟨hP, hD⟩
          have hP := hPD.1
          have hD := hPD.2
          refine lv_aload_n hx hb dX8_append_42 rfl (lv_at hl 2 rfl) ?_
          refine lv_dup hx hb dX8_append_43 rfl ?_
          refine va_get (D := (dC, dI)) (ci := 8) (v := .int (nI (kt + 1))) (C := RX8) (T := TX8) (N := 2) hx hb hts (fun _ h => List.mem_cons_of_mem _ (List.mem_append_right _ h)) hown hK hP 0 rfl rfl 1 kc_l_1_2 (hts (.fieldLink RX8 15 "NotEnded$Tape" "length" "I") (List.mem_cons_of_mem _ (List.mem_append_left _ (List.mem_of_getElem? (i := 0) rfl)))) (fun _ h9 => h9) rfl dX8_append_44 ?_
          refine lv_iconst (v := 1) hx hb dX8_append_47 kc_i_1 ?_
          refine lv_iadd hx hb dX8_append_48 ?_
          refine lv_topi (fun y_65 ey_65 => ?_)
          obtain rfl : y_65 = nI (kt + 1 + 1) := ey_65.trans (nI_add (kt + 1) (1))
          refine va_put (D := (dC, dI)) (ci := 8) (v := .int (nI (kt + 1 + 1))) (ty := tyX8 1) (C := RX8) (T := TX8) (N := 2) hx hb hts (fun _ h => List.mem_cons_of_mem _ (List.mem_append_right _ h)) tyX8 tyX8_ok nmX8 hown hK hP hD hS 0 rfl rfl 1 kc_l_1_2 (hts (.fieldLink RX8 15 "NotEnded$Tape" "length" "I") (List.mem_cons_of_mem _ (List.mem_append_left _ (List.mem_of_getElem? (i := 0) rfl)))) (fun _ h9 => h9) rfl (tyX8_ok 1 kc_l_1_2) rfl rfl (Nat.le_of_ble_eq_true rfl) dX8_append_49 (fun H locs hP hD hS => ?_)
          have hPD : kPD dC dI A [(jT, .inr (8, [.ref t0, .int (nI (kt + 1 + 1))])), (t0, .inl (cC, 120, .inl f_63))] H := ⟨hP, hD⟩
          have hP := hPD.1
          have hD := hPD.2
          refine lv_iinc (v := (-8)) hx hb dX8_append_52 hl (k := 1) rfl (by decide) kc_l_2_4 (kTo [(2, .int (-8)), (3, .int x_57), (0, .ref jT), (1, .int p0)]) (fun ls hl => ?_)
          refine lv_goto (tgt := 3) hx hb dX8_append_55 kc_t_55_m52 ?_
          refine lv_iload_n hx hb dX8_append_3 rfl (lv_at hl 0 rfl) ?_
          refine lv_if_lt (tgt := 58) hx hb dX8_append_4 kc_t_4_54 (fun c_66 => ?_) (fun c_66 => absurd (by decide) c_66)
          have hk8 : kCnt p0 = 2 := by simp [kCnt, kC1, hy_4, hy_9, hy_53, hy_58, c_5, c_10, c_54, c_59]
          have hP9 := hP
          have hD9 := hD
          have hK9 := hK
          rw [hQ]
          exact W.vret hx hb hr (fun t ht hW => ⟨⟨(f_63, (kt + 1 + 1), (kUpN (kUpN bt kt (kSn p0 16)) (kt + 1) (kSn p0 0))), rfl, ⟨by unfold kPut; rw [kP1_z (k := 24) (hy_4.trans c_5), kP1_n (k := 16) (fun z => c_10 (hy_9.symm.trans z)), kP1_z (k := 8) (hy_53.trans c_54), kP1_n (k := 0) (fun z => c_59 (hy_58.symm.trans z))], (kUpB (by omega) ef_63 ex_62 hy_58 (kUpB (by omega) ef_47 ex_46 hy_9 hbt)), (kUp8 (kUp8 hb8)), by omega⟩,  by rw [ht]; exact hP9, va_K.moved hW.alike hK9, hD9⟩, hS.F ht⟩) hS.2.2 dX8_append_58
      · refine lv_aload_n hx hb dX8_append_19 rfl (lv_at hl 2 rfl) ?_
        refine va_get (D := (dC, dI)) (ci := 8) (v := .int (nI (kt + 1))) (C := RX8) (T := TX8) (N := 2) hx hb hts (fun _ h => List.mem_cons_of_mem _ (List.mem_append_right _ h)) hown hK hP 0 rfl rfl 1 kc_l_1_2 (hts (.fieldLink RX8 15 "NotEnded$Tape" "length" "I") (List.mem_cons_of_mem _ (List.mem_append_left _ (List.mem_of_getElem? (i := 0) rfl)))) (fun _ h9 => h9) rfl dX8_append_20 ?_
        refine lv_aload_n hx hb dX8_append_23 rfl (lv_at hl 2 rfl) ?_
        refine va_get (D := (dC, dI)) (ci := 8) (v := .ref t0) (C := RX8) (T := TX8) (N := 2) hx hb hts (fun _ h => List.mem_cons_of_mem _ (List.mem_append_right _ h)) hown hK hP 0 rfl rfl 0 kc_l_0_2 (hts (.fieldLink RX8 9 "NotEnded$Tape" "signs" "[C") (List.mem_cons_of_mem _ (List.mem_append_left _ (List.mem_of_getElem? (i := 1) rfl)))) (fun _ h9 => h9) rfl dX8_append_24 ?_
        refine va_alen hx hb hK hP 1 0 rfl rfl (v := 120) rfl dX8_append_27 ?_
        have hy_53_c : kC1 p0 8 = 1 := by simp [kC1, hy_53, c_54]
        refine lv_icmp_ge (tgt := 52) hx hb dX8_append_28 kc_t_28_24 (fun c_67 => absurd c_67 (nI_ge (a := kt + 1) (b := 120) (by omega) (by decide))) (fun c_67 => ?_)
        refine lv_aload_n hx hb dX8_append_31 rfl (lv_at hl 2 rfl) ?_
        refine va_get (D := (dC, dI)) (ci := 8) (v := .ref t0) (C := RX8) (T := TX8) (N := 2) hx hb hts (fun _ h => List.mem_cons_of_mem _ (List.mem_append_right _ h)) hown hK hP 0 rfl rfl 0 kc_l_0_2 (hts (.fieldLink RX8 9 "NotEnded$Tape" "signs" "[C") (List.mem_cons_of_mem _ (List.mem_append_left _ (List.mem_of_getElem? (i := 1) rfl)))) (fun _ h9 => h9) rfl dX8_append_32 ?_
        refine lv_aload_n hx hb dX8_append_35 rfl (lv_at hl 2 rfl) ?_
        refine va_get (D := (dC, dI)) (ci := 8) (v := .int (nI (kt + 1))) (C := RX8) (T := TX8) (N := 2) hx hb hts (fun _ h => List.mem_cons_of_mem _ (List.mem_append_right _ h)) hown hK hP 0 rfl rfl 1 kc_l_1_2 (hts (.fieldLink RX8 15 "NotEnded$Tape" "length" "I") (List.mem_cons_of_mem _ (List.mem_append_left _ (List.mem_of_getElem? (i := 0) rfl)))) (fun _ h9 => h9) rfl dX8_append_36 ?_
        refine lv_iload_n hx hb dX8_append_39 rfl (lv_at hl 0 rfl) ?_
        obtain ⟨x_68, ex_68⟩ : ∃ z : Int32, z = (Int32.toUInt32 x_52 % 65536).toInt32 := ⟨_, rfl⟩
        refine lv_i2c (v := x_68) hx hb dX8_append_40 ex_68.symm ?_
        have bd_70 : kt + 1 < 120 := by omega
        refine va_cast hx hb hK hP hD hS 1 0 rfl rfl (vp_in_nI (n := kt + 1) (N := 120) bd_70 kc_31_120) dX8_append_41 (fun H locs hP hD hS => ?_)
        obtain ⟨f_69, ef_69⟩ : ∃ gg9 : Nat → Int32, gg9 = upd f_47 (Int32.toNatClampNeg (nI (kt + 1))) (vp_nar .char x_68) := ⟨_, rfl⟩
        have hPD : kPD dC dI A [(jT, .inr (8, [.ref t0, .int (nI (kt + 1))])), (t0, .inl (cC, 120, .inl f_69))] H := by rw [ef_69]; exact ⟨hP, hD⟩
        have hP := hPD.1
        have hD := hPD.2
        refine lv_aload_n hx hb dX8_append_42 rfl (lv_at hl 2 rfl) ?_
        refine lv_dup hx hb dX8_append_43 rfl ?_
        refine va_get (D := (dC, dI)) (ci := 8) (v := .int (nI (kt + 1))) (C := RX8) (T := TX8) (N := 2) hx hb hts (fun _ h => List.mem_cons_of_mem _ (List.mem_append_right _ h)) hown hK hP 0 rfl rfl 1 kc_l_1_2 (hts (.fieldLink RX8 15 "NotEnded$Tape" "length" "I") (List.mem_cons_of_mem _ (List.mem_append_left _ (List.mem_of_getElem? (i := 0) rfl)))) (fun _ h9 => h9) rfl dX8_append_44 ?_
        refine lv_iconst (v := 1) hx hb dX8_append_47 kc_i_1 ?_
        refine lv_iadd hx hb dX8_append_48 ?_
        refine lv_topi (fun y_71 ey_71 => ?_)
        obtain rfl : y_71 = nI (kt + 1 + 1) := ey_71.trans (nI_add (kt + 1) (1))
        refine va_put (D := (dC, dI)) (ci := 8) (v := .int (nI (kt + 1 + 1))) (ty := tyX8 1) (C := RX8) (T := TX8) (N := 2) hx hb hts (fun _ h => List.mem_cons_of_mem _ (List.mem_append_right _ h)) tyX8 tyX8_ok nmX8 hown hK hP hD hS 0 rfl rfl 1 kc_l_1_2 (hts (.fieldLink RX8 15 "NotEnded$Tape" "length" "I") (List.mem_cons_of_mem _ (List.mem_append_left _ (List.mem_of_getElem? (i := 0) rfl)))) (fun _ h9 => h9) rfl (tyX8_ok 1 kc_l_1_2) rfl rfl (Nat.le_of_ble_eq_true rfl) dX8_append_49 (fun H locs hP hD hS => ?_)
        have hPD : kPD dC dI A [(jT, .inr (8, [.ref t0, .int (nI (kt + 1 + 1))])), (t0, .inl (cC, 120, .inl f_69))] H := ⟨hP, hD⟩
        have hP := hPD.1
        have hD := hPD.2
        refine lv_iinc (v := 0) hx hb dX8_append_52 hl (k := 1) rfl (by decide) kc_l_2_4 (kTo [(2, .int 0), (3, .int x_52), (0, .ref jT), (1, .int p0)]) (fun ls hl => ?_)
        refine lv_goto (tgt := 3) hx hb dX8_append_55 kc_t_55_m52 ?_
        refine lv_iload_n hx hb dX8_append_3 rfl (lv_at hl 0 rfl) ?_
        refine lv_if_lt (tgt := 58) hx hb dX8_append_4 kc_t_4_54 (fun c_72 => absurd c_72 (by decide)) (fun c_72 => ?_)
        refine lv_iload_n hx hb dX8_append_7 rfl (lv_at hl 3 rfl) ?_
        refine lv_iload_n hx hb dX8_append_8 rfl (lv_at hl 0 rfl) ?_
        obtain ⟨x_73, ex_73⟩ : ∃ z : Int32, z = (Int32.toUInt32 p0 >>> (Int32.toUInt32 0 &&& Int32.toUInt32 31)).toInt32 := ⟨_, rfl⟩
        refine lv_iushr (v := x_73) hx hb dX8_append_9 ex_73.symm ?_
        refine lv_sipush (v := 255) hx hb dX8_append_10 kc_s_255 ?_
        refine lv_iand hx hb dX8_append_13 ?_
        refine lv_topi (fun x_74 ex_74 => ?_)
        refine lv_istore_n hx hb dX8_append_14 rfl hl kc_l_3_4 (kTo [(3, .int x_74), (2, .int 0), (0, .ref jT), (1, .int p0)]) (fun ls hl => ?_)
        refine lv_iload_n hx hb dX8_append_15 rfl (lv_at hl 0 rfl) ?_
        have hy_75 : kS p0 0 = x_74 := by rw [ex_74, ex_73]; exact (kSu0 p0).symm
        refine lv_if_eq (tgt := 52) hx hb dX8_append_16 kc_t_16_36 (fun c_76 => ?_) (fun c_76 => ?_)
        · refine lv_iinc (v := (-8)) hx hb dX8_append_52 hl (k := 1) rfl (by decide) kc_l_2_4 (kTo [(2, .int (-8)), (3, .int x_74), (0, .ref jT), (1, .int p0)]) (fun ls hl => ?_)
          refine lv_goto (tgt := 3) hx hb dX8_append_55 kc_t_55_m52 ?_
          refine lv_iload_n hx hb dX8_append_3 rfl (lv_at hl 0 rfl) ?_
          refine lv_if_lt (tgt := 58) hx hb dX8_append_4 kc_t_4_54 (fun c_77 => ?_) (fun c_77 => absurd (by decide) c_77)
          have hk8 : kCnt p0 = 2 := by simp [kCnt, kC1, hy_4, hy_9, hy_53, hy_75, c_5, c_10, c_54, c_76]
          have hP9 := hP
          have hD9 := hD
          have hK9 := hK
          rw [hQ]
          exact W.vret hx hb hr (fun t ht hW => ⟨⟨(f_69, (kt + 1 + 1), (kUpN (kUpN bt kt (kSn p0 16)) (kt + 1) (kSn p0 8))), rfl, ⟨by unfold kPut; rw [kP1_z (k := 24) (hy_4.trans c_5), kP1_n (k := 16) (fun z => c_10 (hy_9.symm.trans z)), kP1_n (k := 8) (fun z => c_54 (hy_53.symm.trans z)), kP1_z (k := 0) (hy_75.trans c_76)], (kUpB (by omega) ef_69 ex_68 hy_53 (kUpB (by omega) ef_47 ex_46 hy_9 hbt)), (kUp8 (kUp8 hb8)), by omega⟩,  by rw [ht]; exact hP9, va_K.moved hW.alike hK9, hD9⟩, hS.F ht⟩) hS.2.2 dX8_append_58
        · refine lv_aload_n hx hb dX8_append_19 rfl (lv_at hl 2 rfl) ?_
          refine va_get (D := (dC, dI)) (ci := 8) (v := .int (nI (kt + 1 + 1))) (C := RX8) (T := TX8) (N := 2) hx hb hts (fun _ h => List.mem_cons_of_mem _ (List.mem_append_right _ h)) hown hK hP 0 rfl rfl 1 kc_l_1_2 (hts (.fieldLink RX8 15 "NotEnded$Tape" "length" "I") (List.mem_cons_of_mem _ (List.mem_append_left _ (List.mem_of_getElem? (i := 0) rfl)))) (fun _ h9 => h9) rfl dX8_append_20 ?_
          refine lv_aload_n hx hb dX8_append_23 rfl (lv_at hl 2 rfl) ?_
          refine va_get (D := (dC, dI)) (ci := 8) (v := .ref t0) (C := RX8) (T := TX8) (N := 2) hx hb hts (fun _ h => List.mem_cons_of_mem _ (List.mem_append_right _ h)) hown hK hP 0 rfl rfl 0 kc_l_0_2 (hts (.fieldLink RX8 9 "NotEnded$Tape" "signs" "[C") (List.mem_cons_of_mem _ (List.mem_append_left _ (List.mem_of_getElem? (i := 1) rfl)))) (fun _ h9 => h9) rfl dX8_append_24 ?_
          refine va_alen hx hb hK hP 1 0 rfl rfl (v := 120) rfl dX8_append_27 ?_
          have hy_75_c : kC1 p0 0 = 1 := by simp [kC1, hy_75, c_76]
          refine lv_icmp_ge (tgt := 52) hx hb dX8_append_28 kc_t_28_24 (fun c_78 => absurd c_78 (nI_ge (a := kt + 1 + 1) (b := 120) (by omega) (by decide))) (fun c_78 => ?_)
          refine lv_aload_n hx hb dX8_append_31 rfl (lv_at hl 2 rfl) ?_
          refine va_get (D := (dC, dI)) (ci := 8) (v := .ref t0) (C := RX8) (T := TX8) (N := 2) hx hb hts (fun _ h => List.mem_cons_of_mem _ (List.mem_append_right _ h)) hown hK hP 0 rfl rfl 0 kc_l_0_2 (hts (.fieldLink RX8 9 "NotEnded$Tape" "signs" "[C") (List.mem_cons_of_mem _ (List.mem_append_left _ (List.mem_of_getElem? (i := 1) rfl)))) (fun _ h9 => h9) rfl dX8_append_32 ?_
          refine lv_aload_n hx hb dX8_append_35 rfl (lv_at hl 2 rfl) ?_
          refine va_get (D := (dC, dI)) (ci := 8) (v := .int (nI (kt + 1 + 1))) (C := RX8) (T := TX8) (N := 2) hx hb hts (fun _ h => List.mem_cons_of_mem _ (List.mem_append_right _ h)) hown hK hP 0 rfl rfl 1 kc_l_1_2 (hts (.fieldLink RX8 15 "NotEnded$Tape" "length" "I") (List.mem_cons_of_mem _ (List.mem_append_left _ (List.mem_of_getElem? (i := 0) rfl)))) (fun _ h9 => h9) rfl dX8_append_36 ?_
          refine lv_iload_n hx hb dX8_append_39 rfl (lv_at hl 0 rfl) ?_
          obtain ⟨x_79, ex_79⟩ : ∃ z : Int32, z = (Int32.toUInt32 x_74 % 65536).toInt32 := ⟨_, rfl⟩
          refine lv_i2c (v := x_79) hx hb dX8_append_40 ex_79.symm ?_
          have bd_81 : kt + 1 + 1 < 120 := by omega
          refine va_cast hx hb hK hP hD hS 1 0 rfl rfl (vp_in_nI (n := kt + 1 + 1) (N := 120) bd_81 kc_31_120) dX8_append_41 (fun H locs hP hD hS => ?_)
          obtain ⟨f_80, ef_80⟩ : ∃ gg9 : Nat → Int32, gg9 = upd f_69 (Int32.toNatClampNeg (nI (kt + 1 + 1))) (vp_nar .char x_79) := ⟨_, rfl⟩
          have hPD : kPD dC dI A [(jT, .inr (8, [.ref t0, .int (nI (kt + 1 + 1))])), (t0, .inl (cC, 120, .inl f_80))] H := by rw [ef_80]; exact ⟨hP, hD⟩
          have hP := hPD.1
          have hD := hPD.2
          refine lv_aload_n hx hb dX8_append_42 rfl (lv_at hl 2 rfl) ?_
          refine lv_dup hx hb dX8_append_43 rfl ?_
          refine va_get (D := (dC, dI)) (ci := 8) (v := .int (nI (kt + 1 + 1))) (C := RX8) (T := TX8) (N := 2) hx hb hts (fun _ h => List.mem_cons_of_mem _ (List.mem_append_right _ h)) hown hK hP 0 rfl rfl 1 kc_l_1_2 (hts (.fieldLink RX8 15 "NotEnded$Tape" "length" "I") (List.mem_cons_of_mem _ (List.mem_append_left _ (List.mem_of_getElem? (i := 0) rfl)))) (fun _ h9 => h9) rfl dX8_append_44 ?_
          refine lv_iconst (v := 1) hx hb dX8_append_47 kc_i_1 ?_
          refine lv_iadd hx hb dX8_append_48 ?_
          refine lv_topi (fun y_82 ey_82 => ?_)
          obtain rfl : y_82 = nI (kt + 1 + 1 + 1) := ey_82.trans (nI_add (kt + 1 + 1) (1))
          refine va_put (D := (dC, dI)) (ci := 8) (v := .int (nI (kt + 1 + 1 + 1))) (ty := tyX8 1) (C := RX8) (T := TX8) (N := 2) hx hb hts (fun _ h => List.mem_cons_of_mem _ (List.mem_append_right _ h)) tyX8 tyX8_ok nmX8 hown hK hP hD hS 0 rfl rfl 1 kc_l_1_2 (hts (.fieldLink RX8 15 "NotEnded$Tape" "length" "I") (List.mem_cons_of_mem _ (List.mem_append_left _ (List.mem_of_getElem? (i := 0) rfl)))) (fun _ h9 => h9) rfl (tyX8_ok 1 kc_l_1_2) rfl rfl (Nat.le_of_ble_eq_true rfl) dX8_append_49 (fun H locs hP hD hS => ?_)
          have hPD : kPD dC dI A [(jT, .inr (8, [.ref t0, .int (nI (kt + 1 + 1 + 1))])), (t0, .inl (cC, 120, .inl f_80))] H := ⟨hP, hD⟩
          have hP := hPD.1
          have hD := hPD.2
          refine lv_iinc (v := (-8)) hx hb dX8_append_52 hl (k := 1) rfl (by decide) kc_l_2_4 (kTo [(2, .int (-8)), (3, .int x_74), (0, .ref jT), (1, .int p0)]) (fun ls hl => ?_)
          refine lv_goto (tgt := 3) hx hb dX8_append_55 kc_t_55_m52 ?_
          refine lv_iload_n hx hb dX8_append_3 rfl (lv_at hl 0 rfl) ?_
          refine lv_if_lt (tgt := 58) hx hb dX8_append_4 kc_t_4_54 (fun c_83 => ?_) (fun c_83 => absurd (by decide) c_83)
          have hk8 : kCnt p0 = 3 := by simp [kCnt, kC1, hy_4, hy_9, hy_53, hy_75, c_5, c_10, c_54, c_76]
          have hP9 := hP
          have hD9 := hD
          have hK9 := hK
          rw [hQ]
          exact W.vret hx hb hr (fun t ht hW => ⟨⟨(f_80, (kt + 1 + 1 + 1), (kUpN (kUpN (kUpN bt kt (kSn p0 16)) (kt + 1) (kSn p0 8)) (kt + 1 + 1) (kSn p0 0))), rfl, ⟨by unfold kPut; rw [kP1_z (k := 24) (hy_4.trans c_5), kP1_n (k := 16) (fun z => c_10 (hy_9.symm.trans z)), kP1_n (k := 8) (fun z => c_54 (hy_53.symm.trans z)), kP1_n (k := 0) (fun z => c_76 (hy_75.symm.trans z))], (kUpB (by omega) ef_80 ex_79 hy_75 (kUpB (by omega) ef_69 ex_68 hy_53 (kUpB (by omega) ef_47 ex_46 hy_9 hbt))), (kUp8 (kUp8 (kUp8 hb8))), by omega⟩,  by rw [ht]; exact hP9, va_K.moved hW.alike hK9, hD9⟩, hS.F ht⟩) hS.2.2 dX8_append_58
  · refine lv_aload_n hx hb dX8_append_19 rfl (lv_at hl 2 rfl) ?_
    refine va_get (D := (dC, dI)) (ci := 8) (v := .int (nI (kt))) (C := RX8) (T := TX8) (N := 2) hx hb hts (fun _ h => List.mem_cons_of_mem _ (List.mem_append_right _ h)) hown hK hP 0 rfl rfl 1 kc_l_1_2 (hts (.fieldLink RX8 15 "NotEnded$Tape" "length" "I") (List.mem_cons_of_mem _ (List.mem_append_left _ (List.mem_of_getElem? (i := 0) rfl)))) (fun _ h9 => h9) rfl dX8_append_20 ?_
    refine lv_aload_n hx hb dX8_append_23 rfl (lv_at hl 2 rfl) ?_
    refine va_get (D := (dC, dI)) (ci := 8) (v := .ref t0) (C := RX8) (T := TX8) (N := 2) hx hb hts (fun _ h => List.mem_cons_of_mem _ (List.mem_append_right _ h)) hown hK hP 0 rfl rfl 0 kc_l_0_2 (hts (.fieldLink RX8 9 "NotEnded$Tape" "signs" "[C") (List.mem_cons_of_mem _ (List.mem_append_left _ (List.mem_of_getElem? (i := 1) rfl)))) (fun _ h9 => h9) rfl dX8_append_24 ?_
    refine va_alen hx hb hK hP 1 0 rfl rfl (v := 120) rfl dX8_append_27 ?_
    have hy_4_c : kC1 p0 24 = 1 := by simp [kC1, hy_4, c_5]
    refine lv_icmp_ge (tgt := 52) hx hb dX8_append_28 kc_t_28_24 (fun c_84 => absurd c_84 (nI_ge (a := kt) (b := 120) (by omega) (by decide))) (fun c_84 => ?_)
    refine lv_aload_n hx hb dX8_append_31 rfl (lv_at hl 2 rfl) ?_
    refine va_get (D := (dC, dI)) (ci := 8) (v := .ref t0) (C := RX8) (T := TX8) (N := 2) hx hb hts (fun _ h => List.mem_cons_of_mem _ (List.mem_append_right _ h)) hown hK hP 0 rfl rfl 0 kc_l_0_2 (hts (.fieldLink RX8 9 "NotEnded$Tape" "signs" "[C") (List.mem_cons_of_mem _ (List.mem_append_left _ (List.mem_of_getElem? (i := 1) rfl)))) (fun _ h9 => h9) rfl dX8_append_32 ?_
    refine lv_aload_n hx hb dX8_append_35 rfl (lv_at hl 2 rfl) ?_
    refine va_get (D := (dC, dI)) (ci := 8) (v := .int (nI (kt))) (C := RX8) (T := TX8) (N := 2) hx hb hts (fun _ h => List.mem_cons_of_mem _ (List.mem_append_right _ h)) hown hK hP 0 rfl rfl 1 kc_l_1_2 (hts (.fieldLink RX8 15 "NotEnded$Tape" "length" "I") (List.mem_cons_of_mem _ (List.mem_append_left _ (List.mem_of_getElem? (i := 0) rfl)))) (fun _ h9 => h9) rfl dX8_append_36 ?_
    refine lv_iload_n hx hb dX8_append_39 rfl (lv_at hl 0 rfl) ?_
    obtain ⟨x_85, ex_85⟩ : ∃ z : Int32, z = (Int32.toUInt32 x_3 % 65536).toInt32 := ⟨_, rfl⟩
    refine lv_i2c (v := x_85) hx hb dX8_append_40 ex_85.symm ?_
    have bd_87 : kt < 120 := by omega
    refine va_cast hx hb hK hP hD hS 1 0 rfl rfl (vp_in_nI (n := kt) (N := 120) bd_87 kc_31_120) dX8_append_41 (fun H locs hP hD hS => ?_)
    obtain ⟨f_86, ef_86⟩ : ∃ gg9 : Nat → Int32, gg9 = upd gT (Int32.toNatClampNeg (nI (kt))) (vp_nar .char x_85) := ⟨_, rfl⟩
    have hPD : kPD dC dI A [(jT, .inr (8, [.ref t0, .int (nI (kt))])), (t0, .inl (cC, 120, .inl f_86))] H := by rw [ef_86]; exact ⟨hP, hD⟩
    have hP := hPD.1
    have hD := hPD.2
    refine lv_aload_n hx hb dX8_append_42 rfl (lv_at hl 2 rfl) ?_
    refine lv_dup hx hb dX8_append_43 rfl ?_
    refine va_get (D := (dC, dI)) (ci := 8) (v := .int (nI (kt))) (C := RX8) (T := TX8) (N := 2) hx hb hts (fun _ h => List.mem_cons_of_mem _ (List.mem_append_right _ h)) hown hK hP 0 rfl rfl 1 kc_l_1_2 (hts (.fieldLink RX8 15 "NotEnded$Tape" "length" "I") (List.mem_cons_of_mem _ (List.mem_append_left _ (List.mem_of_getElem? (i := 0) rfl)))) (fun _ h9 => h9) rfl dX8_append_44 ?_
    refine lv_iconst (v := 1) hx hb dX8_append_47 kc_i_1 ?_
    refine lv_iadd hx hb dX8_append_48 ?_
    refine lv_topi (fun y_88 ey_88 => ?_)
    obtain rfl : y_88 = nI (kt + 1) := ey_88.trans (nI_add (kt) (1))
    refine va_put (D := (dC, dI)) (ci := 8) (v := .int (nI (kt + 1))) (ty := tyX8 1) (C := RX8) (T := TX8) (N := 2) hx hb hts (fun _ h => List.mem_cons_of_mem _ (List.mem_append_right _ h)) tyX8 tyX8_ok nmX8 hown hK hP hD hS 0 rfl rfl 1 kc_l_1_2 (hts (.fieldLink RX8 15 "NotEnded$Tape" "length" "I") (List.mem_cons_of_mem _ (List.mem_append_left _ (List.mem_of_getElem? (i := 0) rfl)))) (fun _ h9 => h9) rfl (tyX8_ok 1 kc_l_1_2) rfl rfl (Nat.le_of_ble_eq_true rfl) dX8_append_49 (fun H locs hP hD hS => ?_)
    have hPD : kPD dC dI A [(jT, .inr (8, [.ref t0, .int (nI (kt + 1))])), (t0, .inl (cC, 120, .inl f_86))] H := ⟨hP, hD⟩
    have hP := hPD.1
    have hD := hPD.2
    refine lv_iinc (v := 16) hx hb dX8_append_52 hl (k := 1) rfl (by decide) kc_l_2_4 (kTo [(2, .int 16), (3, .int x_3), (0, .ref jT), (1, .int p0)]) (fun ls hl => ?_)
    refine lv_goto (tgt := 3) hx hb dX8_append_55 kc_t_55_m52 ?_
    refine lv_iload_n hx hb dX8_append_3 rfl (lv_at hl 0 rfl) ?_
    refine lv_if_lt (tgt := 58) hx hb dX8_append_4 kc_t_4_54 (fun c_89 => absurd c_89 (by decide)) (fun c_89 => ?_)
    refine lv_iload_n hx hb dX8_append_7 rfl (lv_at hl 3 rfl) ?_
    refine lv_iload_n hx hb dX8_append_8 rfl (lv_at hl 0 rfl) ?_
    obtain ⟨x_90, ex_90⟩ : ∃ z : Int32, z = (Int32.toUInt32 p0 >>> (Int32.toUInt32 16 &&& Int32.toUInt32 31)).toInt32 := ⟨_, rfl⟩
    refine lv_iushr (v := x_90) hx hb dX8_append_9 ex_90.symm ?_
    refine lv_sipush (v := 255) hx hb dX8_append_10 kc_s_255 ?_
    refine lv_iand hx hb dX8_append_13 ?_
    refine lv_topi (fun x_91 ex_91 => ?_)
    refine lv_istore_n hx hb dX8_append_14 rfl hl kc_l_3_4 (kTo [(3, .int x_91), (2, .int 16), (0, .ref jT), (1, .int p0)]) (fun ls hl => ?_)
    refine lv_iload_n hx hb dX8_append_15 rfl (lv_at hl 0 rfl) ?_
    have hy_92 : kS p0 16 = x_91 := by rw [ex_91, ex_90]; exact (kSu16 p0).symm
    refine lv_if_eq (tgt := 52) hx hb dX8_append_16 kc_t_16_36 (fun c_93 => ?_) (fun c_93 => ?_)
    · refine lv_iinc (v := 8) hx hb dX8_append_52 hl (k := 1) rfl (by decide) kc_l_2_4 (kTo [(2, .int 8), (3, .int x_91), (0, .ref jT), (1, .int p0)]) (fun ls hl => ?_)
      refine lv_goto (tgt := 3) hx hb dX8_append_55 kc_t_55_m52 ?_
      refine lv_iload_n hx hb dX8_append_3 rfl (lv_at hl 0 rfl) ?_
      refine lv_if_lt (tgt := 58) hx hb dX8_append_4 kc_t_4_54 (fun c_94 => absurd c_94 (by decide)) (fun c_94 => ?_)
      refine lv_iload_n hx hb dX8_append_7 rfl (lv_at hl 3 rfl) ?_
      refine lv_iload_n hx hb dX8_append_8 rfl (lv_at hl 0 rfl) ?_
      obtain ⟨x_95, ex_95⟩ : ∃ z : Int32, z = (Int32.toUInt32 p0 >>> (Int32.toUInt32 8 &&& Int32.toUInt32 31)).toInt32 := ⟨_, rfl⟩
      refine lv_iushr (v := x_95) hx hb dX8_append_9 ex_95.symm ?_
      refine lv_sipush (v := 255) hx hb dX8_append_10 kc_s_255 ?_
      refine lv_iand hx hb dX8_append_13 ?_
      refine lv_topi (fun x_96 ex_96 => ?_)
      refine lv_istore_n hx hb dX8_append_14 rfl hl kc_l_3_4 (kTo [(3, .int x_96), (2, .int 8), (0, .ref jT), (1, .int p0)]) (fun ls hl => ?_)
      refine lv_iload_n hx hb dX8_append_15 rfl (lv_at hl 0 rfl) ?_
      have hy_97 : kS p0 8 = x_96 := by rw [ex_96, ex_95]; exact (kSu8 p0).symm
      refine lv_if_eq (tgt := 52) hx hb dX8_append_16 kc_t_16_36 (fun c_98 => ?_) (fun c_98 => ?_)
      · refine lv_iinc (v := 0) hx hb dX8_append_52 hl (k := 1) rfl (by decide) kc_l_2_4 (kTo [(2, .int 0), (3, .int x_96), (0, .ref jT), (1, .int p0)]) (fun ls hl => ?_)
        refine lv_goto (tgt := 3) hx hb dX8_append_55 kc_t_55_m52 ?_
        refine lv_iload_n hx hb dX8_append_3 rfl (lv_at hl 0 rfl) ?_
        refine lv_if_lt (tgt := 58) hx hb dX8_append_4 kc_t_4_54 (fun c_99 => absurd c_99 (by decide)) (fun c_99 => ?_)
        refine lv_iload_n hx hb dX8_append_7 rfl (lv_at hl 3 rfl) ?_
        refine lv_iload_n hx hb dX8_append_8 rfl (lv_at hl 0 rfl) ?_
        obtain ⟨x_100, ex_100⟩ : ∃ z : Int32, z = (Int32.toUInt32 p0 >>> (Int32.toUInt32 0 &&& Int32.toUInt32 31)).toInt32 := ⟨_, rfl⟩
        refine lv_iushr (v := x_100) hx hb dX8_append_9 ex_100.symm ?_
        refine lv_sipush (v := 255) hx hb dX8_append_10 kc_s_255 ?_
        refine lv_iand hx hb dX8_append_13 ?_
        refine lv_topi (fun x_101 ex_101 => ?_)
        refine lv_istore_n hx hb dX8_append_14 rfl hl kc_l_3_4 (kTo [(3, .int x_101), (2, .int 0), (0, .ref jT), (1, .int p0)]) (fun ls hl => ?_)
        refine lv_iload_n hx hb dX8_append_15 rfl (lv_at hl 0 rfl) ?_
        have hy_102 : kS p0 0 = x_101 := by rw [ex_101, ex_100]; exact (kSu0 p0).symm
        refine lv_if_eq (tgt := 52) hx hb dX8_append_16 kc_t_16_36 (fun c_103 => ?_) (fun c_103 => ?_)
        · refine lv_iinc (v := (-8)) hx hb dX8_append_52 hl (k := 1) rfl (by decide) kc_l_2_4 (kTo [(2, .int (-8)), (3, .int x_101), (0, .ref jT), (1, .int p0)]) (fun ls hl => ?_)
          refine lv_goto (tgt := 3) hx hb dX8_append_55 kc_t_55_m52 ?_
          refine lv_iload_n hx hb dX8_append_3 rfl (lv_at hl 0 rfl) ?_
          refine lv_if_lt (tgt := 58) hx hb dX8_append_4 kc_t_4_54 (fun c_104 => ?_) (fun c_104 => absurd (by decide) c_104)
          have hk8 : kCnt p0 = 1 := by simp [kCnt, kC1, hy_4, hy_92, hy_97, hy_102, c_5, c_93, c_98, c_103]
          have hP9 := hP
          have hD9 := hD
          have hK9 := hK
          rw [hQ]
          exact W.vret hx hb hr (fun t ht hW => ⟨⟨(f_86, (kt + 1), (kUpN bt kt (kSn p0 24))), rfl, ⟨by unfold kPut; rw [kP1_n (k := 24) (fun z => c_5 (hy_4.symm.trans z)), kP1_z (k := 16) (hy_92.trans c_93), kP1_z (k := 8) (hy_97.trans c_98), kP1_z (k := 0) (hy_102.trans c_103)], (kUpB (by omega) ef_86 ex_85 hy_4 hbt), (kUp8 hb8), by omega⟩,  by rw [ht]; exact hP9, va_K.moved hW.alike hK9, hD9⟩, hS.F ht⟩) hS.2.2 dX8_append_58
        · refine lv_aload_n hx hb dX8_append_19 rfl (lv_at hl 2 rfl) ?_
          refine va_get (D := (dC, dI)) (ci := 8) (v := .int (nI (kt + 1))) (C := RX8) (T := TX8) (N := 2) hx hb hts (fun _ h => List.mem_cons_of_mem _ (List.mem_append_right _ h)) hown hK hP 0 rfl rfl 1 kc_l_1_2 (hts (.fieldLink RX8 15 "NotEnded$Tape" "length" "I") (List.mem_cons_of_mem _ (List.mem_append_left _ (List.mem_of_getElem? (i := 0) rfl)))) (fun _ h9 => h9) rfl dX8_append_20 ?_
          refine lv_aload_n hx hb dX8_append_23 rfl (lv_at hl 2 rfl) ?_
          refine va_get (D := (dC, dI)) (ci := 8) (v := .ref t0) (C := RX8) (T := TX8) (N := 2) hx hb hts (fun _ h => List.mem_cons_of_mem _ (List.mem_append_right _ h)) hown hK hP 0 rfl rfl 0 kc_l_0_2 (hts (.fieldLink RX8 9 "NotEnded$Tape" "signs" "[C") (List.mem_cons_of_mem _ (List.mem_append_left _ (List.mem_of_getElem? (i := 1) rfl)))) (fun _ h9 => h9) rfl dX8_append_24 ?_
          refine va_alen hx hb hK hP 1 0 rfl rfl (v := 120) rfl dX8_append_27 ?_
          have hy_102_c : kC1 p0 0 = 1 := by simp [kC1, hy_102, c_103]
          refine lv_icmp_ge (tgt := 52) hx hb dX8_append_28 kc_t_28_24 (fun c_105 => absurd c_105 (nI_ge (a := kt + 1) (b := 120) (by omega) (by decide))) (fun c_105 => ?_)
          refine lv_aload_n hx hb dX8_append_31 rfl (lv_at hl 2 rfl) ?_
          refine va_get (D := (dC, dI)) (ci := 8) (v := .ref t0) (C := RX8) (T := TX8) (N := 2) hx hb hts (fun _ h => List.mem_cons_of_mem _ (List.mem_append_right _ h)) hown hK hP 0 rfl rfl 0 kc_l_0_2 (hts (.fieldLink RX8 9 "NotEnded$Tape" "signs" "[C") (List.mem_cons_of_mem _ (List.mem_append_left _ (List.mem_of_getElem? (i := 1) rfl)))) (fun _ h9 => h9) rfl dX8_append_32 ?_
          refine lv_aload_n hx hb dX8_append_35 rfl (lv_at hl 2 rfl) ?_
          refine va_get (D := (dC, dI)) (ci := 8) (v := .int (nI (kt + 1))) (C := RX8) (T := TX8) (N := 2) hx hb hts (fun _ h => List.mem_cons_of_mem _ (List.mem_append_right _ h)) hown hK hP 0 rfl rfl 1 kc_l_1_2 (hts (.fieldLink RX8 15 "NotEnded$Tape" "length" "I") (List.mem_cons_of_mem _ (List.mem_append_left _ (List.mem_of_getElem? (i := 0) rfl)))) (fun _ h9 => h9) rfl dX8_append_36 ?_
          refine lv_iload_n hx hb dX8_append_39 rfl (lv_at hl 0 rfl) ?_
          obtain ⟨x_106, ex_106⟩ : ∃ z : Int32, z = (Int32.toUInt32 x_101 % 65536).toInt32 := ⟨_, rfl⟩
          refine lv_i2c (v := x_106) hx hb dX8_append_40 ex_106.symm ?_
          have bd_108 : kt + 1 < 120 := by omega
          refine va_cast hx hb hK hP hD hS 1 0 rfl rfl (vp_in_nI (n := kt + 1) (N := 120) bd_108 kc_31_120) dX8_append_41 (fun H locs hP hD hS => ?_)
          obtain ⟨f_107, ef_107⟩ : ∃ gg9 : Nat → Int32, gg9 = upd f_86 (Int32.toNatClampNeg (nI (kt + 1))) (vp_nar .char x_106) := ⟨_, rfl⟩
          have hPD : kPD dC dI A [(jT, .inr (8, [.ref t0, .int (nI (kt + 1))])), (t0, .inl (cC, 120, .inl f_107))] H := by rw [ef_107]; exact ⟨hP, hD⟩
          have hP := hPD.1
          have hD := hPD.2
          refine lv_aload_n hx hb dX8_append_42 rfl (lv_at hl 2 rfl) ?_
          refine lv_dup hx hb dX8_append_43 rfl ?_
          refine va_get (D := (dC, dI)) (ci := 8) (v := .int (nI (kt + 1))) (C := RX8) (T := TX8) (N := 2) hx hb hts (fun _ h => List.mem_cons_of_mem _ (List.mem_append_right _ h)) hown hK hP 0 rfl rfl 1 kc_l_1_2 (hts (.fieldLink RX8 15 "NotEnded$Tape" "length" "I") (List.mem_cons_of_mem _ (List.mem_append_left _ (List.mem_of_getElem? (i := 0) rfl)))) (fun _ h9 => h9) rfl dX8_append_44 ?_
          refine lv_iconst (v := 1) hx hb dX8_append_47 kc_i_1 ?_
          refine lv_iadd hx hb dX8_append_48 ?_
          refine lv_topi (fun y_109 ey_109 => ?_)
          obtain rfl : y_109 = nI (kt + 1 + 1) := ey_109.trans (nI_add (kt + 1) (1))
          refine va_put (D := (dC, dI)) (ci := 8) (v := .int (nI (kt + 1 + 1))) (ty := tyX8 1) (C := RX8) (T := TX8) (N := 2) hx hb hts (fun _ h => List.mem_cons_of_mem _ (List.mem_append_right _ h)) tyX8 tyX8_ok nmX8 hown hK hP hD hS 0 rfl rfl 1 kc_l_1_2 (hts (.fieldLink RX8 15 "NotEnded$Tape" "length" "I") (List.mem_cons_of_mem _ (List.mem_append_left _ (List.mem_of_getElem? (i := 0) rfl)))) (fun _ h9 => h9) rfl (tyX8_ok 1 kc_l_1_2) rfl rfl (Nat.le_of_ble_eq_true rfl) dX8_append_49 (fun H locs hP hD hS => ?_)
          have hPD : kPD dC dI A [(jT, .inr (8, [.ref t0, .int (nI (kt + 1 + 1))])), (t0, .inl (cC, 120, .inl f_107))] H := ⟨hP, hD⟩
          have hP := hPD.1
          have hD := hPD.2
          refine lv_iinc (v := (-8)) hx hb dX8_append_52 hl (k := 1) rfl (by decide) kc_l_2_4 (kTo [(2, .int (-8)), (3, .int x_101), (0, .ref jT), (1, .int p0)]) (fun ls hl => ?_)
          refine lv_goto (tgt := 3) hx hb dX8_append_55 kc_t_55_m52 ?_
          refine lv_iload_n hx hb dX8_append_3 rfl (lv_at hl 0 rfl) ?_
          refine lv_if_lt (tgt := 58) hx hb dX8_append_4 kc_t_4_54 (fun c_110 => ?_) (fun c_110 => absurd (by decide) c_110)
          have hk8 : kCnt p0 = 2 := by simp [kCnt, kC1, hy_4, hy_92, hy_97, hy_102, c_5, c_93, c_98, c_103]
          have hP9 := hP
          have hD9 := hD
          have hK9 := hK
          rw [hQ]
          exact W.vret hx hb hr (fun t ht hW => ⟨⟨(f_107, (kt + 1 + 1), (kUpN (kUpN bt kt (kSn p0 24)) (kt + 1) (kSn p0 0))), rfl, ⟨by unfold kPut; rw [kP1_n (k := 24) (fun z => c_5 (hy_4.symm.trans z)), kP1_z (k := 16) (hy_92.trans c_93), kP1_z (k := 8) (hy_97.trans c_98), kP1_n (k := 0) (fun z => c_103 (hy_102.symm.trans z))], (kUpB (by omega) ef_107 ex_106 hy_102 (kUpB (by omega) ef_86 ex_85 hy_4 hbt)), (kUp8 (kUp8 hb8)), by omega⟩,  by rw [ht]; exact hP9, va_K.moved hW.alike hK9, hD9⟩, hS.F ht⟩) hS.2.2 dX8_append_58
      · refine lv_aload_n hx hb dX8_append_19 rfl (lv_at hl 2 rfl) ?_
        refine va_get (D := (dC, dI)) (ci := 8) (v := .int (nI (kt + 1))) (C := RX8) (T := TX8) (N := 2) hx hb hts (fun _ h => List.mem_cons_of_mem _ (List.mem_append_right _ h)) hown hK hP 0 rfl rfl 1 kc_l_1_2 (hts (.fieldLink RX8 15 "NotEnded$Tape" "length" "I") (List.mem_cons_of_mem _ (List.mem_append_left _ (List.mem_of_getElem? (i := 0) rfl)))) (fun _ h9 => h9) rfl dX8_append_20 ?_
        refine lv_aload_n hx hb dX8_append_23 rfl (lv_at hl 2 rfl) ?_
        refine va_get (D := (dC, dI)) (ci := 8) (v := .ref t0) (C := RX8) (T := TX8) (N := 2) hx hb hts (fun _ h => List.mem_cons_of_mem _ (List.mem_append_right _ h)) hown hK hP 0 rfl rfl 0 kc_l_0_2 (hts (.fieldLink RX8 9 "NotEnded$Tape" "signs" "[C") (List.mem_cons_of_mem _ (List.mem_append_left _ (List.mem_of_getElem? (i := 1) rfl)))) (fun _ h9 => h9) rfl dX8_append_24 ?_
        refine va_alen hx hb hK hP 1 0 rfl rfl (v := 120) rfl dX8_append_27 ?_
        have hy_97_c : kC1 p0 8 = 1 := by simp [kC1, hy_97, c_98]
        refine lv_icmp_ge (tgt := 52) hx hb dX8_append_28 kc_t_28_24 (fun c_111 => absurd c_111 (nI_ge (a := kt + 1) (b := 120) (by omega) (by decide))) (fun c_111 => ?_)
        refine lv_aload_n hx hb dX8_append_31 rfl (lv_at hl 2 rfl) ?_
        refine va_get (D := (dC, dI)) (ci := 8) (v := .ref t0) (C := RX8) (T := TX8) (N := 2) hx hb hts (fun _ h => List.mem_cons_of_mem _ (List.mem_append_right _ h)) hown hK hP 0 rfl rfl 0 kc_l_0_2 (hts (.fieldLink RX8 9 "NotEnded$Tape" "signs" "[C") (List.mem_cons_of_mem _ (List.mem_append_left _ (List.mem_of_getElem? (i := 1) rfl)))) (fun _ h9 => h9) rfl dX8_append_32 ?_
        refine lv_aload_n hx hb dX8_append_35 rfl (lv_at hl 2 rfl) ?_
        refine va_get (D := (dC, dI)) (ci := 8) (v := .int (nI (kt + 1))) (C := RX8) (T := TX8) (N := 2) hx hb hts (fun _ h => List.mem_cons_of_mem _ (List.mem_append_right _ h)) hown hK hP 0 rfl rfl 1 kc_l_1_2 (hts (.fieldLink RX8 15 "NotEnded$Tape" "length" "I") (List.mem_cons_of_mem _ (List.mem_append_left _ (List.mem_of_getElem? (i := 0) rfl)))) (fun _ h9 => h9) rfl dX8_append_36 ?_
        refine lv_iload_n hx hb dX8_append_39 rfl (lv_at hl 0 rfl) ?_
        obtain ⟨x_112, ex_112⟩ : ∃ z : Int32, z = (Int32.toUInt32 x_96 % 65536).toInt32 := ⟨_, rfl⟩
        refine lv_i2c (v := x_112) hx hb dX8_append_40 ex_112.symm ?_
        have bd_114 : kt + 1 < 120 := by omega
        refine va_cast hx hb hK hP hD hS 1 0 rfl rfl (vp_in_nI (n := kt + 1) (N := 120) bd_114 kc_31_120) dX8_append_41 (fun H locs hP hD hS => ?_)
        obtain ⟨f_113, ef_113⟩ : ∃ gg9 : Nat → Int32, gg9 = upd f_86 (Int32.toNatClampNeg (nI (kt + 1))) (vp_nar .char x_112) := ⟨_, rfl⟩
        have hPD : kPD dC dI A [(jT, .inr (8, [.ref t0, .int (nI (kt + 1))])), (t0, .inl (cC, 120, .inl f_113))] H := by rw [ef_113]; exact ⟨hP, hD⟩
        have hP := hPD.1
        have hD := hPD.2
        refine lv_aload_n hx hb dX8_append_42 rfl (lv_at hl 2 rfl) ?_
        refine lv_dup hx hb dX8_append_43 rfl ?_
        refine va_get (D := (dC, dI)) (ci := 8) (v := .int (nI (kt + 1))) (C := RX8) (T := TX8) (N := 2) hx hb hts (fun _ h => List.mem_cons_of_mem _ (List.mem_append_right _ h)) hown hK hP 0 rfl rfl 1 kc_l_1_2 (hts (.fieldLink RX8 15 "NotEnded$Tape" "length" "I") (List.mem_cons_of_mem _ (List.mem_append_left _ (List.mem_of_getElem? (i := 0) rfl)))) (fun _ h9 => h9) rfl dX8_append_44 ?_
        refine lv_iconst (v := 1) hx hb dX8_append_47 kc_i_1 ?_
        refine lv_iadd hx hb dX8_append_48 ?_
        refine lv_topi (fun y_115 ey_115 => ?_)
        obtain rfl : y_115 = nI (kt + 1 + 1) := ey_115.trans (nI_add (kt + 1) (1))
        refine va_put (D := (dC, dI)) (ci := 8) (v := .int (nI (kt + 1 + 1))) (ty := tyX8 1) (C := RX8) (T := TX8) (N := 2) hx hb hts (fun _ h => List.mem_cons_of_mem _ (List.mem_append_right _ h)) tyX8 tyX8_ok nmX8 hown hK hP hD hS 0 rfl rfl 1 kc_l_1_2 (hts (.fieldLink RX8 15 "NotEnded$Tape" "length" "I") (List.mem_cons_of_mem _ (List.mem_append_left _ (List.mem_of_getElem? (i := 0) rfl)))) (fun _ h9 => h9) rfl (tyX8_ok 1 kc_l_1_2) rfl rfl (Nat.le_of_ble_eq_true rfl) dX8_append_49 (fun H locs hP hD hS => ?_)
        have hPD : kPD dC dI A [(jT, .inr (8, [.ref t0, .int (nI (kt + 1 + 1))])), (t0, .inl (cC, 120, .inl f_113))] H := ⟨hP, hD⟩
        have hP := hPD.1
        have hD := hPD.2
        refine lv_iinc (v := 0) hx hb dX8_append_52 hl (k := 1) rfl (by decide) kc_l_2_4 (kTo [(2, .int 0), (3, .int x_96), (0, .ref jT), (1, .int p0)]) (fun ls hl => ?_)
        refine lv_goto (tgt := 3) hx hb dX8_append_55 kc_t_55_m52 ?_
        refine lv_iload_n hx hb dX8_append_3 rfl (lv_at hl 0 rfl) ?_
        refine lv_if_lt (tgt := 58) hx hb dX8_append_4 kc_t_4_54 (fun c_116 => absurd c_116 (by decide)) (fun c_116 => ?_)
        refine lv_iload_n hx hb dX8_append_7 rfl (lv_at hl 3 rfl) ?_
        refine lv_iload_n hx hb dX8_append_8 rfl (lv_at hl 0 rfl) ?_
        obtain ⟨x_117, ex_117⟩ : ∃ z : Int32, z = (Int32.toUInt32 p0 >>> (Int32.toUInt32 0 &&& Int32.toUInt32 31)).toInt32 := ⟨_, rfl⟩
        refine lv_iushr (v := x_117) hx hb dX8_append_9 ex_117.symm ?_
        refine lv_sipush (v := 255) hx hb dX8_append_10 kc_s_255 ?_
        refine lv_iand hx hb dX8_append_13 ?_
        refine lv_topi (fun x_118 ex_118 => ?_)
        refine lv_istore_n hx hb dX8_append_14 rfl hl kc_l_3_4 (kTo [(3, .int x_118), (2, .int 0), (0, .ref jT), (1, .int p0)]) (fun ls hl => ?_)
        refine lv_iload_n hx hb dX8_append_15 rfl (lv_at hl 0 rfl) ?_
        have hy_119 : kS p0 0 = x_118 := by rw [ex_118, ex_117]; exact (kSu0 p0).symm
        refine lv_if_eq (tgt := 52) hx hb dX8_append_16 kc_t_16_36 (fun c_120 => ?_) (fun c_120 => ?_)
        · refine lv_iinc (v := (-8)) hx hb dX8_append_52 hl (k := 1) rfl (by decide) kc_l_2_4 (kTo [(2, .int (-8)), (3, .int x_118), (0, .ref jT), (1, .int p0)]) (fun ls hl => ?_)
          refine lv_goto (tgt := 3) hx hb dX8_append_55 kc_t_55_m52 ?_
          refine lv_iload_n hx hb dX8_append_3 rfl (lv_at hl 0 rfl) ?_
          refine lv_if_lt (tgt := 58) hx hb dX8_append_4 kc_t_4_54 (fun c_121 => ?_) (fun c_121 => absurd (by decide) c_121)
          have hk8 : kCnt p0 = 2 := by simp [kCnt, kC1, hy_4, hy_92, hy_97, hy_119, c_5, c_93, c_98, c_120]
          have hP9 := hP
          have hD9 := hD
          have hK9 := hK
          rw [hQ]
          exact W.vret hx hb hr (fun t ht hW => ⟨⟨(f_113, (kt + 1 + 1), (kUpN (kUpN bt kt (kSn p0 24)) (kt + 1) (kSn p0 8))), rfl, ⟨by unfold kPut; rw [kP1_n (k := 24) (fun z => c_5 (hy_4.symm.trans z)), kP1_z (k := 16) (hy_92.trans c_93), kP1_n (k := 8) (fun z => c_98 (hy_97.symm.trans z)), kP1_z (k := 0) (hy_119.trans c_120)], (kUpB (by omega) ef_113 ex_112 hy_97 (kUpB (by omega) ef_86 ex_85 hy_4 hbt)), (kUp8 (kUp8 hb8)), by omega⟩,  by rw [ht]; exact hP9, va_K.moved hW.alike hK9, hD9⟩, hS.F ht⟩) hS.2.2 dX8_append_58
        · refine lv_aload_n hx hb dX8_append_19 rfl (lv_at hl 2 rfl) ?_
          refine va_get (D := (dC, dI)) (ci := 8) (v := .int (nI (kt + 1 + 1))) (C := RX8) (T := TX8) (N := 2) hx hb hts (fun _ h => List.mem_cons_of_mem _ (List.mem_append_right _ h)) hown hK hP 0 rfl rfl 1 kc_l_1_2 (hts (.fieldLink RX8 15 "NotEnded$Tape" "length" "I") (List.mem_cons_of_mem _ (List.mem_append_left _ (List.mem_of_getElem? (i := 0) rfl)))) (fun _ h9 => h9) rfl dX8_append_20 ?_
          refine lv_aload_n hx hb dX8_append_23 rfl (lv_at hl 2 rfl) ?_
          refine va_get (D := (dC, dI)) (ci := 8) (v := .ref t0) (C := RX8) (T := TX8) (N := 2) hx hb hts (fun _ h => List.mem_cons_of_mem _ (List.mem_append_right _ h)) hown hK hP 0 rfl rfl 0 kc_l_0_2 (hts (.fieldLink RX8 9 "NotEnded$Tape" "signs" "[C") (List.mem_cons_of_mem _ (List.mem_append_left _ (List.mem_of_getElem? (i := 1) rfl)))) (fun _ h9 => h9) rfl dX8_append_24 ?_
          refine va_alen hx hb hK hP 1 0 rfl rfl (v := 120) rfl dX8_append_27 ?_
          have hy_119_c : kC1 p0 0 = 1 := by simp [kC1, hy_119, c_120]
          refine lv_icmp_ge (tgt := 52) hx hb dX8_append_28 kc_t_28_24 (fun c_122 => absurd c_122 (nI_ge (a := kt + 1 + 1) (b := 120) (by omega) (by decide))) (fun c_122 => ?_)
          refine lv_aload_n hx hb dX8_append_31 rfl (lv_at hl 2 rfl) ?_
          refine va_get (D := (dC, dI)) (ci := 8) (v := .ref t0) (C := RX8) (T := TX8) (N := 2) hx hb hts (fun _ h => List.mem_cons_of_mem _ (List.mem_append_right _ h)) hown hK hP 0 rfl rfl 0 kc_l_0_2 (hts (.fieldLink RX8 9 "NotEnded$Tape" "signs" "[C") (List.mem_cons_of_mem _ (List.mem_append_left _ (List.mem_of_getElem? (i := 1) rfl)))) (fun _ h9 => h9) rfl dX8_append_32 ?_
          refine lv_aload_n hx hb dX8_append_35 rfl (lv_at hl 2 rfl) ?_
          refine va_get (D := (dC, dI)) (ci := 8) (v := .int (nI (kt + 1 + 1))) (C := RX8) (T := TX8) (N := 2) hx hb hts (fun _ h => List.mem_cons_of_mem _ (List.mem_append_right _ h)) hown hK hP 0 rfl rfl 1 kc_l_1_2 (hts (.fieldLink RX8 15 "NotEnded$Tape" "length" "I") (List.mem_cons_of_mem _ (List.mem_append_left _ (List.mem_of_getElem? (i := 0) rfl)))) (fun _ h9 => h9) rfl dX8_append_36 ?_
          refine lv_iload_n hx hb dX8_append_39 rfl (lv_at hl 0 rfl) ?_
          obtain ⟨x_123, ex_123⟩ : ∃ z : Int32, z = (Int32.toUInt32 x_118 % 65536).toInt32 := ⟨_, rfl⟩
          refine lv_i2c (v := x_123) hx hb dX8_append_40 ex_123.symm ?_
          have bd_125 : kt + 1 + 1 < 120 := by omega
          refine va_cast hx hb hK hP hD hS 1 0 rfl rfl (vp_in_nI (n := kt + 1 + 1) (N := 120) bd_125 kc_31_120) dX8_append_41 (fun H locs hP hD hS => ?_)
          obtain ⟨f_124, ef_124⟩ : ∃ gg9 : Nat → Int32, gg9 = upd f_113 (Int32.toNatClampNeg (nI (kt + 1 + 1))) (vp_nar .char x_123) := ⟨_, rfl⟩
          have hPD : kPD dC dI A [(jT, .inr (8, [.ref t0, .int (nI (kt + 1 + 1))])), (t0, .inl (cC, 120, .inl f_124))] H := by rw [ef_124]; exact ⟨hP, hD⟩
          have hP := hPD.1
          have hD := hPD.2
          refine lv_aload_n hx hb dX8_append_42 rfl (lv_at hl 2 rfl) ?_
          refine lv_dup hx hb dX8_append_43 rfl ?_
          refine va_get (D := (dC, dI)) (ci := 8) (v := .int (nI (kt + 1 + 1))) (C := RX8) (T := TX8) (N := 2) hx hb hts (fun _ h => List.mem_cons_of_mem _ (List.mem_append_right _ h)) hown hK hP 0 rfl rfl 1 kc_l_1_2 (hts (.fieldLink RX8 15 "NotEnded$Tape" "length" "I") (List.mem_cons_of_mem _ (List.mem_append_left _ (List.mem_of_getElem? (i := 0) rfl)))) (fun _ h9 => h9) rfl dX8_append_44 ?_
          refine lv_iconst (v := 1) hx hb dX8_append_47 kc_i_1 ?_
          refine lv_iadd hx hb dX8_append_48 ?_
          refine lv_topi (fun y_126 ey_126 => ?_)
          obtain rfl : y_126 = nI (kt + 1 + 1 + 1) := ey_126.trans (nI_add (kt + 1 + 1) (1))
          refine va_put (D := (dC, dI)) (ci := 8) (v := .int (nI (kt + 1 + 1 + 1))) (ty := tyX8 1) (C := RX8) (T := TX8) (N := 2) hx hb hts (fun _ h => List.mem_cons_of_mem _ (List.mem_append_right _ h)) tyX8 tyX8_ok nmX8 hown hK hP hD hS 0 rfl rfl 1 kc_l_1_2 (hts (.fieldLink RX8 15 "NotEnded$Tape" "length" "I") (List.mem_cons_of_mem _ (List.mem_append_left _ (List.mem_of_getElem? (i := 0) rfl)))) (fun _ h9 => h9) rfl (tyX8_ok 1 kc_l_1_2) rfl rfl (Nat.le_of_ble_eq_true rfl) dX8_append_49 (fun H locs hP hD hS => ?_)
          have hPD : kPD dC dI A [(jT, .inr (8, [.ref t0, .int (nI (kt + 1 + 1 + 1))])), (t0, .inl (cC, 120, .inl f_124))] H := ⟨hP, hD⟩
          have hP := hPD.1
          have hD := hPD.2
          refine lv_iinc (v := (-8)) hx hb dX8_append_52 hl (k := 1) rfl (by decide) kc_l_2_4 (kTo [(2, .int (-8)), (3, .int x_118), (0, .ref jT), (1, .int p0)]) (fun ls hl => ?_)
          refine lv_goto (tgt := 3) hx hb dX8_append_55 kc_t_55_m52 ?_
          refine lv_iload_n hx hb dX8_append_3 rfl (lv_at hl 0 rfl) ?_
          refine lv_if_lt (tgt := 58) hx hb dX8_append_4 kc_t_4_54 (fun c_127 => ?_) (fun c_127 => absurd (by decide) c_127)
          have hk8 : kCnt p0 = 3 := by simp [kCnt, kC1, hy_4, hy_92, hy_97, hy_119, c_5, c_93, c_98, c_120]
          have hP9 := hP
          have hD9 := hD
          have hK9 := hK
          rw [hQ]
          exact W.vret hx hb hr (fun t ht hW => ⟨⟨(f_124, (kt + 1 + 1 + 1), (kUpN (kUpN (kUpN bt kt (kSn p0 24)) (kt + 1) (kSn p0 8)) (kt + 1 + 1) (kSn p0 0))), rfl, ⟨by unfold kPut; rw [kP1_n (k := 24) (fun z => c_5 (hy_4.symm.trans z)), kP1_z (k := 16) (hy_92.trans c_93), kP1_n (k := 8) (fun z => c_98 (hy_97.symm.trans z)), kP1_n (k := 0) (fun z => c_120 (hy_119.symm.trans z))], (kUpB (by omega) ef_124 ex_123 hy_119 (kUpB (by omega) ef_113 ex_112 hy_97 (kUpB (by omega) ef_86 ex_85 hy_4 hbt))), (kUp8 (kUp8 (kUp8 hb8))), by omega⟩,  by rw [ht]; exact hP9, va_K.moved hW.alike hK9, hD9⟩, hS.F ht⟩) hS.2.2 dX8_append_58
    · refine lv_aload_n hx hb dX8_append_19 rfl (lv_at hl 2 rfl) ?_
      refine va_get (D := (dC, dI)) (ci := 8) (v := .int (nI (kt + 1))) (C := RX8) (T := TX8) (N := 2) hx hb hts (fun _ h => List.mem_cons_of_mem _ (List.mem_append_right _ h)) hown hK hP 0 rfl rfl 1 kc_l_1_2 (hts (.fieldLink RX8 15 "NotEnded$Tape" "length" "I") (List.mem_cons_of_mem _ (List.mem_append_left _ (List.mem_of_getElem? (i := 0) rfl)))) (fun _ h9 => h9) rfl dX8_append_20 ?_
      refine lv_aload_n hx hb dX8_append_23 rfl (lv_at hl 2 rfl) ?_
      refine va_get (D := (dC, dI)) (ci := 8) (v := .ref t0) (C := RX8) (T := TX8) (N := 2) hx hb hts (fun _ h => List.mem_cons_of_mem _ (List.mem_append_right _ h)) hown hK hP 0 rfl rfl 0 kc_l_0_2 (hts (.fieldLink RX8 9 "NotEnded$Tape" "signs" "[C") (List.mem_cons_of_mem _ (List.mem_append_left _ (List.mem_of_getElem? (i := 1) rfl)))) (fun _ h9 => h9) rfl dX8_append_24 ?_
      refine va_alen hx hb hK hP 1 0 rfl rfl (v := 120) rfl dX8_append_27 ?_
      have hy_92_c : kC1 p0 16 = 1 := by simp [kC1, hy_92, c_93]
      refine lv_icmp_ge (tgt := 52) hx hb dX8_append_28 kc_t_28_24 (fun c_128 => absurd c_128 (nI_ge (a := kt + 1) (b := 120) (by omega) (by decide))) (fun c_128 => ?_)
      refine lv_aload_n hx hb dX8_append_31 rfl (lv_at hl 2 rfl) ?_
      refine va_get (D := (dC, dI)) (ci := 8) (v := .ref t0) (C := RX8) (T := TX8) (N := 2) hx hb hts (fun _ h => List.mem_cons_of_mem _ (List.mem_append_right _ h)) hown hK hP 0 rfl rfl 0 kc_l_0_2 (hts (.fieldLink RX8 9 "NotEnded$Tape" "signs" "[C") (List.mem_cons_of_mem _ (List.mem_append_left _ (List.mem_of_getElem? (i := 1) rfl)))) (fun _ h9 => h9) rfl dX8_append_32 ?_
      refine lv_aload_n hx hb dX8_append_35 rfl (lv_at hl 2 rfl) ?_
      refine va_get (D := (dC, dI)) (ci := 8) (v := .int (nI (kt + 1))) (C := RX8) (T := TX8) (N := 2) hx hb hts (fun _ h => List.mem_cons_of_mem _ (List.mem_append_right _ h)) hown hK hP 0 rfl rfl 1 kc_l_1_2 (hts (.fieldLink RX8 15 "NotEnded$Tape" "length" "I") (List.mem_cons_of_mem _ (List.mem_append_left _ (List.mem_of_getElem? (i := 0) rfl)))) (fun _ h9 => h9) rfl dX8_append_36 ?_
      refine lv_iload_n hx hb dX8_append_39 rfl (lv_at hl 0 rfl) ?_
      obtain ⟨x_129, ex_129⟩ : ∃ z : Int32, z = (Int32.toUInt32 x_91 % 65536).toInt32 := ⟨_, rfl⟩
      refine lv_i2c (v := x_129) hx hb dX8_append_40 ex_129.symm ?_
      have bd_131 : kt + 1 < 120 := by omega
      refine va_cast hx hb hK hP hD hS 1 0 rfl rfl (vp_in_nI (n := kt + 1) (N := 120) bd_131 kc_31_120) dX8_append_41 (fun H locs hP hD hS => ?_)
      obtain ⟨f_130, ef_130⟩ : ∃ gg9 : Nat → Int32, gg9 = upd f_86 (Int32.toNatClampNeg (nI (kt + 1))) (vp_nar .char x_129) := ⟨_, rfl⟩
      have hPD : kPD dC dI A [(jT, .inr (8, [.ref t0, .int (nI (kt + 1))])), (t0, .inl (cC, 120, .inl f_130))] H := by rw [ef_130]; exact ⟨hP, hD⟩
      have hP := hPD.1
      have hD := hPD.2
      refine lv_aload_n hx hb dX8_append_42 rfl (lv_at hl 2 rfl) ?_
      refine lv_dup hx hb dX8_append_43 rfl ?_
      refine va_get (D := (dC, dI)) (ci := 8) (v := .int (nI (kt + 1))) (C := RX8) (T := TX8) (N := 2) hx hb hts (fun _ h => List.mem_cons_of_mem _ (List.mem_append_right _ h)) hown hK hP 0 rfl rfl 1 kc_l_1_2 (hts (.fieldLink RX8 15 "NotEnded$Tape" "length" "I") (List.mem_cons_of_mem _ (List.mem_append_left _ (List.mem_of_getElem? (i := 0) rfl)))) (fun _ h9 => h9) rfl dX8_append_44 ?_
      refine lv_iconst (v := 1) hx hb dX8_append_47 kc_i_1 ?_
      refine lv_iadd hx hb dX8_append_48 ?_
      refine lv_topi (fun y_132 ey_132 => ?_)
      obtain rfl : y_132 = nI (kt + 1 + 1) := ey_132.trans (nI_add (kt + 1) (1))
      refine va_put (D := (dC, dI)) (ci := 8) (v := .int (nI (kt + 1 + 1))) (ty := tyX8 1) (C := RX8) (T := TX8) (N := 2) hx hb hts (fun _ h => List.mem_cons_of_mem _ (List.mem_append_right _ h)) tyX8 tyX8_ok nmX8 hown hK hP hD hS 0 rfl rfl 1 kc_l_1_2 (hts (.fieldLink RX8 15 "NotEnded$Tape" "length" "I") (List.mem_cons_of_mem _ (List.mem_append_left _ (List.mem_of_getElem? (i := 0) rfl)))) (fun _ h9 => h9) rfl (tyX8_ok 1 kc_l_1_2) rfl rfl (Nat.le_of_ble_eq_true rfl) dX8_append_49 (fun H locs hP hD hS => ?_)
      have hPD : kPD dC dI A [(jT, .inr (8, [.ref t0, .int (nI (kt + 1 + 1))])), (t0, .inl (cC, 120, .inl f_130))] H := ⟨hP, hD⟩
      have hP := hPD.1
      have hD := hPD.2
      refine lv_iinc (v := 8) hx hb dX8_append_52 hl (k := 1) rfl (by decide) kc_l_2_4 (kTo [(2, .int 8), (3, .int x_91), (0, .ref jT), (1, .int p0)]) (fun ls hl => ?_)
      refine lv_goto (tgt := 3) hx hb dX8_append_55 kc_t_55_m52 ?_
      refine lv_iload_n hx hb dX8_append_3 rfl (lv_at hl 0 rfl) ?_
      refine lv_if_lt (tgt := 58) hx hb dX8_append_4 kc_t_4_54 (fun c_133 => absurd c_133 (by decide)) (fun c_133 => ?_)
      refine lv_iload_n hx hb dX8_append_7 rfl (lv_at hl 3 rfl) ?_
      refine lv_iload_n hx hb dX8_append_8 rfl (lv_at hl 0 rfl) ?_
      obtain ⟨x_134, ex_134⟩ : ∃ z : Int32, z = (Int32.toUInt32 p0 >>> (Int32.toUInt32 8 &&& Int32.toUInt32 31)).toInt32 := ⟨_, rfl⟩
      refine lv_iushr (v := x_134) hx hb dX8_append_9 ex_134.symm ?_
      refine lv_sipush (v := 255) hx hb dX8_append_10 kc_s_255 ?_
      refine lv_iand hx hb dX8_append_13 ?_
      refine lv_topi (fun x_135 ex_135 => ?_)
      refine lv_istore_n hx hb dX8_append_14 rfl hl kc_l_3_4 (kTo [(3, .int x_135), (2, .int 8), (0, .ref jT), (1, .int p0)]) (fun ls hl => ?_)
      refine lv_iload_n hx hb dX8_append_15 rfl (lv_at hl 0 rfl) ?_
      have hy_136 : kS p0 8 = x_135 := by rw [ex_135, ex_134]; exact (kSu8 p0).symm
      refine lv_if_eq (tgt := 52) hx hb dX8_append_16 kc_t_16_36 (fun c_137 => ?_) (fun c_137 => ?_)
      · refine lv_iinc (v := 0) hx hb dX8_append_52 hl (k := 1) rfl (by decide) kc_l_2_4 (kTo [(2, .int 0), (3, .int x_135), (0, .ref jT), (1, .int p0)]) (fun ls hl => ?_)
        refine lv_goto (tgt := 3) hx hb dX8_append_55 kc_t_55_m52 ?_
        refine lv_iload_n hx hb dX8_append_3 rfl (lv_at hl 0 rfl) ?_
        refine lv_if_lt (tgt := 58) hx hb dX8_append_4 kc_t_4_54 (fun c_138 => absurd c_138 (by decide)) (fun c_138 => ?_)
        refine lv_iload_n hx hb dX8_append_7 rfl (lv_at hl 3 rfl) ?_
        refine lv_iload_n hx hb dX8_append_8 rfl (lv_at hl 0 rfl) ?_
        obtain ⟨x_139, ex_139⟩ : ∃ z : Int32, z = (Int32.toUInt32 p0 >>> (Int32.toUInt32 0 &&& Int32.toUInt32 31)).toInt32 := ⟨_, rfl⟩
        refine lv_iushr (v := x_139) hx hb dX8_append_9 ex_139.symm ?_
        refine lv_sipush (v := 255) hx hb dX8_append_10 kc_s_255 ?_
        refine lv_iand hx hb dX8_append_13 ?_
        refine lv_topi (fun x_140 ex_140 => ?_)
        refine lv_istore_n hx hb dX8_append_14 rfl hl kc_l_3_4 (kTo [(3, .int x_140), (2, .int 0), (0, .ref jT), (1, .int p0)]) (fun ls hl => ?_)
        refine lv_iload_n hx hb dX8_append_15 rfl (lv_at hl 0 rfl) ?_
        have hy_141 : kS p0 0 = x_140 := by rw [ex_140, ex_139]; exact (kSu0 p0).symm
        refine lv_if_eq (tgt := 52) hx hb dX8_append_16 kc_t_16_36 (fun c_142 => ?_) (fun c_142 => ?_)
        · refine lv_iinc (v := (-8)) hx hb dX8_append_52 hl (k := 1) rfl (by decide) kc_l_2_4 (kTo [(2, .int (-8)), (3, .int x_140), (0, .ref jT), (1, .int p0)]) (fun ls hl => ?_)
          refine lv_goto (tgt := 3) hx hb dX8_append_55 kc_t_55_m52 ?_
          refine lv_iload_n hx hb dX8_append_3 rfl (lv_at hl 0 rfl) ?_
          refine lv_if_lt (tgt := 58) hx hb dX8_append_4 kc_t_4_54 (fun c_143 => ?_) (fun c_143 => absurd (by decide) c_143)
          have hk8 : kCnt p0 = 2 := by simp [kCnt, kC1, hy_4, hy_92, hy_136, hy_141, c_5, c_93, c_137, c_142]
          have hP9 := hP
          have hD9 := hD
          have hK9 := hK
          rw [hQ]
          exact W.vret hx hb hr (fun t ht hW => ⟨⟨(f_130, (kt + 1 + 1), (kUpN (kUpN bt kt (kSn p0 24)) (kt + 1) (kSn p0 16))), rfl, ⟨by unfold kPut; rw [kP1_n (k := 24) (fun z => c_5 (hy_4.symm.trans z)), kP1_n (k := 16) (fun z => c_93 (hy_92.symm.trans z)), kP1_z (k := 8) (hy_136.trans c_137), kP1_z (k := 0) (hy_141.trans c_142)], (kUpB (by omega) ef_130 ex_129 hy_92 (kUpB (by omega) ef_86 ex_85 hy_4 hbt)), (kUp8 (kUp8 hb8)), by omega⟩,  by rw [ht]; exact hP9, va_K.moved hW.alike hK9, hD9⟩, hS.F ht⟩) hS.2.2 dX8_append_58
        · refine lv_aload_n hx hb dX8_append_19 rfl (lv_at hl 2 rfl) ?_
          refine va_get (D := (dC, dI)) (ci := 8) (v := .int (nI (kt + 1 + 1))) (C := RX8) (T := TX8) (N := 2) hx hb hts (fun _ h => List.mem_cons_of_mem _ (List.mem_append_right _ h)) hown hK hP 0 rfl rfl 1 kc_l_1_2 (hts (.fieldLink RX8 15 "NotEnded$Tape" "length" "I") (List.mem_cons_of_mem _ (List.mem_append_left _ (List.mem_of_getElem? (i := 0) rfl)))) (fun _ h9 => h9) rfl dX8_append_20 ?_
          refine lv_aload_n hx hb dX8_append_23 rfl (lv_at hl 2 rfl) ?_
          refine va_get (D := (dC, dI)) (ci := 8) (v := .ref t0) (C := RX8) (T := TX8) (N := 2) hx hb hts (fun _ h => List.mem_cons_of_mem _ (List.mem_append_right _ h)) hown hK hP 0 rfl rfl 0 kc_l_0_2 (hts (.fieldLink RX8 9 "NotEnded$Tape" "signs" "[C") (List.mem_cons_of_mem _ (List.mem_append_left _ (List.mem_of_getElem? (i := 1) rfl)))) (fun _ h9 => h9) rfl dX8_append_24 ?_
          refine va_alen hx hb hK hP 1 0 rfl rfl (v := 120) rfl dX8_append_27 ?_
          have hy_141_c : kC1 p0 0 = 1 := by simp [kC1, hy_141, c_142]
          refine lv_icmp_ge (tgt := 52) hx hb dX8_append_28 kc_t_28_24 (fun c_144 => absurd c_144 (nI_ge (a := kt + 1 + 1) (b := 120) (by omega) (by decide))) (fun c_144 => ?_)
          refine lv_aload_n hx hb dX8_append_31 rfl (lv_at hl 2 rfl) ?_
          refine va_get (D := (dC, dI)) (ci := 8) (v := .ref t0) (C := RX8) (T := TX8) (N := 2) hx hb hts (fun _ h => List.mem_cons_of_mem _ (List.mem_append_right _ h)) hown hK hP 0 rfl rfl 0 kc_l_0_2 (hts (.fieldLink RX8 9 "NotEnded$Tape" "signs" "[C") (List.mem_cons_of_mem _ (List.mem_append_left _ (List.mem_of_getElem? (i := 1) rfl)))) (fun _ h9 => h9) rfl dX8_append_32 ?_
          refine lv_aload_n hx hb dX8_append_35 rfl (lv_at hl 2 rfl) ?_
          refine va_get (D := (dC, dI)) (ci := 8) (v := .int (nI (kt + 1 + 1))) (C := RX8) (T := TX8) (N := 2) hx hb hts (fun _ h => List.mem_cons_of_mem _ (List.mem_append_right _ h)) hown hK hP 0 rfl rfl 1 kc_l_1_2 (hts (.fieldLink RX8 15 "NotEnded$Tape" "length" "I") (List.mem_cons_of_mem _ (List.mem_append_left _ (List.mem_of_getElem? (i := 0) rfl)))) (fun _ h9 => h9) rfl dX8_append_36 ?_
          refine lv_iload_n hx hb dX8_append_39 rfl (lv_at hl 0 rfl) ?_
          obtain ⟨x_145, ex_145⟩ : ∃ z : Int32, z = (Int32.toUInt32 x_140 % 65536).toInt32 := ⟨_, rfl⟩
          refine lv_i2c (v := x_145) hx hb dX8_append_40 ex_145.symm ?_
          have bd_147 : kt + 1 + 1 < 120 := by omega
          refine va_cast hx hb hK hP hD hS 1 0 rfl rfl (vp_in_nI (n := kt + 1 + 1) (N := 120) bd_147 kc_31_120) dX8_append_41 (fun H locs hP hD hS => ?_)
          obtain ⟨f_146, ef_146⟩ : ∃ gg9 : Nat → Int32, gg9 = upd f_130 (Int32.toNatClampNeg (nI (kt + 1 + 1))) (vp_nar .char x_145) := ⟨_, rfl⟩
          have hPD : kPD dC dI A [(jT, .inr (8, [.ref t0, .int (nI (kt + 1 + 1))])), (t0, .inl (cC, 120, .inl f_146))] H := by rw [ef_146]; exact ⟨hP, hD⟩
          have hP := hPD.1
          have hD := hPD.2
          refine lv_aload_n hx hb dX8_append_42 rfl (lv_at hl 2 rfl) ?_
          refine lv_dup hx hb dX8_append_43 rfl ?_
          refine va_get (D := (dC, dI)) (ci := 8) (v := .int (nI (kt + 1 + 1))) (C := RX8) (T := TX8) (N := 2) hx hb hts (fun _ h => List.mem_cons_of_mem _ (List.mem_append_right _ h)) hown hK hP 0 rfl rfl 1 kc_l_1_2 (hts (.fieldLink RX8 15 "NotEnded$Tape" "length" "I") (List.mem_cons_of_mem _ (List.mem_append_left _ (List.mem_of_getElem? (i := 0) rfl)))) (fun _ h9 => h9) rfl dX8_append_44 ?_
          refine lv_iconst (v := 1) hx hb dX8_append_47 kc_i_1 ?_
          refine lv_iadd hx hb dX8_append_48 ?_
          refine lv_topi (fun y_148 ey_148 => ?_)
          obtain rfl : y_148 = nI (kt + 1 + 1 + 1) := ey_148.trans (nI_add (kt + 1 + 1) (1))
          refine va_put (D := (dC, dI)) (ci := 8) (v := .int (nI (kt + 1 + 1 + 1))) (ty := tyX8 1) (C := RX8) (T := TX8) (N := 2) hx hb hts (fun _ h => List.mem_cons_of_mem _ (List.mem_append_right _ h)) tyX8 tyX8_ok nmX8 hown hK hP hD hS 0 rfl rfl 1 kc_l_1_2 (hts (.fieldLink RX8 15 "NotEnded$Tape" "length" "I") (List.mem_cons_of_mem _ (List.mem_append_left _ (List.mem_of_getElem? (i := 0) rfl)))) (fun _ h9 => h9) rfl (tyX8_ok 1 kc_l_1_2) rfl rfl (Nat.le_of_ble_eq_true rfl) dX8_append_49 (fun H locs hP hD hS => ?_)
          have hPD : kPD dC dI A [(jT, .inr (8, [.ref t0, .int (nI (kt + 1 + 1 + 1))])), (t0, .inl (cC, 120, .inl f_146))] H := ⟨hP, hD⟩
          have hP := hPD.1
          have hD := hPD.2
          refine lv_iinc (v := (-8)) hx hb dX8_append_52 hl (k := 1) rfl (by decide) kc_l_2_4 (kTo [(2, .int (-8)), (3, .int x_140), (0, .ref jT), (1, .int p0)]) (fun ls hl => ?_)
          refine lv_goto (tgt := 3) hx hb dX8_append_55 kc_t_55_m52 ?_
          refine lv_iload_n hx hb dX8_append_3 rfl (lv_at hl 0 rfl) ?_
          refine lv_if_lt (tgt := 58) hx hb dX8_append_4 kc_t_4_54 (fun c_149 => ?_) (fun c_149 => absurd (by decide) c_149)
          have hk8 : kCnt p0 = 3 := by simp [kCnt, kC1, hy_4, hy_92, hy_136, hy_141, c_5, c_93, c_137, c_142]
          have hP9 := hP
          have hD9 := hD
          have hK9 := hK
          rw [hQ]
          exact W.vret hx hb hr (fun t ht hW => ⟨⟨(f_146, (kt + 1 + 1 + 1), (kUpN (kUpN (kUpN bt kt (kSn p0 24)) (kt + 1) (kSn p0 16)) (kt + 1 + 1) (kSn p0 0))), rfl, ⟨by unfold kPut; rw [kP1_n (k := 24) (fun z => c_5 (hy_4.symm.trans z)), kP1_n (k := 16) (fun z => c_93 (hy_92.symm.trans z)), kP1_z (k := 8) (hy_136.trans c_137), kP1_n (k := 0) (fun z => c_142 (hy_141.symm.trans z))], (kUpB (by omega) ef_146 ex_145 hy_141 (kUpB (by omega) ef_130 ex_129 hy_92 (kUpB (by omega) ef_86 ex_85 hy_4 hbt))), (kUp8 (kUp8 (kUp8 hb8))), by omega⟩,  by rw [ht]; exact hP9, va_K.moved hW.alike hK9, hD9⟩, hS.F ht⟩) hS.2.2 dX8_append_58
      · refine lv_aload_n hx hb dX8_append_19 rfl (lv_at hl 2 rfl) ?_
        refine va_get (D := (dC, dI)) (ci := 8) (v := .int (nI (kt + 1 + 1))) (C := RX8) (T := TX8) (N := 2) hx hb hts (fun _ h => List.mem_cons_of_mem _ (List.mem_append_right _ h)) hown hK hP 0 rfl rfl 1 kc_l_1_2 (hts (.fieldLink RX8 15 "NotEnded$Tape" "length" "I") (List.mem_cons_of_mem _ (List.mem_append_left _ (List.mem_of_getElem? (i := 0) rfl)))) (fun _ h9 => h9) rfl dX8_append_20 ?_
        refine lv_aload_n hx hb dX8_append_23 rfl (lv_at hl 2 rfl) ?_
        refine va_get (D := (dC, dI)) (ci := 8) (v := .ref t0) (C := RX8) (T := TX8) (N := 2) hx hb hts (fun _ h => List.mem_cons_of_mem _ (List.mem_append_right _ h)) hown hK hP 0 rfl rfl 0 kc_l_0_2 (hts (.fieldLink RX8 9 "NotEnded$Tape" "signs" "[C") (List.mem_cons_of_mem _ (List.mem_append_left _ (List.mem_of_getElem? (i := 1) rfl)))) (fun _ h9 => h9) rfl dX8_append_24 ?_
        refine va_alen hx hb hK hP 1 0 rfl rfl (v := 120) rfl dX8_append_27 ?_
        have hy_136_c : kC1 p0 8 = 1 := by simp [kC1, hy_136, c_137]
        refine lv_icmp_ge (tgt := 52) hx hb dX8_append_28 kc_t_28_24 (fun c_150 => absurd c_150 (nI_ge (a := kt + 1 + 1) (b := 120) (by omega) (by decide))) (fun c_150 => ?_)
        refine lv_aload_n hx hb dX8_append_31 rfl (lv_at hl 2 rfl) ?_
        refine va_get (D := (dC, dI)) (ci := 8) (v := .ref t0) (C := RX8) (T := TX8) (N := 2) hx hb hts (fun _ h => List.mem_cons_of_mem _ (List.mem_append_right _ h)) hown hK hP 0 rfl rfl 0 kc_l_0_2 (hts (.fieldLink RX8 9 "NotEnded$Tape" "signs" "[C") (List.mem_cons_of_mem _ (List.mem_append_left _ (List.mem_of_getElem? (i := 1) rfl)))) (fun _ h9 => h9) rfl dX8_append_32 ?_
        refine lv_aload_n hx hb dX8_append_35 rfl (lv_at hl 2 rfl) ?_
        refine va_get (D := (dC, dI)) (ci := 8) (v := .int (nI (kt + 1 + 1))) (C := RX8) (T := TX8) (N := 2) hx hb hts (fun _ h => List.mem_cons_of_mem _ (List.mem_append_right _ h)) hown hK hP 0 rfl rfl 1 kc_l_1_2 (hts (.fieldLink RX8 15 "NotEnded$Tape" "length" "I") (List.mem_cons_of_mem _ (List.mem_append_left _ (List.mem_of_getElem? (i := 0) rfl)))) (fun _ h9 => h9) rfl dX8_append_36 ?_
        refine lv_iload_n hx hb dX8_append_39 rfl (lv_at hl 0 rfl) ?_
        obtain ⟨x_151, ex_151⟩ : ∃ z : Int32, z = (Int32.toUInt32 x_135 % 65536).toInt32 := ⟨_, rfl⟩
        refine lv_i2c (v := x_151) hx hb dX8_append_40 ex_151.symm ?_
        have bd_153 : kt + 1 + 1 < 120 := by omega
        refine va_cast hx hb hK hP hD hS 1 0 rfl rfl (vp_in_nI (n := kt + 1 + 1) (N := 120) bd_153 kc_31_120) dX8_append_41 (fun H locs hP hD hS => ?_)
        obtain ⟨f_152, ef_152⟩ : ∃ gg9 : Nat → Int32, gg9 = upd f_130 (Int32.toNatClampNeg (nI (kt + 1 + 1))) (vp_nar .char x_151) := ⟨_, rfl⟩
        have hPD : kPD dC dI A [(jT, .inr (8, [.ref t0, .int (nI (kt + 1 + 1))])), (t0, .inl (cC, 120, .inl f_152))] H := by rw [ef_152]; exact ⟨hP, hD⟩
        have hP := hPD.1
        have hD := hPD.2
        refine lv_aload_n hx hb dX8_append_42 rfl (lv_at hl 2 rfl) ?_
        refine lv_dup hx hb dX8_append_43 rfl ?_
        refine va_get (D := (dC, dI)) (ci := 8) (v := .int (nI (kt + 1 + 1))) (C := RX8) (T := TX8) (N := 2) hx hb hts (fun _ h => List.mem_cons_of_mem _ (List.mem_append_right _ h)) hown hK hP 0 rfl rfl 1 kc_l_1_2 (hts (.fieldLink RX8 15 "NotEnded$Tape" "length" "I") (List.mem_cons_of_mem _ (List.mem_append_left _ (List.mem_of_getElem? (i := 0) rfl)))) (fun _ h9 => h9) rfl dX8_append_44 ?_
        refine lv_iconst (v := 1) hx hb dX8_append_47 kc_i_1 ?_
        refine lv_iadd hx hb dX8_append_48 ?_
        refine lv_topi (fun y_154 ey_154 => ?_)
        obtain rfl : y_154 = nI (kt + 1 + 1 + 1) := ey_154.trans (nI_add (kt + 1 + 1) (1))
        refine va_put (D := (dC, dI)) (ci := 8) (v := .int (nI (kt + 1 + 1 + 1))) (ty := tyX8 1) (C := RX8) (T := TX8) (N := 2) hx hb hts (fun _ h => List.mem_cons_of_mem _ (List.mem_append_right _ h)) tyX8 tyX8_ok nmX8 hown hK hP hD hS 0 rfl rfl 1 kc_l_1_2 (hts (.fieldLink RX8 15 "NotEnded$Tape" "length" "I") (List.mem_cons_of_mem _ (List.mem_append_left _ (List.mem_of_getElem? (i := 0) rfl)))) (fun _ h9 => h9) rfl (tyX8_ok 1 kc_l_1_2) rfl rfl (Nat.le_of_ble_eq_true rfl) dX8_append_49 (fun H locs hP hD hS => ?_)
        have hPD : kPD dC dI A [(jT, .inr (8, [.ref t0, .int (nI (kt + 1 + 1 + 1))])), (t0, .inl (cC, 120, .inl f_152))] H := ⟨hP, hD⟩
        have hP := hPD.1
        have hD := hPD.2
        refine lv_iinc (v := 0) hx hb dX8_append_52 hl (k := 1) rfl (by decide) kc_l_2_4 (kTo [(2, .int 0), (3, .int x_135), (0, .ref jT), (1, .int p0)]) (fun ls hl => ?_)
        refine lv_goto (tgt := 3) hx hb dX8_append_55 kc_t_55_m52 ?_
        refine lv_iload_n hx hb dX8_append_3 rfl (lv_at hl 0 rfl) ?_
        refine lv_if_lt (tgt := 58) hx hb dX8_append_4 kc_t_4_54 (fun c_155 => absurd c_155 (by decide)) (fun c_155 => ?_)
        refine lv_iload_n hx hb dX8_append_7 rfl (lv_at hl 3 rfl) ?_
        refine lv_iload_n hx hb dX8_append_8 rfl (lv_at hl 0 rfl) ?_
        obtain ⟨x_156, ex_156⟩ : ∃ z : Int32, z = (Int32.toUInt32 p0 >>> (Int32.toUInt32 0 &&& Int32.toUInt32 31)).toInt32 := ⟨_, rfl⟩
        refine lv_iushr (v := x_156) hx hb dX8_append_9 ex_156.symm ?_
        refine lv_sipush (v := 255) hx hb dX8_append_10 kc_s_255 ?_
        refine lv_iand hx hb dX8_append_13 ?_
        refine lv_topi (fun x_157 ex_157 => ?_)
        refine lv_istore_n hx hb dX8_append_14 rfl hl kc_l_3_4 (kTo [(3, .int x_157), (2, .int 0), (0, .ref jT), (1, .int p0)]) (fun ls hl => ?_)
        refine lv_iload_n hx hb dX8_append_15 rfl (lv_at hl 0 rfl) ?_
        have hy_158 : kS p0 0 = x_157 := by rw [ex_157, ex_156]; exact (kSu0 p0).symm
        refine lv_if_eq (tgt := 52) hx hb dX8_append_16 kc_t_16_36 (fun c_159 => ?_) (fun c_159 => ?_)
        · refine lv_iinc (v := (-8)) hx hb dX8_append_52 hl (k := 1) rfl (by decide) kc_l_2_4 (kTo [(2, .int (-8)), (3, .int x_157), (0, .ref jT), (1, .int p0)]) (fun ls hl => ?_)
          refine lv_goto (tgt := 3) hx hb dX8_append_55 kc_t_55_m52 ?_
          refine lv_iload_n hx hb dX8_append_3 rfl (lv_at hl 0 rfl) ?_
          refine lv_if_lt (tgt := 58) hx hb dX8_append_4 kc_t_4_54 (fun c_160 => ?_) (fun c_160 => absurd (by decide) c_160)
          have hk8 : kCnt p0 = 3 := by simp [kCnt, kC1, hy_4, hy_92, hy_136, hy_158, c_5, c_93, c_137, c_159]
          have hP9 := hP
          have hD9 := hD
          have hK9 := hK
          rw [hQ]
          exact W.vret hx hb hr (fun t ht hW => ⟨⟨(f_152, (kt + 1 + 1 + 1), (kUpN (kUpN (kUpN bt kt (kSn p0 24)) (kt + 1) (kSn p0 16)) (kt + 1 + 1) (kSn p0 8))), rfl, ⟨by unfold kPut; rw [kP1_n (k := 24) (fun z => c_5 (hy_4.symm.trans z)), kP1_n (k := 16) (fun z => c_93 (hy_92.symm.trans z)), kP1_n (k := 8) (fun z => c_137 (hy_136.symm.trans z)), kP1_z (k := 0) (hy_158.trans c_159)], (kUpB (by omega) ef_152 ex_151 hy_136 (kUpB (by omega) ef_130 ex_129 hy_92 (kUpB (by omega) ef_86 ex_85 hy_4 hbt))), (kUp8 (kUp8 (kUp8 hb8))), by omega⟩,  by rw [ht]; exact hP9, va_K.moved hW.alike hK9, hD9⟩, hS.F ht⟩) hS.2.2 dX8_append_58
        · refine lv_aload_n hx hb dX8_append_19 rfl (lv_at hl 2 rfl) ?_
          refine va_get (D := (dC, dI)) (ci := 8) (v := .int (nI (kt + 1 + 1 + 1))) (C := RX8) (T := TX8) (N := 2) hx hb hts (fun _ h => List.mem_cons_of_mem _ (List.mem_append_right _ h)) hown hK hP 0 rfl rfl 1 kc_l_1_2 (hts (.fieldLink RX8 15 "NotEnded$Tape" "length" "I") (List.mem_cons_of_mem _ (List.mem_append_left _ (List.mem_of_getElem? (i := 0) rfl)))) (fun _ h9 => h9) rfl dX8_append_20 ?_
          refine lv_aload_n hx hb dX8_append_23 rfl (lv_at hl 2 rfl) ?_
          refine va_get (D := (dC, dI)) (ci := 8) (v := .ref t0) (C := RX8) (T := TX8) (N := 2) hx hb hts (fun _ h => List.mem_cons_of_mem _ (List.mem_append_right _ h)) hown hK hP 0 rfl rfl 0 kc_l_0_2 (hts (.fieldLink RX8 9 "NotEnded$Tape" "signs" "[C") (List.mem_cons_of_mem _ (List.mem_append_left _ (List.mem_of_getElem? (i := 1) rfl)))) (fun _ h9 => h9) rfl dX8_append_24 ?_
          refine va_alen hx hb hK hP 1 0 rfl rfl (v := 120) rfl dX8_append_27 ?_
          have hy_158_c : kC1 p0 0 = 1 := by simp [kC1, hy_158, c_159]
          refine lv_icmp_ge (tgt := 52) hx hb dX8_append_28 kc_t_28_24 (fun c_161 => absurd c_161 (nI_ge (a := kt + 1 + 1 + 1) (b := 120) (by omega) (by decide))) (fun c_161 => ?_)
          refine lv_aload_n hx hb dX8_append_31 rfl (lv_at hl 2 rfl) ?_
          refine va_get (D := (dC, dI)) (ci := 8) (v := .ref t0) (C := RX8) (T := TX8) (N := 2) hx hb hts (fun _ h => List.mem_cons_of_mem _ (List.mem_append_right _ h)) hown hK hP 0 rfl rfl 0 kc_l_0_2 (hts (.fieldLink RX8 9 "NotEnded$Tape" "signs" "[C") (List.mem_cons_of_mem _ (List.mem_append_left _ (List.mem_of_getElem? (i := 1) rfl)))) (fun _ h9 => h9) rfl dX8_append_32 ?_
          refine lv_aload_n hx hb dX8_append_35 rfl (lv_at hl 2 rfl) ?_
          refine va_get (D := (dC, dI)) (ci := 8) (v := .int (nI (kt + 1 + 1 + 1))) (C := RX8) (T := TX8) (N := 2) hx hb hts (fun _ h => List.mem_cons_of_mem _ (List.mem_append_right _ h)) hown hK hP 0 rfl rfl 1 kc_l_1_2 (hts (.fieldLink RX8 15 "NotEnded$Tape" "length" "I") (List.mem_cons_of_mem _ (List.mem_append_left _ (List.mem_of_getElem? (i := 0) rfl)))) (fun _ h9 => h9) rfl dX8_append_36 ?_
          refine lv_iload_n hx hb dX8_append_39 rfl (lv_at hl 0 rfl) ?_
          obtain ⟨x_162, ex_162⟩ : ∃ z : Int32, z = (Int32.toUInt32 x_157 % 65536).toInt32 := ⟨_, rfl⟩
          refine lv_i2c (v := x_162) hx hb dX8_append_40 ex_162.symm ?_
          have bd_164 : kt + 1 + 1 + 1 < 120 := by omega
          refine va_cast hx hb hK hP hD hS 1 0 rfl rfl (vp_in_nI (n := kt + 1 + 1 + 1) (N := 120) bd_164 kc_31_120) dX8_append_41 (fun H locs hP hD hS => ?_)
          obtain ⟨f_163, ef_163⟩ : ∃ gg9 : Nat → Int32, gg9 = upd f_152 (Int32.toNatClampNeg (nI (kt + 1 + 1 + 1))) (vp_nar .char x_162) := ⟨_, rfl⟩
          have hPD : kPD dC dI A [(jT, .inr (8, [.ref t0, .int (nI (kt + 1 + 1 + 1))])), (t0, .inl (cC, 120, .inl f_163))] H := by rw [ef_163]; exact ⟨hP, hD⟩
          have hP := hPD.1
          have hD := hPD.2
          refine lv_aload_n hx hb dX8_append_42 rfl (lv_at hl 2 rfl) ?_
          refine lv_dup hx hb dX8_append_43 rfl ?_
          refine va_get (D := (dC, dI)) (ci := 8) (v := .int (nI (kt + 1 + 1 + 1))) (C := RX8) (T := TX8) (N := 2) hx hb hts (fun _ h => List.mem_cons_of_mem _ (List.mem_append_right _ h)) hown hK hP 0 rfl rfl 1 kc_l_1_2 (hts (.fieldLink RX8 15 "NotEnded$Tape" "length" "I") (List.mem_cons_of_mem _ (List.mem_append_left _ (List.mem_of_getElem? (i := 0) rfl)))) (fun _ h9 => h9) rfl dX8_append_44 ?_
          refine lv_iconst (v := 1) hx hb dX8_append_47 kc_i_1 ?_
          refine lv_iadd hx hb dX8_append_48 ?_
          refine lv_topi (fun y_165 ey_165 => ?_)
          obtain rfl : y_165 = nI (kt + 1 + 1 + 1 + 1) := ey_165.trans (nI_add (kt + 1 + 1 + 1) (1))
          refine va_put (D := (dC, dI)) (ci := 8) (v := .int (nI (kt + 1 + 1 + 1 + 1))) (ty := tyX8 1) (C := RX8) (T := TX8) (N := 2) hx hb hts (fun _ h => List.mem_cons_of_mem _ (List.mem_append_right _ h)) tyX8 tyX8_ok nmX8 hown hK hP hD hS 0 rfl rfl 1 kc_l_1_2 (hts (.fieldLink RX8 15 "NotEnded$Tape" "length" "I") (List.mem_cons_of_mem _ (List.mem_append_left _ (List.mem_of_getElem? (i := 0) rfl)))) (fun _ h9 => h9) rfl (tyX8_ok 1 kc_l_1_2) rfl rfl (Nat.le_of_ble_eq_true rfl) dX8_append_49 (fun H locs hP hD hS => ?_)
          have hPD : kPD dC dI A [(jT, .inr (8, [.ref t0, .int (nI (kt + 1 + 1 + 1 + 1))])), (t0, .inl (cC, 120, .inl f_163))] H := ⟨hP, hD⟩
          have hP := hPD.1
          have hD := hPD.2
          refine lv_iinc (v := (-8)) hx hb dX8_append_52 hl (k := 1) rfl (by decide) kc_l_2_4 (kTo [(2, .int (-8)), (3, .int x_157), (0, .ref jT), (1, .int p0)]) (fun ls hl => ?_)
          refine lv_goto (tgt := 3) hx hb dX8_append_55 kc_t_55_m52 ?_
          refine lv_iload_n hx hb dX8_append_3 rfl (lv_at hl 0 rfl) ?_
          refine lv_if_lt (tgt := 58) hx hb dX8_append_4 kc_t_4_54 (fun c_166 => ?_) (fun c_166 => absurd (by decide) c_166)
          have hk8 : kCnt p0 = 4 := by simp [kCnt, kC1, hy_4, hy_92, hy_136, hy_158, c_5, c_93, c_137, c_159]
          have hP9 := hP
          have hD9 := hD
          have hK9 := hK
          rw [hQ]
          exact W.vret hx hb hr (fun t ht hW => ⟨⟨(f_163, (kt + 1 + 1 + 1 + 1), (kUpN (kUpN (kUpN (kUpN bt kt (kSn p0 24)) (kt + 1) (kSn p0 16)) (kt + 1 + 1) (kSn p0 8)) (kt + 1 + 1 + 1) (kSn p0 0))), rfl, ⟨by unfold kPut; rw [kP1_n (k := 24) (fun z => c_5 (hy_4.symm.trans z)), kP1_n (k := 16) (fun z => c_93 (hy_92.symm.trans z)), kP1_n (k := 8) (fun z => c_137 (hy_136.symm.trans z)), kP1_n (k := 0) (fun z => c_159 (hy_158.symm.trans z))], (kUpB (by omega) ef_163 ex_162 hy_158 (kUpB (by omega) ef_152 ex_151 hy_136 (kUpB (by omega) ef_130 ex_129 hy_92 (kUpB (by omega) ef_86 ex_85 hy_4 hbt)))), (kUp8 (kUp8 (kUp8 (kUp8 hb8)))), by omega⟩,  by rw [ht]; exact hP9, va_K.moved hW.alike hK9, hD9⟩, hS.F ht⟩) hS.2.2 dX8_append_58

/-- a number within a million -/
def kClm (x : Int) : Int32 := Int32.ofInt (max (-1000000) (min 1000000 x))
/-- two numbers joined by a sign -/
def kJi (s l r : Int32) : Int :=
  if s = 43 then l.toInt + r.toInt else if s = 45 then l.toInt - r.toInt else if s = 42 then l.toInt * r.toInt
  else if s = 47 then (if r = 0 then 0 else (l / r).toInt) else if s = 61 then (if l = r then 1 else 0) else if s = 60 then (if l < r then 1 else 0)
  else if s = 62 then (if r < l then 1 else 0) else if s = 38 then (l &&& r).toInt else (l ||| r).toInt
def kJn (s l r : Int32) : Int32 := kClm (kJi s l r)
/-- what a step lays on the stack -/
def kStv (lt : Nat → Int32) (x : Int32) : Int32 := if x - 10000 < 0 then x else if x - 10000 < 8 then lt (Int32.toNatClampNeg (x - 10000)) else x
def kEv1 (lt : Nat → Int32) (x : Int32) (st : List Int32) : List Int32 :=
  if x < 20000 then kStv lt x :: st
  else if x = 20033 then (match st with
    | a :: r => (if a = 0 then 1 else 0) :: r
    | [] => [])
  else (match st with
    | b :: a :: r => kJn (x - 20000) a b :: r
    | r => r)
def kEv (lt : Nat → Int32) : List Int32 → List Int32 → List Int32
  | [], st => st
  | x :: l, st => kEv lt l (kEv1 lt x st)
theorem kEv_app (lt : Nat → Int32) (m : List Int32) : ∀ (l st : List Int32), kEv lt (l ++ m) st = kEv lt m (kEv lt l st) := by
  intro l
  induction l with
  | nil => intro st; rfl
  | cons x l ih => intro st; exact ih (kEv1 lt x st)
theorem kLt20 {v : Nat} (h : v < 20000) : nI v < 20000 := nI_lt (a := v) (b := 20000) h (by decide)
/-- a sum, as steps: how high it lays the stack -/
def kWn (M h : Nat) (l : List Int32) : Prop := ∀ P : Nat → List Int32 → Prop, (∀ v : Nat, v < 10000 → P 1 [nI v]) → (∀ k : Nat, k < M → k < 8 → P 1 [nI (10000 + k)]) → (∀ (a b s : Nat) (l m : List Int32), P a l → P b m → (s = 43 ∨ s = 45 ∨ s = 42 ∨ s = 47) → P (max a (b + 1)) (l ++ m ++ [nI (20000 + s)])) → P h l
theorem kWn.num {M v : Nat} (h : v < 10000) : kWn M 1 [nI v] := fun _ c1 _ _ => c1 v h
theorem kWn.ltr {M k : Nat} (h : k < M) (h8 : k < 8) : kWn M 1 [nI (10000 + k)] := fun _ _ c2 _ => c2 k h h8
theorem kWn.bin {M a b s : Nat} {l m : List Int32} (h1 : kWn M a l) (h2 : kWn M b m) (hs : (s = 43 ∨ s = 45 ∨ s = 42 ∨ s = 47)) : kWn M (max a (b + 1)) (l ++ m ++ [nI (20000 + s)]) := fun P c1 c2 c3 => c3 a b s l m (h1 P c1 c2 c3) (h2 P c1 c2 c3) hs
theorem kWn_ind {M : Nat} {P : Nat → List Int32 → Prop} (c1 : ∀ v : Nat, v < 10000 → P 1 [nI v]) (c2 : ∀ k : Nat, k < M → k < 8 → P 1 [nI (10000 + k)]) (c3 : ∀ (a b s : Nat) (l m : List Int32), kWn M a l → kWn M b m → (s = 43 ∨ s = 45 ∨ s = 42 ∨ s = 47) → P a l → P b m → P (max a (b + 1)) (l ++ m ++ [nI (20000 + s)])) {h : Nat} {l : List Int32} (w : kWn M h l) : P h l :=
  (w (fun h l => kWn M h l ∧ P h l) (fun v hv => ⟨kWn.num hv, c1 v hv⟩) (fun k hk h8 => ⟨kWn.ltr hk h8, c2 k hk h8⟩) (fun a b s l m x y hs => ⟨kWn.bin x.1 y.1 hs, c3 a b s l m x.1 y.1 hs x.2 y.2⟩)).2
/-- a condition, as steps -/
def kWb (M h : Nat) (l : List Int32) : Prop := ∀ P : Nat → List Int32 → Prop, (∀ (a b s : Nat) (l m : List Int32), kWn M a l → kWn M b m → (s = 61 ∨ s = 60 ∨ s = 62) → P (max a (b + 1)) (l ++ m ++ [nI (20000 + s)])) → (∀ (a : Nat) (l : List Int32), P a l → P a (l ++ [20033])) → (∀ (a b s : Nat) (l m : List Int32), P a l → P b m → (s = 38 ∨ s = 124) → P (max a (b + 1)) (l ++ m ++ [nI (20000 + s)])) → P h l
theorem kWb.cmp {M a b s : Nat} {l m : List Int32} (h1 : kWn M a l) (h2 : kWn M b m) (hs : (s = 61 ∨ s = 60 ∨ s = 62)) : kWb M (max a (b + 1)) (l ++ m ++ [nI (20000 + s)]) := fun _ c1 _ _ => c1 a b s l m h1 h2 hs
theorem kWb.neg {M a : Nat} {l : List Int32} (h1 : kWb M a l) : kWb M a (l ++ [20033]) := fun P c1 c2 c3 => c2 a l (h1 P c1 c2 c3)
theorem kWb.bin {M a b s : Nat} {l m : List Int32} (h1 : kWb M a l) (h2 : kWb M b m) (hs : (s = 38 ∨ s = 124)) : kWb M (max a (b + 1)) (l ++ m ++ [nI (20000 + s)]) := fun P c1 c2 c3 => c3 a b s l m (h1 P c1 c2 c3) (h2 P c1 c2 c3) hs
theorem kWb_ind {M : Nat} {P : Nat → List Int32 → Prop} (c1 : ∀ (a b s : Nat) (l m : List Int32), kWn M a l → kWn M b m → (s = 61 ∨ s = 60 ∨ s = 62) → P (max a (b + 1)) (l ++ m ++ [nI (20000 + s)])) (c2 : ∀ (a : Nat) (l : List Int32), kWb M a l → P a l → P a (l ++ [20033])) (c3 : ∀ (a b s : Nat) (l m : List Int32), kWb M a l → kWb M b m → (s = 38 ∨ s = 124) → P a l → P b m → P (max a (b + 1)) (l ++ m ++ [nI (20000 + s)])) {h : Nat} {l : List Int32} (w : kWb M h l) : P h l :=
  (w (fun h l => kWb M h l ∧ P h l) (fun a b s l m x y hs => ⟨kWb.cmp x y hs, c1 a b s l m x y hs⟩) (fun a l x => ⟨kWb.neg x.1, c2 a l x.1 x.2⟩) (fun a b s l m x y hs => ⟨kWb.bin x.1 y.1 hs, c3 a b s l m x.1 y.1 hs x.2 y.2⟩)).2
def kVal (lt : Nat → Int32) (l : List Int32) : Int32 := (kEv lt l []).headD 0
theorem kSgnF : ∀ s : Fin 128, ¬ nI (20000 + s.val) < 20000 ∧ nI (20000 + s.val) - 20000 = nI s.val ∧ (nI (20000 + s.val) = 20033 → s.val = 33) := by decide +kernel
theorem kEv1_s {lt : Nat → Int32} {s : Nat} {a b : Int32} {st : List Int32} (hs : s < 128) (h33 : ¬ s = 33) : kEv1 lt (nI (20000 + s)) (b :: a :: st) = kJn (nI s) a b :: st := by
  have h := kSgnF ⟨s, hs⟩
  unfold kEv1
  rw [if_neg h.1, if_neg (fun z => h33 (h.2.2 z)), h.2.1]
theorem kEv1_n {lt : Nat → Int32} {a : Int32} {st : List Int32} : kEv1 lt 20033 (a :: st) = (if a = 0 then 1 else 0) :: st := by
  unfold kEv1
  rw [if_neg (by decide), if_pos rfl]
theorem kEv_of {lt : Nat → Int32} {l : List Int32} (h : ∃ v : Int32, ∀ st : List Int32, kEv lt l st = v :: st) : ∀ st : List Int32, kEv lt l st = kVal lt l :: st := by
  obtain ⟨v, hv⟩ := h
  intro st
  unfold kVal
  rw [hv st, hv []]
  rfl
theorem kEv_join {lt : Nat → Int32} {l m : List Int32} {s : Nat} (h1 : ∀ st : List Int32, kEv lt l st = kVal lt l :: st) (h2 : ∀ st : List Int32, kEv lt m st = kVal lt m :: st) (hs : s < 128) (h33 : ¬ s = 33) : ∀ st : List Int32, kEv lt (l ++ m ++ [nI (20000 + s)]) st = kJn (nI s) (kVal lt l) (kVal lt m) :: st := by
  intro st
  rw [kEv_app, kEv_app, h1, h2]
  show kEv lt [] (kEv1 lt (nI (20000 + s)) (kVal lt m :: kVal lt l :: st)) = _
  rw [kEv1_s hs h33]
  rfl
theorem kWn_ev {lt : Nat → Int32} {M h : Nat} {l : List Int32} (w : kWn M h l) : ∀ st : List Int32, kEv lt l st = kVal lt l :: st := by
  refine kWn_ind (P := fun _ l => ∀ st : List Int32, kEv lt l st = kVal lt l :: st) ?_ ?_ ?_ w
  · intro v hv
    refine kEv_of ⟨kStv lt (nI v), fun st => ?_⟩
    show kEv lt [] (kEv1 lt (nI v) st) = _
    unfold kEv1
    rw [if_pos (kLt20 (by omega))]
    rfl
  · intro k hk h8
    refine kEv_of ⟨kStv lt (nI (10000 + k)), fun st => ?_⟩
    show kEv lt [] (kEv1 lt (nI (10000 + k)) st) = _
    unfold kEv1
    rw [if_pos (kLt20 (by omega))]
    rfl
  · intro a b s l m h1 h2 hs i1 i2
    exact kEv_of ⟨_, kEv_join i1 i2 (by omega) (by omega)⟩
theorem kWb_ev {lt : Nat → Int32} {M h : Nat} {l : List Int32} (w : kWb M h l) : ∀ st : List Int32, kEv lt l st = kVal lt l :: st := by
  refine kWb_ind (P := fun _ l => ∀ st : List Int32, kEv lt l st = kVal lt l :: st) ?_ ?_ ?_ w
  · intro a b s l m h1 h2 hs
    exact kEv_of ⟨_, kEv_join (kWn_ev h1) (kWn_ev h2) (by omega) (by omega)⟩
  · intro a l h1 i1
    refine kEv_of ⟨(if kVal lt l = 0 then 1 else 0), fun st => ?_⟩
    rw [kEv_app, i1]
    show kEv lt [] (kEv1 lt 20033 (kVal lt l :: st)) = _
    rw [kEv1_n]
    rfl
  · intro a b s l m h1 h2 hs i1 i2
    exact kEv_of ⟨_, kEv_join i1 i2 (by omega) (by omega)⟩
theorem kVal_num {lt : Nat → Int32} {v : Nat} (h : v < 20000) : kVal lt [nI v] = kStv lt (nI v) := by
  show (kEv lt [] (kEv1 lt (nI v) [])).headD 0 = _
  unfold kEv1
  rw [if_pos (kLt20 h)]
  rfl
theorem kVal_n {lt : Nat → Int32} {M a b s : Nat} {l m : List Int32} (h1 : kWn M a l) (h2 : kWn M b m) (hs : s < 128) (h33 : ¬ s = 33) : kVal lt (l ++ m ++ [nI (20000 + s)]) = kJn (nI s) (kVal lt l) (kVal lt m) := by
  show (kEv lt _ []).headD 0 = _
  rw [kEv_join (kWn_ev h1) (kWn_ev h2) hs h33]
  rfl
theorem kVal_b {lt : Nat → Int32} {M a b s : Nat} {l m : List Int32} (h1 : kWb M a l) (h2 : kWb M b m) (hs : s < 128) (h33 : ¬ s = 33) : kVal lt (l ++ m ++ [nI (20000 + s)]) = kJn (nI s) (kVal lt l) (kVal lt m) := by
  show (kEv lt _ []).headD 0 = _
  rw [kEv_join (kWb_ev h1) (kWb_ev h2) hs h33]
  rfl
theorem kVal_not {lt : Nat → Int32} {M a : Nat} {l : List Int32} (h1 : kWb M a l) : kVal lt (l ++ [20033]) = if kVal lt l = 0 then 1 else 0 := by
  show (kEv lt _ []).headD 0 = _
  rw [kEv_app, kWb_ev h1]
  show (kEv lt [] (kEv1 lt 20033 _)).headD 0 = _
  rw [kEv1_n]
  rfl
/-- the stack stays within its room -/
def kFit : List Int32 → Nat → Prop
  | [], _ => True
  | x :: l, n => if x < 20000 then (n < 32 ∧ kFit l (n + 1)) else if x = 20033 then (1 ≤ n ∧ kFit l n) else (2 ≤ n ∧ kFit l (n - 1))
theorem kFit_s {s n : Nat} {r : List Int32} (hs : s < 128) (h33 : ¬ s = 33) (hn : 2 ≤ n) (h : kFit r (n - 1)) : kFit (nI (20000 + s) :: r) n := by
  have z := kSgnF ⟨s, hs⟩
  unfold kFit
  rw [if_neg z.1, if_neg (fun y => h33 (z.2.2 y))]
  exact ⟨hn, h⟩
theorem kWn_fit {M h : Nat} {l : List Int32} (w : kWn M h l) : ∀ (n : Nat) (r : List Int32), n + h ≤ 32 → kFit r (n + 1) → kFit (l ++ r) n := by
  refine kWn_ind (P := fun h l => ∀ (n : Nat) (r : List Int32), n + h ≤ 32 → kFit r (n + 1) → kFit (l ++ r) n) ?_ ?_ ?_ w
  · intro v hv
    intro n r hn hr
    show kFit (nI v :: r) n
    unfold kFit
    rw [if_pos (kLt20 (by omega))]
    exact ⟨by omega, hr⟩
  · intro k hk h8
    intro n r hn hr
    show kFit (nI (10000 + k) :: r) n
    unfold kFit
    rw [if_pos (kLt20 (by omega))]
    exact ⟨by omega, hr⟩
  · intro a b s l m h1 h2 hs i1 i2
    intro n r hn hr
    rw [List.append_assoc, List.append_assoc]
    refine i1 n _ (by omega) (i2 (n + 1) _ (by omega) ?_)
    exact kFit_s (by omega) (by omega) (by omega) hr
theorem kWb_fit {M h : Nat} {l : List Int32} (w : kWb M h l) : ∀ (n : Nat) (r : List Int32), n + h ≤ 32 → kFit r (n + 1) → kFit (l ++ r) n := by
  refine kWb_ind (P := fun h l => ∀ (n : Nat) (r : List Int32), n + h ≤ 32 → kFit r (n + 1) → kFit (l ++ r) n) ?_ ?_ ?_ w
  · intro a b s l m h1 h2 hs
    intro n r hn hr
    rw [List.append_assoc, List.append_assoc]
    refine kWn_fit h1 n _ (by omega) (kWn_fit h2 (n + 1) _ (by omega) ?_)
    exact kFit_s (by omega) (by omega) (by omega) hr
  · intro a l h1 i1
    intro n r hn hr
    rw [List.append_assoc]
    refine i1 n _ hn ?_
    show kFit (20033 :: r) (n + 1)
    unfold kFit
    rw [if_neg (by decide), if_pos rfl]
    exact ⟨by omega, hr⟩
  · intro a b s l m h1 h2 hs i1 i2
    intro n r hn hr
    rw [List.append_assoc, List.append_assoc]
    refine i1 n _ (by omega) (i2 (n + 1) _ (by omega) ?_)
    exact kFit_s (by omega) (by omega) (by omega) hr
theorem kTh_i {r : kRes} {k : Nat → List Int32 → kRes} {q : Nat} {l : List Int32} (h : kTh r k = (true, q, l)) : ∃ (p : Nat) (x : List Int32), r = (true, p, x) ∧ k p x = (true, q, l) := by
  obtain ⟨o, p, x⟩ := r
  cases o with
  | true => exact ⟨p, x, rfl, h⟩
  | false => exact absurd (Prod.mk.inj (show ((false, p, []) : kRes) = (true, q, l) from h)).1 (by decide)
theorem kTk_i {b : Nat → Nat} {n c p q : Nat} {x l : List Int32} (h : kTk b n c p x = (true, q, l)) : l = x := by
  unfold kTk at h
  split at h
  · exact ((Prod.mk.inj (Prod.mk.inj h).2).2).symm
  · exact absurd (Prod.mk.inj h).1 (by decide)
/-- sums no higher than so much -/
def kHn (M H : Nat) (l : List Int32) : Prop := ∃ h : Nat, h ≤ H ∧ kWn M h l
def kHb (M H : Nat) (l : List Int32) : Prop := ∃ h : Nat, h ≤ H ∧ kWb M h l
def kRn (M H : Nat) (a : Nat → kRes) : Prop := ∀ (p q : Nat) (l : List Int32), a p = (true, q, l) → kHn M H l
def kRb (M H : Nat) (a : Nat → kRes) : Prop := ∀ (p q : Nat) (l : List Int32), a p = (true, q, l) → kHb M H l
theorem kHn_le {M : Nat} {H K : Nat} {l : List Int32} (h : kHn M H l) (hk : H ≤ K) : kHn M K l := by obtain ⟨x, h1, h2⟩ := h; exact ⟨x, by omega, h2⟩
theorem kHb_le {M : Nat} {H K : Nat} {l : List Int32} (h : kHb M H l) (hk : H ≤ K) : kHb M K l := by obtain ⟨x, h1, h2⟩ := h; exact ⟨x, by omega, h2⟩
theorem kHn_bin {M : Nat} {A H s : Nat} {l m : List Int32} (h1 : kHn M H l) (h2 : kHn M A m) (hA : A + 1 ≤ H) (hs : s = 43 ∨ s = 45 ∨ s = 42 ∨ s = 47) : kHn M H (l ++ m ++ [nI (20000 + s)]) := by
  obtain ⟨x, x1, x2⟩ := h1
  obtain ⟨y, y1, y2⟩ := h2
  exact ⟨max x (y + 1), by omega, kWn.bin x2 y2 hs⟩
theorem kHb_bin {M : Nat} {A H s : Nat} {l m : List Int32} (h1 : kHb M H l) (h2 : kHb M A m) (hA : A + 1 ≤ H) (hs : s = 38 ∨ s = 124) : kHb M H (l ++ m ++ [nI (20000 + s)]) := by
  obtain ⟨x, x1, x2⟩ := h1
  obtain ⟨y, y1, y2⟩ := h2
  exact ⟨max x (y + 1), by omega, kWb.bin x2 y2 hs⟩
theorem kLoop_n {M : Nat} {b : Nat → Nat} {n c1 c2 A H : Nat} {a : Nat → kRes} (ha : kRn M A a) (hA : A + 1 ≤ H) (hc1 : c1 = 43 ∨ c1 = 45 ∨ c1 = 42 ∨ c1 = 47) (hc2 : c2 = 43 ∨ c2 = 45 ∨ c2 = 42 ∨ c2 = 47) : ∀ (f p q : Nat) (l r : List Int32), kHn M H l → kLoop b n c1 c2 a f p l = (true, q, r) → kHn M H r := by
  intro f
  induction f with
  | zero => intro p q l r hl h; rw [← (Prod.mk.inj (Prod.mk.inj (show ((true, p, l) : kRes) = (true, q, r) from h)).2).2]; exact hl
  | succ f ih =>
    intro p q l r hl h
    by_cases z : kLk b n p = c1 ∨ kLk b n p = c2
    · have h2 : kTh (a (kSp b n p + 1)) (fun q m => kLoop b n c1 c2 a f q (l ++ m ++ [nI (20000 + kLk b n p)])) = (true, q, r) := (if_pos z).symm.trans h
      obtain ⟨p2, x, h3, h4⟩ := kTh_i h2
      exact ih p2 q _ r (kHn_bin hl (ha _ _ _ h3) hA (by omega)) h4
    · rw [kLoop_e z] at h
      rw [← (Prod.mk.inj (Prod.mk.inj h).2).2]; exact hl
theorem kLoop_b {M : Nat} {b : Nat → Nat} {n c A H : Nat} {a : Nat → kRes} (ha : kRb M A a) (hA : A + 1 ≤ H) (hc : c = 38 ∨ c = 124) : ∀ (f p q : Nat) (l r : List Int32), kHb M H l → kLoop b n c c a f p l = (true, q, r) → kHb M H r := by
  intro f
  induction f with
  | zero => intro p q l r hl h; rw [← (Prod.mk.inj (Prod.mk.inj (show ((true, p, l) : kRes) = (true, q, r) from h)).2).2]; exact hl
  | succ f ih =>
    intro p q l r hl h
    by_cases z : kLk b n p = c ∨ kLk b n p = c
    · have h2 : kTh (a (kSp b n p + 1)) (fun q m => kLoop b n c c a f q (l ++ m ++ [nI (20000 + kLk b n p)])) = (true, q, r) := (if_pos z).symm.trans h
      obtain ⟨p2, x, h3, h4⟩ := kTh_i h2
      exact ih p2 q _ r (kHb_bin hl (ha _ _ _ h3) hA (by omega)) h4
    · rw [kLoop_e z] at h
      rw [← (Prod.mk.inj (Prod.mk.inj h).2).2]; exact hl
theorem kMany_n {M : Nat} {b : Nat → Nat} {n c1 c2 A : Nat} {a z : Nat → kRes} (ha : kRn M A a) (hz : kRn M (A + 1) z) (hc1 : c1 = 43 ∨ c1 = 45 ∨ c1 = 42 ∨ c1 = 47) (hc2 : c2 = 43 ∨ c2 = 45 ∨ c2 = 42 ∨ c2 = 47) : kRn M (A + 1) (kMany b n c1 c2 a z) := by
  intro p q l h
  obtain ⟨p2, x, h1, h2⟩ := kTh_i h
  exact kLoop_n ha (Nat.le_refl _) hc1 hc2 120 p2 q x l (hz _ _ _ h1) h2
theorem kMany_b {M : Nat} {b : Nat → Nat} {n c A : Nat} {a z : Nat → kRes} (ha : kRb M A a) (hz : kRb M (A + 1) z) (hc : c = 38 ∨ c = 124) : kRb M (A + 1) (kMany b n c c a z) := by
  intro p q l h
  obtain ⟨p2, x, h1, h2⟩ := kTh_i h
  exact kLoop_b ha (Nat.le_refl _) hc 120 p2 q x l (hz _ _ _ h1) h2
theorem kRn_le {M : Nat} {H K : Nat} {a : Nat → kRes} (h : kRn M H a) (hk : H ≤ K) : kRn M K a := fun p q l e => kHn_le (h p q l e) hk
theorem kRb_le {M : Nat} {H K : Nat} {a : Nat → kRes} (h : kRb M H a) (hk : H ≤ K) : kRb M K a := fun p q l e => kHb_le (h p q l e) hk
theorem kNumL_v {b : Nat → Nat} {n : Nat} : ∀ (f p v c : Nat), v < 10 ^ c → (kNumL b n f p v).2 < 10 ^ (c + f) := by
  intro f
  induction f with
  | zero => intro p v c h; exact h
  | succ f ih =>
    intro p v c h
    unfold kNumL
    by_cases z : kDg (kAt b n p) = true
    · rw [if_pos z]
      have hz := kDg_t.mp z
      have h1 := ih (p + 1) (v * 10 + (kAt b n p - 48)) (c + 1) (by rw [Nat.pow_succ]; omega)
      rw [show c + (f + 1) = c + 1 + f by omega]
      exact h1
    · rw [if_neg z]
      exact Nat.lt_of_lt_of_le h (Nat.pow_le_pow_right (by decide) (by omega))
theorem kNum_w {M : Nat} {b : Nat → Nat} {n p q : Nat} {l : List Int32} (h : kNum b n p = (true, q, l)) : kHn M 1 l := by
  unfold kNum at h
  split at h
  · exact absurd (Prod.mk.inj h).1 (by decide)
  · rw [← (Prod.mk.inj (Prod.mk.inj h).2).2]
    have h1 := kNumL_v (b := b) (n := n) 4 p 0 0 (by decide)
    exact ⟨1, by omega, kWn.num h1⟩
theorem kAtomF_w {b : Nat → Nat} {n : Nat} {g : Nat → Int32} {m H : Nat} {op : Bool} {sm : Nat → kRes} (hs : kRn m H sm) (hm : m ≤ 8) (hH : 1 ≤ H) : kRn m H (kAtomF b n g m op sm) := by
  intro p q l h
  unfold kAtomF at h
  split at h
  · cases op with
    | false => exact absurd (Prod.mk.inj (show ((false, kSp b n p, []) : kRes) = (true, q, l) from h)).1 (by decide)
    | true =>
      obtain ⟨p2, x, h1, h2⟩ := kTh_i (show kTh (sm (kSp b n p + 1)) (fun q l => kTk b n 93 q l) = (true, q, l) from h)
      rw [kTk_i h2]
      exact hs _ _ _ h1
  · split at h
    · exact kHn_le (kNum_w h) hH
    · split at h
      · next hx =>
        rw [← (Prod.mk.inj (Prod.mk.inj h).2).2]
        exact ⟨1, hH, kWn.ltr hx (by omega)⟩
      · exact absurd (Prod.mk.inj h).1 (by decide)
theorem kFail_n (M H : Nat) : kRn M H (fun p => (false, p, [])) := fun _ _ _ h => absurd (Prod.mk.inj h).1 (by decide)
theorem kFail_b (M H : Nat) : kRb M H (fun p => (false, p, [])) := fun _ _ _ h => absurd (Prod.mk.inj h).1 (by decide)
theorem kSumF_w {M : Nat} {b : Nat → Nat} {n H : Nat} {a : Nat → kRes} (ha : kRn M H a) : kRn M (H + 2) (kSumF b n a) := by
  have h1 : kRn M (H + 1) (kMany b n 42 47 a a) := kMany_n ha (kRn_le ha (by omega)) (by omega) (by omega)
  exact kMany_n h1 (kRn_le h1 (by omega)) (by omega) (by omega)
theorem kAtomD_w {b : Nat → Nat} {n : Nat} {g : Nat → Int32} {m : Nat} (hm : m ≤ 8) : ∀ e, kRn m (2 * e + 1) (kAtomD b n g m e) := by
  intro e
  induction e with
  | zero => exact kAtomF_w (kFail_n m 1) hm (by omega)
  | succ e ih => exact kAtomF_w (kSumF_w ih) hm (by omega)
theorem kTermD_w {b : Nat → Nat} {n : Nat} {g : Nat → Int32} {m : Nat} (hm : m ≤ 8) (e : Nat) : kRn m (2 * e + 2) (kTermD b n g m e) := kMany_n (kAtomD_w hm e) (kRn_le (kAtomD_w hm e) (by omega)) (by omega) (by omega)
theorem kSumD_w {b : Nat → Nat} {n : Nat} {g : Nat → Int32} {m : Nat} (hm : m ≤ 8) (e : Nat) : kRn m (2 * e + 3) (kSumD b n g m e) := kSumF_w (kAtomD_w hm e)
theorem kCmp_w {b : Nat → Nat} {n : Nat} {g : Nat → Int32} {m : Nat} (hm : m ≤ 8) {e p q : Nat} {x l : List Int32} (hx : kHn m (2 * e + 3) x) (h : kCmp b n g m e p x = (true, q, l)) : kHb m (2 * e + 4) l := by
  unfold kCmp at h
  split at h
  · next hc =>
    obtain ⟨p2, y, h1, h2⟩ := kTh_i h
    obtain ⟨a, a1, a2⟩ := hx
    obtain ⟨c, c1, c2⟩ := kSumD_w hm e _ _ _ h1
    rw [← (Prod.mk.inj (Prod.mk.inj h2).2).2]
    exact ⟨max a (c + 1), by omega, kWb.cmp a2 c2 (by omega)⟩
  · exact absurd (Prod.mk.inj h).1 (by decide)
theorem kUnitF_w {b : Nat → Nat} {n : Nat} {g : Nat → Int32} {m : Nat} (hm : m ≤ 8) {e H : Nat} {op : Bool} {u c : Nat → kRes} (hu : kRb m H u) (hc : kRb m H c) (hH : 2 * e + 4 ≤ H) : kRb m H (kUnitF b n g m e op u c) := by
  intro p q l h
  unfold kUnitF at h
  split at h
  · cases op with
    | false => exact absurd (Prod.mk.inj (show ((false, kSp b n p, []) : kRes) = (true, q, l) from h)).1 (by decide)
    | true =>
      obtain ⟨p2, x, h1, h2⟩ := kTh_i (show kTh (u (kSp b n p + 1)) (fun q l => (true, q, l ++ [20033])) = (true, q, l) from h)
      obtain ⟨y, y1, y2⟩ := hu _ _ _ h1
      rw [← (Prod.mk.inj (Prod.mk.inj h2).2).2]
      exact ⟨y, y1, kWb.neg y2⟩
  · split at h
    · cases op with
      | false => exact absurd (Prod.mk.inj (show ((false, kSp b n p, []) : kRes) = (true, q, l) from h)).1 (by decide)
      | true =>
        obtain ⟨p2, x, h1, h2⟩ := kTh_i (show kTh (c (kSp b n p + 1)) (fun q l => kTk b n 41 q l) = (true, q, l) from h)
        rw [kTk_i h2]
        exact hc _ _ _ h1
    · obtain ⟨p2, x, h1, h2⟩ := kTh_i h
      exact kHb_le (kCmp_w hm (kSumD_w hm e _ _ _ h1) h2) hH
theorem kTruF_w {M : Nat} {b : Nat → Nat} {n H : Nat} {u z : Nat → kRes} (hu : kRb M H u) (hz : kRb M (H + 1) z) : kRb M (H + 1) (kTruF b n u z) := kMany_b hu hz (by omega)
theorem kConF_w {M : Nat} {b : Nat → Nat} {n H : Nat} {t z : Nat → kRes} (ht : kRb M H t) (hz : kRb M (H + 1) z) : kRb M (H + 1) (kConF b n t z) := kMany_b ht hz (by omega)
theorem kUnitD_w {b : Nat → Nat} {n : Nat} {g : Nat → Int32} {m : Nat} (hm : m ≤ 8) : ∀ e, kRb m (2 * e + 4) (kUnitD b n g m e) := by
  intro e
  induction e with
  | zero => exact kUnitF_w hm (kFail_b m 4) (kFail_b m 4) (by omega)
  | succ e ih =>
    have ht : kRb m (2 * e + 5) (kTruF b n (kUnitD b n g m e) (kUnitD b n g m e)) := kTruF_w ih (kRb_le ih (by omega))
    have hc : kRb m (2 * e + 6) (kConF b n (kTruF b n (kUnitD b n g m e) (kUnitD b n g m e)) (kTruF b n (kUnitD b n g m e) (kUnitD b n g m e))) := kConF_w ht (kRb_le ht (by omega))
    exact kUnitF_w hm (kRb_le ih (by omega)) hc (by omega)
theorem kTruD_w {b : Nat → Nat} {n : Nat} {g : Nat → Int32} {m : Nat} (hm : m ≤ 8) (e : Nat) : kRb m (2 * e + 5) (kTruD b n g m e) := kTruF_w (kUnitD_w hm e) (kRb_le (kUnitD_w hm e) (by omega))
theorem kConD_w {b : Nat → Nat} {n : Nat} {g : Nat → Int32} {m : Nat} (hm : m ≤ 8) (e : Nat) : kRb m (2 * e + 6) (kConD b n g m e) := kConF_w (kTruD_w hm e) (kRb_le (kTruD_w hm e) (by omega))
/-- within a million -/
def kBd (x : Int32) : Prop := -1000000 ≤ x.toInt ∧ x.toInt ≤ 1000000
theorem kClm_t (x : Int) : (kClm x).toInt = max (-1000000) (min 1000000 x) := by
  unfold kClm
  exact Int32.toInt_ofInt_of_le (by omega) (by omega)
theorem kClm_b (x : Int) : kBd (kClm x) := by
  unfold kBd
  rw [kClm_t]
  omega
theorem kBd0 : kBd 0 := by unfold kBd; decide
theorem kBd1 : kBd 1 := by unfold kBd; decide
theorem kJn_b (s l r : Int32) : kBd (kJn s l r) := kClm_b _
theorem kStv_n {lt : Nat → Int32} {v : Nat} (h : v < 10000) : kStv lt (nI v) = nI v := if_pos (pk_sneg (a := v) (b := 10000) (by omega) h)
theorem kStv_l {lt : Nat → Int32} {k : Nat} (h : k < 8) : kStv lt (nI (10000 + k)) = lt k := by
  have e : nI (10000 + k) - 10000 = nI k := (pk_sub (a := 10000 + k) (b := 10000) (by omega)).trans (congrArg nI (by omega))
  unfold kStv
  rw [e, if_neg (nI_pos (n := k) (by omega)), if_pos (show nI k < 8 from nI_lt (a := k) (b := 8) h (by decide)), nI_clamp (by omega)]
theorem kVal_nn {lt : Nat → Int32} {v : Nat} (h : v < 10000) : kVal lt [nI v] = nI v := (kVal_num (by omega)).trans (kStv_n h)
theorem kVal_ll {lt : Nat → Int32} {k : Nat} (h : k < 8) : kVal lt [nI (10000 + k)] = lt k := (kVal_num (by omega)).trans (kStv_l h)
theorem kVal_bd {lt : Nat → Int32} {M : Nat} (hlt : ∀ j : Nat, j < M → kBd (lt j)) {h : Nat} {l : List Int32} (w : kWn M h l) : kBd (kVal lt l) := by
  refine kWn_ind (P := fun _ l => kBd (kVal lt l)) ?_ ?_ ?_ w
  · intro v hv
    rw [kVal_nn hv]
    unfold kBd
    rw [nI_toInt (by omega)]
    omega
  · intro k hk h8
    rw [kVal_ll h8]; exact hlt k hk
  · intro a b s l m h1 h2 hs i1 i2
    rw [kVal_n h1 h2 (by omega) (by omega)]; exact kJn_b _ _ _
/-- behind a sum that is read: what is laid upon it -/
def kWz (M h : Nat) (l : List Int32) : Prop := ∀ P : Nat → List Int32 → Prop, (∀ (b s : Nat) (m : List Int32), kWn M b m → (s = 61 ∨ s = 60 ∨ s = 62) → P (b + 1) ([] ++ m ++ [nI (20000 + s)])) → (∀ (a b s : Nat) (l m : List Int32), P a l → kWb M b m → (s = 38 ∨ s = 124) → P (max a (b + 1)) (l ++ m ++ [nI (20000 + s)])) → P h l
theorem kWz.cmp {M b s : Nat} {m : List Int32} (h2 : kWn M b m) (hs : (s = 61 ∨ s = 60 ∨ s = 62)) : kWz M (b + 1) ([] ++ m ++ [nI (20000 + s)]) := fun _ c1 _ => c1 b s m h2 hs
theorem kWz.bin {M a b s : Nat} {l m : List Int32} (h1 : kWz M a l) (h2 : kWb M b m) (hs : (s = 38 ∨ s = 124)) : kWz M (max a (b + 1)) (l ++ m ++ [nI (20000 + s)]) := fun P c1 c2 => c2 a b s l m (h1 P c1 c2) h2 hs
theorem kWz_ind {M : Nat} {P : Nat → List Int32 → Prop} (c1 : ∀ (b s : Nat) (m : List Int32), kWn M b m → (s = 61 ∨ s = 60 ∨ s = 62) → P (b + 1) ([] ++ m ++ [nI (20000 + s)])) (c2 : ∀ (a b s : Nat) (l m : List Int32), kWz M a l → kWb M b m → (s = 38 ∨ s = 124) → P a l → P (max a (b + 1)) (l ++ m ++ [nI (20000 + s)])) {h : Nat} {l : List Int32} (w : kWz M h l) : P h l :=
  (w (fun h l => kWz M h l ∧ P h l) (fun b s m x hs => ⟨kWz.cmp x hs, c1 b s m x hs⟩) (fun a b s l m x y hs => ⟨kWz.bin x.1 y hs, c2 a b s l m x.1 y hs x.2⟩)).2
def kVaz (lt : Nat → Int32) (p : Int32) (l : List Int32) : Int32 := (kEv lt l [p]).headD 0
theorem kEz_of {lt : Nat → Int32} {l : List Int32} (h : ∀ p : Int32, ∃ v : Int32, ∀ st : List Int32, kEv lt l (p :: st) = v :: st) : ∀ (p : Int32) (st : List Int32), kEv lt l (p :: st) = kVaz lt p l :: st := by
  intro p st
  obtain ⟨v, hv⟩ := h p
  unfold kVaz
  rw [hv st, hv []]
  rfl
theorem kWz_ev {lt : Nat → Int32} {M h : Nat} {l : List Int32} (w : kWz M h l) : ∀ (p : Int32) (st : List Int32), kEv lt l (p :: st) = kVaz lt p l :: st := by
  refine kWz_ind (P := fun _ l => ∀ (p : Int32) (st : List Int32), kEv lt l (p :: st) = kVaz lt p l :: st) ?_ ?_ w
  · intro b s m h2 hs
    refine kEz_of (fun p => ⟨kJn (nI s) p (kVal lt m), fun st => ?_⟩)
    rw [List.nil_append, kEv_app, kWn_ev h2]
    show kEv lt [] (kEv1 lt (nI (20000 + s)) (kVal lt m :: p :: st)) = _
    rw [kEv1_s (by omega) (by omega)]
    rfl
  · intro a b s l m h1 h2 hs i1
    refine kEz_of (fun p => ⟨kJn (nI s) (kVaz lt p l) (kVal lt m), fun st => ?_⟩)
    rw [kEv_app, kEv_app, i1, kWb_ev h2]
    show kEv lt [] (kEv1 lt (nI (20000 + s)) (kVal lt m :: kVaz lt p l :: st)) = _
    rw [kEv1_s (by omega) (by omega)]
    rfl
theorem kVaz_c {lt : Nat → Int32} {M b s : Nat} {m : List Int32} {p : Int32} (h2 : kWn M b m) (hs : s < 128) (h33 : ¬ s = 33) : kVaz lt p ([] ++ m ++ [nI (20000 + s)]) = kJn (nI s) p (kVal lt m) := by
  show (kEv lt _ [p]).headD 0 = _
  rw [List.nil_append, kEv_app, kWn_ev h2]
  show (kEv lt [] (kEv1 lt (nI (20000 + s)) (kVal lt m :: [p]))).headD 0 = _
  rw [kEv1_s hs h33]
  rfl
theorem kVaz_b {lt : Nat → Int32} {M a b s : Nat} {l m : List Int32} {p : Int32} (h1 : kWz M a l) (h2 : kWb M b m) (hs : s < 128) (h33 : ¬ s = 33) : kVaz lt p (l ++ m ++ [nI (20000 + s)]) = kJn (nI s) (kVaz lt p l) (kVal lt m) := by
  show (kEv lt _ [p]).headD 0 = _
  rw [kEv_app, kEv_app, kWz_ev h1, kWb_ev h2]
  show (kEv lt [] (kEv1 lt (nI (20000 + s)) (kVal lt m :: [kVaz lt p l]))).headD 0 = _
  rw [kEv1_s hs h33]
  rfl
theorem kVal_z {lt : Nat → Int32} {M a b : Nat} {l m : List Int32} (h1 : kWn M a l) (h2 : kWz M b m) : kVal lt (l ++ m) = kVaz lt (kVal lt l) m := by
  show (kEv lt _ []).headD 0 = _
  rw [kEv_app, kWn_ev h1, kWz_ev h2]
  rfl
/-- the same under a bound of the height -/
def kHz (M H : Nat) (l : List Int32) : Prop := ∃ h : Nat, h ≤ H ∧ kWz M h l
theorem kHz_le {M H K : Nat} {l : List Int32} (h : kHz M H l) (hk : H ≤ K) : kHz M K l := by obtain ⟨x, h1, h2⟩ := h; exact ⟨x, by omega, h2⟩
theorem kHz_bin {M A H s : Nat} {l m : List Int32} (h1 : kHz M H l) (h2 : kHb M A m) (hA : A + 1 ≤ H) (hs : s = 38 ∨ s = 124) : kHz M H (l ++ m ++ [nI (20000 + s)]) := by
  obtain ⟨x, x1, x2⟩ := h1
  obtain ⟨y, y1, y2⟩ := h2
  exact ⟨max x (y + 1), by omega, kWz.bin x2 y2 hs⟩
theorem kValN {lt : Nat → Int32} {M H A s : Nat} {l m : List Int32} (h1 : kHn M H l) (h2 : kHn M A m) (hs : s < 128) (h33 : ¬ s = 33) : kVal lt (l ++ m ++ [nI (20000 + s)]) = kJn (nI s) (kVal lt l) (kVal lt m) := by
  obtain ⟨x, -, x2⟩ := h1
  obtain ⟨y, -, y2⟩ := h2
  exact kVal_n x2 y2 hs h33
theorem kValB {lt : Nat → Int32} {M H A s : Nat} {l m : List Int32} (h1 : kHb M H l) (h2 : kHb M A m) (hs : s < 128) (h33 : ¬ s = 33) : kVal lt (l ++ m ++ [nI (20000 + s)]) = kJn (nI s) (kVal lt l) (kVal lt m) := by
  obtain ⟨x, -, x2⟩ := h1
  obtain ⟨y, -, y2⟩ := h2
  exact kVal_b x2 y2 hs h33
theorem kValNot {lt : Nat → Int32} {M H : Nat} {l : List Int32} (h1 : kHb M H l) : kVal lt (l ++ [20033]) = if kVal lt l = 0 then 1 else 0 := by
  obtain ⟨x, -, x2⟩ := h1
  exact kVal_not x2
theorem kVazC {lt : Nat → Int32} {M A s : Nat} {m : List Int32} {p : Int32} (h2 : kHn M A m) (hs : s < 128) (h33 : ¬ s = 33) : kVaz lt p ([] ++ m ++ [nI (20000 + s)]) = kJn (nI s) p (kVal lt m) := by
  obtain ⟨y, -, y2⟩ := h2
  exact kVaz_c y2 hs h33
theorem kVazB {lt : Nat → Int32} {M H A s : Nat} {l m : List Int32} {p : Int32} (h1 : kHz M H l) (h2 : kHb M A m) (hs : s < 128) (h33 : ¬ s = 33) : kVaz lt p (l ++ m ++ [nI (20000 + s)]) = kJn (nI s) (kVaz lt p l) (kVal lt m) := by
  obtain ⟨x, -, x2⟩ := h1
  obtain ⟨y, -, y2⟩ := h2
  exact kVaz_b x2 y2 hs h33
theorem kValBd {lt : Nat → Int32} {M H : Nat} (hlt : ∀ j : Nat, j < M → kBd (lt j)) {l : List Int32} (h : kHn M H l) : kBd (kVal lt l) := by
  obtain ⟨x, -, x2⟩ := h
  exact kVal_bd hlt x2
theorem kUnitZ_w {b : Nat → Nat} {n : Nat} {g : Nat → Int32} {m : Nat} (hm : m ≤ 8) {e p q : Nat} {l : List Int32} (h : kUnitZ b n g m e p = (true, q, l)) : kHz m (2 * e + 4) l := by
  unfold kUnitZ kCmp at h
  split at h
  · next hc =>
    obtain ⟨p2, y, h1, h2⟩ := kTh_i h
    obtain ⟨c, c1, c2⟩ := kSumD_w hm e _ _ _ h1
    rw [← (Prod.mk.inj (Prod.mk.inj h2).2).2]
    exact ⟨c + 1, by omega, kWz.cmp c2 (by omega)⟩
  · exact absurd (Prod.mk.inj h).1 (by decide)
theorem kLoop_zz {M : Nat} {b : Nat → Nat} {n c A H : Nat} {a : Nat → kRes} (ha : kRb M A a) (hA : A + 1 ≤ H) (hc : c = 38 ∨ c = 124) : ∀ (f p q : Nat) (l r : List Int32), kHz M H l → kLoop b n c c a f p l = (true, q, r) → kHz M H r := by
  intro f
  induction f with
  | zero => intro p q l r hl h; rw [← (Prod.mk.inj (Prod.mk.inj (show ((true, p, l) : kRes) = (true, q, r) from h)).2).2]; exact hl
  | succ f ih =>
    intro p q l r hl h
    by_cases z : kLk b n p = c ∨ kLk b n p = c
    · have h2 : kTh (a (kSp b n p + 1)) (fun q m => kLoop b n c c a f q (l ++ m ++ [nI (20000 + kLk b n p)])) = (true, q, r) := (if_pos z).symm.trans h
      obtain ⟨p2, x, h3, h4⟩ := kTh_i h2
      exact ih p2 q _ r (kHz_bin hl (ha _ _ _ h3) hA (by omega)) h4
    · rw [kLoop_e z] at h
      rw [← (Prod.mk.inj (Prod.mk.inj h).2).2]; exact hl
theorem kTruZ_w {b : Nat → Nat} {n : Nat} {g : Nat → Int32} {m : Nat} (hm : m ≤ 8) {e p q : Nat} {l : List Int32} (h : kTruZ b n g m e p = (true, q, l)) : kHz m (2 * e + 5) l := by
  obtain ⟨p2, x, h1, h2⟩ := kTh_i h
  exact kLoop_zz (kUnitD_w hm e) (Nat.le_refl _) (by omega) 120 p2 q x l (kHz_le (kUnitZ_w hm h1) (by omega)) h2
theorem kConZ_w {b : Nat → Nat} {n : Nat} {g : Nat → Int32} {m : Nat} (hm : m ≤ 8) {e p q : Nat} {l : List Int32} (h : kConZ b n g m e p = (true, q, l)) : kHz m (2 * e + 6) l := by
  obtain ⟨p2, x, h1, h2⟩ := kTh_i h
  exact kLoop_zz (kTruD_w hm e) (Nat.le_refl _) (by omega) 120 p2 q x l (kHz_le (kTruZ_w hm h1) (by omega)) h2
/-- the letters as the reference keeps them -/
def kLt (gE g7 : Nat → Int32) : Nat → Int32 := fun k => gE (Int32.toNatClampNeg (g7 k))
theorem kFd_at {g : Nat → Int32} {c : Int32} : ∀ (f j : Nat), kFd g c f j < j + f → g (kFd g c f j) = c := by
  intro f
  induction f with
  | zero => intro j h; exact absurd h (Nat.lt_irrefl _)
  | succ f ih =>
    intro j h
    by_cases z : g j = c
    · rw [kFd_h z]; exact z
    · rw [kFd_s z] at h ⊢
      exact ih (j + 1) (by omega)
theorem kIx_at {g : Nat → Int32} {n : Nat} {c : Int32} (h : kIx g n c < n) : g (kIx g n c) = c := kFd_at n 0 (by have h2 : kFd g c n 0 < n := h; omega)
theorem kVal_let {gE g7 : Nat → Int32} {n7 ch : Nat} (h : kIx g7 n7 (nI ch) < n7) (hn : n7 ≤ 8) (hc : ch < 256) : kVal (kLt gE g7) [nI (10000 + kIx g7 n7 (nI ch))] = gE ch := by
  rw [kVal_ll (by omega)]
  unfold kLt
  rw [kIx_at h, nI_clamp (by omega)]
/-- the stack as it lies in the row -/
def kStk (o : Nat → Int32) (st : List Int32) : Prop := ∀ k : Nat, k < st.length → o k = st.getD (st.length - 1 - k) 0
theorem kStk_nil (o : Nat → Int32) : kStk o [] := fun k hk => absurd hk (Nat.not_lt_zero k)
theorem kStk_push {o o1 : Nat → Int32} {st : List Int32} {v : Int32} {n : Nat} (hn : st.length = n) (hb : n < 2 ^ 31) (e : o1 = upd o (Int32.toNatClampNeg (nI n)) v) (h : kStk o st) : kStk o1 (v :: st) := fun k hk => by
  rw [e, nI_clamp hb]
  rw [List.length_cons] at hk ⊢
  by_cases z : k = n
  · rw [z, pk_us, hn, show n + 1 - 1 - n = 0 by omega]
    rfl
  · rw [pk_un z, h k (by omega), show st.length + 1 - 1 - k = (st.length - 1 - k) + 1 by omega]
    rfl
theorem kStk_top {o : Nat → Int32} {a : Int32} {r : List Int32} {n : Nat} (hn : (a :: r).length = n) (h : kStk o (a :: r)) : o (n - 1) = a := by
  rw [List.length_cons] at hn
  rw [h (n - 1) (by rw [List.length_cons]; omega), List.length_cons, show r.length + 1 - 1 - (n - 1) = 0 by omega]
  rfl
theorem kStk_snd {o : Nat → Int32} {a b : Int32} {r : List Int32} {n : Nat} (hn : (b :: a :: r).length = n) (h : kStk o (b :: a :: r)) : o (n - 1 - 1) = a := by
  rw [List.length_cons, List.length_cons] at hn
  rw [h (n - 1 - 1) (by rw [List.length_cons, List.length_cons]; omega), List.length_cons, List.length_cons, show r.length + 1 + 1 - 1 - (n - 1 - 1) = 1 by omega]
  rfl
theorem kStk_rest {o : Nat → Int32} {a : Int32} {r : List Int32} (h : kStk o (a :: r)) : kStk o r := fun k hk => by
  rw [h k (by rw [List.length_cons]; omega), List.length_cons, show r.length + 1 - 1 - k = (r.length - 1 - k) + 1 by omega]
  rfl
theorem kStk_bot {o : Nat → Int32} {v : Int32} (h : kStk o [v]) : o 0 = v := h 0 (by show 0 < 1; decide)
theorem kFit_p {x : Int32} {l : List Int32} {n : Nat} (c : x < 20000) (h : kFit (x :: l) n) : n < 32 ∧ kFit l (n + 1) := by
  unfold kFit at h
  rw [if_pos c] at h
  exact h
theorem kFit_n {l : List Int32} {n : Nat} (h : kFit (20033 :: l) n) : 1 ≤ n ∧ kFit l n := by
  unfold kFit at h
  rw [if_neg (by decide), if_pos rfl] at h
  exact h
theorem kFit_j {x : Int32} {l : List Int32} {n : Nat} (c : ¬ x < 20000) (c2 : ¬ x = 20033) (h : kFit (x :: l) n) : 2 ≤ n ∧ kFit l (n - 1) := by
  unfold kFit at h
  rw [if_neg c, if_neg c2] at h
  exact h
theorem kEv1_p {lt : Nat → Int32} {x : Int32} {st : List Int32} (c : x < 20000) : kEv1 lt x st = kStv lt x :: st := if_pos c
theorem kEv1_j {lt : Nat → Int32} {x a b : Int32} {st : List Int32} (c : ¬ x < 20000) (c2 : ¬ x = 20033) : kEv1 lt x (b :: a :: st) = kJn (x - 20000) a b :: st := by
  unfold kEv1
  rw [if_neg c, if_neg c2]
theorem kDrp {g : Nat → Int32} {L : List Int32} {ps i : Nat} (hs : ∀ j : Nat, j < L.length → g (ps + j) = L.getD j 0) (h1 : ps ≤ i) (h2 : i < ps + L.length) : L.drop (i - ps) = g i :: L.drop (i + 1 - ps) := by
  have hj : i - ps < L.length := by omega
  have e := hs (i - ps) hj
  rw [show ps + (i - ps) = i by omega] at e
  rw [e, show i + 1 - ps = (i - ps) + 1 by omega, List.drop_eq_getElem_cons hj]
  congr 1
  rw [List.getD_eq_getElem?_getD, List.getElem?_eq_getElem hj]
  rfl
theorem kLen1 {st : List Int32} {n : Nat} (h : st.length = n) (hn : 1 ≤ n) : ∃ (a : Int32) (r : List Int32), st = a :: r := by
  cases st with
  | nil => simp at h; omega
  | cons a r => exact ⟨a, r, rfl⟩
theorem kLen2 {st : List Int32} {n : Nat} (h : st.length = n) (hn : 2 ≤ n) : ∃ (b a : Int32) (r : List Int32), st = b :: a :: r := by
  cases st with
  | nil => simp at h; omega
  | cons b r =>
    cases r with
    | nil => simp at h; omega
    | cons a r => exact ⟨b, a, r, rfl⟩
theorem kBm {x : Int} (h1 : -9223372036854775808 ≤ x) (h2 : x < 9223372036854775808) : x.bmod (2 ^ 64) = x := Int.bmod_eq_of_le (by omega) (by omega)
theorem kL32 (a : Int32) : -2147483648 ≤ a.toInt ∧ a.toInt < 2147483648 := by
  have h1 := a.le_toInt
  have h2 := a.toInt_lt
  omega
theorem kL_add (a b : Int32) : (a.toInt64 + b.toInt64).toInt = a.toInt + b.toInt := by
  have h1 := kL32 a
  have h2 := kL32 b
  rw [Int64.toInt_add, Int32.toInt_toInt64, Int32.toInt_toInt64]
  exact kBm (by omega) (by omega)
theorem kL_sub (a b : Int32) : (a.toInt64 - b.toInt64).toInt = a.toInt - b.toInt := by
  have h1 := kL32 a
  have h2 := kL32 b
  rw [Int64.toInt_sub, Int32.toInt_toInt64, Int32.toInt_toInt64]
  exact kBm (by omega) (by omega)
theorem kMulB {a b : Int} (h1 : -2147483648 ≤ a ∧ a < 2147483648) (h2 : -2147483648 ≤ b ∧ b < 2147483648) : -9223372036854775808 ≤ a * b ∧ a * b < 9223372036854775808 := by
  have h3 : (a * b).natAbs ≤ 4611686018427387904 := by
    rw [Int.natAbs_mul]
    exact Nat.mul_le_mul (show a.natAbs ≤ 2147483648 by omega) (show b.natAbs ≤ 2147483648 by omega)
  omega
theorem kL_mul (a b : Int32) : (a.toInt64 * b.toInt64).toInt = a.toInt * b.toInt := by
  have h := kMulB (kL32 a) (kL32 b)
  rw [Int64.toInt_mul, Int32.toInt_toInt64, Int32.toInt_toInt64]
  exact kBm h.1 h.2
theorem kClm_hi {x : Int} (h : 1000000 ≤ x) : kClm x = 1000000 := by
  unfold kClm
  rw [show max (-1000000) (min 1000000 x) = 1000000 by omega]
  rfl
theorem kClm_lo {x : Int} (h : x ≤ -1000000) : kClm x = -1000000 := by
  unfold kClm
  rw [show max (-1000000) (min 1000000 x) = -1000000 by omega]
  rfl
theorem kClm_in {w : Int64} (h1 : -1000000 ≤ w.toInt) (h2 : w.toInt ≤ 1000000) : Int64.toInt32 w = kClm w.toInt := by
  unfold kClm
  rw [show max (-1000000) (min 1000000 w.toInt) = w.toInt by omega]
  apply Int32.toInt_inj.mp
  rw [Int32.toInt_ofInt_of_le (by omega) (by omega)]
  rw [Int64.toInt_toInt32]
  exact Int.bmod_eq_of_le (by omega) (by omega)
theorem kCmpG1 {w : Int64} {x : Int32} (e : x = lg_cmp w 1000000) (c : ¬ x ≤ 0) : 1000000 < w.toInt := by
  rw [e] at c
  unfold lg_cmp at c
  by_cases h1 : w > 1000000
  · exact Int64.lt_iff_toInt_lt.mp h1
  · rw [if_neg h1] at c
    exfalso
    apply c
    split <;> decide
theorem kCmpG0 {w : Int64} {x : Int32} (e : x = lg_cmp w 1000000) (c : x ≤ 0) : w.toInt ≤ 1000000 := by
  rw [e] at c
  unfold lg_cmp at c
  by_cases h1 : w > 1000000
  · rw [if_pos h1] at c; exact absurd c (by decide)
  · have h2 : ¬ (1000000 : Int64).toInt < w.toInt := fun z => h1 (Int64.lt_iff_toInt_lt.mpr z)
    have h3 : (1000000 : Int64).toInt = 1000000 := by decide
    rw [h3] at h2
    omega
theorem kCmpL1 {w : Int64} {x : Int32} (e : x = lg_cmp w (-1000000)) (c : ¬ 0 ≤ x) : w.toInt < -1000000 := by
  rw [e] at c
  unfold lg_cmp at c
  by_cases h1 : w > (-1000000)
  · rw [if_pos h1] at c; exact absurd (by decide) c
  · rw [if_neg h1] at c
    by_cases h2 : w = (-1000000)
    · rw [if_pos h2] at c; exact absurd (by decide) c
    · have h3 : ¬ (-1000000 : Int64).toInt < w.toInt := fun z => h1 (Int64.lt_iff_toInt_lt.mpr z)
      have h4 : ¬ w.toInt = (-1000000 : Int64).toInt := fun z => h2 (Int64.toInt_inj.mp z)
      have h5 : (-1000000 : Int64).toInt = -1000000 := by decide
      rw [h5] at h3 h4
      omega
theorem kCmpL0 {w : Int64} {x : Int32} (e : x = lg_cmp w (-1000000)) (c : 0 ≤ x) : -1000000 ≤ w.toInt := by
  rw [e] at c
  unfold lg_cmp at c
  have h5 : (-1000000 : Int64).toInt = -1000000 := by decide
  by_cases h1 : w > (-1000000)
  · have h2 := Int64.lt_iff_toInt_lt.mp h1
    rw [h5] at h2
    omega
  · rw [if_neg h1] at c
    by_cases h2 : w = (-1000000)
    · rw [h2, h5]
      omega
    · rw [if_neg h2] at c; exact absurd c (by decide)
theorem kIn8 {x : Int32} (h0 : ¬ x < 0) (h1 : ¬ 8 ≤ x) : vp_in x 8 := vp_in_iff.mpr ⟨by
  have h2 : ¬ x.toInt < (0 : Int32).toInt := fun z => h0 (Int32.lt_iff_toInt_lt.mpr z)
  have h3 : (0 : Int32).toInt = 0 := by decide
  rw [h3] at h2
  omega, by
  have h2 : ¬ (8 : Int32).toInt ≤ x.toInt := fun z => h1 (Int32.le_iff_toInt_le.mpr z)
  have h3 : (8 : Int32).toInt = 8 := by decide
  rw [h3] at h2
  omega⟩

def w_s_join5x : List Cond := .code yX5_join cX5_join 3 (some .long) :: ([])
theorem gw_s_join5x : (w_s_join5x).all goodWord = true := kGc rfl kGn
set_option maxHeartbeats 4000000 in
set_option maxRecDepth 100000 in
theorem s_join5x (l : Launch) (dC : Nat → ClassId) (dI : Nat → Nat → Nat) (p0 : Int32) (p1 : Int32) (p2 : Int32) : Met l yX5_join w_s_join5x ({ frames := 1, cells := 0, slots := 0, locals := 60 }) (kR dC dI [.int p0, .int p1, .int p2] [] [] kT) (vp_Sl (fun r : Int64 => Int64.toInt r = kJi p0 p1 p2)) 0 0 (fun _ => False) := by
  refine Met.ofW (cc := cX5_join) (maxL := 3) (ret := (some .long)) (by decide) rfl ?_
  intro p e s m args below meth c s₁ B hml hv
  obtain ⟨rfl, hP, hK, hX⟩ := hv
  have hx := B.exec
  have hb := B.bytes
  have hr := B.returns
  have hts := atoms_spec (ws := w_s_join5x) B.pre
  have hown : s.vm.findClass RX5 = some m.cls := findClass_of_methodNamed B.named
  have hlocks := B.notSynchronized
  have hP : va_P (dC, dI) vwCl [] s.heap := hP
  have hl := lv_entry ([.int p0, .int p1, .int p2]) (n := 3) (Nat.le_of_ble_eq_true rfl)
  rw [lg_entry_eq]
  generalize (lg_sl ([.int p0, .int p1, .int p2]) ++ List.replicate (3 - (lg_sl ([.int p0, .int p1, .int p2])).length) Slot.unset).toArray = ls at hl ⊢
  have hl : lv_has ls 3 [(0, .int p0), (1, .int p1), (2, .int p2)] := hl
  refine kQ (fun Q hQ => ?_)
  refine lv_iload_n hx hb dX5_join_0 rfl (lv_at hl 0 rfl) ?_
  rcases kSw38 p0 with rfl | rfl | rfl | rfl | rfl | rfl | rfl | rfl | rfl | rfl | rfl | rfl | rfl | rfl | rfl | rfl | rfl | rfl | rfl | rfl | rfl | rfl | rfl | rfl | rfl | h_1
  · refine lv_tableIn (tgt := 180) hx hb dX5_join_1 (by decide) (by decide) rfl (by decide) ?_
    refine lv_iload_n hx hb dX5_join_180 rfl (lv_at hl 1 rfl) ?_
    refine lv_iload_n hx hb dX5_join_181 rfl (lv_at hl 2 rfl) ?_
    refine lv_iand hx hb dX5_join_182 ?_
    refine lv_topi (fun x_2 ex_2 => ?_)
    obtain ⟨z_3, ez_3⟩ : ∃ z : Int64, z = Int32.toInt64 x_2 := ⟨_, rfl⟩
    refine lv_i2l (v := z_3) hx hb dX5_join_183 ez_3.symm ?_
    rw [hQ]
    exact W.lret (v := z_3) hx hb hr (fun t ht hW => ⟨z_3, rfl, (by unfold kJi; rw [if_neg (by decide), if_neg (by decide), if_neg (by decide), if_neg (by decide), if_neg (by decide), if_neg (by decide), if_neg (by decide), if_pos rfl]; subst_vars; exact Int32.toInt_toInt64 _), ht⟩) (fun _ h => nomatch h) dX5_join_184
  · refine lv_tableIn (tgt := 185) hx hb dX5_join_1 (by decide) (by decide) rfl (by decide) ?_
    refine lv_iload_n hx hb dX5_join_185 rfl (lv_at hl 1 rfl) ?_
    refine lv_iload_n hx hb dX5_join_186 rfl (lv_at hl 2 rfl) ?_
    refine lv_ior hx hb dX5_join_187 ?_
    refine lv_topi (fun x_4 ex_4 => ?_)
    obtain ⟨z_5, ez_5⟩ : ∃ z : Int64, z = Int32.toInt64 x_4 := ⟨_, rfl⟩
    refine lv_i2l (v := z_5) hx hb dX5_join_188 ez_5.symm ?_
    rw [hQ]
    exact W.lret (v := z_5) hx hb hr (fun t ht hW => ⟨z_5, rfl, (by unfold kJi; rw [if_neg (by decide), if_neg (by decide), if_neg (by decide), if_neg (by decide), if_neg (by decide), if_neg (by decide), if_neg (by decide), if_neg (by decide)]; subst_vars; exact Int32.toInt_toInt64 _), ht⟩) (fun _ h => nomatch h) dX5_join_189
  · refine lv_tableIn (tgt := 185) hx hb dX5_join_1 (by decide) (by decide) rfl (by decide) ?_
    refine lv_iload_n hx hb dX5_join_185 rfl (lv_at hl 1 rfl) ?_
    refine lv_iload_n hx hb dX5_join_186 rfl (lv_at hl 2 rfl) ?_
    refine lv_ior hx hb dX5_join_187 ?_
    refine lv_topi (fun x_6 ex_6 => ?_)
    obtain ⟨z_7, ez_7⟩ : ∃ z : Int64, z = Int32.toInt64 x_6 := ⟨_, rfl⟩
    refine lv_i2l (v := z_7) hx hb dX5_join_188 ez_7.symm ?_
    rw [hQ]
    exact W.lret (v := z_7) hx hb hr (fun t ht hW => ⟨z_7, rfl, (by unfold kJi; rw [if_neg (by decide), if_neg (by decide), if_neg (by decide), if_neg (by decide), if_neg (by decide), if_neg (by decide), if_neg (by decide), if_neg (by decide)]; subst_vars; exact Int32.toInt_toInt64 _), ht⟩) (fun _ h => nomatch h) dX5_join_189
  · refine lv_tableIn (tgt := 185) hx hb dX5_join_1 (by decide) (by decide) rfl (by decide) ?_
    refine lv_iload_n hx hb dX5_join_185 rfl (lv_at hl 1 rfl) ?_
    refine lv_iload_n hx hb dX5_join_186 rfl (lv_at hl 2 rfl) ?_
    refine lv_ior hx hb dX5_join_187 ?_
    refine lv_topi (fun x_8 ex_8 => ?_)
    obtain ⟨z_9, ez_9⟩ : ∃ z : Int64, z = Int32.toInt64 x_8 := ⟨_, rfl⟩
    refine lv_i2l (v := z_9) hx hb dX5_join_188 ez_9.symm ?_
    rw [hQ]
    exact W.lret (v := z_9) hx hb hr (fun t ht hW => ⟨z_9, rfl, (by unfold kJi; rw [if_neg (by decide), if_neg (by decide), if_neg (by decide), if_neg (by decide), if_neg (by decide), if_neg (by decide), if_neg (by decide), if_neg (by decide)]; subst_vars; exact Int32.toInt_toInt64 _), ht⟩) (fun _ h => nomatch h) dX5_join_189
  · refine lv_tableIn (tgt := 128) hx hb dX5_join_1 (by decide) (by decide) rfl (by decide) ?_
    refine lv_iload_n hx hb dX5_join_128 rfl (lv_at hl 1 rfl) ?_
    obtain ⟨z_10, ez_10⟩ : ∃ z : Int64, z = Int32.toInt64 p1 := ⟨_, rfl⟩
    refine lv_i2l (v := z_10) hx hb dX5_join_129 ez_10.symm ?_
    refine lv_iload_n hx hb dX5_join_130 rfl (lv_at hl 2 rfl) ?_
    obtain ⟨z_11, ez_11⟩ : ∃ z : Int64, z = Int32.toInt64 p2 := ⟨_, rfl⟩
    refine lv_i2l (v := z_11) hx hb dX5_join_131 ez_11.symm ?_
    refine lv_lmul hx hb dX5_join_132 ?_
    refine lv_topl (fun z_12 ez_12 => ?_)
    rw [hQ]
    exact W.lret (v := z_12) hx hb hr (fun t ht hW => ⟨z_12, rfl, (by unfold kJi; rw [if_neg (by decide), if_neg (by decide), if_pos rfl]; subst_vars; exact kL_mul _ _), ht⟩) (fun _ h => nomatch h) dX5_join_133
  · refine lv_tableIn (tgt := 116) hx hb dX5_join_1 (by decide) (by decide) rfl (by decide) ?_
    refine lv_iload_n hx hb dX5_join_116 rfl (lv_at hl 1 rfl) ?_
    obtain ⟨z_13, ez_13⟩ : ∃ z : Int64, z = Int32.toInt64 p1 := ⟨_, rfl⟩
    refine lv_i2l (v := z_13) hx hb dX5_join_117 ez_13.symm ?_
    refine lv_iload_n hx hb dX5_join_118 rfl (lv_at hl 2 rfl) ?_
    obtain ⟨z_14, ez_14⟩ : ∃ z : Int64, z = Int32.toInt64 p2 := ⟨_, rfl⟩
    refine lv_i2l (v := z_14) hx hb dX5_join_119 ez_14.symm ?_
    refine lv_ladd hx hb dX5_join_120 ?_
    refine lv_topl (fun z_15 ez_15 => ?_)
    rw [hQ]
    exact W.lret (v := z_15) hx hb hr (fun t ht hW => ⟨z_15, rfl, (by unfold kJi; rw [if_pos rfl]; subst_vars; exact kL_add _ _), ht⟩) (fun _ h => nomatch h) dX5_join_121
  · refine lv_tableIn (tgt := 185) hx hb dX5_join_1 (by decide) (by decide) rfl (by decide) ?_
    refine lv_iload_n hx hb dX5_join_185 rfl (lv_at hl 1 rfl) ?_
    refine lv_iload_n hx hb dX5_join_186 rfl (lv_at hl 2 rfl) ?_
    refine lv_ior hx hb dX5_join_187 ?_
    refine lv_topi (fun x_16 ex_16 => ?_)
    obtain ⟨z_17, ez_17⟩ : ∃ z : Int64, z = Int32.toInt64 x_16 := ⟨_, rfl⟩
    refine lv_i2l (v := z_17) hx hb dX5_join_188 ez_17.symm ?_
    rw [hQ]
    exact W.lret (v := z_17) hx hb hr (fun t ht hW => ⟨z_17, rfl, (by unfold kJi; rw [if_neg (by decide), if_neg (by decide), if_neg (by decide), if_neg (by decide), if_neg (by decide), if_neg (by decide), if_neg (by decide), if_neg (by decide)]; subst_vars; exact Int32.toInt_toInt64 _), ht⟩) (fun _ h => nomatch h) dX5_join_189
  · refine lv_tableIn (tgt := 122) hx hb dX5_join_1 (by decide) (by decide) rfl (by decide) ?_
    refine lv_iload_n hx hb dX5_join_122 rfl (lv_at hl 1 rfl) ?_
    obtain ⟨z_18, ez_18⟩ : ∃ z : Int64, z = Int32.toInt64 p1 := ⟨_, rfl⟩
    refine lv_i2l (v := z_18) hx hb dX5_join_123 ez_18.symm ?_
    refine lv_iload_n hx hb dX5_join_124 rfl (lv_at hl 2 rfl) ?_
    obtain ⟨z_19, ez_19⟩ : ∃ z : Int64, z = Int32.toInt64 p2 := ⟨_, rfl⟩
    refine lv_i2l (v := z_19) hx hb dX5_join_125 ez_19.symm ?_
    refine lv_lsub hx hb dX5_join_126 ?_
    refine lv_topl (fun z_20 ez_20 => ?_)
    rw [hQ]
    exact W.lret (v := z_20) hx hb hr (fun t ht hW => ⟨z_20, rfl, (by unfold kJi; rw [if_neg (by decide), if_pos rfl]; subst_vars; exact kL_sub _ _), ht⟩) (fun _ h => nomatch h) dX5_join_127
  · refine lv_tableIn (tgt := 185) hx hb dX5_join_1 (by decide) (by decide) rfl (by decide) ?_
    refine lv_iload_n hx hb dX5_join_185 rfl (lv_at hl 1 rfl) ?_
    refine lv_iload_n hx hb dX5_join_186 rfl (lv_at hl 2 rfl) ?_
    refine lv_ior hx hb dX5_join_187 ?_
    refine lv_topi (fun x_21 ex_21 => ?_)
    obtain ⟨z_22, ez_22⟩ : ∃ z : Int64, z = Int32.toInt64 x_21 := ⟨_, rfl⟩
    refine lv_i2l (v := z_22) hx hb dX5_join_188 ez_22.symm ?_
    rw [hQ]
    exact W.lret (v := z_22) hx hb hr (fun t ht hW => ⟨z_22, rfl, (by unfold kJi; rw [if_neg (by decide), if_neg (by decide), if_neg (by decide), if_neg (by decide), if_neg (by decide), if_neg (by decide), if_neg (by decide), if_neg (by decide)]; subst_vars; exact Int32.toInt_toInt64 _), ht⟩) (fun _ h => nomatch h) dX5_join_189
  · refine lv_tableIn (tgt := 134) hx hb dX5_join_1 (by decide) (by decide) rfl (by decide) ?_
    refine lv_iload_n hx hb dX5_join_134 rfl (lv_at hl 2 rfl) ?_
    refine lv_if_ne (tgt := 142) hx hb dX5_join_135 kc_t_135_7 (fun c_23 => ?_) (fun c_23 => ?_)
    · refine lv_iload_n hx hb dX5_join_142 rfl (lv_at hl 1 rfl) ?_
      refine lv_iload_n hx hb dX5_join_143 rfl (lv_at hl 2 rfl) ?_
      refine lv_idiv hx hb dX5_join_144 (by assumption) ?_
      refine lv_topi (fun x_24 ex_24 => ?_)
      obtain ⟨z_25, ez_25⟩ : ∃ z : Int64, z = Int32.toInt64 x_24 := ⟨_, rfl⟩
      refine lv_i2l (v := z_25) hx hb dX5_join_145 ez_25.symm ?_
      rw [hQ]
      exact W.lret (v := z_25) hx hb hr (fun t ht hW => ⟨z_25, rfl, (by unfold kJi; rw [if_neg (by decide), if_neg (by decide), if_neg (by decide), if_pos rfl, if_neg c_23]; subst_vars; exact Int32.toInt_toInt64 _), ht⟩) (fun _ h => nomatch h) dX5_join_146
    · refine lv_lconst (v := 0) hx hb dX5_join_138 (by decide) ?_
      refine lv_goto (tgt := 146) hx hb dX5_join_139 kc_t_139_7 ?_
      rw [hQ]
      exact W.lret (v := 0) hx hb hr (fun t ht hW => ⟨0, rfl, (by unfold kJi; rw [if_neg (by decide), if_neg (by decide), if_neg (by decide), if_pos rfl, if_pos c_23]; rfl), ht⟩) (fun _ h => nomatch h) dX5_join_146
  · refine lv_tableIn (tgt := 185) hx hb dX5_join_1 (by decide) (by decide) rfl (by decide) ?_
    refine lv_iload_n hx hb dX5_join_185 rfl (lv_at hl 1 rfl) ?_
    refine lv_iload_n hx hb dX5_join_186 rfl (lv_at hl 2 rfl) ?_
    refine lv_ior hx hb dX5_join_187 ?_
    refine lv_topi (fun x_26 ex_26 => ?_)
    obtain ⟨z_27, ez_27⟩ : ∃ z : Int64, z = Int32.toInt64 x_26 := ⟨_, rfl⟩
    refine lv_i2l (v := z_27) hx hb dX5_join_188 ez_27.symm ?_
    rw [hQ]
    exact W.lret (v := z_27) hx hb hr (fun t ht hW => ⟨z_27, rfl, (by unfold kJi; rw [if_neg (by decide), if_neg (by decide), if_neg (by decide), if_neg (by decide), if_neg (by decide), if_neg (by decide), if_neg (by decide), if_neg (by decide)]; subst_vars; exact Int32.toInt_toInt64 _), ht⟩) (fun _ h => nomatch h) dX5_join_189
  · refine lv_tableIn (tgt := 185) hx hb dX5_join_1 (by decide) (by decide) rfl (by decide) ?_
    refine lv_iload_n hx hb dX5_join_185 rfl (lv_at hl 1 rfl) ?_
    refine lv_iload_n hx hb dX5_join_186 rfl (lv_at hl 2 rfl) ?_
    refine lv_ior hx hb dX5_join_187 ?_
    refine lv_topi (fun x_28 ex_28 => ?_)
    obtain ⟨z_29, ez_29⟩ : ∃ z : Int64, z = Int32.toInt64 x_28 := ⟨_, rfl⟩
    refine lv_i2l (v := z_29) hx hb dX5_join_188 ez_29.symm ?_
    rw [hQ]
    exact W.lret (v := z_29) hx hb hr (fun t ht hW => ⟨z_29, rfl, (by unfold kJi; rw [if_neg (by decide), if_neg (by decide), if_neg (by decide), if_neg (by decide), if_neg (by decide), if_neg (by decide), if_neg (by decide), if_neg (by decide)]; subst_vars; exact Int32.toInt_toInt64 _), ht⟩) (fun _ h => nomatch h) dX5_join_189
  · refine lv_tableIn (tgt := 185) hx hb dX5_join_1 (by decide) (by decide) rfl (by decide) ?_
    refine lv_iload_n hx hb dX5_join_185 rfl (lv_at hl 1 rfl) ?_
    refine lv_iload_n hx hb dX5_join_186 rfl (lv_at hl 2 rfl) ?_
    refine lv_ior hx hb dX5_join_187 ?_
    refine lv_topi (fun x_30 ex_30 => ?_)
    obtain ⟨z_31, ez_31⟩ : ∃ z : Int64, z = Int32.toInt64 x_30 := ⟨_, rfl⟩
    refine lv_i2l (v := z_31) hx hb dX5_join_188 ez_31.symm ?_
    rw [hQ]
    exact W.lret (v := z_31) hx hb hr (fun t ht hW => ⟨z_31, rfl, (by unfold kJi; rw [if_neg (by decide), if_neg (by decide), if_neg (by decide), if_neg (by decide), if_neg (by decide), if_neg (by decide), if_neg (by decide), if_neg (by decide)]; subst_vars; exact Int32.toInt_toInt64 _), ht⟩) (fun _ h => nomatch h) dX5_join_189
  · refine lv_tableIn (tgt := 185) hx hb dX5_join_1 (by decide) (by decide) rfl (by decide) ?_
    refine lv_iload_n hx hb dX5_join_185 rfl (lv_at hl 1 rfl) ?_
    refine lv_iload_n hx hb dX5_join_186 rfl (lv_at hl 2 rfl) ?_
    refine lv_ior hx hb dX5_join_187 ?_
    refine lv_topi (fun x_32 ex_32 => ?_)
    obtain ⟨z_33, ez_33⟩ : ∃ z : Int64, z = Int32.toInt64 x_32 := ⟨_, rfl⟩
    refine lv_i2l (v := z_33) hx hb dX5_join_188 ez_33.symm ?_
    rw [hQ]
    exact W.lret (v := z_33) hx hb hr (fun t ht hW => ⟨z_33, rfl, (by unfold kJi; rw [if_neg (by decide), if_neg (by decide), if_neg (by decide), if_neg (by decide), if_neg (by decide), if_neg (by decide), if_neg (by decide), if_neg (by decide)]; subst_vars; exact Int32.toInt_toInt64 _), ht⟩) (fun _ h => nomatch h) dX5_join_189
  · refine lv_tableIn (tgt := 185) hx hb dX5_join_1 (by decide) (by decide) rfl (by decide) ?_
    refine lv_iload_n hx hb dX5_join_185 rfl (lv_at hl 1 rfl) ?_
    refine lv_iload_n hx hb dX5_join_186 rfl (lv_at hl 2 rfl) ?_
    refine lv_ior hx hb dX5_join_187 ?_
    refine lv_topi (fun x_34 ex_34 => ?_)
    obtain ⟨z_35, ez_35⟩ : ∃ z : Int64, z = Int32.toInt64 x_34 := ⟨_, rfl⟩
    refine lv_i2l (v := z_35) hx hb dX5_join_188 ez_35.symm ?_
    rw [hQ]
    exact W.lret (v := z_35) hx hb hr (fun t ht hW => ⟨z_35, rfl, (by unfold kJi; rw [if_neg (by decide), if_neg (by decide), if_neg (by decide), if_neg (by decide), if_neg (by decide), if_neg (by decide), if_neg (by decide), if_neg (by decide)]; subst_vars; exact Int32.toInt_toInt64 _), ht⟩) (fun _ h => nomatch h) dX5_join_189
  · refine lv_tableIn (tgt := 185) hx hb dX5_join_1 (by decide) (by decide) rfl (by decide) ?_
    refine lv_iload_n hx hb dX5_join_185 rfl (lv_at hl 1 rfl) ?_
    refine lv_iload_n hx hb dX5_join_186 rfl (lv_at hl 2 rfl) ?_
    refine lv_ior hx hb dX5_join_187 ?_
    refine lv_topi (fun x_36 ex_36 => ?_)
    obtain ⟨z_37, ez_37⟩ : ∃ z : Int64, z = Int32.toInt64 x_36 := ⟨_, rfl⟩
    refine lv_i2l (v := z_37) hx hb dX5_join_188 ez_37.symm ?_
    rw [hQ]
    exact W.lret (v := z_37) hx hb hr (fun t ht hW => ⟨z_37, rfl, (by unfold kJi; rw [if_neg (by decide), if_neg (by decide), if_neg (by decide), if_neg (by decide), if_neg (by decide), if_neg (by decide), if_neg (by decide), if_neg (by decide)]; subst_vars; exact Int32.toInt_toInt64 _), ht⟩) (fun _ h => nomatch h) dX5_join_189
  · refine lv_tableIn (tgt := 185) hx hb dX5_join_1 (by decide) (by decide) rfl (by decide) ?_
    refine lv_iload_n hx hb dX5_join_185 rfl (lv_at hl 1 rfl) ?_
    refine lv_iload_n hx hb dX5_join_186 rfl (lv_at hl 2 rfl) ?_
    refine lv_ior hx hb dX5_join_187 ?_
    refine lv_topi (fun x_38 ex_38 => ?_)
    obtain ⟨z_39, ez_39⟩ : ∃ z : Int64, z = Int32.toInt64 x_38 := ⟨_, rfl⟩
    refine lv_i2l (v := z_39) hx hb dX5_join_188 ez_39.symm ?_
    rw [hQ]
    exact W.lret (v := z_39) hx hb hr (fun t ht hW => ⟨z_39, rfl, (by unfold kJi; rw [if_neg (by decide), if_neg (by decide), if_neg (by decide), if_neg (by decide), if_neg (by decide), if_neg (by decide), if_neg (by decide), if_neg (by decide)]; subst_vars; exact Int32.toInt_toInt64 _), ht⟩) (fun _ h => nomatch h) dX5_join_189
  · refine lv_tableIn (tgt := 185) hx hb dX5_join_1 (by decide) (by decide) rfl (by decide) ?_
    refine lv_iload_n hx hb dX5_join_185 rfl (lv_at hl 1 rfl) ?_
    refine lv_iload_n hx hb dX5_join_186 rfl (lv_at hl 2 rfl) ?_
    refine lv_ior hx hb dX5_join_187 ?_
    refine lv_topi (fun x_40 ex_40 => ?_)
    obtain ⟨z_41, ez_41⟩ : ∃ z : Int64, z = Int32.toInt64 x_40 := ⟨_, rfl⟩
    refine lv_i2l (v := z_41) hx hb dX5_join_188 ez_41.symm ?_
    rw [hQ]
    exact W.lret (v := z_41) hx hb hr (fun t ht hW => ⟨z_41, rfl, (by unfold kJi; rw [if_neg (by decide), if_neg (by decide), if_neg (by decide), if_neg (by decide), if_neg (by decide), if_neg (by decide), if_neg (by decide), if_neg (by decide)]; subst_vars; exact Int32.toInt_toInt64 _), ht⟩) (fun _ h => nomatch h) dX5_join_189
  · refine lv_tableIn (tgt := 185) hx hb dX5_join_1 (by decide) (by decide) rfl (by decide) ?_
    refine lv_iload_n hx hb dX5_join_185 rfl (lv_at hl 1 rfl) ?_
    refine lv_iload_n hx hb dX5_join_186 rfl (lv_at hl 2 rfl) ?_
    refine lv_ior hx hb dX5_join_187 ?_
    refine lv_topi (fun x_42 ex_42 => ?_)
    obtain ⟨z_43, ez_43⟩ : ∃ z : Int64, z = Int32.toInt64 x_42 := ⟨_, rfl⟩
    refine lv_i2l (v := z_43) hx hb dX5_join_188 ez_43.symm ?_
    rw [hQ]
    exact W.lret (v := z_43) hx hb hr (fun t ht hW => ⟨z_43, rfl, (by unfold kJi; rw [if_neg (by decide), if_neg (by decide), if_neg (by decide), if_neg (by decide), if_neg (by decide), if_neg (by decide), if_neg (by decide), if_neg (by decide)]; subst_vars; exact Int32.toInt_toInt64 _), ht⟩) (fun _ h => nomatch h) dX5_join_189
  · refine lv_tableIn (tgt := 185) hx hb dX5_join_1 (by decide) (by decide) rfl (by decide) ?_
    refine lv_iload_n hx hb dX5_join_185 rfl (lv_at hl 1 rfl) ?_
    refine lv_iload_n hx hb dX5_join_186 rfl (lv_at hl 2 rfl) ?_
    refine lv_ior hx hb dX5_join_187 ?_
    refine lv_topi (fun x_44 ex_44 => ?_)
    obtain ⟨z_45, ez_45⟩ : ∃ z : Int64, z = Int32.toInt64 x_44 := ⟨_, rfl⟩
    refine lv_i2l (v := z_45) hx hb dX5_join_188 ez_45.symm ?_
    rw [hQ]
    exact W.lret (v := z_45) hx hb hr (fun t ht hW => ⟨z_45, rfl, (by unfold kJi; rw [if_neg (by decide), if_neg (by decide), if_neg (by decide), if_neg (by decide), if_neg (by decide), if_neg (by decide), if_neg (by decide), if_neg (by decide)]; subst_vars; exact Int32.toInt_toInt64 _), ht⟩) (fun _ h => nomatch h) dX5_join_189
  · refine lv_tableIn (tgt := 185) hx hb dX5_join_1 (by decide) (by decide) rfl (by decide) ?_
    refine lv_iload_n hx hb dX5_join_185 rfl (lv_at hl 1 rfl) ?_
    refine lv_iload_n hx hb dX5_join_186 rfl (lv_at hl 2 rfl) ?_
    refine lv_ior hx hb dX5_join_187 ?_
    refine lv_topi (fun x_46 ex_46 => ?_)
    obtain ⟨z_47, ez_47⟩ : ∃ z : Int64, z = Int32.toInt64 x_46 := ⟨_, rfl⟩
    refine lv_i2l (v := z_47) hx hb dX5_join_188 ez_47.symm ?_
    rw [hQ]
    exact W.lret (v := z_47) hx hb hr (fun t ht hW => ⟨z_47, rfl, (by unfold kJi; rw [if_neg (by decide), if_neg (by decide), if_neg (by decide), if_neg (by decide), if_neg (by decide), if_neg (by decide), if_neg (by decide), if_neg (by decide)]; subst_vars; exact Int32.toInt_toInt64 _), ht⟩) (fun _ h => nomatch h) dX5_join_189
  · refine lv_tableIn (tgt := 185) hx hb dX5_join_1 (by decide) (by decide) rfl (by decide) ?_
    refine lv_iload_n hx hb dX5_join_185 rfl (lv_at hl 1 rfl) ?_
    refine lv_iload_n hx hb dX5_join_186 rfl (lv_at hl 2 rfl) ?_
    refine lv_ior hx hb dX5_join_187 ?_
    refine lv_topi (fun x_48 ex_48 => ?_)
    obtain ⟨z_49, ez_49⟩ : ∃ z : Int64, z = Int32.toInt64 x_48 := ⟨_, rfl⟩
    refine lv_i2l (v := z_49) hx hb dX5_join_188 ez_49.symm ?_
    rw [hQ]
    exact W.lret (v := z_49) hx hb hr (fun t ht hW => ⟨z_49, rfl, (by unfold kJi; rw [if_neg (by decide), if_neg (by decide), if_neg (by decide), if_neg (by decide), if_neg (by decide), if_neg (by decide), if_neg (by decide), if_neg (by decide)]; subst_vars; exact Int32.toInt_toInt64 _), ht⟩) (fun _ h => nomatch h) dX5_join_189
  · refine lv_tableIn (tgt := 158) hx hb dX5_join_1 (by decide) (by decide) rfl (by decide) ?_
    refine lv_iload_n hx hb dX5_join_158 rfl (lv_at hl 1 rfl) ?_
    refine lv_iload_n hx hb dX5_join_159 rfl (lv_at hl 2 rfl) ?_
    refine lv_icmp_ge (tgt := 167) hx hb dX5_join_160 kc_t_160_7 (fun c_50 => ?_) (fun c_50 => ?_)
    · refine lv_lconst (v := 0) hx hb dX5_join_167 (by decide) ?_
      rw [hQ]
      exact W.lret (v := 0) hx hb hr (fun t ht hW => ⟨0, rfl, (by unfold kJi; rw [if_neg (by decide), if_neg (by decide), if_neg (by decide), if_neg (by decide), if_neg (by decide), if_pos rfl, if_neg (Int32.not_lt.mpr c_50)]; rfl), ht⟩) (fun _ h => nomatch h) dX5_join_168
    · refine lv_lconst (v := 1) hx hb dX5_join_163 (by decide) ?_
      refine lv_goto (tgt := 168) hx hb dX5_join_164 kc_t_164_4 ?_
      rw [hQ]
      exact W.lret (v := 1) hx hb hr (fun t ht hW => ⟨1, rfl, (by unfold kJi; rw [if_neg (by decide), if_neg (by decide), if_neg (by decide), if_neg (by decide), if_neg (by decide), if_pos rfl, if_pos (Int32.not_le.mp c_50)]; rfl), ht⟩) (fun _ h => nomatch h) dX5_join_168
  · refine lv_tableIn (tgt := 147) hx hb dX5_join_1 (by decide) (by decide) rfl (by decide) ?_
    refine lv_iload_n hx hb dX5_join_147 rfl (lv_at hl 1 rfl) ?_
    refine lv_iload_n hx hb dX5_join_148 rfl (lv_at hl 2 rfl) ?_
    refine lv_icmp_ne (tgt := 156) hx hb dX5_join_149 kc_t_149_7 (fun c_51 => ?_) (fun c_51 => ?_)
    · refine lv_lconst (v := 0) hx hb dX5_join_156 (by decide) ?_
      rw [hQ]
      exact W.lret (v := 0) hx hb hr (fun t ht hW => ⟨0, rfl, (by unfold kJi; rw [if_neg (by decide), if_neg (by decide), if_neg (by decide), if_neg (by decide), if_pos rfl, if_neg c_51]; rfl), ht⟩) (fun _ h => nomatch h) dX5_join_157
    · refine lv_lconst (v := 1) hx hb dX5_join_152 (by decide) ?_
      refine lv_goto (tgt := 157) hx hb dX5_join_153 kc_t_153_4 ?_
      rw [hQ]
      exact W.lret (v := 1) hx hb hr (fun t ht hW => ⟨1, rfl, (by unfold kJi; rw [if_neg (by decide), if_neg (by decide), if_neg (by decide), if_neg (by decide), if_pos rfl, if_pos c_51]; rfl), ht⟩) (fun _ h => nomatch h) dX5_join_157
  · refine lv_tableIn (tgt := 169) hx hb dX5_join_1 (by decide) (by decide) rfl (by decide) ?_
    refine lv_iload_n hx hb dX5_join_169 rfl (lv_at hl 1 rfl) ?_
    refine lv_iload_n hx hb dX5_join_170 rfl (lv_at hl 2 rfl) ?_
    refine lv_icmp_le (tgt := 178) hx hb dX5_join_171 kc_t_171_7 (fun c_52 => ?_) (fun c_52 => ?_)
    · refine lv_lconst (v := 0) hx hb dX5_join_178 (by decide) ?_
      rw [hQ]
      exact W.lret (v := 0) hx hb hr (fun t ht hW => ⟨0, rfl, (by unfold kJi; rw [if_neg (by decide), if_neg (by decide), if_neg (by decide), if_neg (by decide), if_neg (by decide), if_neg (by decide), if_pos rfl, if_neg (Int32.not_lt.mpr c_52)]; rfl), ht⟩) (fun _ h => nomatch h) dX5_join_179
    · refine lv_lconst (v := 1) hx hb dX5_join_174 (by decide) ?_
      refine lv_goto (tgt := 179) hx hb dX5_join_175 kc_t_175_4 ?_
      rw [hQ]
      exact W.lret (v := 1) hx hb hr (fun t ht hW => ⟨1, rfl, (by unfold kJi; rw [if_neg (by decide), if_neg (by decide), if_neg (by decide), if_neg (by decide), if_neg (by decide), if_neg (by decide), if_pos rfl, if_pos (Int32.not_le.mp c_52)]; rfl), ht⟩) (fun _ h => nomatch h) dX5_join_179
  · refine lv_tableOut (tgt := 185) hx hb dX5_join_1 h_1 (by decide) ?_
    refine lv_iload_n hx hb dX5_join_185 rfl (lv_at hl 1 rfl) ?_
    refine lv_iload_n hx hb dX5_join_186 rfl (lv_at hl 2 rfl) ?_
    refine lv_ior hx hb dX5_join_187 ?_
    refine lv_topi (fun x_53 ex_53 => ?_)
    obtain ⟨z_54, ez_54⟩ : ∃ z : Int64, z = Int32.toInt64 x_53 := ⟨_, rfl⟩
    refine lv_i2l (v := z_54) hx hb dX5_join_188 ez_54.symm ?_
    rw [hQ]
    exact W.lret (v := z_54) hx hb hr (fun t ht hW => ⟨z_54, rfl, (by unfold kJi; rw [if_neg (fun z => by rw [z] at h_1; revert h_1; decide), if_neg (fun z => by rw [z] at h_1; revert h_1; decide), if_neg (fun z => by rw [z] at h_1; revert h_1; decide), if_neg (fun z => by rw [z] at h_1; revert h_1; decide), if_neg (fun z => by rw [z] at h_1; revert h_1; decide), if_neg (fun z => by rw [z] at h_1; revert h_1; decide), if_neg (fun z => by rw [z] at h_1; revert h_1; decide), if_neg (fun z => by rw [z] at h_1; revert h_1; decide)]; subst_vars; exact Int32.toInt_toInt64 _), ht⟩) (fun _ h => nomatch h) dX5_join_189

def w_s_bounded5x : List Cond := .code yX5_bounded cX5_bounded 2 (some .int) :: ([.constantLong RX5 48 (1000000), .constantLong RX5 51 (-1000000), .constant RX5 53 (-1000000), .constant RX5 50 (1000000)] ++ [])
theorem gw_s_bounded5x : (w_s_bounded5x).all goodWord = true := kGc rfl (kGa (by decide +kernel) kGn)
set_option maxHeartbeats 4000000 in
set_option maxRecDepth 100000 in
theorem s_bounded5x (l : Launch) (dC : Nat → ClassId) (dI : Nat → Nat → Nat) (p0 : Int64) : Met l yX5_bounded w_s_bounded5x ({ frames := 1, cells := 0, slots := 0, locals := 60 }) (kR dC dI [.long p0] [] [] kT) (vp_Si (fun r : Int32 => r = kClm (Int64.toInt p0))) 0 0 (fun _ => False) := by
  refine Met.ofW (cc := cX5_bounded) (maxL := 2) (ret := (some .int)) (by decide) rfl ?_
  intro p e s m args below meth c s₁ B hml hv
  obtain ⟨rfl, hP, hK, hX⟩ := hv
  have hx := B.exec
  have hb := B.bytes
  have hr := B.returns
  have hts := atoms_spec (ws := w_s_bounded5x) B.pre
  have hown : s.vm.findClass RX5 = some m.cls := findClass_of_methodNamed B.named
  have hlocks := B.notSynchronized
  have hP : va_P (dC, dI) vwCl [] s.heap := hP
  have hl := lv_entry ([.long p0]) (n := 2) (Nat.le_of_ble_eq_true rfl)
  rw [lg_entry_eq]
  generalize (lg_sl ([.long p0]) ++ List.replicate (2 - (lg_sl ([.long p0])).length) Slot.unset).toArray = ls at hl ⊢
  have hl : lv_has ls 2 [(0, .long p0)] := hl
  refine kQ (fun Q hQ => ?_)
  refine lv_lload_n hx hb dX5_bounded_0 rfl (lv_at hl 0 rfl) ?_
  refine lv_ldc2 (v := 1000000) hx hb hown (hts (.constantLong RX5 48 (1000000)) (List.mem_cons_of_mem _ (List.mem_append_left _ (List.mem_of_getElem? (i := 0) rfl)))) dX5_bounded_1 ?_
  refine W.lcmp hx hb dX5_bounded_4 ?_
  refine lv_topi (fun x_1 ex_1 => ?_)
  refine lv_if_le (tgt := 11) hx hb dX5_bounded_5 kc_t_5_6 (fun c_2 => ?_) (fun c_2 => ?_)
  · refine lv_lload_n hx hb dX5_bounded_11 rfl (lv_at hl 0 rfl) ?_
    refine lv_ldc2 (v := (-1000000)) hx hb hown (hts (.constantLong RX5 51 (-1000000)) (List.mem_cons_of_mem _ (List.mem_append_left _ (List.mem_of_getElem? (i := 1) rfl)))) dX5_bounded_12 ?_
    refine W.lcmp hx hb dX5_bounded_15 ?_
    refine lv_topi (fun x_3 ex_3 => ?_)
    refine lv_if_ge (tgt := 24) hx hb dX5_bounded_16 kc_t_16_8 (fun c_4 => ?_) (fun c_4 => ?_)
    · refine lv_lload_n hx hb dX5_bounded_24 rfl (lv_at hl 0 rfl) ?_
      obtain ⟨x_5, ex_5⟩ : ∃ z : Int32, z = Int64.toInt32 p0 := ⟨_, rfl⟩
      refine lv_l2i (v := x_5) hx hb dX5_bounded_25 ex_5.symm ?_
      rw [hQ]
      exact W.iret (v := x_5) hx hb hr (fun t ht hW => ⟨x_5, rfl, (by have h1 := kCmpG0 ex_1 c_2; have h2 := kCmpL0 ex_3 c_4; rw [ex_5]; exact kClm_in (by omega) (by omega)), ht⟩) (fun _ h => nomatch h) dX5_bounded_26
    · refine lv_ldc (v := (-1000000)) hx hb hown (hts (.constant RX5 53 (-1000000)) (List.mem_cons_of_mem _ (List.mem_append_left _ (List.mem_of_getElem? (i := 2) rfl)))) dX5_bounded_19 ?_
      refine lv_goto (tgt := 26) hx hb dX5_bounded_21 kc_t_21_5 ?_
      rw [hQ]
      exact W.iret (v := (-1000000)) hx hb hr (fun t ht hW => ⟨(-1000000), rfl, (by have h1 := kCmpL1 ex_3 c_4; exact (kClm_lo (by omega)).symm), ht⟩) (fun _ h => nomatch h) dX5_bounded_26
  · refine lv_ldc (v := 1000000) hx hb hown (hts (.constant RX5 50 (1000000)) (List.mem_cons_of_mem _ (List.mem_append_left _ (List.mem_of_getElem? (i := 3) rfl)))) dX5_bounded_8 ?_
    rw [hQ]
    exact W.iret (v := 1000000) hx hb hr (fun t ht hW => ⟨1000000, rfl, (by have h1 := kCmpG1 ex_1 c_2; exact (kClm_hi (by omega)).symm), ht⟩) (fun _ h => nomatch h) dX5_bounded_10

def w_s_valueOf5x : List Cond := .code yX5_valueOf cX5_valueOf 3 (some .int) :: ([.fieldLink RX5 9 "NotEnded$Reckoner" "letters" "[I"] ++ (wsX50))
theorem gw_s_valueOf5x : (w_s_valueOf5x).all goodWord = true := kGc rfl (kGa (by decide +kernel) gw_wsX50)
set_option maxHeartbeats 4000000 in
set_option maxRecDepth 100000 in
theorem s_valueOf5x (l : Launch) (dC : Nat → ClassId) (dI : Nat → Nat → Nat) (jK : Nat) (k0 : Nat) (k1 : Nat) (cK : ClassId) (cO : ClassId) (l0 : Nat → Int32) (l1 : Nat → Int32) (p0 : Int32) : Met l yX5_valueOf w_s_valueOf5x ({ frames := 1, cells := 0, slots := 0, locals := 60 }) (kR dC dI [.ref jK, .int p0] [(jK, .inr (5, [.ref k0, .ref k1])), (k0, .inl (cK, 8, .inl l0)), (k1, .inl (cO, 32, .inl l1))] [(cK, .int), (cO, .int)] kT) (vp_Si (fun r : Int32 => r = kStv l0 p0)) 0 0 (fun _ => False) := by
  refine Met.ofW (cc := cX5_valueOf) (maxL := 3) (ret := (some .int)) (by decide) rfl ?_
  intro p e s m args below meth c s₁ B hml hv
  obtain ⟨rfl, hP, hK, hX⟩ := hv
  have hx := B.exec
  have hb := B.bytes
  have hr := B.returns
  have hts := atoms_spec (ws := w_s_valueOf5x) B.pre
  have hown : s.vm.findClass RX5 = some m.cls := findClass_of_methodNamed B.named
  have hlocks := B.notSynchronized
  have hP : va_P (dC, dI) vwCl [(jK, .inr (5, [.ref k0, .ref k1])), (k0, .inl (cK, 8, .inl l0)), (k1, .inl (cO, 32, .inl l1))] s.heap := hP
  have hl := lv_entry ([.ref jK, .int p0]) (n := 3) (Nat.le_of_ble_eq_true rfl)
  rw [lg_entry_eq]
  generalize (lg_sl ([.ref jK, .int p0]) ++ List.replicate (3 - (lg_sl ([.ref jK, .int p0])).length) Slot.unset).toArray = ls at hl ⊢
  have hl : lv_has ls 3 [(0, .ref jK), (1, .int p0)] := hl
  refine kQ (fun Q hQ => ?_)
  refine lv_iload_n hx hb dX5_valueOf_0 rfl (lv_at hl 1 rfl) ?_
  refine lv_sipush (v := 10000) hx hb dX5_valueOf_1 kc_s_10000 ?_
  refine lv_isub hx hb dX5_valueOf_4 ?_
  refine lv_topi (fun x_1 ex_1 => ?_)
  refine lv_istore_n hx hb dX5_valueOf_5 rfl hl kc_l_2_3 (kTo [(2, .int x_1), (0, .ref jK), (1, .int p0)]) (fun ls hl => ?_)
  refine lv_iload_n hx hb dX5_valueOf_6 rfl (lv_at hl 0 rfl) ?_
  refine lv_if_lt (tgt := 28) hx hb dX5_valueOf_7 kc_t_7_21 (fun c_2 => ?_) (fun c_2 => ?_)
  · refine lv_iload_n hx hb dX5_valueOf_28 rfl (lv_at hl 2 rfl) ?_
    rw [hQ]
    exact W.iret (v := p0) hx hb hr (fun t ht hW => ⟨p0, rfl, (by unfold kStv; rw [← ex_1, if_pos c_2]), ht⟩) (fun _ h => nomatch h) dX5_valueOf_29
  · refine lv_iload_n hx hb dX5_valueOf_10 rfl (lv_at hl 0 rfl) ?_
    refine lv_aload_n hx hb dX5_valueOf_11 rfl (lv_at hl 1 rfl) ?_
    refine va_get (D := (dC, dI)) (ci := 5) (v := .ref k0) (C := RX5) (T := TX5) (N := 2) hx hb hts (fun _ h => List.mem_cons_of_mem _ (List.mem_append_right _ h)) hown hK hP 0 rfl rfl 0 kc_l_0_2 (hts (.fieldLink RX5 9 "NotEnded$Reckoner" "letters" "[I") (List.mem_cons_of_mem _ (List.mem_append_left _ (List.mem_of_getElem? (i := 0) rfl)))) (fun _ h9 => h9) rfl dX5_valueOf_12 ?_
    refine va_alen hx hb hK hP 1 0 rfl rfl (v := 8) rfl dX5_valueOf_15 ?_
    refine lv_icmp_ge (tgt := 28) hx hb dX5_valueOf_16 kc_t_16_12 (fun c_3 => ?_) (fun c_3 => ?_)
    · refine lv_iload_n hx hb dX5_valueOf_28 rfl (lv_at hl 2 rfl) ?_
      rw [hQ]
      exact W.iret (v := p0) hx hb hr (fun t ht hW => ⟨p0, rfl, (by unfold kStv; rw [← ex_1, if_neg c_2, if_neg (Int32.not_lt.mpr c_3)]), ht⟩) (fun _ h => nomatch h) dX5_valueOf_29
    · refine lv_aload_n hx hb dX5_valueOf_19 rfl (lv_at hl 1 rfl) ?_
      refine va_get (D := (dC, dI)) (ci := 5) (v := .ref k0) (C := RX5) (T := TX5) (N := 2) hx hb hts (fun _ h => List.mem_cons_of_mem _ (List.mem_append_right _ h)) hown hK hP 0 rfl rfl 0 kc_l_0_2 (hts (.fieldLink RX5 9 "NotEnded$Reckoner" "letters" "[I") (List.mem_cons_of_mem _ (List.mem_append_left _ (List.mem_of_getElem? (i := 0) rfl)))) (fun _ h9 => h9) rfl dX5_valueOf_20 ?_
      refine lv_iload_n hx hb dX5_valueOf_23 rfl (lv_at hl 0 rfl) ?_
      have hin9 : vp_in x_1 8 := kIn8 c_2 c_3
      refine va_iald hx hb hK hP 1 0 rfl rfl (by assumption) dX5_valueOf_24 ?_
      refine lv_topi (fun x_4 ex_4 => ?_)
      refine lv_goto (tgt := 29) hx hb dX5_valueOf_25 kc_t_25_4 ?_
      rw [hQ]
      exact W.iret (v := x_4) hx hb hr (fun t ht hW => ⟨x_4, rfl, (by unfold kStv; rw [← ex_1, if_neg c_2, if_pos (Int32.not_le.mp c_3)]; exact ex_4), ht⟩) (fun _ h => nomatch h) dX5_valueOf_29

def w_s_reckon5x : List Cond := .code yX5_reckon cX5_reckon 7 (some .int) :: ([.methodLink RX5 30 Lib.Math.max.name, .static Lib.Math.max.name, .initialized RJ9, .code Lib.Math.max.name Lib.Math.max.code 2 (some .int), .fieldLink RX5 15 "NotEnded$Reckoner" "open" "[I", .initialized RX5, .static yX5_join, .methodLink RX5 40 yX5_join, .static yX5_bounded, .methodLink RX5 44 yX5_bounded, .selects RX5 yX5_valueOf yX5_valueOf, .instanceMethod yX5_valueOf, .methodLink RX5 36 yX5_valueOf] ++ (wsX50 ++ (w_s_join5x ++ (w_s_bounded5x ++ (w_s_valueOf5x)))))
theorem gw_s_reckon5x : (w_s_reckon5x).all goodWord = true := kGc rfl (kGa (by decide +kernel) (kGa gw_wsX50 (kGa gw_s_join5x (kGa gw_s_bounded5x gw_s_valueOf5x))))
set_option maxHeartbeats 4000000 in
set_option maxRecDepth 100000 in
theorem s_reckon5x (l : Launch) (dC : Nat → ClassId) (dI : Nat → Nat → Nat) (jK : Nat) (k0 : Nat) (k1 : Nat) (cK : ClassId) (cO : ClassId) (l0 : Nat → Int32) (l1 : Nat → Int32) (ru : Nat) (sA : Nat) (cl : Nat) (cS : ClassId) (cc : ClassId) (nS : Nat) (nC : Nat) (gS : Nat → Int32) (gC : Nat → Int32) (hnS : nS ≤ 200) (hnC : nC ≤ 200) (ps : Nat) (pe : Nat) (L : List Int32) (hsg : ∀ j : Nat, j < L.length → gS (ps + j) = L.getD j 0) (hpe : pe = ps + L.length) (hpn : pe ≤ nS) (hfit : kFit L 0) (hev : kEv l0 L [] = [kVal l0 L]) (sz : Nat) : Met l yX5_reckon w_s_reckon5x ({ frames := 2, cells := 0, slots := 0, locals := 120 }) (kW dC dI [.ref jK, .ref sA, .int (nI (ps)), .int (nI (pe))] [(jK, .inr (5, [.ref k0, .ref k1])), (k0, .inl (cK, 8, .inl l0)), (k1, .inl (cO, 32, .inl l1))] [(cK, .int), (cO, .int), (cS, .int), (cc, .int)] (kNF dC dI [(ru, .inr (6, [.ref sA, .ref cl])), (sA, .inl (cS, nS, .inl gS)), (cl, .inl (cc, nC, .inl gC))] (va_A [(jK, .inr (5, [.ref k0, .ref k1])), (k0, .inl (cK, 8, .inl l0)), (k1, .inl (cO, 32, .inl l1))] sz)) sz) (va_Qi (fun (r : Int32) (m1 : (Nat → Int32)) => r = kVal l0 L) (fun (m1 : (Nat → Int32)) => fun t : State => kB dC dI [(jK, .inr (5, [.ref k0, .ref k1])), (k0, .inl (cK, 8, .inl l0)), (k1, .inl (cO, 32, .inl m1))] [(cK, .int), (cO, .int), (cS, .int), (cc, .int)] (va_A [(jK, .inr (5, [.ref k0, .ref k1])), (k0, .inl (cK, 8, .inl l0)), (k1, .inl (cO, 32, .inl l1))] sz) t) (va_A [(jK, .inr (5, [.ref k0, .ref k1])), (k0, .inl (cK, 8, .inl l0)), (k1, .inl (cO, 32, .inl l1))] sz)) 0 0 (va_A [(jK, .inr (5, [.ref k0, .ref k1])), (k0, .inl (cK, 8, .inl l0)), (k1, .inl (cO, 32, .inl l1))] sz) := by
  refine Met.ofW (cc := cX5_reckon) (maxL := 7) (ret := (some .int)) (by decide) rfl ?_
  intro p e s m args below meth c s₁ B hml hv
  obtain ⟨rfl, hsz, hP, hK, hD0, hX⟩ := hv
  have hx := B.exec
  have hb := B.bytes
  have hr := B.returns
  have hts := atoms_spec (ws := w_s_reckon5x) B.pre
  have hown : s.vm.findClass RX5 = some m.cls := findClass_of_methodNamed B.named
  have hlocks := B.notSynchronized
  subst hsz
  have hD := hD0.self (sz := s.heap.size)
  generalize hAe : va_A [(jK, .inr (5, [.ref k0, .ref k1])), (k0, .inl (cK, 8, .inl l0)), (k1, .inl (cO, 32, .inl l1))] s.heap.size = A at hD hX ⊢
  have hA : ∀ q : Nat, s.heap.size ≤ q → A q := fun q h => by rw [← hAe]; exact Or.inr h
  have hS : va_S A s.heap s.heap [] := va_S.rf
  have hP : va_P (dC, dI) vwCl [(jK, .inr (5, [.ref k0, .ref k1])), (k0, .inl (cK, 8, .inl l0)), (k1, .inl (cO, 32, .inl l1))] s.heap := hP
  have hl := lv_entry ([.ref jK, .ref sA, .int (nI (ps)), .int (nI (pe))]) (n := 7) (Nat.le_of_ble_eq_true rfl)
  rw [lg_entry_eq]
  generalize (lg_sl ([.ref jK, .ref sA, .int (nI (ps)), .int (nI (pe))]) ++ List.replicate (7 - (lg_sl ([.ref jK, .ref sA, .int (nI (ps)), .int (nI (pe))])).length) Slot.unset).toArray = ls at hl ⊢
  have hl : lv_has ls 7 [(0, .ref jK), (1, .ref sA), (2, .int (nI (ps))), (3, .int (nI (pe)))] := hl
  refine kQ (fun Q hQ => ?_)
  refine lv_iconst (v := 0) hx hb dX5_reckon_0 kc_i_0 ?_
  refine lv_istore hx hb dX5_reckon_1 hl kc_l_4_7 (kTo [(4, .int 0), (0, .ref jK), (1, .ref sA), (2, .int (nI (ps))), (3, .int (nI (pe)))]) (fun ls hl => ?_)
  refine lv_iload_n hx hb dX5_reckon_3 rfl (lv_at hl 3 rfl) ?_
  refine lv_iconst (v := 0) hx hb dX5_reckon_4 kc_i_0 ?_
  refine va_mmax hx hb (hml.trans hl.1.symm) hown (hts (.methodLink RX5 30 Lib.Math.max.name) (List.mem_cons_of_mem _ (List.mem_append_left _ (List.mem_of_getElem? (i := 0) rfl)))) (hts (.static Lib.Math.max.name) (List.mem_cons_of_mem _ (List.mem_append_left _ (List.mem_of_getElem? (i := 1) rfl)))) (hts (.initialized RJ9) (List.mem_cons_of_mem _ (List.mem_append_left _ (List.mem_of_getElem? (i := 2) rfl)))) (hts (.code Lib.Math.max.name Lib.Math.max.code 2 (some .int)) (List.mem_cons_of_mem _ (List.mem_append_left _ (List.mem_of_getElem? (i := 3) rfl)))) (Nat.le_of_ble_eq_true rfl) (Nat.le_of_ble_eq_true rfl) (Nat.le_of_ble_eq_true rfl) (Nat.le_of_ble_eq_true rfl) dX5_reckon_5 ?_
  refine lv_topi (fun x_1 ex_1 => ?_)
  obtain rfl : x_1 = nI (ps) := ex_1.trans (if_neg (nI_pos (n := ps) (by omega)))
  refine lv_istore hx hb dX5_reckon_8 hl kc_l_5_7 (kTo [(5, .int (nI (ps))), (4, .int 0), (0, .ref jK), (1, .ref sA), (2, .int (nI (ps))), (3, .int (nI (pe)))]) (fun ls hl => ?_)
  have lp_k_2 : ∀ (n9 : Nat) (tp : Nat) (i : Nat) (m9 : Nat → Int32) (st9 : List Int32) (ivk_2_0 : tp ≤ 32) (ivk_2_1 : (ps ≤ i ∧ i ≤ pe)) (ivk_2_2 : st9.length = tp) (ivk_2_3 : kEv l0 (L.drop (i - ps)) st9 = kEv l0 L []) (ivk_2_4 : kFit (L.drop (i - ps)) tp) (ivk_2_5 : kStk m9 st9) (H : Heap) (locs : List Loc) (_ : va_P (dC, dI) vwCl [(jK, .inr (5, [.ref k0, .ref k1])), (k0, .inl (cK, 8, .inl l0)), (k1, .inl (cO, 32, .inl m9))] H) (_ : va_D A [(jK, .inr (5, [.ref k0, .ref k1])), (k0, .inl (cK, 8, .inl l0)), (k1, .inl (cO, 32, .inl m9))]) (_ : va_S A s.heap H locs) (ls : Array Slot) (_ : lv_has ls 7 [(5, .int (nI (i))), (4, .int (nI (tp))), (0, .ref jK), (1, .ref sA), (2, .int (nI (ps))), (3, .int (nI (pe)))]) (_ : nS - i < n9), W p l e (headSpec w_s_reckon5x ({ frames := 2, cells := 0, slots := 0, locals := 120 })).room s m (#[.ref jK, .ref sA, .int (nI (ps)), .int (nI (pe))] : Array Value) below meth c H locs 0 0 Q (F0 m 10 ls []) := by
    intro n9
    induction n9 with
    | zero => intro tp i m9 st9 ivk_2_0 ivk_2_1 ivk_2_2 ivk_2_3 ivk_2_4 ivk_2_5 H locs hP hD hS ls hl hm9; exact absurd hm9 (Nat.not_lt_zero _)
    | succ n9 ih_k_2 =>
      intro tp i m9 st9 ivk_2_0 ivk_2_1 ivk_2_2 ivk_2_3 ivk_2_4 ivk_2_5 H locs hP hD hS ls hl hm9
      refine lv_iload hx hb dX5_reckon_10 (lv_at hl 0 rfl) ?_
      refine lv_iload_n hx hb dX5_reckon_12 rfl (lv_at hl 5 rfl) ?_
      refine lv_icmp_ge (tgt := 160) hx hb dX5_reckon_13 kc_t_13_147 (fun c_3 => ?_) (fun c_3 => ?_)
      · have bd_5 : pe < 2147483648 := by omega
        have bd_6 : i < 2147483648 := by omega
        have hn_4 := kle (a := pe) (b := i) bd_5 bd_6 c_3
        refine lv_iload hx hb dX5_reckon_160 (lv_at hl 1 rfl) ?_
        refine lv_if_le (tgt := 174) hx hb dX5_reckon_162 kc_t_162_12 (fun c_7 => ?_) (fun c_7 => ?_)
        · have bd_9 : tp < 2147483648 := by omega
          have hn_8 := kle (a := tp) (b := 0) bd_9 kc_31_0 c_7
          refine lv_iconst (v := 0) hx hb dX5_reckon_174 kc_i_0 ?_
          have hP9 := hP
          have hD9 := hD
          have hK9 := hK
          rw [hQ]
          exact W.iret (v := 0) hx hb hr (fun t ht hW => ⟨⟨0, m9, rfl, (by exfalso; have hd9 : L.drop (i - ps) = [] := List.drop_eq_nil_of_le (by omega); rw [hd9] at ivk_2_3; have hs9 : st9 = [kVal l0 L] := ivk_2_3.trans hev; subst hs9; have h7 := ivk_2_2; simp only [List.length_cons, List.length_nil] at h7; omega),  by rw [ht]; exact hP9, va_K.moved hW.alike hK9, hD9⟩, hS.F ht⟩) hS.2.2 dX5_reckon_175
        · have bd_11 : tp < 2147483648 := by omega
          have hn_10 := knle (a := tp) (b := 0) bd_11 kc_31_0 c_7
          refine lv_aload_n hx hb dX5_reckon_165 rfl (lv_at hl 2 rfl) ?_
          refine va_get (D := (dC, dI)) (ci := 5) (v := .ref k1) (C := RX5) (T := TX5) (N := 2) hx hb hts (fun _ h => List.mem_cons_of_mem _ (List.mem_append_right _ (List.mem_append_left _ h))) hown hK hP 0 rfl rfl 1 kc_l_1_2 (hts (.fieldLink RX5 15 "NotEnded$Reckoner" "open" "[I") (List.mem_cons_of_mem _ (List.mem_append_left _ (List.mem_of_getElem? (i := 4) rfl)))) (fun _ h9 => h9) rfl dX5_reckon_166 ?_
          refine lv_iconst (v := 0) hx hb dX5_reckon_169 kc_i_0 ?_
          refine va_iald hx hb hK hP 2 1 rfl rfl kc_in_0_32 dX5_reckon_170 ?_
          refine lv_topi (fun x_12 ex_12 => ?_)
          refine lv_goto (tgt := 175) hx hb dX5_reckon_171 kc_t_171_4 ?_
          have hP9 := hP
          have hD9 := hD
          have hK9 := hK
          rw [hQ]
          exact W.iret (v := x_12) hx hb hr (fun t ht hW => ⟨⟨x_12, m9, rfl, (by have hd9 : L.drop (i - ps) = [] := List.drop_eq_nil_of_le (by omega); rw [hd9] at ivk_2_3; have hs9 : st9 = [kVal l0 L] := ivk_2_3.trans hev; subst hs9; rw [ex_12]; exact kStk_bot ivk_2_5),  by rw [ht]; exact hP9, va_K.moved hW.alike hK9, hD9⟩, hS.F ht⟩) hS.2.2 dX5_reckon_175
      · have bd_14 : pe < 2147483648 := by omega
        have bd_15 : i < 2147483648 := by omega
        have hn_13 := knle (a := pe) (b := i) bd_14 bd_15 c_3
        refine lv_iload hx hb dX5_reckon_16 (lv_at hl 0 rfl) ?_
        refine lv_aload_n hx hb dX5_reckon_18 rfl (lv_at hl 3 rfl) ?_
        have hPR := kFz_at hX.1 hS
        refine va_alen hx hb hK hPR 1 2 rfl rfl (v := nI (nS)) rfl dX5_reckon_19 ?_
        refine lv_icmp_ge (tgt := 160) hx hb dX5_reckon_20 kc_t_20_140 (fun c_16 => ?_) (fun c_16 => ?_)
        · have bd_18 : nS < 2147483648 := by omega
          have hn_17 := kle (a := nS) (b := i) bd_18 bd_15 c_16
          refine lv_iload hx hb dX5_reckon_160 (lv_at hl 1 rfl) ?_
          refine lv_if_le (tgt := 174) hx hb dX5_reckon_162 kc_t_162_12 (fun c_19 => ?_) (fun c_19 => ?_)
          · have bd_21 : tp < 2147483648 := by omega
            have hn_20 := kle (a := tp) (b := 0) bd_21 kc_31_0 c_19
            refine lv_iconst (v := 0) hx hb dX5_reckon_174 kc_i_0 ?_
            have hP9 := hP
            have hD9 := hD
            have hK9 := hK
            rw [hQ]
            exact W.iret (v := 0) hx hb hr (fun t ht hW => ⟨⟨0, m9, rfl, (by exfalso; have hd9 : L.drop (i - ps) = [] := List.drop_eq_nil_of_le (by omega); rw [hd9] at ivk_2_3; have hs9 : st9 = [kVal l0 L] := ivk_2_3.trans hev; subst hs9; have h7 := ivk_2_2; simp only [List.length_cons, List.length_nil] at h7; omega),  by rw [ht]; exact hP9, va_K.moved hW.alike hK9, hD9⟩, hS.F ht⟩) hS.2.2 dX5_reckon_175
          · have bd_23 : tp < 2147483648 := by omega
            have hn_22 := knle (a := tp) (b := 0) bd_23 kc_31_0 c_19
            refine lv_aload_n hx hb dX5_reckon_165 rfl (lv_at hl 2 rfl) ?_
            refine va_get (D := (dC, dI)) (ci := 5) (v := .ref k1) (C := RX5) (T := TX5) (N := 2) hx hb hts (fun _ h => List.mem_cons_of_mem _ (List.mem_append_right _ (List.mem_append_left _ h))) hown hK hP 0 rfl rfl 1 kc_l_1_2 (hts (.fieldLink RX5 15 "NotEnded$Reckoner" "open" "[I") (List.mem_cons_of_mem _ (List.mem_append_left _ (List.mem_of_getElem? (i := 4) rfl)))) (fun _ h9 => h9) rfl dX5_reckon_166 ?_
            refine lv_iconst (v := 0) hx hb dX5_reckon_169 kc_i_0 ?_
            refine va_iald hx hb hK hP 2 1 rfl rfl kc_in_0_32 dX5_reckon_170 ?_
            refine lv_topi (fun x_24 ex_24 => ?_)
            refine lv_goto (tgt := 175) hx hb dX5_reckon_171 kc_t_171_4 ?_
            have hP9 := hP
            have hD9 := hD
            have hK9 := hK
            rw [hQ]
            exact W.iret (v := x_24) hx hb hr (fun t ht hW => ⟨⟨x_24, m9, rfl, (by have hd9 : L.drop (i - ps) = [] := List.drop_eq_nil_of_le (by omega); rw [hd9] at ivk_2_3; have hs9 : st9 = [kVal l0 L] := ivk_2_3.trans hev; subst hs9; rw [ex_24]; exact kStk_bot ivk_2_5),  by rw [ht]; exact hP9, va_K.moved hW.alike hK9, hD9⟩, hS.F ht⟩) hS.2.2 dX5_reckon_175
        · have bd_26 : nS < 2147483648 := by omega
          have hn_25 := knle (a := nS) (b := i) bd_26 bd_15 c_16
          refine lv_aload_n hx hb dX5_reckon_23 rfl (lv_at hl 3 rfl) ?_
          refine lv_iload hx hb dX5_reckon_24 (lv_at hl 0 rfl) ?_
          have hPR := kFz_at hX.1 hS
          have bd_27 : i < nS := by omega
          refine va_iald hx hb hK hPR 1 2 rfl rfl (vp_in_nI (n := i) (N := nS) bd_27 bd_26) dX5_reckon_26 ?_
          refine lv_topi (fun x_28 ex_28 => ?_)
          have hx9 : x_28 = gS i := by rw [ex_28, nI_clamp (n := i) (by omega)]
          have hL9 := kDrp hsg (i := i) (by omega) (by omega)
          rw [← hx9] at hL9
          rw [hL9] at ivk_2_4 ivk_2_3
          refine lv_istore hx hb dX5_reckon_27 hl kc_l_6_7 (kTo [(6, .int x_28), (5, .int (nI (i))), (4, .int (nI (tp))), (0, .ref jK), (1, .ref sA), (2, .int (nI (ps))), (3, .int (nI (pe)))]) (fun ls hl => ?_)
          refine lv_iload hx hb dX5_reckon_29 (lv_at hl 0 rfl) ?_
          refine lv_sipush (v := 20000) hx hb dX5_reckon_31 kc_s_20000 ?_
          refine lv_icmp_ge (tgt := 66) hx hb dX5_reckon_34 kc_t_34_32 (fun c_29 => ?_) (fun c_29 => ?_)
          · refine lv_iload hx hb dX5_reckon_66 (lv_at hl 0 rfl) ?_
            refine lv_sipush (v := 20033) hx hb dX5_reckon_68 kc_s_20033 ?_
            refine lv_icmp_ne (tgt := 108) hx hb dX5_reckon_71 kc_t_71_37 (fun c_30 => ?_) (fun c_30 => ?_)
            · obtain ⟨hf1, hf2⟩ := kFit_j (Int32.not_lt.mpr c_29) c_30 ivk_2_4
              obtain ⟨b9, a9, r9, e9⟩ := kLen2 ivk_2_2 hf1
              subst e9
              refine lv_iload hx hb dX5_reckon_108 (lv_at hl 2 rfl) ?_
              refine lv_iconst (v := 1) hx hb dX5_reckon_110 kc_i_1 ?_
              refine lv_icmp_le (tgt := 154) hx hb dX5_reckon_111 kc_t_111_43 (fun c_31 => absurd c_31 (nI_ge (a := 1) (b := tp) (by omega) (by omega))) (fun c_31 => ?_)
              refine lv_iinc (v := nI (tp - 1)) hx hb dX5_reckon_114 hl (k := 2) rfl (kDec (a := tp) 1 (by omega)) kc_l_4_7 (kTo [(4, .int (nI (tp - 1))), (6, .int x_28), (5, .int (nI (i))), (0, .ref jK), (1, .ref sA), (2, .int (nI (ps))), (3, .int (nI (pe)))]) (fun ls hl => ?_)
              refine lv_aload_n hx hb dX5_reckon_117 rfl (lv_at hl 3 rfl) ?_
              refine va_get (D := (dC, dI)) (ci := 5) (v := .ref k1) (C := RX5) (T := TX5) (N := 2) hx hb hts (fun _ h => List.mem_cons_of_mem _ (List.mem_append_right _ (List.mem_append_left _ h))) hown hK hP 0 rfl rfl 1 kc_l_1_2 (hts (.fieldLink RX5 15 "NotEnded$Reckoner" "open" "[I") (List.mem_cons_of_mem _ (List.mem_append_left _ (List.mem_of_getElem? (i := 4) rfl)))) (fun _ h9 => h9) rfl dX5_reckon_118 ?_
              refine lv_iload hx hb dX5_reckon_121 (lv_at hl 0 rfl) ?_
              refine lv_iconst (v := 1) hx hb dX5_reckon_123 kc_i_1 ?_
              refine lv_isub hx hb dX5_reckon_124 ?_
              refine lv_topi (fun y_32 ey_32 => ?_)
              obtain rfl : y_32 = nI ((tp - 1) - 1) := ey_32.trans (pk_sub (a := tp - 1) (b := 1) (by omega))
              refine lv_iload hx hb dX5_reckon_125 (lv_at hl 1 rfl) ?_
              refine lv_sipush (v := 20000) hx hb dX5_reckon_127 kc_s_20000 ?_
              refine lv_isub hx hb dX5_reckon_130 ?_
              refine lv_topi (fun x_33 ex_33 => ?_)
              refine lv_aload_n hx hb dX5_reckon_131 rfl (lv_at hl 3 rfl) ?_
              refine va_get (D := (dC, dI)) (ci := 5) (v := .ref k1) (C := RX5) (T := TX5) (N := 2) hx hb hts (fun _ h => List.mem_cons_of_mem _ (List.mem_append_right _ (List.mem_append_left _ h))) hown hK hP 0 rfl rfl 1 kc_l_1_2 (hts (.fieldLink RX5 15 "NotEnded$Reckoner" "open" "[I") (List.mem_cons_of_mem _ (List.mem_append_left _ (List.mem_of_getElem? (i := 4) rfl)))) (fun _ h9 => h9) rfl dX5_reckon_132 ?_
              refine lv_iload hx hb dX5_reckon_135 (lv_at hl 0 rfl) ?_
              refine lv_iconst (v := 1) hx hb dX5_reckon_137 kc_i_1 ?_
              refine lv_isub hx hb dX5_reckon_138 ?_
              refine lv_topi (fun y_34 ey_34 => ?_)
              obtain rfl : y_34 = nI ((tp - 1) - 1) := ey_34.trans (pk_sub (a := tp - 1) (b := 1) (by omega))
              have bd_35 : (tp - 1) - 1 < 32 := by omega
              refine va_iald hx hb hK hP 2 1 rfl rfl (vp_in_nI (n := (tp - 1) - 1) (N := 32) bd_35 kc_31_32) dX5_reckon_139 ?_
              refine lv_topi (fun x_36 ex_36 => ?_)
              have e8 : a9 = x_36 := (show x_36 = a9 by rw [ex_36, nI_clamp (n := tp - 1 - 1) (by omega)]; exact kStk_snd ivk_2_2 ivk_2_5).symm
              subst e8
              refine lv_aload_n hx hb dX5_reckon_140 rfl (lv_at hl 3 rfl) ?_
              refine va_get (D := (dC, dI)) (ci := 5) (v := .ref k1) (C := RX5) (T := TX5) (N := 2) hx hb hts (fun _ h => List.mem_cons_of_mem _ (List.mem_append_right _ (List.mem_append_left _ h))) hown hK hP 0 rfl rfl 1 kc_l_1_2 (hts (.fieldLink RX5 15 "NotEnded$Reckoner" "open" "[I") (List.mem_cons_of_mem _ (List.mem_append_left _ (List.mem_of_getElem? (i := 4) rfl)))) (fun _ h9 => h9) rfl dX5_reckon_141 ?_
              refine lv_iload hx hb dX5_reckon_144 (lv_at hl 0 rfl) ?_
              have bd_37 : tp - 1 < 32 := by omega
              refine va_iald hx hb hK hP 2 1 rfl rfl (vp_in_nI (n := tp - 1) (N := 32) bd_37 kc_31_32) dX5_reckon_146 ?_
              refine lv_topi (fun x_38 ex_38 => ?_)
              have e8 : b9 = x_38 := (show x_38 = b9 by rw [ex_38, nI_clamp (n := tp - 1) (by omega)]; exact kStk_top ivk_2_2 ivk_2_5).symm
              subst e8
              have hPc := hP.sb (ws2 := []) [] rfl
              have hKc := hK.sb (tys2 := []) [] rfl
              refine vp_callSl (va_runS (As := [.int x_33, .int a9, .int b9]) (rest := [.int (nI ((tp - 1) - 1)), .ref k1]) ⟨hx, hb, hml, hown, hts⟩ (s_join5x l dC dI x_33 a9 b9) (va_cwS 3 hts (kG (List.forall_mem_cons.mpr ⟨(List.mem_cons_of_mem _ (List.mem_append_left _ (List.mem_of_getElem? (i := 7) rfl))), (List.forall_mem_cons.mpr ⟨(List.mem_cons_of_mem _ (List.mem_append_left _ (List.mem_of_getElem? (i := 6) rfl))), (List.forall_mem_cons.mpr ⟨(List.mem_cons_of_mem _ (List.mem_append_left _ (List.mem_of_getElem? (i := 5) rfl))), (fun _ h => absurd h List.not_mem_nil)⟩)⟩)⟩) (kGS _ _ _) (fun _ h => List.mem_cons_of_mem _ (List.mem_append_right _ (List.mem_append_right _ (List.mem_append_left _ h)))) gw_s_join5x) rfl rfl rfl hd_X5_join ⟨(Nat.le_of_ble_eq_true rfl), (Nat.le_of_ble_eq_true rfl)⟩) (kR_S kT_blind kT_give hPc hKc) rfl rfl hl.1 rfl (lv_room (Nat.le_of_ble_eq_true rfl)) dX5_reckon_147 ⟨(Nat.le_of_ble_eq_true rfl), (Nat.le_of_ble_eq_true rfl)⟩).run (fun r_39 hw => ?_)
              have hw_40 := hw
              have hPc := hP.sb (ws2 := []) [] rfl
              have hKc := hK.sb (tys2 := []) [] rfl
              refine vp_callSi (va_runS (As := [.long r_39]) (rest := [.int (nI ((tp - 1) - 1)), .ref k1]) ⟨hx, hb, hml, hown, hts⟩ (s_bounded5x l dC dI r_39) (va_cwS 1 hts (kG (List.forall_mem_cons.mpr ⟨(List.mem_cons_of_mem _ (List.mem_append_left _ (List.mem_of_getElem? (i := 9) rfl))), (List.forall_mem_cons.mpr ⟨(List.mem_cons_of_mem _ (List.mem_append_left _ (List.mem_of_getElem? (i := 8) rfl))), (List.forall_mem_cons.mpr ⟨(List.mem_cons_of_mem _ (List.mem_append_left _ (List.mem_of_getElem? (i := 5) rfl))), (fun _ h => absurd h List.not_mem_nil)⟩)⟩)⟩) (kGS _ _ _) (fun _ h => List.mem_cons_of_mem _ (List.mem_append_right _ (List.mem_append_right _ (List.mem_append_right _ (List.mem_append_left _ h))))) gw_s_bounded5x) rfl rfl rfl hd_X5_bounded ⟨(Nat.le_of_ble_eq_true rfl), (Nat.le_of_ble_eq_true rfl)⟩) (kR_S kT_blind kT_give hPc hKc) rfl rfl hl.1 rfl (lv_room (Nat.le_of_ble_eq_true rfl)) dX5_reckon_150 ⟨(Nat.le_of_ble_eq_true rfl), (Nat.le_of_ble_eq_true rfl)⟩).run (fun r_41 hw => ?_)
              have hw_42 := hw
              refine va_iast hx hb hK hP hD hS 2 1 rfl rfl (vp_in_nI (n := (tp - 1) - 1) (N := 32) bd_35 kc_31_32) dX5_reckon_153 (fun H locs hP hD hS => ?_)
              obtain ⟨f_43, ef_43⟩ : ∃ gg9 : Nat → Int32, gg9 = upd m9 (Int32.toNatClampNeg (nI ((tp - 1) - 1))) r_41 := ⟨_, rfl⟩
              have hPD : kPD dC dI A [(jK, .inr (5, [.ref k0, .ref k1])), (k0, .inl (cK, 8, .inl l0)), (k1, .inl (cO, 32, .inl f_43))] H := by rw [ef_43]; exact ⟨hP, hD⟩
              have hP := hPD.1
              have hD := hPD.2
              refine lv_iinc (v := nI (i + 1)) hx hb dX5_reckon_154 hl (k := 2) rfl (kInc _ 1) kc_l_5_7 (kTo [(5, .int (nI (i + 1))), (4, .int (nI (tp - 1))), (6, .int x_28), (0, .ref jK), (1, .ref sA), (2, .int (nI (ps))), (3, .int (nI (pe)))]) (fun ls hl => ?_)
              refine lv_goto (tgt := 10) hx hb dX5_reckon_157 kc_t_157_m147 ?_
              exact ih_k_2 (tp - 1) (i + 1) f_43 (kJn (x_28 - 20000) a9 b9 :: r9) (by omega) (by omega) (by have h9 := ivk_2_2; simp only [List.length_cons] at h9 ⊢; omega) (by rw [← ivk_2_3]; show _ = kEv l0 _ (kEv1 l0 _ _); rw [kEv1_j (Int32.not_lt.mpr c_29) c_30]) hf2 (by have h9 := hw_42; rw [hw_40, ex_33] at h9; have h8 : kJn (x_28 - 20000) a9 b9 = r_41 := h9.symm; rw [h8]; exact kStk_push (by have h7 := ivk_2_2; simp only [List.length_cons] at h7; omega) (by omega) ef_43 (kStk_rest (kStk_rest ivk_2_5))) _ _ hP hD hS ls (lv_sub hl [0, 1, 3, 4, 5, 6] rfl) (by omega)
            · rw [c_30] at ivk_2_4 ivk_2_3
              obtain ⟨hf1, hf2⟩ := kFit_n ivk_2_4
              obtain ⟨a9, r9, e9⟩ := kLen1 ivk_2_2 hf1
              subst e9
              refine lv_iload hx hb dX5_reckon_74 (lv_at hl 2 rfl) ?_
              refine lv_if_le (tgt := 154) hx hb dX5_reckon_76 kc_t_76_78 (fun c_44 => absurd c_44 (nI_nle (n := tp) (by omega) (by omega))) (fun c_44 => ?_)
              refine lv_aload_n hx hb dX5_reckon_79 rfl (lv_at hl 3 rfl) ?_
              refine va_get (D := (dC, dI)) (ci := 5) (v := .ref k1) (C := RX5) (T := TX5) (N := 2) hx hb hts (fun _ h => List.mem_cons_of_mem _ (List.mem_append_right _ (List.mem_append_left _ h))) hown hK hP 0 rfl rfl 1 kc_l_1_2 (hts (.fieldLink RX5 15 "NotEnded$Reckoner" "open" "[I") (List.mem_cons_of_mem _ (List.mem_append_left _ (List.mem_of_getElem? (i := 4) rfl)))) (fun _ h9 => h9) rfl dX5_reckon_80 ?_
              refine lv_iload hx hb dX5_reckon_83 (lv_at hl 2 rfl) ?_
              refine lv_iconst (v := 1) hx hb dX5_reckon_85 kc_i_1 ?_
              refine lv_isub hx hb dX5_reckon_86 ?_
              refine lv_topi (fun y_45 ey_45 => ?_)
              obtain rfl : y_45 = nI (tp - 1) := ey_45.trans (pk_sub (a := tp) (b := 1) (by omega))
              refine lv_aload_n hx hb dX5_reckon_87 rfl (lv_at hl 3 rfl) ?_
              refine va_get (D := (dC, dI)) (ci := 5) (v := .ref k1) (C := RX5) (T := TX5) (N := 2) hx hb hts (fun _ h => List.mem_cons_of_mem _ (List.mem_append_right _ (List.mem_append_left _ h))) hown hK hP 0 rfl rfl 1 kc_l_1_2 (hts (.fieldLink RX5 15 "NotEnded$Reckoner" "open" "[I") (List.mem_cons_of_mem _ (List.mem_append_left _ (List.mem_of_getElem? (i := 4) rfl)))) (fun _ h9 => h9) rfl dX5_reckon_88 ?_
              refine lv_iload hx hb dX5_reckon_91 (lv_at hl 2 rfl) ?_
              refine lv_iconst (v := 1) hx hb dX5_reckon_93 kc_i_1 ?_
              refine lv_isub hx hb dX5_reckon_94 ?_
              refine lv_topi (fun y_46 ey_46 => ?_)
              obtain rfl : y_46 = nI (tp - 1) := ey_46.trans (pk_sub (a := tp) (b := 1) (by omega))
              have bd_47 : tp - 1 < 32 := by omega
              refine va_iald hx hb hK hP 2 1 rfl rfl (vp_in_nI (n := tp - 1) (N := 32) bd_47 kc_31_32) dX5_reckon_95 ?_
              refine lv_topi (fun x_48 ex_48 => ?_)
              have e8 : a9 = x_48 := (show x_48 = a9 by rw [ex_48, nI_clamp (n := tp - 1) (by omega)]; exact kStk_top ivk_2_2 ivk_2_5).symm
              subst e8
              refine lv_if_ne (tgt := 103) hx hb dX5_reckon_96 kc_t_96_7 (fun c_49 => ?_) (fun c_49 => ?_)
              · refine lv_iconst (v := 0) hx hb dX5_reckon_103 kc_i_0 ?_
                refine va_iast hx hb hK hP hD hS 2 1 rfl rfl (vp_in_nI (n := tp - 1) (N := 32) bd_47 kc_31_32) dX5_reckon_104 (fun H locs hP hD hS => ?_)
                obtain ⟨f_50, ef_50⟩ : ∃ gg9 : Nat → Int32, gg9 = upd m9 (Int32.toNatClampNeg (nI (tp - 1))) 0 := ⟨_, rfl⟩
                have hPD : kPD dC dI A [(jK, .inr (5, [.ref k0, .ref k1])), (k0, .inl (cK, 8, .inl l0)), (k1, .inl (cO, 32, .inl f_50))] H := by rw [ef_50]; exact ⟨hP, hD⟩
                have hP := hPD.1
                have hD := hPD.2
                refine lv_goto (tgt := 154) hx hb dX5_reckon_105 kc_t_105_49 ?_
                refine lv_iinc (v := nI (i + 1)) hx hb dX5_reckon_154 hl (k := 1) rfl (kInc _ 1) kc_l_5_7 (kTo [(5, .int (nI (i + 1))), (6, .int x_28), (4, .int (nI (tp))), (0, .ref jK), (1, .ref sA), (2, .int (nI (ps))), (3, .int (nI (pe)))]) (fun ls hl => ?_)
                refine lv_goto (tgt := 10) hx hb dX5_reckon_157 kc_t_157_m147 ?_
                exact ih_k_2 tp (i + 1) f_50 ((if a9 = 0 then 1 else 0) :: r9) (by omega) (by omega) (by have h9 := ivk_2_2; simp only [List.length_cons] at h9 ⊢; omega) (by rw [← ivk_2_3]; show _ = kEv l0 _ (kEv1 l0 _ _); rw [kEv1_n]) hf2 (by rw [if_neg c_49]; exact kStk_push (by have h9 := ivk_2_2; simp only [List.length_cons] at h9; omega) (by omega) ef_50 (kStk_rest ivk_2_5)) _ _ hP hD hS ls (lv_sub hl [0, 2, 3, 4, 5, 6] rfl) (by omega)
              · refine lv_iconst (v := 1) hx hb dX5_reckon_99 kc_i_1 ?_
                refine lv_goto (tgt := 104) hx hb dX5_reckon_100 kc_t_100_4 ?_
                refine va_iast hx hb hK hP hD hS 2 1 rfl rfl (vp_in_nI (n := tp - 1) (N := 32) bd_47 kc_31_32) dX5_reckon_104 (fun H locs hP hD hS => ?_)
                obtain ⟨f_51, ef_51⟩ : ∃ gg9 : Nat → Int32, gg9 = upd m9 (Int32.toNatClampNeg (nI (tp - 1))) 1 := ⟨_, rfl⟩
                have hPD : kPD dC dI A [(jK, .inr (5, [.ref k0, .ref k1])), (k0, .inl (cK, 8, .inl l0)), (k1, .inl (cO, 32, .inl f_51))] H := by rw [ef_51]; exact ⟨hP, hD⟩
                have hP := hPD.1
                have hD := hPD.2
                refine lv_goto (tgt := 154) hx hb dX5_reckon_105 kc_t_105_49 ?_
                refine lv_iinc (v := nI (i + 1)) hx hb dX5_reckon_154 hl (k := 1) rfl (kInc _ 1) kc_l_5_7 (kTo [(5, .int (nI (i + 1))), (6, .int x_28), (4, .int (nI (tp))), (0, .ref jK), (1, .ref sA), (2, .int (nI (ps))), (3, .int (nI (pe)))]) (fun ls hl => ?_)
                refine lv_goto (tgt := 10) hx hb dX5_reckon_157 kc_t_157_m147 ?_
                exact ih_k_2 tp (i + 1) f_51 ((if a9 = 0 then 1 else 0) :: r9) (by omega) (by omega) (by have h9 := ivk_2_2; simp only [List.length_cons] at h9 ⊢; omega) (by rw [← ivk_2_3]; show _ = kEv l0 _ (kEv1 l0 _ _); rw [kEv1_n]) hf2 (by rw [if_pos c_49]; exact kStk_push (by have h9 := ivk_2_2; simp only [List.length_cons] at h9; omega) (by omega) ef_51 (kStk_rest ivk_2_5)) _ _ hP hD hS ls (lv_sub hl [0, 2, 3, 4, 5, 6] rfl) (by omega)
          · obtain ⟨hf1, hf2⟩ := kFit_p (Int32.not_le.mp c_29) ivk_2_4
            refine lv_iload hx hb dX5_reckon_37 (lv_at hl 2 rfl) ?_
            refine lv_aload_n hx hb dX5_reckon_39 rfl (lv_at hl 3 rfl) ?_
            refine va_get (D := (dC, dI)) (ci := 5) (v := .ref k1) (C := RX5) (T := TX5) (N := 2) hx hb hts (fun _ h => List.mem_cons_of_mem _ (List.mem_append_right _ (List.mem_append_left _ h))) hown hK hP 0 rfl rfl 1 kc_l_1_2 (hts (.fieldLink RX5 15 "NotEnded$Reckoner" "open" "[I") (List.mem_cons_of_mem _ (List.mem_append_left _ (List.mem_of_getElem? (i := 4) rfl)))) (fun _ h9 => h9) rfl dX5_reckon_40 ?_
            refine va_alen hx hb hK hP 2 1 rfl rfl (v := 32) rfl dX5_reckon_43 ?_
            refine lv_icmp_ge (tgt := 154) hx hb dX5_reckon_44 kc_t_44_110 (fun c_52 => absurd c_52 (nI_ge (a := tp) (b := 32) (by omega) (by decide))) (fun c_52 => ?_)
            refine lv_aload_n hx hb dX5_reckon_47 rfl (lv_at hl 3 rfl) ?_
            refine va_get (D := (dC, dI)) (ci := 5) (v := .ref k1) (C := RX5) (T := TX5) (N := 2) hx hb hts (fun _ h => List.mem_cons_of_mem _ (List.mem_append_right _ (List.mem_append_left _ h))) hown hK hP 0 rfl rfl 1 kc_l_1_2 (hts (.fieldLink RX5 15 "NotEnded$Reckoner" "open" "[I") (List.mem_cons_of_mem _ (List.mem_append_left _ (List.mem_of_getElem? (i := 4) rfl)))) (fun _ h9 => h9) rfl dX5_reckon_48 ?_
            refine lv_iload hx hb dX5_reckon_51 (lv_at hl 2 rfl) ?_
            refine lv_aload_n hx hb dX5_reckon_53 rfl (lv_at hl 3 rfl) ?_
            refine lv_iload hx hb dX5_reckon_54 (lv_at hl 0 rfl) ?_
            have hPc := hP.sb (ws2 := [(jK, .inr (5, [.ref k0, .ref k1])), (k0, .inl (cK, 8, .inl l0)), (k1, .inl (cO, 32, .inl m9))]) [0, 1, 2] rfl
            have hKc := hK.sb (tys2 := [(cK, .int), (cO, .int)]) [0, 1] rfl
            refine vp_callSi (va_runV (As := [.int x_28]) (rest := [.int (nI (tp)), .ref k1]) ⟨hx, hb, hml, hown, hts⟩ (s_valueOf5x l dC dI jK k0 k1 cK cO l0 m9 x_28) (cwV 1 hts (kG (List.forall_mem_cons.mpr ⟨(List.mem_cons_of_mem _ (List.mem_append_left _ (List.mem_of_getElem? (i := 12) rfl))), (List.forall_mem_cons.mpr ⟨(List.mem_cons_of_mem _ (List.mem_append_left _ (List.mem_of_getElem? (i := 11) rfl))), (List.forall_mem_cons.mpr ⟨(List.mem_cons_of_mem _ (List.mem_append_left _ (List.mem_of_getElem? (i := 10) rfl))), (List.forall_mem_cons.mpr ⟨(List.mem_cons_of_mem _ (List.mem_append_left _ (List.mem_of_getElem? (i := 5) rfl))), (fun _ h => absurd h List.not_mem_nil)⟩)⟩)⟩)⟩) (kGV _ _ _ _) (fun _ h => List.mem_cons_of_mem _ (List.mem_append_right _ (List.mem_append_right _ (List.mem_append_right _ (List.mem_append_right _ h))))) gw_s_valueOf5x) rfl rfl rfl ⟨rfl, hd_X5_valueOf⟩ ⟨(Nat.le_of_ble_eq_true rfl), (Nat.le_of_ble_eq_true rfl)⟩) (kR_V kT_blind kT_give (va_recv hKc hPc (ci := 5) (q0 := 0) rfl rfl) hPc hKc) rfl rfl hl.1 rfl (lv_room (Nat.le_of_ble_eq_true rfl)) dX5_reckon_56 ⟨(Nat.le_of_ble_eq_true rfl), (Nat.le_of_ble_eq_true rfl)⟩).run (fun r_53 hw => ?_)
            have hw_54 := hw
            have bd_56 : tp < 32 := by omega
            refine va_iast hx hb hK hP hD hS 2 1 rfl rfl (vp_in_nI (n := tp) (N := 32) bd_56 kc_31_32) dX5_reckon_59 (fun H locs hP hD hS => ?_)
            obtain ⟨f_55, ef_55⟩ : ∃ gg9 : Nat → Int32, gg9 = upd m9 (Int32.toNatClampNeg (nI (tp))) r_53 := ⟨_, rfl⟩
            have hPD : kPD dC dI A [(jK, .inr (5, [.ref k0, .ref k1])), (k0, .inl (cK, 8, .inl l0)), (k1, .inl (cO, 32, .inl f_55))] H := by rw [ef_55]; exact ⟨hP, hD⟩
            have hP := hPD.1
            have hD := hPD.2
            refine lv_iinc (v := nI (tp + 1)) hx hb dX5_reckon_60 hl (k := 2) rfl (kInc _ 1) kc_l_4_7 (kTo [(4, .int (nI (tp + 1))), (6, .int x_28), (5, .int (nI (i))), (0, .ref jK), (1, .ref sA), (2, .int (nI (ps))), (3, .int (nI (pe)))]) (fun ls hl => ?_)
            refine lv_goto (tgt := 154) hx hb dX5_reckon_63 kc_t_63_91 ?_
            refine lv_iinc (v := nI (i + 1)) hx hb dX5_reckon_154 hl (k := 2) rfl (kInc _ 1) kc_l_5_7 (kTo [(5, .int (nI (i + 1))), (4, .int (nI (tp + 1))), (6, .int x_28), (0, .ref jK), (1, .ref sA), (2, .int (nI (ps))), (3, .int (nI (pe)))]) (fun ls hl => ?_)
            refine lv_goto (tgt := 10) hx hb dX5_reckon_157 kc_t_157_m147 ?_
            exact ih_k_2 (tp + 1) (i + 1) f_55 (kStv l0 x_28 :: st9) (by omega) (by omega) (by rw [List.length_cons]; omega) (by rw [← ivk_2_3]; show _ = kEv l0 _ (kEv1 l0 _ _); rw [kEv1_p (Int32.not_le.mp c_29)]) hf2 (by rw [← hw_54]; exact kStk_push ivk_2_2 (by omega) ef_55 ivk_2_5) _ _ hP hD hS ls (lv_sub hl [0, 1, 3, 4, 5, 6] rfl) (by omega)
  exact lp_k_2 (nS - ps + 1) 0 ps l1 ([]) (by omega) (by omega) rfl (by rw [Nat.sub_self]; rfl) (by rw [Nat.sub_self]; exact hfit) (kStk_nil _) _ _ hP hD hS ls (lv_sub hl [0, 1, 2, 3, 4, 5] rfl) (by omega)

/-- a clause: its label's number, its condition, its sum -/
abbrev kTr : Type := Nat × List Int32 × List Int32
def kFl : List kTr → List Int32
  | [] => []
  | (_, c, m) :: r => c ++ m ++ kFl r
def kRw : Nat → List kTr → List Int32
  | _, [] => []
  | o, (j, c, m) :: r => [nI j, nI o, nI (o + c.length), nI (o + (c ++ m).length)] ++ kRw (o + (c ++ m).length) r
/-- what a text is worth under a label -/
def kWoT (lt : Nat → Int32) (lab : Nat) : List kTr → Int32
  | [] => 0
  | (j, c, m) :: r => if j = lab ∧ (c = [] ∨ ¬ kVal lt c = 0) then kVal lt m else kWoT lt lab r
/-- a clause that can be reckoned -/
def kGdC (N M : Nat) (z : kTr) : Prop := z.1 < N ∧ (z.2.1 = [] ∨ kHb M 18 z.2.1) ∧ kHn M 15 z.2.2
theorem kFl_app (b : List kTr) : ∀ a : List kTr, kFl (a ++ b) = kFl a ++ kFl b := by
  intro a
  induction a with
  | nil => rfl
  | cons z a ih =>
    obtain ⟨j, c, m⟩ := z
    show c ++ m ++ kFl (a ++ b) = c ++ m ++ kFl a ++ kFl b
    rw [ih]
    simp only [List.append_assoc]
theorem kRw_app (b : List kTr) : ∀ (a : List kTr) (o : Nat), kRw o (a ++ b) = kRw o a ++ kRw (o + (kFl a).length) b := by
  intro a
  induction a with
  | nil => intro o; rfl
  | cons z a ih =>
    intro o
    obtain ⟨j, c, m⟩ := z
    show _ ++ kRw _ (a ++ b) = (_ ++ kRw _ a) ++ kRw (o + (c ++ m ++ kFl a).length) b
    rw [ih, List.append_assoc, List.length_append (as := c ++ m) (bs := kFl a), Nat.add_assoc]
theorem kHb_z {M A H : Nat} {l k : List Int32} (h1 : kHn M A l) (h2 : kHz M H k) : kHb M (max A H) (l ++ k) := by
  obtain ⟨x, x1, x2⟩ := h1
  obtain ⟨y, y1, y2⟩ := h2
  have h3 : ∀ {y : Nat} {k : List Int32}, kWz M y k → kWb M (max x y) (l ++ k) := by
    intro y k w
    refine kWz_ind (P := fun y k => kWb M (max x y) (l ++ k)) ?_ ?_ w
    · intro b s m w2 hs
      rw [List.nil_append, ← List.append_assoc]
      exact kWb.cmp x2 w2 hs
    · intro a b s p m _ w2 hs ih
      have h4 := kWb.bin ih w2 hs
      rw [show l ++ (p ++ m ++ [nI (20000 + s)]) = l ++ p ++ m ++ [nI (20000 + s)] by simp only [List.append_assoc]]
      rw [show max x (max a (b + 1)) = max (max x a) (b + 1) by omega]
      exact h4
  exact ⟨max x y, by omega, h3 y2⟩
theorem kThC_i {r : kRes} {k : Nat → List Int32 → kClR} {q : Nat} {l : List Int32} {j m : Nat} (h : kThC r k = (true, q, l, j, m)) : ∃ (p : Nat) (x : List Int32), r = (true, p, x) ∧ k p x = (true, q, l, j, m) := by
  obtain ⟨o, p, x⟩ := r
  cases o with
  | true => exact ⟨p, x, rfl, h⟩
  | false => exact absurd (Prod.mk.inj (show ((false, p, [], 0, 0) : kClR) = (true, q, l, j, m) from h)).1 (by decide)
theorem kCla2_i {b : Nat → Nat} {n : Nat} {g : Nat → Int32} {m : Nat} (hm : m ≤ 8) {j p q i k : Nat} {l x : List Int32} (hl : kHb m 18 l) (h : kCla2 b n g m j p l = (true, q, x, i, k)) : ∃ c s : List Int32, x = c ++ s ∧ c.length = k ∧ i = j ∧ (c = [] ∨ kHb m 18 c) ∧ kHn m 15 s := by
  unfold kCla2 at h
  obtain ⟨p2, y, _, h2⟩ := kThC_i h
  obtain ⟨p3, z, h3, h4⟩ := kThC_i h2
  have e := Prod.mk.inj (Prod.mk.inj h4).2
  have e2 := Prod.mk.inj e.2
  have e3 := Prod.mk.inj e2.2
  exact ⟨l, z, e2.1.symm, e3.2, e3.1.symm, Or.inr hl, kSumD_w hm 6 _ _ _ h3⟩
theorem kCla_i {b : Nat → Nat} {n : Nat} {g6 : Nat → Int32} {n6 : Nat} {g : Nat → Int32} {m : Nat} (hm : m ≤ 8) {p q i k : Nat} {x : List Int32} (h : kCla b n g6 n6 g m p = (true, q, x, i, k)) : ∃ c s : List Int32, x = c ++ s ∧ c.length = k ∧ i = kIx g6 n6 (nI (kLk b n p)) ∧ i < n6 ∧ (c = [] ∨ kHb m 18 c) ∧ kHn m 15 s := by
  unfold kCla at h
  split at h
  · next hx =>
    obtain ⟨p2, y, _, h2⟩ := kThC_i h
    unfold kCla1 at h2
    split at h2
    · obtain ⟨p3, z, h3, h4⟩ := kThC_i h2
      obtain ⟨c, s, a1, a2, a3, a4, a5⟩ := kCla2_i hm (kConD_w hm 6 _ _ _ h3) h4
      exact ⟨c, s, a1, a2, a3, by rw [a3]; exact hx, a4, a5⟩
    · obtain ⟨p3, z, h3, h4⟩ := kThC_i h2
      split at h4
      · obtain ⟨p4, w, h5, h6⟩ := kThC_i h4
        obtain ⟨c, s, a1, a2, a3, a4, a5⟩ := kCla2_i hm (kHb_le (kHb_z (kSumD_w hm 6 _ _ _ h3) (kConZ_w hm h5)) (by omega)) h6
        exact ⟨c, s, a1, a2, a3, by rw [a3]; exact hx, a4, a5⟩
      · have e := Prod.mk.inj (Prod.mk.inj h4).2
        have e2 := Prod.mk.inj e.2
        have e3 := Prod.mk.inj e2.2
        exact ⟨[], z, e2.1.symm, e3.2, e3.1.symm, by rw [← e3.1]; exact hx, Or.inl rfl, kSumD_w hm 6 _ _ _ h3⟩
  · exact absurd (Prod.mk.inj h).1 (by decide)
/-- the clauses of a text, as they are read -/
def kTrA (t : List kTr) (x : List Int32) (j k : Nat) : List kTr := t ++ [(j, x.take k, x.drop k)]
def kRdT (b : Nat → Nat) (n : Nat) (g6 : Nat → Int32) (n6 : Nat) (g : Nat → Int32) (m : Nat) : Nat → Nat → List kTr → List kTr
  | 0, _, _ => []
  | f + 1, p, t =>
    if (kCla b n g6 n6 g m p).1 then
      (if kLk b n (kCla b n g6 n6 g m p).2.1 = 0 then kTrA t (kCla b n g6 n6 g m p).2.2.1 (kCla b n g6 n6 g m p).2.2.2.1 (kCla b n g6 n6 g m p).2.2.2.2
       else if kLk b n (kCla b n g6 n6 g m p).2.1 = 59 then kRdT b n g6 n6 g m f (kSp b n (kCla b n g6 n6 g m p).2.1 + 1) (kTrA t (kCla b n g6 n6 g m p).2.2.1 (kCla b n g6 n6 g m p).2.2.2.1 (kCla b n g6 n6 g m p).2.2.2.2)
       else [])
    else []
def kReadT (b : Nat → Nat) (n : Nat) (g6 : Nat → Int32) (n6 : Nat) (g : Nat → Int32) (m : Nat) : List kTr := kRdT b n g6 n6 g m 31 0 []
def kRdB (b : Nat → Nat) (n : Nat) (g6 : Nat → Int32) (n6 : Nat) (g : Nat → Int32) (m : Nat) (f q : Nat) (t : List kTr) : List kTr :=
  if kLk b n q = 0 then t else if kLk b n q = 59 then kRdT b n g6 n6 g m f (kSp b n q + 1) t else []
theorem kRdT_t {b : Nat → Nat} {n : Nat} {g6 : Nat → Int32} {n6 : Nat} {g : Nat → Int32} {m f p q j k : Nat} {x : List Int32} {t : List kTr} (h : kCla b n g6 n6 g m p = (true, q, x, j, k)) : kRdT b n g6 n6 g m (f + 1) p t = kRdB b n g6 n6 g m f q (kTrA t x j k) := by
  unfold kRdT
  rw [h]
  rfl
theorem kRdB_0 {b : Nat → Nat} {n : Nat} {g6 : Nat → Int32} {n6 : Nat} {g : Nat → Int32} {m f q : Nat} {t : List kTr} (h : kLk b n q = 0) : kRdB b n g6 n6 g m f q t = t := if_pos h
theorem kRdB_s {b : Nat → Nat} {n : Nat} {g6 : Nat → Int32} {n6 : Nat} {g : Nat → Int32} {m f q : Nat} {t : List kTr} (h : kLk b n q = 59) : kRdB b n g6 n6 g m f q t = kRdT b n g6 n6 g m f (kSp b n q + 1) t := (if_neg (by omega)).trans (if_pos h)
/-- what was read is the list of its clauses -/
theorem kRdL_T {b : Nat → Nat} {n : Nat} {g6 : Nat → Int32} {n6 : Nat} {g : Nat → Int32} {m : Nat} (hm : m ≤ 8) : ∀ (f p q : Nat) (l c x y : List Int32) (t : List kTr), l = kFl t → c = kRw 0 t → (∀ z ∈ t, kGdC n6 m z) → kRdL b n g6 n6 g m f p l c = (true, q, x, y) → x = kFl (kRdT b n g6 n6 g m f p t) ∧ y = kRw 0 (kRdT b n g6 n6 g m f p t) ∧ ∀ z ∈ kRdT b n g6 n6 g m f p t, kGdC n6 m z := by
  intro f
  induction f with
  | zero => intro p q l c x y t _ _ _ h; exact absurd (Prod.mk.inj h).1 (by decide)
  | succ f ih =>
    intro p q l c x y t hl hc ht h
    obtain ⟨o, p2, w, j, k, hK⟩ : ∃ (o : Bool) (p2 : Nat) (w : List Int32) (j k : Nat), kCla b n g6 n6 g m p = (o, p2, w, j, k) := ⟨_, _, _, _, _, rfl⟩
    cases o with
    | false => rw [kRdL_f hK] at h; exact absurd (Prod.mk.inj h).1 (by decide)
    | true =>
      rw [kRdL_t hK] at h
      rw [kRdT_t hK]
      obtain ⟨cc, s, e1, e2, e3, e4, e5, e6⟩ := kCla_i hm hK
      have hT : kTrA t w j k = t ++ [(j, cc, s)] := by
        unfold kTrA
        rw [e1, ← e2, List.take_left, List.drop_left]
      have hl2 : l ++ w = kFl (t ++ [(j, cc, s)]) := by
        rw [kFl_app, ← hl, e1]
        show _ = l ++ (cc ++ s ++ [])
        rw [List.append_nil]
      have hc2 : c ++ [nI j, nI l.length, nI (l.length + k), nI (l.length + w.length)] = kRw 0 (t ++ [(j, cc, s)]) := by
        rw [kRw_app, ← hc, ← hl, Nat.zero_add, e1, ← e2]
        rfl
      have ht2 : ∀ z ∈ t ++ [(j, cc, s)], kGdC n6 m z := by
        intro z hz
        rcases List.mem_append.mp hz with hz | hz
        · exact ht z hz
        · rw [List.mem_singleton.mp hz]; exact ⟨e4, e5, e6⟩
      rw [hT]
      by_cases h0 : kLk b n p2 = 0
      · rw [kRdA_0 h0] at h
        have a1 := Prod.mk.inj (Prod.mk.inj h).2
        have a2 := Prod.mk.inj a1.2
        rw [kRdB_0 h0]
        exact ⟨by rw [← a2.1]; exact hl2, by rw [← a2.2]; exact hc2, ht2⟩
      · by_cases h59 : kLk b n p2 = 59
        · rw [kRdA_s h59] at h
          rw [kRdB_s h59]
          exact ih _ q _ _ x y _ hl2 hc2 ht2 h
        · rw [kRdA_f h0 h59] at h
          exact absurd (Prod.mk.inj h).1 (by decide)
theorem kRead_T {b : Nat → Nat} {n : Nat} {g6 : Nat → Int32} {n6 : Nat} {g : Nat → Int32} {m : Nat} (hm : m ≤ 8) {q : Nat} {x y : List Int32} (h : kRead b n g6 n6 g m = (true, q, x, y)) : x = kFl (kReadT b n g6 n6 g m) ∧ y = kRw 0 (kReadT b n g6 n6 g m) ∧ ∀ z ∈ kReadT b n g6 n6 g m, kGdC n6 m z := kRdL_T hm 31 0 q [] [] x y [] rfl rfl (fun z hz => absurd hz List.not_mem_nil) h
/-- letters that a text doesn't name don't matter -/
theorem kVal_cn {l1 l2 : Nat → Int32} {M : Nat} (hl : ∀ k : Nat, k < M → l1 k = l2 k) {h : Nat} {l : List Int32} (w : kWn M h l) : kVal l1 l = kVal l2 l := by
  refine kWn_ind (P := fun _ l => kVal l1 l = kVal l2 l) ?_ ?_ ?_ w
  · intro v hv; rw [kVal_nn hv, kVal_nn hv]
  · intro k hk h8; rw [kVal_ll h8, kVal_ll h8, hl k hk]
  · intro a b s l m h1 h2 hs i1 i2; rw [kVal_n h1 h2 (by omega) (by omega), kVal_n h1 h2 (by omega) (by omega), i1, i2]
theorem kVal_cb {l1 l2 : Nat → Int32} {M : Nat} (hl : ∀ k : Nat, k < M → l1 k = l2 k) {h : Nat} {l : List Int32} (w : kWb M h l) : kVal l1 l = kVal l2 l := by
  refine kWb_ind (P := fun _ l => kVal l1 l = kVal l2 l) ?_ ?_ ?_ w
  · intro a b s l m h1 h2 hs; rw [kVal_n h1 h2 (by omega) (by omega), kVal_n h1 h2 (by omega) (by omega), kVal_cn hl h1, kVal_cn hl h2]
  · intro a l h1 i1; rw [kVal_not h1, kVal_not h1, i1]
  · intro a b s l m h1 h2 hs i1 i2; rw [kVal_b h1 h2 (by omega) (by omega), kVal_b h1 h2 (by omega) (by omega), i1, i2]
theorem kWoT_c {l1 l2 : Nat → Int32} {N M lab : Nat} (hl : ∀ k : Nat, k < M → l1 k = l2 k) : ∀ t : List kTr, (∀ z ∈ t, kGdC N M z) → kWoT l1 lab t = kWoT l2 lab t := by
  intro t
  induction t with
  | nil => intro _; rfl
  | cons z t ih =>
    intro h
    obtain ⟨j, c, m⟩ := z
    have h0 := h (j, c, m) List.mem_cons_self
    have hm : kVal l1 m = kVal l2 m := by obtain ⟨x, _, hx⟩ := h0.2.2; exact kVal_cn hl hx
    have hc : (c = [] ∨ ¬ kVal l1 c = 0) ↔ (c = [] ∨ ¬ kVal l2 c = 0) := by
      rcases h0.2.1 with e | ⟨x, _, hx⟩
      · have e' : c = [] := e
        exact ⟨fun _ => Or.inl e', fun _ => Or.inl e'⟩
      · have hx' : kVal l1 c = kVal l2 c := kVal_cb hl hx
        rw [hx']
    show (if j = lab ∧ (c = [] ∨ ¬ kVal l1 c = 0) then kVal l1 m else kWoT l1 lab t) = (if j = lab ∧ (c = [] ∨ ¬ kVal l2 c = 0) then kVal l2 m else kWoT l2 lab t)
    rw [ih (fun z hz => h z (List.mem_cons_of_mem _ hz)), hm]
    by_cases q : j = lab ∧ (c = [] ∨ ¬ kVal l1 c = 0)
    · rw [if_pos q, if_pos ⟨q.1, hc.mp q.2⟩]
    · rw [if_neg q, if_neg (fun y => q ⟨y.1, hc.mpr y.2⟩)]
/-- what the reference has found of a text, clause by clause -/
def kFo1 (lt g6 : Nat → Int32) (lb : Int32) (z : kTr) (s : Int32 × Int32) : Int32 × Int32 := if s.2 = 0 ∧ g6 z.1 = lb ∧ (z.2.1 = [] ∨ ¬ kVal lt z.2.1 = 0) then (kVal lt z.2.2, 1) else s
def kFo (lt g6 : Nat → Int32) (lb : Int32) : List kTr → Int32 × Int32 → Int32 × Int32
  | [], s => s
  | z :: r, s => kFo lt g6 lb r (kFo1 lt g6 lb z s)
theorem kFo_app (lt g6 : Nat → Int32) (lb : Int32) (b : List kTr) : ∀ (a : List kTr) (s : Int32 × Int32), kFo lt g6 lb (a ++ b) s = kFo lt g6 lb b (kFo lt g6 lb a s) := by
  intro a
  induction a with
  | nil => intro s; rfl
  | cons z a ih => intro s; exact ih _
theorem kFo_A (lt g6 : Nat → Int32) (lb : Int32) (t : List kTr) (x : List Int32) (j k : Nat) (s : Int32 × Int32) : kFo lt g6 lb (kTrA t x j k) s = kFo1 lt g6 lb (j, x.take k, x.drop k) (kFo lt g6 lb t s) := kFo_app lt g6 lb [(j, x.take k, x.drop k)] t s
theorem kFo_has {lt g6 : Nat → Int32} {lb : Int32} : ∀ (t : List kTr) {s : Int32 × Int32}, ¬ s.2 = 0 → kFo lt g6 lb t s = s := by
  intro t
  induction t with
  | nil => intro s _; rfl
  | cons z t ih =>
    intro s h
    have e : kFo1 lt g6 lb z s = s := if_neg (fun y => h y.1)
    show kFo lt g6 lb t (kFo1 lt g6 lb z s) = s
    rw [e]
    exact ih h
theorem kFo_wo {lt g6 : Nat → Int32} {lb : Int32} {lab : Nat} : ∀ t : List kTr, (∀ z ∈ t, (g6 z.1 = lb ↔ z.1 = lab)) → (kFo lt g6 lb t (0, 0)).1 = kWoT lt lab t := by
  intro t
  induction t with
  | nil => intro _; rfl
  | cons z t ih =>
    intro h
    obtain ⟨j, c, m⟩ := z
    have h0 := h (j, c, m) List.mem_cons_self
    have h1 := ih (fun z hz => h z (List.mem_cons_of_mem _ hz))
    show (kFo lt g6 lb t (kFo1 lt g6 lb (j, c, m) (0, 0))).1 = (if j = lab ∧ (c = [] ∨ ¬ kVal lt c = 0) then kVal lt m else kWoT lt lab t)
    by_cases q : j = lab ∧ (c = [] ∨ ¬ kVal lt c = 0)
    · rw [if_pos q]
      have e : kFo1 lt g6 lb (j, c, m) (0, 0) = (kVal lt m, 1) := if_pos ⟨rfl, h0.mpr q.1, q.2⟩
      rw [e, kFo_has t (by show ¬ (1 : Int32) = 0; decide)]
    · rw [if_neg q]
      have e : kFo1 lt g6 lb (j, c, m) (0, 0) = (0, 0) := if_neg (fun y => q ⟨h0.mp y.2.1, y.2.2⟩)
      rw [e]
      exact h1
/-- a rule's two rows are a list of clauses -/
def kRu (t : List kTr) (M nS nC : Nat) (gS gC : Nat → Int32) : Prop := nS = (kFl t).length ∧ nC = (kRw 0 t).length ∧ (∀ j : Nat, j < nS → gS j = (kFl t).getD j 0) ∧ (∀ j : Nat, j < nC → gC j = (kRw 0 t).getD j 0) ∧ M ≤ 8 ∧ ∀ z ∈ t, kGdC 8 M z
theorem kRw_len : ∀ (t : List kTr) (o : Nat), (kRw o t).length = 4 * t.length := by
  intro t
  induction t with
  | nil => intro o; rfl
  | cons z t ih =>
    intro o
    obtain ⟨j, c, m⟩ := z
    show ([nI j, nI o, nI (o + c.length), nI (o + (c ++ m).length)] ++ kRw (o + (c ++ m).length) t).length = 4 * (t.length + 1)
    rw [List.length_append, ih]
    show 4 + 4 * t.length = _
    omega
theorem kGd_r {a b : List Int32} {i : Nat} : (a ++ b).getD (a.length + i) 0 = b.getD i 0 := by
  rw [List.getD_eq_getElem?_getD, List.getD_eq_getElem?_getD, List.getElem?_append_right (by omega), Nat.add_sub_cancel_left]
theorem kGd_l {a b : List Int32} {i : Nat} (h : i < a.length) : (a ++ b).getD i 0 = a.getD i 0 := by
  rw [List.getD_eq_getElem?_getD, List.getD_eq_getElem?_getD, List.getElem?_append_left h]
theorem kRu_at {t : List kTr} {M nS nC : Nat} {gS gC : Nat → Int32} (h : kRu t M nS nC gS gC) {k : Nat} (hk : k < t.length) : ∃ (j : Nat) (c m : List Int32) (o : Nat), t.drop k = (j, c, m) :: t.drop (k + 1) ∧ gC (4 * k) = nI j ∧ gC (4 * k + 1) = nI o ∧ gC (4 * k + 2) = nI (o + c.length) ∧ gC (4 * k + 3) = nI (o + c.length + m.length) ∧ o + c.length + m.length ≤ nS ∧ (∀ i : Nat, i < c.length → gS (o + i) = c.getD i 0) ∧ (∀ i : Nat, i < m.length → gS (o + c.length + i) = m.getD i 0) ∧ kGdC 8 M (j, c, m) := by
  obtain ⟨e1, e2, hs, hc, _, hg⟩ := h
  have hd := List.drop_eq_getElem_cons hk
  obtain ⟨⟨j, c, m⟩, hz⟩ : ∃ z : kTr, t[k] = z := ⟨_, rfl⟩
  rw [hz] at hd
  have ht : t = t.take k ++ ((j, c, m) :: t.drop (k + 1)) := by rw [← hd, List.take_append_drop]
  have hl : (t.take k).length = k := by rw [List.length_take]; omega
  have hF : kFl t = kFl (t.take k) ++ (c ++ m ++ kFl (t.drop (k + 1))) := by
    have h1 := kFl_app ((j, c, m) :: t.drop (k + 1)) (t.take k)
    rw [← ht] at h1
    exact h1
  have hR : kRw 0 t = kRw 0 (t.take k) ++ ([nI j, nI (kFl (t.take k)).length, nI ((kFl (t.take k)).length + c.length), nI ((kFl (t.take k)).length + (c ++ m).length)] ++ kRw ((kFl (t.take k)).length + (c ++ m).length) (t.drop (k + 1))) := by
    have h1 := kRw_app ((j, c, m) :: t.drop (k + 1)) (t.take k) 0
    rw [← ht, Nat.zero_add] at h1
    exact h1
  have hRl : (kRw 0 (t.take k)).length = 4 * k := by rw [kRw_len, hl]
  have hnC : nC = 4 * t.length := by rw [e2, kRw_len]
  have hC : ∀ i : Nat, i < 4 → gC (4 * k + i) = [nI j, nI (kFl (t.take k)).length, nI ((kFl (t.take k)).length + c.length), nI ((kFl (t.take k)).length + (c ++ m).length)].getD i 0 := by
    intro i hi
    rw [hc _ (by omega), hR, ← hRl, kGd_r, kGd_l (by show i < 4; exact hi)]
  have hFl : (kFl t).length = (kFl (t.take k)).length + (c.length + m.length + (kFl (t.drop (k + 1))).length) := by
    rw [hF]
    simp only [List.length_append]
  refine ⟨j, c, m, (kFl (t.take k)).length, hd, hC 0 (by omega), hC 1 (by omega), hC 2 (by omega), ?_, by omega, ?_, ?_, ?_⟩
  · have h3 := hC 3 (by omega)
    rw [h3]
    show nI ((kFl (t.take k)).length + (c ++ m).length) = _
    rw [List.length_append, Nat.add_assoc]
  · intro i hi
    rw [hs _ (by omega), hF, kGd_r, List.append_assoc, kGd_l hi]
  · intro i hi
    rw [hs _ (by omega), hF, Nat.add_assoc, kGd_r, List.append_assoc, kGd_r, kGd_l hi]
  · exact hg _ (by rw [ht]; exact List.mem_append_right _ List.mem_cons_self)
theorem kHn_fe {lt : Nat → Int32} {M H : Nat} {l : List Int32} (h : kHn M H l) (hH : H ≤ 32) : kFit l 0 ∧ kEv lt l [] = [kVal lt l] := by
  obtain ⟨x, h1, h2⟩ := h
  have h3 := kWn_fit h2 0 [] (by omega) trivial
  rw [List.append_nil] at h3
  exact ⟨h3, kWn_ev h2 []⟩
theorem kHb_fe {lt : Nat → Int32} {M H : Nat} {l : List Int32} (h : kHb M H l) (hH : H ≤ 32) : kFit l 0 ∧ kEv lt l [] = [kVal lt l] := by
  obtain ⟨x, h1, h2⟩ := h
  have h3 := kWb_fit h2 0 [] (by omega) trivial
  rw [List.append_nil] at h3
  exact ⟨h3, kWb_ev h2 []⟩
theorem kWoT_hit {lt : Nat → Int32} {lab k : Nat} {t : List kTr} {j : Nat} {c m : List Int32} {r : List kTr} (hd : t.drop k = (j, c, m) :: r) (h : j = lab ∧ (c = [] ∨ ¬ kVal lt c = 0)) : kWoT lt lab (t.drop k) = kVal lt m := by rw [hd]; exact if_pos h
theorem kWoT_miss {lt : Nat → Int32} {lab k : Nat} {t : List kTr} {j : Nat} {c m : List Int32} {r : List kTr} (hd : t.drop k = (j, c, m) :: r) (h : ¬ (j = lab ∧ (c = [] ∨ ¬ kVal lt c = 0))) : kWoT lt lab (t.drop k) = kWoT lt lab r := by rw [hd]; exact if_neg h
theorem kWrt_get : ∀ (l : List Int32) (k j : Nat) (s : Nat → Int32), j < l.length → kWrt s k l (k + j) = l.getD j 0 := by
  intro l
  have hlow : ∀ (l : List Int32) (k q : Nat) (s : Nat → Int32), q < k → kWrt s k l q = s q := by
    intro l
    induction l with
    | nil => intro k q s _; rfl
    | cons x l ih =>
      intro k q s h
      show kWrt (upd s k x) (k + 1) l q = s q
      rw [ih (k + 1) q _ (by omega), pk_un (by omega)]
  induction l with
  | nil => intro k j s h; exact absurd h (Nat.not_lt_zero j)
  | cons x l ih =>
    intro k j s h
    show kWrt (upd s k x) (k + 1) l (k + j) = _
    cases j with
    | zero =>
      show kWrt (upd s k x) (k + 1) l k = _
      rw [hlow l (k + 1) k _ (by omega), pk_us]
      rfl
    | succ j =>
      rw [show k + (j + 1) = k + 1 + j by omega, ih (k + 1) j _ (by have h9 : j + 1 < l.length + 1 := h; omega)]
      rfl
/-- a rule made of what was read -/
theorem kRu_of {b : Nat → Nat} {n : Nat} {g6 : Nat → Int32} {n6 : Nat} {g : Nat → Int32} {m : Nat} (hm : m ≤ 8) (h6 : n6 ≤ 8) {q : Nat} {x y : List Int32} (h : kRead b n g6 n6 g m = (true, q, x, y)) {nS nC : Nat} {gS gC s1 s2 : Nat → Int32} (hS : nS = x.length) (hC : nC = y.length) (eS : ∀ j : Nat, j < nS → gS j = kWrt s1 0 x j) (eC : ∀ j : Nat, j < nC → gC j = kWrt s2 0 y j) : kRu (kReadT b n g6 n6 g m) m nS nC gS gC := by
  obtain ⟨h1, h2, h3⟩ := kRead_T hm h
  refine ⟨by rw [hS, h1], by rw [hC, h2], ?_, ?_, hm, fun z hz => ⟨Nat.lt_of_lt_of_le (h3 z hz).1 h6, (h3 z hz).2⟩⟩
  · intro j hj
    rw [eS j hj, ← h1]
    have := kWrt_get x 0 j s1 (by omega)
    rw [Nat.zero_add] at this
    exact this
  · intro j hj
    rw [eC j hj, ← h2]
    have := kWrt_get y 0 j s2 (by omega)
    rw [Nat.zero_add] at this
    exact this
theorem kFo1_t {lt g6 : Nat → Int32} {lb : Int32} {z : kTr} {s : Int32 × Int32} (h1 : s.2 = 0) (h2 : g6 z.1 = lb) (h3 : z.2.1 = [] ∨ ¬ kVal lt z.2.1 = 0) : kFo1 lt g6 lb z s = (kVal lt z.2.2, 1) := if_pos ⟨h1, h2, h3⟩
theorem kFo1_h {lt g6 : Nat → Int32} {lb : Int32} {z : kTr} {s : Int32 × Int32} (h : ¬ s.2 = 0) : kFo1 lt g6 lb z s = s := if_neg (fun y => h y.1)
theorem kFo1_l {lt g6 : Nat → Int32} {lb : Int32} {z : kTr} {s : Int32 × Int32} (h : ¬ g6 z.1 = lb) : kFo1 lt g6 lb z s = s := if_neg (fun y => h y.2.1)
theorem kFo1_c {lt g6 : Nat → Int32} {lb : Int32} {z : kTr} {s : Int32 × Int32} (h : ¬ (z.2.1 = [] ∨ ¬ kVal lt z.2.1 = 0)) : kFo1 lt g6 lb z s = s := if_neg (fun y => h y.2.2)
theorem kHb_ne {M H : Nat} {l : List Int32} (h : kHb M H l) : ¬ l = [] := by
  obtain ⟨x, _, w⟩ := h
  refine kWb_ind (P := fun _ l => ¬ l = []) ?_ ?_ ?_ w
  · intro a b s l m _ _ _ e; simp at e
  · intro a l _ _ e; simp at e
  · intro a b s l m _ _ _ _ _ e; simp at e
theorem kValZ {lt : Nat → Int32} {M A H : Nat} {l m : List Int32} (h1 : kHn M A l) (h2 : kHz M H m) : kVal lt (l ++ m) = kVaz lt (kVal lt l) m := by
  obtain ⟨x, _, w1⟩ := h1
  obtain ⟨y, _, w2⟩ := h2
  exact kVal_z w1 w2

def w_s_worthOf5x : List Cond := .code yX5_worthOf cX5_worthOf 7 (some .int) :: ([.initialized RX5, .selects RX5 yX5_reckon yX5_reckon, .instanceMethod yX5_reckon, .methodLink RX5 26 yX5_reckon] ++ (wsX60 ++ (w_s_reckon5x)))
theorem gw_s_worthOf5x : (w_s_worthOf5x).all goodWord = true := kGc rfl (kGa (by decide +kernel) (kGa gw_wsX60 gw_s_reckon5x))
set_option maxHeartbeats 4000000 in
set_option maxRecDepth 100000 in
theorem s_worthOf5x (l : Launch) (dC : Nat → ClassId) (dI : Nat → Nat → Nat) (jK : Nat) (k0 : Nat) (k1 : Nat) (cK : ClassId) (cO : ClassId) (l0 : Nat → Int32) (l1 : Nat → Int32) (ru : Nat) (sA : Nat) (cl : Nat) (cS : ClassId) (cc : ClassId) (nS : Nat) (nC : Nat) (gS : Nat → Int32) (gC : Nat → Int32) (hnS : nS ≤ 200) (hnC : nC ≤ 200) (t9 : List kTr) (M9 : Nat) (hru : kRu t9 M9 nS nC gS gC) (lab : Nat) (hlab : lab < 100) (sz : Nat) : Met l yX5_worthOf w_s_worthOf5x ({ frames := 3, cells := 0, slots := 0, locals := 180 }) (kW dC dI [.ref jK, .ref ru, .int (nI (lab))] [(jK, .inr (5, [.ref k0, .ref k1])), (k0, .inl (cK, 8, .inl l0)), (k1, .inl (cO, 32, .inl l1))] [(cK, .int), (cO, .int), (cS, .int), (cc, .int)] (kNF dC dI [(ru, .inr (6, [.ref sA, .ref cl])), (sA, .inl (cS, nS, .inl gS)), (cl, .inl (cc, nC, .inl gC))] (va_A [(jK, .inr (5, [.ref k0, .ref k1])), (k0, .inl (cK, 8, .inl l0)), (k1, .inl (cO, 32, .inl l1))] sz)) sz) (va_Qi (fun (r : Int32) (m1 : (Nat → Int32)) => r = kWoT l0 lab t9) (fun (m1 : (Nat → Int32)) => fun t : State => kB dC dI [(jK, .inr (5, [.ref k0, .ref k1])), (k0, .inl (cK, 8, .inl l0)), (k1, .inl (cO, 32, .inl m1))] [(cK, .int), (cO, .int), (cS, .int), (cc, .int)] (va_A [(jK, .inr (5, [.ref k0, .ref k1])), (k0, .inl (cK, 8, .inl l0)), (k1, .inl (cO, 32, .inl l1))] sz) t) (va_A [(jK, .inr (5, [.ref k0, .ref k1])), (k0, .inl (cK, 8, .inl l0)), (k1, .inl (cO, 32, .inl l1))] sz)) 0 0 (va_A [(jK, .inr (5, [.ref k0, .ref k1])), (k0, .inl (cK, 8, .inl l0)), (k1, .inl (cO, 32, .inl l1))] sz) := by
  refine Met.ofW (cc := cX5_worthOf) (maxL := 7) (ret := (some .int)) (by decide) rfl ?_
  intro p e s m args below meth c s₁ B hml hv
  obtain ⟨rfl, hsz, hP, hK, hD0, hX⟩ := hv
  have hx := B.exec
  have hb := B.bytes
  have hr := B.returns
  have hts := atoms_spec (ws := w_s_worthOf5x) B.pre
  have hown : s.vm.findClass RX5 = some m.cls := findClass_of_methodNamed B.named
  have hlocks := B.notSynchronized
  subst hsz
  have hD := hD0.self (sz := s.heap.size)
  generalize hAe : va_A [(jK, .inr (5, [.ref k0, .ref k1])), (k0, .inl (cK, 8, .inl l0)), (k1, .inl (cO, 32, .inl l1))] s.heap.size = A at hD hX ⊢
  have hA : ∀ q : Nat, s.heap.size ≤ q → A q := fun q h => by rw [← hAe]; exact Or.inr h
  have hS : va_S A s.heap s.heap [] := va_S.rf
  have hP : va_P (dC, dI) vwCl [(jK, .inr (5, [.ref k0, .ref k1])), (k0, .inl (cK, 8, .inl l0)), (k1, .inl (cO, 32, .inl l1))] s.heap := hP
  have hl := lv_entry ([.ref jK, .ref ru, .int (nI (lab))]) (n := 7) (Nat.le_of_ble_eq_true rfl)
  rw [lg_entry_eq]
  generalize (lg_sl ([.ref jK, .ref ru, .int (nI (lab))]) ++ List.replicate (7 - (lg_sl ([.ref jK, .ref ru, .int (nI (lab))])).length) Slot.unset).toArray = ls at hl ⊢
  have hl : lv_has ls 7 [(0, .ref jK), (1, .ref ru), (2, .int (nI (lab)))] := hl
  refine kQ (fun Q hQ => ?_)
  have hln9 : nC = 4 * t9.length := hru.2.1.trans (kRw_len t9 0)
  refine lv_aload_n hx hb dX5_worthOf_0 rfl (lv_at hl 1 rfl) ?_
  refine lv_ifnonnull (tgt := 6) hx hb dX5_worthOf_1 kc_t_1_5 ?_
  refine lv_aload_n hx hb dX5_worthOf_6 rfl (lv_at hl 1 rfl) ?_
  have hPR := kFz_at hX.1 hS
  refine va_getN (D := (dC, dI)) (ci := 6) (v := .ref cl) (C := RX6) (T := TX6) (N := 2) hx hb hts (fun _ h => List.mem_cons_of_mem _ (List.mem_append_right _ (List.mem_append_left _ h))) hown hK hPR 0 rfl rfl 1 kc_l_1_2 (va_Nw.use rfl (hX.2 _ (List.mem_of_getElem? (i := 11) rfl))) (fun _ h9 => h9) rfl dX5_worthOf_7 ?_
  refine lv_astore_n hx hb dX5_worthOf_10 rfl hl kc_l_3_7 (kTo [(3, .ref cl), (0, .ref jK), (1, .ref ru), (2, .int (nI (lab)))]) (fun ls hl => ?_)
  refine lv_iconst (v := 0) hx hb dX5_worthOf_11 kc_i_0 ?_
  refine lv_istore hx hb dX5_worthOf_12 hl kc_l_4_7 (kTo [(4, .int 0), (3, .ref cl), (0, .ref jK), (1, .ref ru), (2, .int (nI (lab)))]) (fun ls hl => ?_)
  have lp_k_1 : ∀ (n9 : Nat) (i : Nat) (m9 : Nat → Int32) (k9 : Nat) (ivk_1_0 : i = 4 * k9) (ivk_1_1 : k9 ≤ t9.length) (ivk_1_2 : kWoT l0 lab (t9.drop k9) = kWoT l0 lab t9) (H : Heap) (locs : List Loc) (_ : va_P (dC, dI) vwCl [(jK, .inr (5, [.ref k0, .ref k1])), (k0, .inl (cK, 8, .inl l0)), (k1, .inl (cO, 32, .inl m9))] H) (_ : va_D A [(jK, .inr (5, [.ref k0, .ref k1])), (k0, .inl (cK, 8, .inl l0)), (k1, .inl (cO, 32, .inl m9))]) (_ : va_S A s.heap H locs) (ls : Array Slot) (_ : lv_has ls 7 [(4, .int (nI (i))), (3, .ref cl), (0, .ref jK), (1, .ref ru), (2, .int (nI (lab)))]) (_ : nC - i < n9), W p l e (headSpec w_s_worthOf5x ({ frames := 3, cells := 0, slots := 0, locals := 180 })).room s m (#[.ref jK, .ref ru, .int (nI (lab))] : Array Value) below meth c H locs 0 0 Q (F0 m 14 ls []) := by
    intro n9
    induction n9 with
    | zero => intro i m9 k9 ivk_1_0 ivk_1_1 ivk_1_2 H locs hP hD hS ls hl hm9; exact absurd hm9 (Nat.not_lt_zero _)
    | succ n9 ih_k_1 =>
      intro i m9 k9 ivk_1_0 ivk_1_1 ivk_1_2 H locs hP hD hS ls hl hm9
      refine lv_iload hx hb dX5_worthOf_14 (lv_at hl 0 rfl) ?_
      refine lv_iconst (v := 4) hx hb dX5_worthOf_16 kc_i_4 ?_
      refine lv_iadd hx hb dX5_worthOf_17 ?_
      refine lv_topi (fun y_2 ey_2 => ?_)
      obtain rfl : y_2 = nI (i + 4) := ey_2.trans (nI_add (i) (4))
      refine lv_aload_n hx hb dX5_worthOf_18 rfl (lv_at hl 1 rfl) ?_
      have hPR := kFz_at hX.1 hS
      refine va_alen hx hb hK hPR 2 3 rfl rfl (v := nI (nC)) rfl dX5_worthOf_19 ?_
      refine lv_icmp_gt (tgt := 92) hx hb dX5_worthOf_20 kc_t_20_72 (fun c_3 => ?_) (fun c_3 => ?_)
      · have bd_5 : nC < 2147483648 := by omega
        have bd_6 : i + 4 < 2147483648 := by omega
        have hn_4 := klt (a := nC) (b := i + 4) bd_5 bd_6 c_3
        refine lv_iconst (v := 0) hx hb dX5_worthOf_92 kc_i_0 ?_
        have hP9 := hP
        have hD9 := hD
        have hK9 := hK
        rw [hQ]
        exact W.iret (v := 0) hx hb hr (fun t ht hW => ⟨⟨0, m9, rfl, (by rw [← ivk_1_2, List.drop_eq_nil_of_le (by have h9 := hru.2.1; rw [kRw_len] at h9; omega)]; rfl),  by rw [ht]; exact hP9, va_K.moved hW.alike hK9, hD9⟩, hS.F ht⟩) hS.2.2 dX5_worthOf_93
      · have bd_8 : nC < 2147483648 := by omega
        have bd_9 : i + 4 < 2147483648 := by omega
        have hn_7 := knlt (a := nC) (b := i + 4) bd_8 bd_9 c_3
        have hk9 : k9 < t9.length := by have h9 := hru.2.1; rw [kRw_len] at h9; omega
        obtain ⟨j9, c9, m8, o9, hd9, hc0, hc1, hc2, hc3, hb9, hsc, hsm, hgd⟩ := kRu_at hru hk9
        have hj8 : j9 < 8 := hgd.1
        have hi9 := ivk_1_0
        refine lv_aload_n hx hb dX5_worthOf_23 rfl (lv_at hl 1 rfl) ?_
        refine lv_iload hx hb dX5_worthOf_24 (lv_at hl 0 rfl) ?_
        refine lv_iconst (v := 1) hx hb dX5_worthOf_26 kc_i_1 ?_
        refine lv_iadd hx hb dX5_worthOf_27 ?_
        refine lv_topi (fun y_10 ey_10 => ?_)
        obtain rfl : y_10 = nI (i + 1) := ey_10.trans (nI_add (i) (1))
        have hPR := kFz_at hX.1 hS
        have bd_11 : i + 1 < nC := by omega
        refine va_iald hx hb hK hPR 2 3 rfl rfl (vp_in_nI (n := i + 1) (N := nC) bd_11 bd_8) dX5_worthOf_28 ?_
        refine lv_topi (fun x_12 ex_12 => ?_)
        obtain rfl : x_12 = nI (o9) := by rw [ex_12, nI_clamp (n := i + 1) (by omega), hi9]; exact hc1
        refine lv_istore hx hb dX5_worthOf_29 hl kc_l_5_7 (kTo [(5, .int (nI (o9))), (4, .int (nI (i))), (3, .ref cl), (0, .ref jK), (1, .ref ru), (2, .int (nI (lab)))]) (fun ls hl => ?_)
        refine lv_aload_n hx hb dX5_worthOf_31 rfl (lv_at hl 2 rfl) ?_
        refine lv_iload hx hb dX5_worthOf_32 (lv_at hl 1 rfl) ?_
        refine lv_iconst (v := 2) hx hb dX5_worthOf_34 kc_i_2 ?_
        refine lv_iadd hx hb dX5_worthOf_35 ?_
        refine lv_topi (fun y_13 ey_13 => ?_)
        obtain rfl : y_13 = nI (i + 2) := ey_13.trans (nI_add (i) (2))
        have hPR := kFz_at hX.1 hS
        have bd_14 : i + 2 < nC := by omega
        refine va_iald hx hb hK hPR 2 3 rfl rfl (vp_in_nI (n := i + 2) (N := nC) bd_14 bd_8) dX5_worthOf_36 ?_
        refine lv_topi (fun x_15 ex_15 => ?_)
        obtain rfl : x_15 = nI (o9 + c9.length) := by rw [ex_15, nI_clamp (n := i + 2) (by omega), hi9]; exact hc2
        refine lv_istore hx hb dX5_worthOf_37 hl kc_l_6_7 (kTo [(6, .int (nI (o9 + c9.length))), (5, .int (nI (o9))), (4, .int (nI (i))), (3, .ref cl), (0, .ref jK), (1, .ref ru), (2, .int (nI (lab)))]) (fun ls hl => ?_)
        refine lv_aload_n hx hb dX5_worthOf_39 rfl (lv_at hl 3 rfl) ?_
        refine lv_iload hx hb dX5_worthOf_40 (lv_at hl 2 rfl) ?_
        have hPR := kFz_at hX.1 hS
        have bd_16 : i < nC := by omega
        refine va_iald hx hb hK hPR 2 3 rfl rfl (vp_in_nI (n := i) (N := nC) bd_16 bd_8) dX5_worthOf_42 ?_
        refine lv_topi (fun x_17 ex_17 => ?_)
        obtain rfl : x_17 = nI (j9) := by rw [ex_17, nI_clamp (n := i) (by omega), hi9]; exact hc0
        refine lv_iload_n hx hb dX5_worthOf_43 rfl (lv_at hl 6 rfl) ?_
        refine lv_icmp_ne (tgt := 86) hx hb dX5_worthOf_44 kc_t_44_42 (fun c_18 => ?_) (fun c_18 => ?_)
        · have bd_20 : j9 < 2147483648 := by omega
          have bd_21 : lab < 2147483648 := by omega
          have hn_19 := kneq (a := j9) (b := lab) bd_20 bd_21 c_18
          refine lv_iinc (v := nI (i + 4)) hx hb dX5_worthOf_86 hl (k := 2) rfl (kInc _ 4) kc_l_4_7 (kTo [(4, .int (nI (i + 4))), (6, .int (nI (o9 + c9.length))), (5, .int (nI (o9))), (3, .ref cl), (0, .ref jK), (1, .ref ru), (2, .int (nI (lab)))]) (fun ls hl => ?_)
          refine lv_goto (tgt := 14) hx hb dX5_worthOf_89 kc_t_89_m75 ?_
          exact ih_k_1 (i + 4) m9 (k9 + 1) (by omega) (by omega) (by rw [← ivk_1_2, kWoT_miss hd9 (fun z => by have h9 := z.1; omega)]) _ _ hP hD hS ls (lv_sub hl [0, 3, 4, 5, 6] rfl) (by omega)
        · have bd_23 : j9 < 2147483648 := by omega
          have bd_24 : lab < 2147483648 := by omega
          have hn_22 := keq (a := j9) (b := lab) bd_23 bd_24 c_18
          refine lv_iload hx hb dX5_worthOf_47 (lv_at hl 1 rfl) ?_
          refine lv_iload hx hb dX5_worthOf_49 (lv_at hl 0 rfl) ?_
          refine lv_icmp_eq (tgt := 69) hx hb dX5_worthOf_51 kc_t_51_18 (fun c_25 => ?_) (fun c_25 => ?_)
          · have bd_27 : o9 < 2147483648 := by omega
            have bd_28 : o9 + c9.length < 2147483648 := by omega
            have hn_26 := keq (a := o9) (b := o9 + c9.length) bd_27 bd_28 c_25
            have hms : kHn M9 15 m8 := hgd.2.2
            have hfm := kHn_fe (lt := l0) hms (by decide)
            refine lv_aload_n hx hb dX5_worthOf_69 rfl (lv_at hl 4 rfl) ?_
            refine lv_aload_n hx hb dX5_worthOf_70 rfl (lv_at hl 5 rfl) ?_
            have hPR := kFz_at hX.1 hS
            refine va_getN (D := (dC, dI)) (ci := 6) (v := .ref sA) (C := RX6) (T := TX6) (N := 2) hx hb hts (fun _ h => List.mem_cons_of_mem _ (List.mem_append_right _ (List.mem_append_left _ h))) hown hK hPR 0 rfl rfl 0 kc_l_0_2 (va_Nw.use rfl (hX.2 _ (List.mem_of_getElem? (i := 10) rfl))) (fun _ h9 => h9) rfl dX5_worthOf_71 ?_
            refine lv_iload hx hb dX5_worthOf_74 (lv_at hl 0 rfl) ?_
            refine lv_aload_n hx hb dX5_worthOf_76 rfl (lv_at hl 3 rfl) ?_
            refine lv_iload hx hb dX5_worthOf_77 (lv_at hl 2 rfl) ?_
            refine lv_iconst (v := 3) hx hb dX5_worthOf_79 kc_i_3 ?_
            refine lv_iadd hx hb dX5_worthOf_80 ?_
            refine lv_topi (fun y_29 ey_29 => ?_)
            obtain rfl : y_29 = nI (i + 3) := ey_29.trans (nI_add (i) (3))
            have hPR := kFz_at hX.1 hS
            have bd_30 : i + 3 < nC := by omega
            refine va_iald hx hb hK hPR 2 3 rfl rfl (vp_in_nI (n := i + 3) (N := nC) bd_30 bd_8) dX5_worthOf_81 ?_
            refine lv_topi (fun x_31 ex_31 => ?_)
            obtain rfl : x_31 = nI (o9 + c9.length + m8.length) := by rw [ex_31, nI_clamp (n := i + 3) (by omega), hi9]; exact hc3
            have bd_32 : (o9 + c9.length + m8.length) = (o9 + c9.length) + m8.length := by omega
            have bd_33 : (o9 + c9.length + m8.length) ≤ nS := by omega
            have hCu := kCut (wc := [(jK, .inr (5, [.ref k0, .ref k1])), (k0, .inl (cK, 8, .inl l0)), (k1, .inl (cO, 32, .inl m9))]) hP hD hS hA [0, 1, 2] rfl kc_nd_138 rfl
            have hPc := hCu.1
            have hDc := hCu.2.1
            have hFc := hCu.2.2
            have hKc := hK.sb (tys2 := [(cK, .int), (cO, .int), (cS, .int), (cc, .int)]) [0, 1, 2, 3] rfl
            refine va_calli (va_runV (As := [.ref sA, .int (nI (o9 + c9.length)), .int (nI (o9 + c9.length + m8.length))]) (rest := []) ⟨hx, hb, hml, hown, hts⟩ (s_reckon5x l dC dI jK k0 k1 cK cO l0 m9 ru sA cl cS cc nS nC gS gC hnS hnC (o9 + c9.length) (o9 + c9.length + m8.length) m8 hsm bd_32 bd_33 hfm.1 hfm.2 H.size) (cwV 3 hts (kG (List.forall_mem_cons.mpr ⟨(List.mem_cons_of_mem _ (List.mem_append_left _ (List.mem_of_getElem? (i := 3) rfl))), (List.forall_mem_cons.mpr ⟨(List.mem_cons_of_mem _ (List.mem_append_left _ (List.mem_of_getElem? (i := 2) rfl))), (List.forall_mem_cons.mpr ⟨(List.mem_cons_of_mem _ (List.mem_append_left _ (List.mem_of_getElem? (i := 1) rfl))), (List.forall_mem_cons.mpr ⟨(List.mem_cons_of_mem _ (List.mem_append_left _ (List.mem_of_getElem? (i := 0) rfl))), (fun _ h => absurd h List.not_mem_nil)⟩)⟩)⟩)⟩) (kGV _ _ _ _) (fun _ h => List.mem_cons_of_mem _ (List.mem_append_right _ (List.mem_append_right _ h))) gw_s_reckon5x) rfl rfl rfl ⟨rfl, hd_X5_reckon⟩ ⟨(Nat.le_of_ble_eq_true rfl), (Nat.le_of_ble_eq_true rfl)⟩) (kW_V kNF_blind (kNF_give hX hS hFc) (va_recv hKc hPc (ci := 5) (q0 := 0) rfl rfl) hPc hKc hDc) rfl rfl hl.1 rfl (lv_room (Nat.le_of_ble_eq_true rfl)) dX5_worthOf_82 ⟨(Nat.le_of_ble_eq_true rfl), (Nat.le_of_ble_eq_true rfl)⟩) hS (fun q _ h => hFc q h) hFc (fun r_34 m1_35 t H_36 locs ht hvm hw hB hz1 hk1 hS => ?_)
            try dsimp only at hw
            have hPD : kPD dC dI A [(jK, .inr (5, [.ref k0, .ref k1])), (k0, .inl (cK, 8, .inl l0)), (k1, .inl (cO, 32, .inl m1_35))] H_36 := kJoinX hP hD [0, 1, 2] rfl hk1 hFc hB.1 ht hB.2.2 rfl [some 0, some 1, some 2] rfl rfl
            have hP := hPD.1
            have hD := hPD.2
            have hw_37 := hw
            have hP9 := hP
            have hD9 := hD
            have hK9 := hK
            rw [hQ]
            exact W.iret (v := r_34) hx hb hr (fun t ht hW => ⟨⟨r_34, m1_35, rfl, (by rw [← ivk_1_2, kWoT_hit hd9 ⟨by omega, Or.inl (List.eq_nil_of_length_eq_zero (by omega))⟩]; exact hw_37),  by rw [ht]; exact hP9, va_K.moved hW.alike hK9, hD9⟩, hS.F ht⟩) hS.2.2 dX5_worthOf_85
          · have bd_39 : o9 < 2147483648 := by omega
            have bd_40 : o9 + c9.length < 2147483648 := by omega
            have hn_38 := kneq (a := o9) (b := o9 + c9.length) bd_39 bd_40 c_25
            have hne9 : ¬ c9 = [] := fun z => by have h9 : c9.length = 0 := (by rw [z]; rfl); omega
            have hcb : kHb M9 18 c9 := hgd.2.1.resolve_left hne9
            have hfe := kHb_fe (lt := l0) hcb (by decide)
            refine lv_aload_n hx hb dX5_worthOf_54 rfl (lv_at hl 4 rfl) ?_
            refine lv_aload_n hx hb dX5_worthOf_55 rfl (lv_at hl 5 rfl) ?_
            have hPR := kFz_at hX.1 hS
            refine va_getN (D := (dC, dI)) (ci := 6) (v := .ref sA) (C := RX6) (T := TX6) (N := 2) hx hb hts (fun _ h => List.mem_cons_of_mem _ (List.mem_append_right _ (List.mem_append_left _ h))) hown hK hPR 0 rfl rfl 0 kc_l_0_2 (va_Nw.use rfl (hX.2 _ (List.mem_of_getElem? (i := 10) rfl))) (fun _ h9 => h9) rfl dX5_worthOf_56 ?_
            refine lv_iload hx hb dX5_worthOf_59 (lv_at hl 1 rfl) ?_
            refine lv_iload hx hb dX5_worthOf_61 (lv_at hl 0 rfl) ?_
            have bd_41 : (o9 + c9.length) = o9 + c9.length := by omega
            have bd_42 : (o9 + c9.length) ≤ nS := by omega
            have hCu := kCut (wc := [(jK, .inr (5, [.ref k0, .ref k1])), (k0, .inl (cK, 8, .inl l0)), (k1, .inl (cO, 32, .inl m9))]) hP hD hS hA [0, 1, 2] rfl kc_nd_138 rfl
            have hPc := hCu.1
            have hDc := hCu.2.1
            have hFc := hCu.2.2
            have hKc := hK.sb (tys2 := [(cK, .int), (cO, .int), (cS, .int), (cc, .int)]) [0, 1, 2, 3] rfl
            refine va_calli (va_runV (As := [.ref sA, .int (nI (o9)), .int (nI (o9 + c9.length))]) (rest := []) ⟨hx, hb, hml, hown, hts⟩ (s_reckon5x l dC dI jK k0 k1 cK cO l0 m9 ru sA cl cS cc nS nC gS gC hnS hnC o9 (o9 + c9.length) c9 hsc bd_41 bd_42 hfe.1 hfe.2 H.size) (cwV 3 hts (kG (List.forall_mem_cons.mpr ⟨(List.mem_cons_of_mem _ (List.mem_append_left _ (List.mem_of_getElem? (i := 3) rfl))), (List.forall_mem_cons.mpr ⟨(List.mem_cons_of_mem _ (List.mem_append_left _ (List.mem_of_getElem? (i := 2) rfl))), (List.forall_mem_cons.mpr ⟨(List.mem_cons_of_mem _ (List.mem_append_left _ (List.mem_of_getElem? (i := 1) rfl))), (List.forall_mem_cons.mpr ⟨(List.mem_cons_of_mem _ (List.mem_append_left _ (List.mem_of_getElem? (i := 0) rfl))), (fun _ h => absurd h List.not_mem_nil)⟩)⟩)⟩)⟩) (kGV _ _ _ _) (fun _ h => List.mem_cons_of_mem _ (List.mem_append_right _ (List.mem_append_right _ h))) gw_s_reckon5x) rfl rfl rfl ⟨rfl, hd_X5_reckon⟩ ⟨(Nat.le_of_ble_eq_true rfl), (Nat.le_of_ble_eq_true rfl)⟩) (kW_V kNF_blind (kNF_give hX hS hFc) (va_recv hKc hPc (ci := 5) (q0 := 0) rfl rfl) hPc hKc hDc) rfl rfl hl.1 rfl (lv_room (Nat.le_of_ble_eq_true rfl)) dX5_worthOf_63 ⟨(Nat.le_of_ble_eq_true rfl), (Nat.le_of_ble_eq_true rfl)⟩) hS (fun q _ h => hFc q h) hFc (fun r_43 m1_44 t H_45 locs ht hvm hw hB hz1 hk1 hS => ?_)
            try dsimp only at hw
            have hPD : kPD dC dI A [(jK, .inr (5, [.ref k0, .ref k1])), (k0, .inl (cK, 8, .inl l0)), (k1, .inl (cO, 32, .inl m1_44))] H_45 := kJoinX hP hD [0, 1, 2] rfl hk1 hFc hB.1 ht hB.2.2 rfl [some 0, some 1, some 2] rfl rfl
            have hP := hPD.1
            have hD := hPD.2
            have hw_46 := hw
            refine lv_if_eq (tgt := 86) hx hb dX5_worthOf_66 kc_t_66_20 (fun c_47 => ?_) (fun c_47 => ?_)
            · refine lv_iinc (v := nI (i + 4)) hx hb dX5_worthOf_86 hl (k := 2) rfl (kInc _ 4) kc_l_4_7 (kTo [(4, .int (nI (i + 4))), (6, .int (nI (o9 + c9.length))), (5, .int (nI (o9))), (3, .ref cl), (0, .ref jK), (1, .ref ru), (2, .int (nI (lab)))]) (fun ls hl => ?_)
              refine lv_goto (tgt := 14) hx hb dX5_worthOf_89 kc_t_89_m75 ?_
              exact ih_k_1 (i + 4) m1_44 (k9 + 1) (by omega) (by omega) (by rw [← ivk_1_2, kWoT_miss hd9 (fun z => z.2.elim hne9 (fun y => y (hw_46.symm.trans c_47)))]) _ _ hP hD hS ls (lv_sub hl [0, 3, 4, 5, 6] rfl) (by omega)
            · have hms : kHn M9 15 m8 := hgd.2.2
              have hfm := kHn_fe (lt := l0) hms (by decide)
              refine lv_aload_n hx hb dX5_worthOf_69 rfl (lv_at hl 4 rfl) ?_
              refine lv_aload_n hx hb dX5_worthOf_70 rfl (lv_at hl 5 rfl) ?_
              have hPR := kFz_at hX.1 hS
              refine va_getN (D := (dC, dI)) (ci := 6) (v := .ref sA) (C := RX6) (T := TX6) (N := 2) hx hb hts (fun _ h => List.mem_cons_of_mem _ (List.mem_append_right _ (List.mem_append_left _ h))) hown hK hPR 0 rfl rfl 0 kc_l_0_2 (va_Nw.use rfl (hX.2 _ (List.mem_of_getElem? (i := 10) rfl))) (fun _ h9 => h9) rfl dX5_worthOf_71 ?_
              refine lv_iload hx hb dX5_worthOf_74 (lv_at hl 0 rfl) ?_
              refine lv_aload_n hx hb dX5_worthOf_76 rfl (lv_at hl 3 rfl) ?_
              refine lv_iload hx hb dX5_worthOf_77 (lv_at hl 2 rfl) ?_
              refine lv_iconst (v := 3) hx hb dX5_worthOf_79 kc_i_3 ?_
              refine lv_iadd hx hb dX5_worthOf_80 ?_
              refine lv_topi (fun y_48 ey_48 => ?_)
              obtain rfl : y_48 = nI (i + 3) := ey_48.trans (nI_add (i) (3))
              have hPR := kFz_at hX.1 hS
              have bd_49 : i + 3 < nC := by omega
              refine va_iald hx hb hK hPR 2 3 rfl rfl (vp_in_nI (n := i + 3) (N := nC) bd_49 bd_8) dX5_worthOf_81 ?_
              refine lv_topi (fun x_50 ex_50 => ?_)
              obtain rfl : x_50 = nI (o9 + c9.length + m8.length) := by rw [ex_50, nI_clamp (n := i + 3) (by omega), hi9]; exact hc3
              have bd_51 : (o9 + c9.length + m8.length) = (o9 + c9.length) + m8.length := by omega
              have bd_52 : (o9 + c9.length + m8.length) ≤ nS := by omega
              have hCu := kCut (wc := [(jK, .inr (5, [.ref k0, .ref k1])), (k0, .inl (cK, 8, .inl l0)), (k1, .inl (cO, 32, .inl m1_44))]) hP hD hS hA [0, 1, 2] rfl kc_nd_138 rfl
              have hPc := hCu.1
              have hDc := hCu.2.1
              have hFc := hCu.2.2
              have hKc := hK.sb (tys2 := [(cK, .int), (cO, .int), (cS, .int), (cc, .int)]) [0, 1, 2, 3] rfl
              refine va_calli (va_runV (As := [.ref sA, .int (nI (o9 + c9.length)), .int (nI (o9 + c9.length + m8.length))]) (rest := []) ⟨hx, hb, hml, hown, hts⟩ (s_reckon5x l dC dI jK k0 k1 cK cO l0 m1_44 ru sA cl cS cc nS nC gS gC hnS hnC (o9 + c9.length) (o9 + c9.length + m8.length) m8 hsm bd_51 bd_52 hfm.1 hfm.2 H_45.size) (cwV 3 hts (kG (List.forall_mem_cons.mpr ⟨(List.mem_cons_of_mem _ (List.mem_append_left _ (List.mem_of_getElem? (i := 3) rfl))), (List.forall_mem_cons.mpr ⟨(List.mem_cons_of_mem _ (List.mem_append_left _ (List.mem_of_getElem? (i := 2) rfl))), (List.forall_mem_cons.mpr ⟨(List.mem_cons_of_mem _ (List.mem_append_left _ (List.mem_of_getElem? (i := 1) rfl))), (List.forall_mem_cons.mpr ⟨(List.mem_cons_of_mem _ (List.mem_append_left _ (List.mem_of_getElem? (i := 0) rfl))), (fun _ h => absurd h List.not_mem_nil)⟩)⟩)⟩)⟩) (kGV _ _ _ _) (fun _ h => List.mem_cons_of_mem _ (List.mem_append_right _ (List.mem_append_right _ h))) gw_s_reckon5x) rfl rfl rfl ⟨rfl, hd_X5_reckon⟩ ⟨(Nat.le_of_ble_eq_true rfl), (Nat.le_of_ble_eq_true rfl)⟩) (kW_V kNF_blind (kNF_give hX hS hFc) (va_recv hKc hPc (ci := 5) (q0 := 0) rfl rfl) hPc hKc hDc) rfl rfl hl.1 rfl (lv_room (Nat.le_of_ble_eq_true rfl)) dX5_worthOf_82 ⟨(Nat.le_of_ble_eq_true rfl), (Nat.le_of_ble_eq_true rfl)⟩) hS (fun q _ h => hFc q h) hFc (fun r_53 m1_54 t H_55 locs ht hvm hw hB hz1 hk1 hS => ?_)
              try dsimp only at hw
              have hPD : kPD dC dI A [(jK, .inr (5, [.ref k0, .ref k1])), (k0, .inl (cK, 8, .inl l0)), (k1, .inl (cO, 32, .inl m1_54))] H_55 := kJoinX hP hD [0, 1, 2] rfl hk1 hFc hB.1 ht hB.2.2 rfl [some 0, some 1, some 2] rfl rfl
              have hP := hPD.1
              have hD := hPD.2
              have hw_56 := hw
              have hP9 := hP
              have hD9 := hD
              have hK9 := hK
              rw [hQ]
              exact W.iret (v := r_53) hx hb hr (fun t ht hW => ⟨⟨r_53, m1_54, rfl, (by rw [← ivk_1_2, kWoT_hit hd9 ⟨by omega, Or.inr (fun z => c_47 (hw_46.trans z))⟩]; exact hw_56),  by rw [ht]; exact hP9, va_K.moved hW.alike hK9, hD9⟩, hS.F ht⟩) hS.2.2 dX5_worthOf_85
  exact lp_k_1 (nC - 0 + 1) 0 l1 0 (by omega) (by omega) rfl _ _ hP hD hS ls (lv_sub hl [0, 1, 2, 3, 4] rfl) (by omega)

def w_s_setLetter5x : List Cond := .code yX5_setLetter cX5_setLetter 3 none :: ([.fieldLink RX5 9 "NotEnded$Reckoner" "letters" "[I"] ++ (wsX50))
theorem gw_s_setLetter5x : (w_s_setLetter5x).all goodWord = true := kGc rfl (kGa (by decide +kernel) gw_wsX50)
set_option maxHeartbeats 4000000 in
set_option maxRecDepth 100000 in
theorem s_setLetter5x (l : Launch) (dC : Nat → ClassId) (dI : Nat → Nat → Nat) (jK : Nat) (k0 : Nat) (k1 : Nat) (cK : ClassId) (cO : ClassId) (l0 : Nat → Int32) (l1 : Nat → Int32) (pj : Nat) (hpj : pj < 8) (p1 : Int32) (sz : Nat) : Met l yX5_setLetter w_s_setLetter5x ({ frames := 1, cells := 0, slots := 0, locals := 60 }) (kW dC dI [.ref jK, .int (nI (pj)), .int p1] [(jK, .inr (5, [.ref k0, .ref k1])), (k0, .inl (cK, 8, .inl l0)), (k1, .inl (cO, 32, .inl l1))] [(cK, .int), (cO, .int)] kT sz) (va_Qv (fun (m0 : (Nat → Int32)) => m0 = upd l0 pj p1) (fun (m0 : (Nat → Int32)) => fun t : State => kB dC dI [(jK, .inr (5, [.ref k0, .ref k1])), (k0, .inl (cK, 8, .inl m0)), (k1, .inl (cO, 32, .inl l1))] [(cK, .int), (cO, .int)] (va_A [(jK, .inr (5, [.ref k0, .ref k1])), (k0, .inl (cK, 8, .inl l0)), (k1, .inl (cO, 32, .inl l1))] sz) t) (va_A [(jK, .inr (5, [.ref k0, .ref k1])), (k0, .inl (cK, 8, .inl l0)), (k1, .inl (cO, 32, .inl l1))] sz)) 0 0 (va_A [(jK, .inr (5, [.ref k0, .ref k1])), (k0, .inl (cK, 8, .inl l0)), (k1, .inl (cO, 32, .inl l1))] sz) := by
  refine Met.ofW (cc := cX5_setLetter) (maxL := 3) (ret := none) (by decide) rfl ?_
  intro p e s m args below meth c s₁ B hml hv
  obtain ⟨rfl, hsz, hP, hK, hD0, hX⟩ := hv
  have hx := B.exec
  have hb := B.bytes
  have hr := B.returns
  have hts := atoms_spec (ws := w_s_setLetter5x) B.pre
  have hown : s.vm.findClass RX5 = some m.cls := findClass_of_methodNamed B.named
  have hlocks := B.notSynchronized
  subst hsz
  have hD := hD0.self (sz := s.heap.size)
  generalize hAe : va_A [(jK, .inr (5, [.ref k0, .ref k1])), (k0, .inl (cK, 8, .inl l0)), (k1, .inl (cO, 32, .inl l1))] s.heap.size = A at hD ⊢
  have hA : ∀ q : Nat, s.heap.size ≤ q → A q := fun q h => by rw [← hAe]; exact Or.inr h
  have hS : va_S A s.heap s.heap [] := va_S.rf
  have hP : va_P (dC, dI) vwCl [(jK, .inr (5, [.ref k0, .ref k1])), (k0, .inl (cK, 8, .inl l0)), (k1, .inl (cO, 32, .inl l1))] s.heap := hP
  have hl := lv_entry ([.ref jK, .int (nI (pj)), .int p1]) (n := 3) (Nat.le_of_ble_eq_true rfl)
  rw [lg_entry_eq]
  generalize (lg_sl ([.ref jK, .int (nI (pj)), .int p1]) ++ List.replicate (3 - (lg_sl ([.ref jK, .int (nI (pj)), .int p1])).length) Slot.unset).toArray = ls at hl ⊢
  have hl : lv_has ls 3 [(0, .ref jK), (1, .int (nI (pj))), (2, .int p1)] := hl
  refine kQ (fun Q hQ => ?_)
  refine lv_iload_n hx hb dX5_setLetter_0 rfl (lv_at hl 1 rfl) ?_
  refine lv_if_lt (tgt := 20) hx hb dX5_setLetter_1 kc_t_1_19 (fun c_1 => absurd c_1 (nI_pos (n := pj) (by omega))) (fun c_1 => ?_)
  refine lv_iload_n hx hb dX5_setLetter_4 rfl (lv_at hl 1 rfl) ?_
  refine lv_aload_n hx hb dX5_setLetter_5 rfl (lv_at hl 0 rfl) ?_
  refine va_get (D := (dC, dI)) (ci := 5) (v := .ref k0) (C := RX5) (T := TX5) (N := 2) hx hb hts (fun _ h => List.mem_cons_of_mem _ (List.mem_append_right _ h)) hown hK hP 0 rfl rfl 0 kc_l_0_2 (hts (.fieldLink RX5 9 "NotEnded$Reckoner" "letters" "[I") (List.mem_cons_of_mem _ (List.mem_append_left _ (List.mem_of_getElem? (i := 0) rfl)))) (fun _ h9 => h9) rfl dX5_setLetter_6 ?_
  refine va_alen hx hb hK hP 1 0 rfl rfl (v := 8) rfl dX5_setLetter_9 ?_
  refine lv_icmp_ge (tgt := 20) hx hb dX5_setLetter_10 kc_t_10_10 (fun c_2 => absurd c_2 (nI_ge (a := pj) (b := 8) (by omega) (by decide))) (fun c_2 => ?_)
  refine lv_aload_n hx hb dX5_setLetter_13 rfl (lv_at hl 0 rfl) ?_
  refine va_get (D := (dC, dI)) (ci := 5) (v := .ref k0) (C := RX5) (T := TX5) (N := 2) hx hb hts (fun _ h => List.mem_cons_of_mem _ (List.mem_append_right _ h)) hown hK hP 0 rfl rfl 0 kc_l_0_2 (hts (.fieldLink RX5 9 "NotEnded$Reckoner" "letters" "[I") (List.mem_cons_of_mem _ (List.mem_append_left _ (List.mem_of_getElem? (i := 0) rfl)))) (fun _ h9 => h9) rfl dX5_setLetter_14 ?_
  refine lv_iload_n hx hb dX5_setLetter_17 rfl (lv_at hl 1 rfl) ?_
  refine lv_iload_n hx hb dX5_setLetter_18 rfl (lv_at hl 2 rfl) ?_
  have bd_4 : pj < 8 := by omega
  refine va_iast hx hb hK hP hD hS 1 0 rfl rfl (vp_in_nI (n := pj) (N := 8) bd_4 kc_31_8) dX5_setLetter_19 (fun H locs hP hD hS => ?_)
  obtain ⟨f_3, ef_3⟩ : ∃ gg9 : Nat → Int32, gg9 = upd l0 (Int32.toNatClampNeg (nI (pj))) p1 := ⟨_, rfl⟩
  have hPD : kPD dC dI A [(jK, .inr (5, [.ref k0, .ref k1])), (k0, .inl (cK, 8, .inl f_3)), (k1, .inl (cO, 32, .inl l1))] H := by rw [ef_3]; exact ⟨hP, hD⟩
  have hP := hPD.1
  have hD := hPD.2
  have hP9 := hP
  have hD9 := hD
  have hK9 := hK
  rw [hQ]
  exact W.vret hx hb hr (fun t ht hW => ⟨⟨f_3, rfl, (by rw [ef_3, nI_clamp (by omega)]),  by rw [ht]; exact hP9, va_K.moved hW.alike hK9, hD9⟩, hS.F ht⟩) hS.2.2 dX5_setLetter_20

/-- the letters of an outcome -/
def kOl (o : Int32) : Nat → Int32 := fun k => (o >>> (nI k &&& 31)) &&& 1
theorem kOlU {f f1 : Nat → Int32} {i : Nat} {p x y : Int32} (e : f1 = upd f i y) (ex : x = p >>> (nI i &&& 31)) (ey : y = x &&& 1) (H : ∀ q : Nat, q < i → f q = kOl p q) : ∀ q : Nat, q < i + 1 → f1 q = kOl p q := fun q hq => by
  rw [e]
  by_cases z : q = i
  · rw [z, pk_us, ey, ex]; rfl
  · rw [pk_un z]; exact H q (by omega)
/-- whether a turning lets an outcome -/
def kLet (o : Int32) (t : List kTr) : Int32 := if kWoT (kOl o) 0 t = 0 then 0 else 1
theorem kLet_01 (o : Int32) (t : List kTr) : kLet o t = 0 ∨ kLet o t = 1 := by unfold kLet; split; exact Or.inl rfl; exact Or.inr rfl
/-- the outcomes for which nothing stands, as bits -/
def kBrN (f : Nat → Int32) : Nat → Nat
  | 0 => 0
  | n + 1 => if f n = 0 then kBrN f n ||| 2 ^ n else kBrN f n
theorem kBrN_lt (f : Nat → Int32) : ∀ n : Nat, kBrN f n < 2 ^ n := by
  intro n
  induction n with
  | zero => exact Nat.one_pos
  | succ n ih =>
    have h1 : 2 ^ n < 2 ^ (n + 1) := by rw [Nat.pow_succ]; have := Nat.one_le_two_pow (n := n); omega
    unfold kBrN
    split
    · exact Nat.or_lt_two_pow (by omega) h1
    · omega
theorem kShlF5 : ∀ k : Fin 32, (1 : Int32) <<< (nI k.val &&& 31) = nI (2 ^ k.val) := by decide +kernel
theorem nI_or5 (a b : Nat) : nI a ||| nI b = nI (a ||| b) := Int32.toBitVec_inj.mp (by show BitVec.ofNat 32 a ||| BitVec.ofNat 32 b = BitVec.ofNat 32 (a ||| b); exact BitVec.ofNat_or.symm)
theorem nI_and5 (a b : Nat) : nI a &&& nI b = nI (a &&& b) := Int32.toBitVec_inj.mp (by show BitVec.ofNat 32 a &&& BitVec.ofNat 32 b = BitVec.ofNat 32 (a &&& b); exact BitVec.ofNat_and.symm)
theorem nI_inj32 {a b : Nat} (ha : a < 2 ^ 32) (hb : b < 2 ^ 32) (h : nI a = nI b) : a = b := by
  have h1 : (BitVec.ofNat 32 a).toNat = (BitVec.ofNat 32 b).toNat := congrArg BitVec.toNat (congrArg Int32.toBitVec h)
  rw [BitVec.toNat_ofNat, BitVec.toNat_ofNat, Nat.mod_eq_of_lt ha, Nat.mod_eq_of_lt hb] at h1
  exact h1
theorem kBrU {f : Nat → Int32} {i : Nat} {x y z : Int32} (hi : i < 32) (hx : x = nI (kBrN f i)) (hf : f i = 0) (ey : y = (1 : Int32) <<< (nI i &&& 31)) (ez : z = x ||| y) : z = nI (kBrN f (i + 1)) := by
  have h1 : kBrN f (i + 1) = kBrN f i ||| 2 ^ i := if_pos hf
  rw [h1, ez, hx, ey, kShlF5 ⟨i, hi⟩, nI_or5]
theorem kBrS {f : Nat → Int32} {i : Nat} (hf : ¬ f i = 0) : kBrN f (i + 1) = kBrN f i := if_neg hf
def kBar (t : List kTr) : Nat := kBrN (fun k => kLet (nI k) t) 32
theorem kBar_lt (t : List kTr) : kBar t < 2 ^ 32 := kBrN_lt _ 32

def w_s_isLet9x : List Cond := .code yX9_isLet cX9_isLet 4 (some .boolean) :: ([.fieldLink RX9 28 "NotEnded" "reckoner" "LNotEnded$Reckoner;", .initialized RX5, .selects RX5 yX5_worthOf yX5_worthOf, .instanceMethod yX5_worthOf, .methodLink RX9 267 yX5_worthOf, .selects RX5 yX5_setLetter yX5_setLetter, .instanceMethod yX5_setLetter, .methodLink RX9 264 yX5_setLetter] ++ (wsX90 ++ (w_s_worthOf5x ++ (w_s_setLetter5x))))
theorem gw_s_isLet9x : (w_s_isLet9x).all goodWord = true := kGc rfl (kGa (by decide +kernel) (kGa gw_wsX90 (kGa gw_s_worthOf5x gw_s_setLetter5x)))
set_option maxHeartbeats 4000000 in
set_option maxRecDepth 100000 in
theorem s_isLet9x (l : Launch) (dC : Nat → ClassId) (dI : Nat → Nat → Nat) (jX : Nat) (jT : Nat) (jR : Nat) (jL : Nat) (jU : Nat) (hN : Nat) (jA : Nat) (sd : Nat) (hF : Nat) (jC : Nat) (jK : Nat) (k0 : Nat) (k1 : Nat) (cK : ClassId) (cO : ClassId) (l0 : Nat → Int32) (l1 : Nat → Int32) (ru : Nat) (sA : Nat) (cl : Nat) (cS : ClassId) (cc : ClassId) (nS : Nat) (nC : Nat) (gS : Nat → Int32) (gC : Nat → Int32) (hnS : nS ≤ 200) (hnC : nC ≤ 200) (t9 : List kTr) (hru : kRu t9 5 nS nC gS gC) (p1 : Int32) (sz : Nat) : Met l yX9_isLet w_s_isLet9x ({ frames := 4, cells := 0, slots := 0, locals := 240 }) (kW dC dI [.ref jX, .ref ru, .int p1] [(jX, .inr (9, [.ref jT, .ref jR, .ref jK, .ref jL, .ref jU, .ref hF, .ref jC, .ref hN, .ref jA, .ref sd])), (jK, .inr (5, [.ref k0, .ref k1])), (k0, .inl (cK, 8, .inl l0)), (k1, .inl (cO, 32, .inl l1))] [(cK, .int), (cO, .int), (cS, .int), (cc, .int)] (kNF dC dI [(ru, .inr (6, [.ref sA, .ref cl])), (sA, .inl (cS, nS, .inl gS)), (cl, .inl (cc, nC, .inl gC))] (va_A [(jX, .inr (9, [.ref jT, .ref jR, .ref jK, .ref jL, .ref jU, .ref hF, .ref jC, .ref hN, .ref jA, .ref sd])), (jK, .inr (5, [.ref k0, .ref k1])), (k0, .inl (cK, 8, .inl l0)), (k1, .inl (cO, 32, .inl l1))] sz)) sz) (va_Qi (fun (r : Int32) (u : (Nat → Int32) × (Nat → Int32)) => match u with | (L0, L1) => r = kLet p1 t9) (fun (u : (Nat → Int32) × (Nat → Int32)) => match u with | (L0, L1) => fun t : State => kB dC dI [(jX, .inr (9, [.ref jT, .ref jR, .ref jK, .ref jL, .ref jU, .ref hF, .ref jC, .ref hN, .ref jA, .ref sd])), (jK, .inr (5, [.ref k0, .ref k1])), (k0, .inl (cK, 8, .inl L0)), (k1, .inl (cO, 32, .inl L1))] [(cK, .int), (cO, .int), (cS, .int), (cc, .int)] (va_A [(jX, .inr (9, [.ref jT, .ref jR, .ref jK, .ref jL, .ref jU, .ref hF, .ref jC, .ref hN, .ref jA, .ref sd])), (jK, .inr (5, [.ref k0, .ref k1])), (k0, .inl (cK, 8, .inl l0)), (k1, .inl (cO, 32, .inl l1))] sz) t) (va_A [(jX, .inr (9, [.ref jT, .ref jR, .ref jK, .ref jL, .ref jU, .ref hF, .ref jC, .ref hN, .ref jA, .ref sd])), (jK, .inr (5, [.ref k0, .ref k1])), (k0, .inl (cK, 8, .inl l0)), (k1, .inl (cO, 32, .inl l1))] sz)) 0 0 (va_A [(jX, .inr (9, [.ref jT, .ref jR, .ref jK, .ref jL, .ref jU, .ref hF, .ref jC, .ref hN, .ref jA, .ref sd])), (jK, .inr (5, [.ref k0, .ref k1])), (k0, .inl (cK, 8, .inl l0)), (k1, .inl (cO, 32, .inl l1))] sz) := by
  refine Met.ofW (cc := cX9_isLet) (maxL := 4) (ret := (some .boolean)) (by decide) rfl ?_
  intro p e s m args below meth c s₁ B hml hv
  obtain ⟨rfl, hsz, hP, hK, hD0, hX⟩ := hv
  have hx := B.exec
  have hb := B.bytes
  have hr := B.returns
  have hts := atoms_spec (ws := w_s_isLet9x) B.pre
  have hown : s.vm.findClass RX9 = some m.cls := findClass_of_methodNamed B.named
  have hlocks := B.notSynchronized
  subst hsz
  have hD := hD0.self (sz := s.heap.size)
  generalize hAe : va_A [(jX, .inr (9, [.ref jT, .ref jR, .ref jK, .ref jL, .ref jU, .ref hF, .ref jC, .ref hN, .ref jA, .ref sd])), (jK, .inr (5, [.ref k0, .ref k1])), (k0, .inl (cK, 8, .inl l0)), (k1, .inl (cO, 32, .inl l1))] s.heap.size = A at hD hX ⊢
  have hA : ∀ q : Nat, s.heap.size ≤ q → A q := fun q h => by rw [← hAe]; exact Or.inr h
  have hS : va_S A s.heap s.heap [] := va_S.rf
  have hP : va_P (dC, dI) vwCl [(jX, .inr (9, [.ref jT, .ref jR, .ref jK, .ref jL, .ref jU, .ref hF, .ref jC, .ref hN, .ref jA, .ref sd])), (jK, .inr (5, [.ref k0, .ref k1])), (k0, .inl (cK, 8, .inl l0)), (k1, .inl (cO, 32, .inl l1))] s.heap := hP
  have hl := lv_entry ([.ref jX, .ref ru, .int p1]) (n := 4) (Nat.le_of_ble_eq_true rfl)
  rw [lg_entry_eq]
  generalize (lg_sl ([.ref jX, .ref ru, .int p1]) ++ List.replicate (4 - (lg_sl ([.ref jX, .ref ru, .int p1])).length) Slot.unset).toArray = ls at hl ⊢
  have hl : lv_has ls 4 [(0, .ref jX), (1, .ref ru), (2, .int p1)] := hl
  refine kQ (fun Q hQ => ?_)
  refine lv_iconst (v := 0) hx hb dX9_isLet_0 kc_i_0 ?_
  refine lv_istore_n hx hb dX9_isLet_1 rfl hl kc_l_3_4 (kTo [(3, .int 0), (0, .ref jX), (1, .ref ru), (2, .int p1)]) (fun ls hl => ?_)
  have lp_k_1 : ∀ (n9 : Nat) (i : Nat) (ll0 : Nat → Int32) (ll1 : Nat → Int32) (ivk_1_0 : i ≤ 5) (ivk_1_1 : ∀ q : Nat, q < i → ll0 q = kOl p1 q) (H : Heap) (locs : List Loc) (_ : va_P (dC, dI) vwCl [(jX, .inr (9, [.ref jT, .ref jR, .ref jK, .ref jL, .ref jU, .ref hF, .ref jC, .ref hN, .ref jA, .ref sd])), (jK, .inr (5, [.ref k0, .ref k1])), (k0, .inl (cK, 8, .inl ll0)), (k1, .inl (cO, 32, .inl ll1))] H) (_ : va_D A [(jX, .inr (9, [.ref jT, .ref jR, .ref jK, .ref jL, .ref jU, .ref hF, .ref jC, .ref hN, .ref jA, .ref sd])), (jK, .inr (5, [.ref k0, .ref k1])), (k0, .inl (cK, 8, .inl ll0)), (k1, .inl (cO, 32, .inl ll1))]) (_ : va_S A s.heap H locs) (ls : Array Slot) (_ : lv_has ls 4 [(3, .int (nI (i))), (0, .ref jX), (1, .ref ru), (2, .int p1)]) (_ : 5 - i < n9), W p l e (headSpec w_s_isLet9x ({ frames := 4, cells := 0, slots := 0, locals := 240 })).room s m (#[.ref jX, .ref ru, .int p1] : Array Value) below meth c H locs 0 0 Q (F0 m 2 ls []) := by
    intro n9
    induction n9 with
    | zero => intro i ll0 ll1 ivk_1_0 ivk_1_1 H locs hP hD hS ls hl hm9; exact absurd hm9 (Nat.not_lt_zero _)
    | succ n9 ih_k_1 =>
      intro i ll0 ll1 ivk_1_0 ivk_1_1 H locs hP hD hS ls hl hm9
      refine lv_iload_n hx hb dX9_isLet_2 rfl (lv_at hl 0 rfl) ?_
      refine lv_iconst (v := 5) hx hb dX9_isLet_3 kc_i_5 ?_
      refine lv_icmp_ge (tgt := 26) hx hb dX9_isLet_4 kc_t_4_22 (fun c_2 => ?_) (fun c_2 => ?_)
      · have bd_4 : i < 2147483648 := by omega
        have hn_3 := kle (a := 5) (b := i) kc_31_5 bd_4 c_2
        refine lv_aload_n hx hb dX9_isLet_26 rfl (lv_at hl 1 rfl) ?_
        refine va_get (D := (dC, dI)) (ci := 9) (v := .ref jK) (C := RX9) (T := TX9) (N := 10) hx hb hts (fun _ h => List.mem_cons_of_mem _ (List.mem_append_right _ (List.mem_append_left _ h))) hown hK hP 0 rfl rfl 2 kc_l_2_10 (hts (.fieldLink RX9 28 "NotEnded" "reckoner" "LNotEnded$Reckoner;") (List.mem_cons_of_mem _ (List.mem_append_left _ (List.mem_of_getElem? (i := 0) rfl)))) (fun _ h9 => h9) rfl dX9_isLet_27 ?_
        refine lv_aload_n hx hb dX9_isLet_30 rfl (lv_at hl 2 rfl) ?_
        refine lv_iconst (v := 0) hx hb dX9_isLet_31 kc_i_0 ?_
        have bd_5 : 0 < 100 := by omega
        have hCu := kCut (wc := [(jK, .inr (5, [.ref k0, .ref k1])), (k0, .inl (cK, 8, .inl ll0)), (k1, .inl (cO, 32, .inl ll1))]) hP hD hS hA [1, 2, 3] rfl kc_nd_419 rfl
        have hPc := hCu.1
        have hDc := hCu.2.1
        have hFc := hCu.2.2
        have hKc := hK.sb (tys2 := [(cK, .int), (cO, .int), (cS, .int), (cc, .int)]) [0, 1, 2, 3] rfl
        refine va_calli (va_runV (As := [.ref ru, .int 0]) (rest := []) ⟨hx, hb, hml, hown, hts⟩ (s_worthOf5x l dC dI jK k0 k1 cK cO ll0 ll1 ru sA cl cS cc nS nC gS gC hnS hnC t9 5 hru 0 bd_5 H.size) (cwV 2 hts (kG (List.forall_mem_cons.mpr ⟨(List.mem_cons_of_mem _ (List.mem_append_left _ (List.mem_of_getElem? (i := 4) rfl))), (List.forall_mem_cons.mpr ⟨(List.mem_cons_of_mem _ (List.mem_append_left _ (List.mem_of_getElem? (i := 3) rfl))), (List.forall_mem_cons.mpr ⟨(List.mem_cons_of_mem _ (List.mem_append_left _ (List.mem_of_getElem? (i := 2) rfl))), (List.forall_mem_cons.mpr ⟨(List.mem_cons_of_mem _ (List.mem_append_left _ (List.mem_of_getElem? (i := 1) rfl))), (fun _ h => absurd h List.not_mem_nil)⟩)⟩)⟩)⟩) (kGV _ _ _ _) (fun _ h => List.mem_cons_of_mem _ (List.mem_append_right _ (List.mem_append_right _ (List.mem_append_left _ h)))) gw_s_worthOf5x) rfl rfl rfl ⟨rfl, hd_X5_worthOf⟩ ⟨(Nat.le_of_ble_eq_true rfl), (Nat.le_of_ble_eq_true rfl)⟩) (kW_V kNF_blind (kNF_give hX hS hFc) (va_recv hKc hPc (ci := 5) (q0 := 0) rfl rfl) hPc hKc hDc) rfl rfl hl.1 rfl (lv_room (Nat.le_of_ble_eq_true rfl)) dX9_isLet_32 ⟨(Nat.le_of_ble_eq_true rfl), (Nat.le_of_ble_eq_true rfl)⟩) hS (fun q _ h => hFc q h) hFc (fun r_6 m1_7 t H_8 locs ht hvm hw hB hz1 hk1 hS => ?_)
        try dsimp only at hw
        have hPD : kPD dC dI A [(jX, .inr (9, [.ref jT, .ref jR, .ref jK, .ref jL, .ref jU, .ref hF, .ref jC, .ref hN, .ref jA, .ref sd])), (jK, .inr (5, [.ref k0, .ref k1])), (k0, .inl (cK, 8, .inl ll0)), (k1, .inl (cO, 32, .inl m1_7))] H_8 := kJoinX hP hD [1, 2, 3] rfl hk1 hFc hB.1 ht hB.2.2 rfl [none, some 0, some 1, some 2] rfl rfl
        have hP := hPD.1
        have hD := hPD.2
        have hw_9 := hw
        refine lv_if_eq (tgt := 42) hx hb dX9_isLet_35 kc_t_35_7 (fun c_10 => ?_) (fun c_10 => ?_)
        · refine lv_iconst (v := 0) hx hb dX9_isLet_42 kc_i_0 ?_
          have hq9 : kWoT (kOl p1) 0 t9 = r_6 := (kWoT_c (l1 := kOl p1) (M := 5) (fun k hk => (ivk_1_1 k (by omega)).symm) t9 hru.2.2.2.2.2).trans hw_9.symm
          have hP9 := hP
          have hD9 := hD
          have hK9 := hK
          rw [hQ]
          exact W.zret (v := 0) hx hb hr rfl (fun t ht hW => ⟨⟨0, (ll0, m1_7), rfl, (by unfold kLet; rw [hq9, if_pos c_10]),  by rw [ht]; exact hP9, va_K.moved hW.alike hK9, hD9⟩, hS.F ht⟩) hS.2.2 dX9_isLet_43
        · refine lv_iconst (v := 1) hx hb dX9_isLet_38 kc_i_1 ?_
          refine lv_goto (tgt := 43) hx hb dX9_isLet_39 kc_t_39_4 ?_
          have hq9 : kWoT (kOl p1) 0 t9 = r_6 := (kWoT_c (l1 := kOl p1) (M := 5) (fun k hk => (ivk_1_1 k (by omega)).symm) t9 hru.2.2.2.2.2).trans hw_9.symm
          have hP9 := hP
          have hD9 := hD
          have hK9 := hK
          rw [hQ]
          exact W.zret (v := 1) hx hb hr rfl (fun t ht hW => ⟨⟨1, (ll0, m1_7), rfl, (by unfold kLet; rw [hq9, if_neg c_10]),  by rw [ht]; exact hP9, va_K.moved hW.alike hK9, hD9⟩, hS.F ht⟩) hS.2.2 dX9_isLet_43
      · have bd_12 : i < 2147483648 := by omega
        have hn_11 := knle (a := 5) (b := i) kc_31_5 bd_12 c_2
        refine lv_aload_n hx hb dX9_isLet_7 rfl (lv_at hl 1 rfl) ?_
        refine va_get (D := (dC, dI)) (ci := 9) (v := .ref jK) (C := RX9) (T := TX9) (N := 10) hx hb hts (fun _ h => List.mem_cons_of_mem _ (List.mem_append_right _ (List.mem_append_left _ h))) hown hK hP 0 rfl rfl 2 kc_l_2_10 (hts (.fieldLink RX9 28 "NotEnded" "reckoner" "LNotEnded$Reckoner;") (List.mem_cons_of_mem _ (List.mem_append_left _ (List.mem_of_getElem? (i := 0) rfl)))) (fun _ h9 => h9) rfl dX9_isLet_8 ?_
        refine lv_iload_n hx hb dX9_isLet_11 rfl (lv_at hl 0 rfl) ?_
        refine lv_iload_n hx hb dX9_isLet_12 rfl (lv_at hl 3 rfl) ?_
        refine lv_iload_n hx hb dX9_isLet_13 rfl (lv_at hl 0 rfl) ?_
        refine lv_ishr hx hb dX9_isLet_14 ?_
        refine lv_topi (fun x_13 ex_13 => ?_)
        refine lv_iconst (v := 1) hx hb dX9_isLet_15 kc_i_1 ?_
        refine lv_iand hx hb dX9_isLet_16 ?_
        refine lv_topi (fun x_14 ex_14 => ?_)
        have bd_15 : i < 8 := by omega
        have hCu := kCut (wc := [(jK, .inr (5, [.ref k0, .ref k1])), (k0, .inl (cK, 8, .inl ll0)), (k1, .inl (cO, 32, .inl ll1))]) hP hD hS hA [1, 2, 3] rfl kc_nd_419 rfl
        have hPc := hCu.1
        have hDc := hCu.2.1
        have hFc := hCu.2.2
        have hKc := hK.sb (tys2 := [(cK, .int), (cO, .int)]) [0, 1] rfl
        refine va_callv (va_runV (As := [.int (nI (i)), .int x_14]) (rest := []) ⟨hx, hb, hml, hown, hts⟩ (s_setLetter5x l dC dI jK k0 k1 cK cO ll0 ll1 i bd_15 x_14 H.size) (cwV 2 hts (kG (List.forall_mem_cons.mpr ⟨(List.mem_cons_of_mem _ (List.mem_append_left _ (List.mem_of_getElem? (i := 7) rfl))), (List.forall_mem_cons.mpr ⟨(List.mem_cons_of_mem _ (List.mem_append_left _ (List.mem_of_getElem? (i := 6) rfl))), (List.forall_mem_cons.mpr ⟨(List.mem_cons_of_mem _ (List.mem_append_left _ (List.mem_of_getElem? (i := 5) rfl))), (List.forall_mem_cons.mpr ⟨(List.mem_cons_of_mem _ (List.mem_append_left _ (List.mem_of_getElem? (i := 1) rfl))), (fun _ h => absurd h List.not_mem_nil)⟩)⟩)⟩)⟩) (kGV _ _ _ _) (fun _ h => List.mem_cons_of_mem _ (List.mem_append_right _ (List.mem_append_right _ (List.mem_append_right _ h)))) gw_s_setLetter5x) rfl rfl rfl ⟨rfl, hd_X5_setLetter⟩ ⟨(Nat.le_of_ble_eq_true rfl), (Nat.le_of_ble_eq_true rfl)⟩) (kW_V kT_blind kT_give (va_recv hKc hPc (ci := 5) (q0 := 0) rfl rfl) hPc hKc hDc) rfl rfl hl.1 rfl (lv_room (Nat.le_of_ble_eq_true rfl)) dX9_isLet_17 ⟨(Nat.le_of_ble_eq_true rfl), (Nat.le_of_ble_eq_true rfl)⟩) hS (fun q _ h => hFc q h) hFc (fun m0_16 t H_17 locs ht hvm hw hB hz1 hk1 hS => ?_)
        try dsimp only at hw
        have hPD : kPD dC dI A [(jX, .inr (9, [.ref jT, .ref jR, .ref jK, .ref jL, .ref jU, .ref hF, .ref jC, .ref hN, .ref jA, .ref sd])), (jK, .inr (5, [.ref k0, .ref k1])), (k0, .inl (cK, 8, .inl m0_16)), (k1, .inl (cO, 32, .inl ll1))] H_17 := kJoinX hP hD [1, 2, 3] rfl hk1 hFc hB.1 ht hB.2.2 rfl [none, some 0, some 1, some 2] rfl rfl
        have hP := hPD.1
        have hD := hPD.2
        have hw_18 := hw
        refine lv_iinc (v := nI (i + 1)) hx hb dX9_isLet_20 hl (k := 0) rfl (kInc _ 1) kc_l_3_4 (kTo [(3, .int (nI (i + 1))), (0, .ref jX), (1, .ref ru), (2, .int p1)]) (fun ls hl => ?_)
        refine lv_goto (tgt := 2) hx hb dX9_isLet_23 kc_t_23_m21 ?_
        exact ih_k_1 (i + 1) m0_16 ll1 (by omega) (kOlU hw_18 ex_13 ex_14 ivk_1_1) _ _ hP hD hS ls (lv_sub hl [0, 1, 2, 3] rfl) (by omega)
  exact lp_k_1 (5 - 0 + 1) 0 l0 l1 (by omega) (fun q hq => absurd hq (Nat.not_lt_zero q)) _ _ hP hD hS ls (lv_sub hl [0, 1, 2, 3] rfl) (by omega)

def w_s_barred9x : List Cond := .code yX9_barredBy cX9_barredBy 4 (some .int) :: ([.initialized RX9, .selects RX9 yX9_isLet yX9_isLet, .instanceMethod yX9_isLet, .methodLink RX9 226 yX9_isLet] ++ (w_s_isLet9x))
theorem gw_s_barred9x : (w_s_barred9x).all goodWord = true := kGc rfl (kGa (by decide +kernel) gw_s_isLet9x)
set_option maxHeartbeats 4000000 in
set_option maxRecDepth 100000 in
theorem s_barred9x (l : Launch) (dC : Nat → ClassId) (dI : Nat → Nat → Nat) (jX : Nat) (jT : Nat) (jR : Nat) (jL : Nat) (jU : Nat) (hN : Nat) (jA : Nat) (sd : Nat) (hF : Nat) (jC : Nat) (jK : Nat) (k0 : Nat) (k1 : Nat) (cK : ClassId) (cO : ClassId) (l0 : Nat → Int32) (l1 : Nat → Int32) (ru : Nat) (sA : Nat) (cl : Nat) (cS : ClassId) (cc : ClassId) (nS : Nat) (nC : Nat) (gS : Nat → Int32) (gC : Nat → Int32) (hnS : nS ≤ 200) (hnC : nC ≤ 200) (t9 : List kTr) (hru : kRu t9 5 nS nC gS gC) (sz : Nat) : Met l yX9_barredBy w_s_barred9x ({ frames := 5, cells := 0, slots := 0, locals := 300 }) (kW dC dI [.ref jX, .ref ru] [(jX, .inr (9, [.ref jT, .ref jR, .ref jK, .ref jL, .ref jU, .ref hF, .ref jC, .ref hN, .ref jA, .ref sd])), (jK, .inr (5, [.ref k0, .ref k1])), (k0, .inl (cK, 8, .inl l0)), (k1, .inl (cO, 32, .inl l1))] [(cK, .int), (cO, .int), (cS, .int), (cc, .int)] (kNF dC dI [(ru, .inr (6, [.ref sA, .ref cl])), (sA, .inl (cS, nS, .inl gS)), (cl, .inl (cc, nC, .inl gC))] (va_A [(jX, .inr (9, [.ref jT, .ref jR, .ref jK, .ref jL, .ref jU, .ref hF, .ref jC, .ref hN, .ref jA, .ref sd])), (jK, .inr (5, [.ref k0, .ref k1])), (k0, .inl (cK, 8, .inl l0)), (k1, .inl (cO, 32, .inl l1))] sz)) sz) (va_Qi (fun (r : Int32) (u : (Nat → Int32) × (Nat → Int32)) => match u with | (L0, L1) => r = nI (kBar t9)) (fun (u : (Nat → Int32) × (Nat → Int32)) => match u with | (L0, L1) => fun t : State => kB dC dI [(jX, .inr (9, [.ref jT, .ref jR, .ref jK, .ref jL, .ref jU, .ref hF, .ref jC, .ref hN, .ref jA, .ref sd])), (jK, .inr (5, [.ref k0, .ref k1])), (k0, .inl (cK, 8, .inl L0)), (k1, .inl (cO, 32, .inl L1))] [(cK, .int), (cO, .int), (cS, .int), (cc, .int)] (va_A [(jX, .inr (9, [.ref jT, .ref jR, .ref jK, .ref jL, .ref jU, .ref hF, .ref jC, .ref hN, .ref jA, .ref sd])), (jK, .inr (5, [.ref k0, .ref k1])), (k0, .inl (cK, 8, .inl l0)), (k1, .inl (cO, 32, .inl l1))] sz) t) (va_A [(jX, .inr (9, [.ref jT, .ref jR, .ref jK, .ref jL, .ref jU, .ref hF, .ref jC, .ref hN, .ref jA, .ref sd])), (jK, .inr (5, [.ref k0, .ref k1])), (k0, .inl (cK, 8, .inl l0)), (k1, .inl (cO, 32, .inl l1))] sz)) 0 0 (va_A [(jX, .inr (9, [.ref jT, .ref jR, .ref jK, .ref jL, .ref jU, .ref hF, .ref jC, .ref hN, .ref jA, .ref sd])), (jK, .inr (5, [.ref k0, .ref k1])), (k0, .inl (cK, 8, .inl l0)), (k1, .inl (cO, 32, .inl l1))] sz) := by
  refine Met.ofW (cc := cX9_barredBy) (maxL := 4) (ret := (some .int)) (by decide) rfl ?_
  intro p e s m args below meth c s₁ B hml hv
  obtain ⟨rfl, hsz, hP, hK, hD0, hX⟩ := hv
  have hx := B.exec
  have hb := B.bytes
  have hr := B.returns
  have hts := atoms_spec (ws := w_s_barred9x) B.pre
  have hown : s.vm.findClass RX9 = some m.cls := findClass_of_methodNamed B.named
  have hlocks := B.notSynchronized
  subst hsz
  have hD := hD0.self (sz := s.heap.size)
  generalize hAe : va_A [(jX, .inr (9, [.ref jT, .ref jR, .ref jK, .ref jL, .ref jU, .ref hF, .ref jC, .ref hN, .ref jA, .ref sd])), (jK, .inr (5, [.ref k0, .ref k1])), (k0, .inl (cK, 8, .inl l0)), (k1, .inl (cO, 32, .inl l1))] s.heap.size = A at hD hX ⊢
  have hA : ∀ q : Nat, s.heap.size ≤ q → A q := fun q h => by rw [← hAe]; exact Or.inr h
  have hS : va_S A s.heap s.heap [] := va_S.rf
  have hP : va_P (dC, dI) vwCl [(jX, .inr (9, [.ref jT, .ref jR, .ref jK, .ref jL, .ref jU, .ref hF, .ref jC, .ref hN, .ref jA, .ref sd])), (jK, .inr (5, [.ref k0, .ref k1])), (k0, .inl (cK, 8, .inl l0)), (k1, .inl (cO, 32, .inl l1))] s.heap := hP
  have hl := lv_entry ([.ref jX, .ref ru]) (n := 4) (Nat.le_of_ble_eq_true rfl)
  rw [lg_entry_eq]
  generalize (lg_sl ([.ref jX, .ref ru]) ++ List.replicate (4 - (lg_sl ([.ref jX, .ref ru])).length) Slot.unset).toArray = ls at hl ⊢
  have hl : lv_has ls 4 [(0, .ref jX), (1, .ref ru)] := hl
  refine kQ (fun Q hQ => ?_)
  refine lv_iconst (v := 0) hx hb dX9_barredBy_0 kc_i_0 ?_
  refine lv_istore_n hx hb dX9_barredBy_1 rfl hl kc_l_2_4 (kTo [(2, .int 0), (0, .ref jX), (1, .ref ru)]) (fun ls hl => ?_)
  refine lv_iconst (v := 0) hx hb dX9_barredBy_2 kc_i_0 ?_
  refine lv_istore_n hx hb dX9_barredBy_3 rfl hl kc_l_3_4 (kTo [(3, .int 0), (2, .int 0), (0, .ref jX), (1, .ref ru)]) (fun ls hl => ?_)
  have lp_k_1 : ∀ (n9 : Nat) (i : Nat) (ll0 : Nat → Int32) (ll1 : Nat → Int32) (x2 : Int32) (ivk_1_0 : i ≤ 32) (ivk_1_1 : x2 = nI (kBrN (fun k => kLet (nI k) t9) i)) (H : Heap) (locs : List Loc) (_ : va_P (dC, dI) vwCl [(jX, .inr (9, [.ref jT, .ref jR, .ref jK, .ref jL, .ref jU, .ref hF, .ref jC, .ref hN, .ref jA, .ref sd])), (jK, .inr (5, [.ref k0, .ref k1])), (k0, .inl (cK, 8, .inl ll0)), (k1, .inl (cO, 32, .inl ll1))] H) (_ : va_D A [(jX, .inr (9, [.ref jT, .ref jR, .ref jK, .ref jL, .ref jU, .ref hF, .ref jC, .ref hN, .ref jA, .ref sd])), (jK, .inr (5, [.ref k0, .ref k1])), (k0, .inl (cK, 8, .inl ll0)), (k1, .inl (cO, 32, .inl ll1))]) (_ : va_S A s.heap H locs) (ls : Array Slot) (_ : lv_has ls 4 [(3, .int (nI (i))), (2, .int x2), (0, .ref jX), (1, .ref ru)]) (_ : 32 - i < n9), W p l e (headSpec w_s_barred9x ({ frames := 5, cells := 0, slots := 0, locals := 300 })).room s m (#[.ref jX, .ref ru] : Array Value) below meth c H locs 0 0 Q (F0 m 4 ls []) := by
    intro n9
    induction n9 with
    | zero => intro i ll0 ll1 x2 ivk_1_0 ivk_1_1 H locs hP hD hS ls hl hm9; exact absurd hm9 (Nat.not_lt_zero _)
    | succ n9 ih_k_1 =>
      intro i ll0 ll1 x2 ivk_1_0 ivk_1_1 H locs hP hD hS ls hl hm9
      refine lv_iload_n hx hb dX9_barredBy_4 rfl (lv_at hl 0 rfl) ?_
      refine lv_bipush (v := 32) hx hb dX9_barredBy_5 kc_b_32 ?_
      refine lv_icmp_ge (tgt := 31) hx hb dX9_barredBy_7 kc_t_7_24 (fun c_2 => ?_) (fun c_2 => ?_)
      · have bd_4 : i < 2147483648 := by omega
        have hn_3 := kle (a := 32) (b := i) kc_31_32 bd_4 c_2
        refine lv_iload_n hx hb dX9_barredBy_31 rfl (lv_at hl 1 rfl) ?_
        have hP9 := hP
        have hD9 := hD
        have hK9 := hK
        rw [hQ]
        exact W.iret (v := x2) hx hb hr (fun t ht hW => ⟨⟨x2, (ll0, ll1), rfl, (by rw [ivk_1_1, show i = 32 by omega]; rfl),  by rw [ht]; exact hP9, va_K.moved hW.alike hK9, hD9⟩, hS.F ht⟩) hS.2.2 dX9_barredBy_32
      · have bd_6 : i < 2147483648 := by omega
        have hn_5 := knle (a := 32) (b := i) kc_31_32 bd_6 c_2
        refine lv_aload_n hx hb dX9_barredBy_10 rfl (lv_at hl 2 rfl) ?_
        refine lv_aload_n hx hb dX9_barredBy_11 rfl (lv_at hl 3 rfl) ?_
        refine lv_iload_n hx hb dX9_barredBy_12 rfl (lv_at hl 0 rfl) ?_
        have hCu := kCut (wc := [(jX, .inr (9, [.ref jT, .ref jR, .ref jK, .ref jL, .ref jU, .ref hF, .ref jC, .ref hN, .ref jA, .ref sd])), (jK, .inr (5, [.ref k0, .ref k1])), (k0, .inl (cK, 8, .inl ll0)), (k1, .inl (cO, 32, .inl ll1))]) hP hD hS hA [0, 1, 2, 3] rfl kc_nd_422 rfl
        have hPc := hCu.1
        have hDc := hCu.2.1
        have hFc := hCu.2.2
        have hKc := hK.sb (tys2 := [(cK, .int), (cO, .int), (cS, .int), (cc, .int)]) [0, 1, 2, 3] rfl
        refine va_calli (va_runV (As := [.ref ru, .int (nI (i))]) (rest := []) ⟨hx, hb, hml, hown, hts⟩ (s_isLet9x l dC dI jX jT jR jL jU hN jA sd hF jC jK k0 k1 cK cO ll0 ll1 ru sA cl cS cc nS nC gS gC hnS hnC t9 hru (nI (i)) H.size) (cwV 2 hts (kG (List.forall_mem_cons.mpr ⟨(List.mem_cons_of_mem _ (List.mem_append_left _ (List.mem_of_getElem? (i := 3) rfl))), (List.forall_mem_cons.mpr ⟨(List.mem_cons_of_mem _ (List.mem_append_left _ (List.mem_of_getElem? (i := 2) rfl))), (List.forall_mem_cons.mpr ⟨(List.mem_cons_of_mem _ (List.mem_append_left _ (List.mem_of_getElem? (i := 1) rfl))), (List.forall_mem_cons.mpr ⟨(List.mem_cons_of_mem _ (List.mem_append_left _ (List.mem_of_getElem? (i := 0) rfl))), (fun _ h => absurd h List.not_mem_nil)⟩)⟩)⟩)⟩) (kGV _ _ _ _) (fun _ h => List.mem_cons_of_mem _ (List.mem_append_right _ h)) gw_s_isLet9x) rfl rfl rfl ⟨rfl, hd_X9_isLet⟩ ⟨(Nat.le_of_ble_eq_true rfl), (Nat.le_of_ble_eq_true rfl)⟩) (kW_V kNF_blind (kNF_give hX hS hFc) (va_recv hKc hPc (ci := 9) (q0 := 0) rfl rfl) hPc hKc hDc) rfl rfl hl.1 rfl (lv_room (Nat.le_of_ble_eq_true rfl)) dX9_barredBy_13 ⟨(Nat.le_of_ble_eq_true rfl), (Nat.le_of_ble_eq_true rfl)⟩) hS (fun q _ h => hFc q h) hFc (fun r_7 => kU2 (fun L0_8 L1_9 t H_10 locs ht hvm hw hB hz1 hk1 hS => ?_))
        try dsimp only at hw
        have hPD : kPD dC dI A [(jX, .inr (9, [.ref jT, .ref jR, .ref jK, .ref jL, .ref jU, .ref hF, .ref jC, .ref hN, .ref jA, .ref sd])), (jK, .inr (5, [.ref k0, .ref k1])), (k0, .inl (cK, 8, .inl L0_8)), (k1, .inl (cO, 32, .inl L1_9))] H_10 := kJoinX hP hD [0, 1, 2, 3] rfl hk1 hFc hB.1 ht hB.2.2 rfl [some 0, some 1, some 2, some 3] rfl rfl
        have hP := hPD.1
        have hD := hPD.2
        have hw_11 := hw
        refine lv_if_ne (tgt := 25) hx hb dX9_barredBy_16 kc_t_16_9 (fun c_12 => ?_) (fun c_12 => ?_)
        · refine lv_iinc (v := nI (i + 1)) hx hb dX9_barredBy_25 hl (k := 0) rfl (kInc _ 1) kc_l_3_4 (kTo [(3, .int (nI (i + 1))), (2, .int x2), (0, .ref jX), (1, .ref ru)]) (fun ls hl => ?_)
          refine lv_goto (tgt := 4) hx hb dX9_barredBy_28 kc_t_28_m24 ?_
          exact ih_k_1 (i + 1) L0_8 L1_9 x2 (by omega) (by rw [kBrS (fun z => c_12 (hw_11.trans z))]; exact ivk_1_1) _ _ hP hD hS ls (lv_sub hl [0, 1, 2, 3] rfl) (by omega)
        · refine lv_iload_n hx hb dX9_barredBy_19 rfl (lv_at hl 1 rfl) ?_
          refine lv_iconst (v := 1) hx hb dX9_barredBy_20 kc_i_1 ?_
          refine lv_iload_n hx hb dX9_barredBy_21 rfl (lv_at hl 0 rfl) ?_
          refine lv_ishl hx hb dX9_barredBy_22 ?_
          refine lv_topi (fun x_13 ex_13 => ?_)
          refine lv_ior hx hb dX9_barredBy_23 ?_
          refine lv_topi (fun x_14 ex_14 => ?_)
          refine lv_istore_n hx hb dX9_barredBy_24 rfl hl kc_l_2_4 (kTo [(2, .int x_14), (3, .int (nI (i))), (0, .ref jX), (1, .ref ru)]) (fun ls hl => ?_)
          refine lv_iinc (v := nI (i + 1)) hx hb dX9_barredBy_25 hl (k := 1) rfl (kInc _ 1) kc_l_3_4 (kTo [(3, .int (nI (i + 1))), (2, .int x_14), (0, .ref jX), (1, .ref ru)]) (fun ls hl => ?_)
          refine lv_goto (tgt := 4) hx hb dX9_barredBy_28 kc_t_28_m24 ?_
          exact ih_k_1 (i + 1) L0_8 L1_9 x_14 (by omega) (kBrU (by omega) ivk_1_1 (hw_11.symm.trans c_12) ex_13 ex_14) _ _ hP hD hS ls (lv_sub hl [0, 1, 2, 3] rfl) (by omega)
  exact lp_k_1 (32 - 0 + 1) 0 l0 l1 0 (by omega) rfl _ _ hP hD hS ls (lv_sub hl [0, 1, 2, 3] rfl) (by omega)

theorem nI_or (a b : Nat) : nI a ||| nI b = nI (a ||| b) := Int32.toBitVec_inj.mp (by show BitVec.ofNat 32 a ||| BitVec.ofNat 32 b = BitVec.ofNat 32 (a ||| b); exact BitVec.ofNat_or.symm)
theorem kShlF : ∀ k : Fin 31, (1 : Int32) <<< (nI k.val &&& 31) = nI (2 ^ k.val) := by decide +kernel
theorem kShl {n : Nat} (h : n < 31) : (1 : Int32) <<< (nI n &&& 31) = nI (2 ^ n) := kShlF ⟨n, h⟩
theorem kOr6 {a b : Nat} (ha : a < 64) (hb : b < 6) : a ||| (2 ^ b) < 64 := Nat.or_lt_two_pow (n := 6) ha (Nat.pow_lt_pow_right (by decide) hb)
theorem kOr10 {a b : Nat} (ha : a < 1024) (hb : b < 10) : a ||| (2 ^ b) < 1024 := Nat.or_lt_two_pow (n := 10) ha (Nat.pow_lt_pow_right (by decide) hb)
theorem kRfv (x : Option Nat) : va_rf x = .null ∨ ∃ a, va_rf x = .ref a := by
  cases x
  · exact Or.inl rfl
  · exact Or.inr ⟨_, rfl⟩
theorem kMinN {a b : Nat} (h : b ≤ a) (ha : a < 2 ^ 31) {x : Int32} (e : x = if nI b < nI a then nI b else nI a) : x = nI b := by
  by_cases hz : nI b < nI a
  · rw [if_pos hz] at e; exact e
  · rw [if_neg hz] at e
    have := knlt (a := b) (b := a) (by omega) ha hz
    rw [e, show a = b by omega]
theorem kFull {a b : Nat} {r : Int32} (hw : r = if a < b then 0 else 1) (c : r = 0) : a < b := by
  by_cases h : a < b
  · exact h
  · rw [if_neg h] at hw; rw [hw] at c; exact absurd c (by decide)
/-- kl texts on a shelf: each is a rule whose three cells lie in the heap, none of them in A -/
def kSh (dC : Nat → ClassId) (dI : Nat → Nat → Nat) (kl : Nat) (gL : Nat → Option Nat) (yL : Nat → List kTr) (M9 : Nat) (A : Nat → Prop) (U : State) : Prop := ∀ j : Nat, j < kl → ∃ (ru sA cl : Nat) (cS cc : ClassId) (nS nC : Nat) (gS gC : Nat → Int32), gL j = some ru ∧ kRu (yL j) M9 nS nC gS gC ∧ nS ≤ 200 ∧ nC ≤ 200 ∧ va_K (dC, dI) vwCl [(cS, .int), (cc, .int)] U ∧ (va_P (dC, dI) vwCl [(ru, .inr (6, [.ref sA, .ref cl])), (sA, .inl (cS, nS, .inl gS)), (cl, .inl (cc, nC, .inl gC))] U.heap ∧ ∀ (k : Nat) (q : Nat × va_E), ([(ru, .inr (6, [.ref sA, .ref cl])), (sA, .inl (cS, nS, .inl gS)), (cl, .inl (cc, nC, .inl gC))] : va_W)[k]? = some q → ¬ A q.1)
theorem kSh_get {dC : Nat → ClassId} {dI : Nat → Nat → Nat} {kl : Nat} {gL : Nat → Option Nat} {yL : Nat → List kTr} {M9 : Nat} {A : Nat → Prop} {s : State} (h : kSh dC dI kl gL yL M9 A s) {ru : Nat} (hw : some ru = none ∨ ∃ j : Nat, j < kl ∧ some ru = gL j) : ∃ (sA cl : Nat) (cS cc : ClassId) (nS nC : Nat) (gS gC : Nat → Int32), nS ≤ 200 ∧ nC ≤ 200 ∧ va_K (dC, dI) vwCl [(cS, .int), (cc, .int)] s ∧ (va_P (dC, dI) vwCl [(ru, .inr (6, [.ref sA, .ref cl])), (sA, .inl (cS, nS, .inl gS)), (cl, .inl (cc, nC, .inl gC))] s.heap ∧ ∀ (k : Nat) (q : Nat × va_E), ([(ru, .inr (6, [.ref sA, .ref cl])), (sA, .inl (cS, nS, .inl gS)), (cl, .inl (cc, nC, .inl gC))] : va_W)[k]? = some q → ¬ A q.1) := by
  rcases hw with z | ⟨j, hj, e⟩
  · cases z
  · obtain ⟨ru', sA, cl, cS, cc, nS, nC, gS, gC, e1, hy, h1, h2, h3, h4⟩ := h j hj
    cases e.trans e1
    exact ⟨sA, cl, cS, cc, nS, nC, gS, gC, h1, h2, h3, h4⟩
theorem kSh_some {dC : Nat → ClassId} {dI : Nat → Nat → Nat} {kl : Nat} {gL : Nat → Option Nat} {yL : Nat → List kTr} {M9 : Nat} {A : Nat → Prop} {s : State} (h : kSh dC dI kl gL yL M9 A s) {j : Nat} (hj : j < kl) : ∃ ru : Nat, gL j = some ru := by
  obtain ⟨ru', sA, cl, cS, cc, nS, nC, gS, gC, e1, hy, h1, h2, h3, h4⟩ := h j hj
  exact ⟨ru', e1⟩
theorem kSh_blind {dC : Nat → ClassId} {dI : Nat → Nat → Nat} {kl : Nat} {gL : Nat → Option Nat} {yL : Nat → List kTr} {M9 : Nat} {A : Nat → Prop} : ∀ (U : State) (g : JFrame) (mk : MethodId) (a : Array Value), kSh dC dI kl gL yL M9 A U → kSh dC dI kl gL yL M9 A (U.calling g mk a) := fun U g mk a h j hj => by
  obtain ⟨ru, sA, cl, cS, cc, nS, nC, gS, gC, e1, hy, h1, h2, h3, h4⟩ := h j hj
  exact ⟨ru, sA, cl, cS, cc, nS, nC, gS, gC, e1, hy, h1, h2, va_K.moved (u := U) (U := U.calling g mk a) (Vm.Alike.refl U.vm) h3, h4⟩
theorem kSh_give {dC : Nat → ClassId} {dI : Nat → Nat → Nat} {kl : Nat} {gL : Nat → Option Nat} {yL : Nat → List kTr} {M9 : Nat} {A B : Nat → Prop} {s : State} {H : Heap} {locs : List Loc} (h : kSh dC dI kl gL yL M9 A s) (hS : va_S A s.heap H locs) (hB : ∀ q, B q → A q) : ∀ U : State, U.heap = H → s.WarmedH U.vm → kSh dC dI kl gL yL M9 B U := fun U hU hW j hj => by
  obtain ⟨ru, sA, cl, cS, cc, nS, nC, gS, gC, e1, hy, h1, h2, h3, h4⟩ := h j hj
  exact ⟨ru, sA, cl, cS, cc, nS, nC, gS, gC, e1, hy, h1, h2, va_K.moved hW.alike h3, by rw [hU]; exact kFz_at h4 hS, fun k q hk z => h4.2 k q hk (hB _ z)⟩
/-- both shelves, and the links of nest mates -/
def kPub (dC : Nat → ClassId) (dI : Nat → Nat → Nat) (kl : Nat) (gL : Nat → Option Nat) (yL : Nat → List kTr) (ku : Nat) (gU : Nat → Option Nat) (yU : Nat → List kTr) (A : Nat → Prop) (U : State) : Prop := (kSh dC dI kl gL yL 8 A U ∧ kSh dC dI ku gU yU 5 A U) ∧ kNL U
theorem kPub_blind {dC : Nat → ClassId} {dI : Nat → Nat → Nat} {kl : Nat} {gL : Nat → Option Nat} {yL : Nat → List kTr} {ku : Nat} {gU : Nat → Option Nat} {yU : Nat → List kTr} {A : Nat → Prop} : ∀ (U : State) (g : JFrame) (mk : MethodId) (a : Array Value), kPub dC dI kl gL yL ku gU yU A U → kPub dC dI kl gL yL ku gU yU A (U.calling g mk a) := fun U g mk a h => ⟨⟨kSh_blind U g mk a h.1.1, kSh_blind U g mk a h.1.2⟩, kNL_blind U g mk a h.2⟩
theorem kPub_give {dC : Nat → ClassId} {dI : Nat → Nat → Nat} {kl : Nat} {gL : Nat → Option Nat} {yL : Nat → List kTr} {ku : Nat} {gU : Nat → Option Nat} {yU : Nat → List kTr} {A B : Nat → Prop} {s : State} {H : Heap} {locs : List Loc} (h : kPub dC dI kl gL yL ku gU yU A s) (hS : va_S A s.heap H locs) (hB : ∀ q, B q → A q) : ∀ U : State, U.heap = H → s.WarmedH U.vm → kPub dC dI kl gL yL ku gU yU B U := fun U hU hW => ⟨⟨kSh_give h.1.1 hS hB U hU hW, kSh_give h.1.2 hS hB U hU hW⟩, kNL_give h.2 U hU hW⟩
/-- arrays of ints can be cloned -/
def kCl (U : State) : Prop := va_Nw (.castable "[I" "java/lang/Cloneable") U
theorem kCl_blind : ∀ (U : State) (g : JFrame) (mk : MethodId) (a : Array Value), kCl U → kCl (U.calling g mk a) := fun U _ _ _ h => va_Nw.same (u := U) rfl rfl h
theorem kCl_give {s : State} {H : Heap} (h : kCl s) : ∀ U : State, U.heap = H → s.WarmedH U.vm → kCl U := fun _ _ hW => va_Nw.warmC hW h
/-- a shelf after a text: as before, or one rule more, of three cells that are new -/
def kShN (dC : Nat → ClassId) (dI : Nat → Nat → Nat) (kl : Nat) (gL : Nat → Option Nat) (kl1 : Nat) (gL1 : Nat → Option Nat) (Y9 : List kTr) (M9 : Nat) (sz : Nat) (t : State) : Prop := (kl1 = kl ∧ gL1 = gL) ∨ (kl1 = kl + 1 ∧ ∃ (ru sA cl : Nat) (cS cc : ClassId) (nS nC : Nat) (gS gC : Nat → Int32), gL1 = va_up gL kl (some ru) ∧ kRu Y9 M9 nS nC gS gC ∧ nS ≤ 200 ∧ nC ≤ 200 ∧ va_K (dC, dI) vwCl [(cS, .int), (cc, .int)] t ∧ va_P (dC, dI) vwCl [(ru, .inr (6, [.ref sA, .ref cl])), (sA, .inl (cS, nS, .inl gS)), (cl, .inl (cc, nC, .inl gC))] t.heap ∧ sz ≤ ru ∧ sz ≤ sA ∧ sz ≤ cl)
/-- a cell of the world that is none of the first ones is new -/
theorem kFresh {W0 ws : va_W} {sz : Nat} {A : Nat → Prop} (hD : va_D A ws) (hAe : va_A W0 sz = A) (i : Nat) {q : Nat × va_E} (hi : ws[i]? = some q) (is : List Nat) (hW : W0.map (fun z => some z.1) = is.map (fun j => (ws[j]?).map (fun z => z.1))) (hn : ¬ i ∈ is) : sz ≤ q.1 := by
  have h := hD.2 i q hi
  rw [← hAe] at h
  rcases h with ⟨k, e, hk⟩ | h
  · exfalso
    have h1 : (W0.map (fun z => some z.1))[k]? = some (some q.1) := by rw [List.getElem?_map, hk]; rfl
    rw [hW, List.getElem?_map] at h1
    cases hj : is[k]? with
    | none => rw [hj] at h1; cases h1
    | some j =>
      rw [hj] at h1
      have h2 : (ws[j]?).map (fun z => z.1) = some q.1 := Option.some.inj h1
      cases hp : ws[j]? with
      | none => rw [hp] at h2; cases h2
      | some p9 =>
        rw [hp] at h2
        have h3 : p9.1 = q.1 := Option.some.inj h2
        have h4 := hD.1 j i p9 q hp hi h3
        exact hn (h4 ▸ List.mem_of_getElem? hj)
  · exact h
def kSort (p : Int32) : Int32 := if p = 0 then 1 else if p = 1 then 1 else 0
theorem kSort_or {p : Int32} (h : ¬ kSort p = 0) : p = 0 ∨ p = 1 := by
  unfold kSort at h
  by_cases h0 : p = 0
  · exact Or.inl h0
  · by_cases h1 : p = 1
    · exact Or.inr h1
    · rw [if_neg h0, if_neg h1] at h; exact absurd rfl h
theorem kSw7 (x : Int32) : x = 0 ∨ x = 1 ∨ x = 2 ∨ x = 3 ∨ x = 4 ∨ x = 5 ∨ x = 6 ∨ (x.toInt < 0 ∨ 6 < x.toInt) := by
  by_cases h : x.toInt < 0 ∨ 6 < x.toInt
  · simp [h]
  · have : x.toInt = 0 ∨ x.toInt = 1 ∨ x.toInt = 2 ∨ x.toInt = 3 ∨ x.toInt = 4 ∨ x.toInt = 5 ∨ x.toInt = 6 := by omega
    rcases this with e | e | e | e | e | e | e
    · exact Or.inl (Int32.toInt_inj.mp e)
    · exact Or.inr (Or.inl (Int32.toInt_inj.mp e))
    · exact Or.inr (Or.inr (Or.inl (Int32.toInt_inj.mp e)))
    · exact Or.inr (Or.inr (Or.inr (Or.inl (Int32.toInt_inj.mp e))))
    · exact Or.inr (Or.inr (Or.inr (Or.inr (Or.inl (Int32.toInt_inj.mp e)))))
    · exact Or.inr (Or.inr (Or.inr (Or.inr (Or.inr (Or.inl (Int32.toInt_inj.mp e))))))
    · exact Or.inr (Or.inr (Or.inr (Or.inr (Or.inr (Or.inr (Or.inl (Int32.toInt_inj.mp e)))))))
theorem kA_int (n : Nat) : ∀ cA : ClassId, vp_cell cA (n, .inl (fun _ => 0)) = arrV cA n (fun _ => defaultValue .int) := fun _ => rfl
theorem kA_char (n : Nat) : ∀ cA : ClassId, vp_cell cA (n, .inl (fun _ => 0)) = arrV cA n (fun _ => defaultValue .char) := fun _ => rfl
theorem kA_byte (n : Nat) : ∀ cA : ClassId, vp_cell cA (n, .inl (fun _ => 0)) = arrV cA n (fun _ => defaultValue .byte) := fun _ => rfl
theorem kA_boolean (n : Nat) : ∀ cA : ClassId, vp_cell cA (n, .inl (fun _ => 0)) = arrV cA n (fun _ => defaultValue .boolean) := fun _ => rfl
theorem kA_long (n : Nat) : ∀ cA : ClassId, vp_cell cA (n, .inr (.inl (fun _ => 0))) = arrV cA n (fun _ => defaultValue .long) := fun _ => rfl
def kWordA (p : Int32) (kw : Nat) : Int32 := if kIn p 0 47 = 0 then -1 else if kw < 4 then nI (kw + 1) else -1
def kWordN (p : Int32) (kw : Nat) : Nat := if kIn p 0 47 = 0 then kw else if kw < 4 then kw + 1 else kw
theorem kNzr {r E : Int32} (h : r = E) (c : ¬ r = 0) : ¬ E = 0 := fun z => c (h.trans z)
theorem kZr {r E : Int32} (h : r = E) (c : r = 0) : E = 0 := h.symm.trans c
def kPn (p : Int32) (k : Nat) : Int32 := if p < 0 then 0 else if p < nI k then 1 else 0
theorem kPn_nI {j k : Nat} (hj : j < 2 ^ 31) (hk : k < 2 ^ 31) : kPn (nI j) k = if j < k then 1 else 0 := by
  unfold kPn
  rw [if_neg (nI_pos (n := j) hj)]
  by_cases z : nI j < nI k
  · have h := klt (a := j) (b := k) (by omega) (by omega) z
    rw [if_pos z, if_pos h]
  · have h := knlt (a := j) (b := k) (by omega) (by omega) z
    rw [if_neg z, if_neg (by omega)]
def kPerA (p q u : Int32) (k : Nat) : Int32 := if kIn p 0 100 = 0 then -1 else if kIn q 0 99 = 0 then -1 else if kIn u 0 3 = 0 then -1 else if k < 10 then nI k else -1
def kPerN (p q u : Int32) (k : Nat) : Nat := if kIn p 0 100 = 0 then k else if kIn q 0 99 = 0 then k else if kIn u 0 3 = 0 then k else if k < 10 then k + 1 else k
theorem kPerN_b {p q u : Int32} {k : Nat} (h : k ≤ 10) : k ≤ kPerN p q u k ∧ kPerN p q u k ≤ 10 := by
  unfold kPerN
  split
  · omega
  · split
    · omega
    · split
      · omega
      · split <;> omega
def kKnow (a b : Int32) (k : Nat) : Int32 := if kPn a k = 0 then 0 else if kPn b k = 0 then 0 else if a = b then 0 else 1
def kNoteK (k v o : Int32) : Int32 := if k = 0 then (if kIn v 0 100 = 0 then 0 else if kIn o 0 50 = 0 then 0 else 1) else if k = 1 then kIn v (-1) 3 else 0
def kNoteA (p h k v o : Int32) (ks kn : Nat) : Int32 := if kPn p ks = 0 then -1 else if kIn h 0 48 = 0 then -1 else if kNoteK k v o = 0 then -1 else if kn < 20 then nI (kn + 1) else -1
def kNoteN (p h k v o : Int32) (ks kn : Nat) : Nat := if kPn p ks = 0 then kn else if kIn h 0 48 = 0 then kn else if kNoteK k v o = 0 then kn else if kn < 20 then kn + 1 else kn
theorem kIn_m1 : kIn (-1) (-1) 3 = 1 := by decide
theorem kHouseN {v : Int32} (h1 : ¬ v = -1) (h2 : kIn v 0 3 = 0) : kIn v (-1) 3 = 0 := by
  unfold kIn at h2 ⊢
  by_cases a : v < 0
  · have : v < -1 := by
      rw [Int32.lt_iff_toInt_lt] at a ⊢
      have h3 : ¬ v.toInt = (-1 : Int32).toInt := fun z => h1 (Int32.toInt_inj.mp z)
      have e0 : (0 : Int32).toInt = 0 := rfl
      have e1 : (-1 : Int32).toInt = -1 := rfl
      rw [e1] at h3 ⊢; rw [e0] at a
      omega
    rw [if_pos this]
  · rw [if_neg a] at h2
    split
    · rfl
    · exact h2
theorem kHouseY {v : Int32} (h2 : ¬ kIn v 0 3 = 0) : ¬ kIn v (-1) 3 = 0 := by
  unfold kIn at h2 ⊢
  by_cases a : v < 0
  · rw [if_pos a] at h2; exact absurd rfl h2
  · rw [if_neg a] at h2
    have : ¬ v < -1 := fun z => a (by
      rw [Int32.lt_iff_toInt_lt] at z ⊢
      have e0 : (0 : Int32).toInt = 0 := rfl
      have e1 : (-1 : Int32).toInt = -1 := rfl
      rw [e1] at z; rw [e0]; omega)
    rw [if_neg this]
    exact h2
def kLetsA (p o : Int32) (ku : Nat) (y : Nat → List kTr) : Int32 := if kPn p ku = 0 then -1 else if kIn o 0 31 = 0 then -1 else kLet o (y (Int32.toNatClampNeg p))
def kBol (a b : Nat) : Int32 := if a = b then 0 else if a &&& b = b then 1 else 0
def kBolA (p q : Int32) (ku : Nat) (y : Nat → List kTr) : Int32 := if kPn p ku = 0 then -1 else if kPn q ku = 0 then -1 else kBol (kBar (y (Int32.toNatClampNeg p))) (kBar (y (Int32.toNatClampNeg q)))
theorem kCpy {g h : Nat → Int32} {pn j : Nat} (hp : pn < 2 ^ 31) (hj : j < pn) : va_cpy g h (Int32.toNatClampNeg 0) (Int32.toNatClampNeg 0) (Int32.toNatClampNeg (nI pn)) j = g j := by
  have h0 : Int32.toNatClampNeg 0 = 0 := by decide
  unfold va_cpy
  rw [nI_clamp hp, h0, if_pos ⟨Nat.zero_le j, by omega⟩]
  congr 1
  omega
theorem kAtWy {r : Option Nat} {g : Nat → Option Nat} {k : Nat} {p : Int32} (h : (r = none ∧ kPn p k = 0) ∨ (kPn p k = 1 ∧ ∃ j : Nat, j < k ∧ p = nI j ∧ r = g j)) : r = none ∨ ∃ j : Nat, j < k ∧ r = g j := h.elim (fun z => Or.inl z.1) (fun z => Or.inr (by obtain ⟨_, j, h1, _, h2⟩ := z; exact ⟨j, h1, h2⟩))
theorem kSh_gety {dC : Nat → ClassId} {dI : Nat → Nat → Nat} {kl : Nat} {gL : Nat → Option Nat} {yL : Nat → List kTr} {M9 : Nat} {A : Nat → Prop} {s : State} (h : kSh dC dI kl gL yL M9 A s) {ru : Nat} {p : Int32} (hw : (some ru = none ∧ kPn p kl = 0) ∨ (kPn p kl = 1 ∧ ∃ j : Nat, j < kl ∧ p = nI j ∧ some ru = gL j)) : ∃ (j : Nat) (sA cl : Nat) (cS cc : ClassId) (nS nC : Nat) (gS gC : Nat → Int32), j < kl ∧ p = nI j ∧ kPn p kl = 1 ∧ kRu (yL j) M9 nS nC gS gC ∧ nS ≤ 200 ∧ nC ≤ 200 ∧ va_K (dC, dI) vwCl [(cS, .int), (cc, .int)] s ∧ (va_P (dC, dI) vwCl [(ru, .inr (6, [.ref sA, .ref cl])), (sA, .inl (cS, nS, .inl gS)), (cl, .inl (cc, nC, .inl gC))] s.heap ∧ ∀ (k : Nat) (q : Nat × va_E), ([(ru, .inr (6, [.ref sA, .ref cl])), (sA, .inl (cS, nS, .inl gS)), (cl, .inl (cc, nC, .inl gC))] : va_W)[k]? = some q → ¬ A q.1) := by
  rcases hw with z | ⟨hn, j, hj, hp, e⟩
  · cases z.1
  · obtain ⟨ru2, sA, cl, cS, cc, nS, nC, gS, gC, e1, hy, h1, h2, h3, h4⟩ := h j hj
    cases e.trans e1
    exact ⟨j, sA, cl, cS, cc, nS, nC, gS, gC, hj, hp, hn, hy, h1, h2, h3, h4⟩
theorem kPn_none {p : Int32} {r : Option Nat} {g : Nat → Option Nat} {k : Nat} (h : (r = none ∧ kPn p k = 0) ∨ (kPn p k = 1 ∧ ∃ j : Nat, j < k ∧ p = nI j ∧ r = g j)) (hn : r = none) (hs : ∀ j : Nat, j < k → ∃ a : Nat, g j = some a) : kPn p k = 0 := by
  rcases h with h | ⟨_, j, hj, _, e⟩
  · exact h.2
  · obtain ⟨a, ea⟩ := hs j hj
    rw [hn, ea] at e
    cases e
theorem kBol_0 {x y : Int32} {a b : Nat} (hx : x = nI a) (hy : y = nI b) (ha : a < 2 ^ 32) (hb : b < 2 ^ 32) (c : x = y) : 0 = kBol a b := by
  have h := nI_inj32 ha hb (hx.symm.trans (c.trans hy))
  unfold kBol
  rw [if_pos h]
theorem kBol_1 {x y z : Int32} {a b : Nat} (hx : x = nI a) (hy : y = nI b) (ha : a < 2 ^ 32) (hb : b < 2 ^ 32) (c : ¬ x = y) (ez : z = x &&& y) (c2 : z = y) : 1 = kBol a b := by
  have h : ¬ a = b := fun e => c (by rw [hx, hy, e])
  have h2 : a &&& b = b := nI_inj32 (Nat.lt_of_le_of_lt Nat.and_le_right hb) hb (by rw [← nI_and5, ← hx, ← hy, ← ez]; exact c2)
  unfold kBol
  rw [if_neg h, if_pos h2]
theorem kBol_2 {x y z : Int32} {a b : Nat} (hx : x = nI a) (hy : y = nI b) (c : ¬ x = y) (ez : z = x &&& y) (c2 : ¬ z = y) : 0 = kBol a b := by
  have h : ¬ a = b := fun e => c (by rw [hx, hy, e])
  have h2 : ¬ a &&& b = b := fun e => c2 (by rw [ez, hx, hy, nI_and5, e])
  unfold kBol
  rw [if_neg h, if_neg h2]
def kIsB (a b : Int32) : Int32 := if (a >>> (b &&& 31)) &&& 1 = 0 then 0 else 1
theorem kIsB_nar (a b : Int32) : narrow .boolean (.int (kIsB a b)) = .int (kIsB a b) := by unfold kIsB; split <;> rfl
theorem kIsB_F : ∀ (v : Fin 1024) (j : Fin 10), kIsB (nI v.val) (nI j.val) = if v.val.testBit j.val then 1 else 0 := by decide +kernel
theorem kIsB_n {v j : Nat} (hv : v < 1024) (hj : j < 10) : kIsB (nI v) (nI j) = if v.testBit j then 1 else 0 := kIsB_F ⟨v, hv⟩ ⟨j, hj⟩
def kActK (k x p : Int32) (ks : Nat) : Int32 := if k = 0 then kIn x 0 99 else if k = 1 then kIn x 0 3 else if k = 2 then (if kPn x ks = 0 then 0 else if x = p then 0 else 1) else 0
def kActA (p k x c : Int32) (ks : Nat) (se : Int32) (ka : Nat) : Int32 := if kPn p ks = 0 then -1 else if ¬ se = 0 then -1 else if kIn c 1 50 = 0 then -1 else if kActK k x p ks = 0 then -1 else if ka < 6 then nI ka else -1
def kActN (p k x c : Int32) (ks : Nat) (se : Int32) (ka : Nat) : Nat := if kPn p ks = 0 then ka else if ¬ se = 0 then ka else if kIn c 1 50 = 0 then ka else if kActK k x p ks = 0 then ka else if ka < 6 then ka + 1 else ka
def kSnN (p q u w : Int32) (k sv : Nat) : Nat := if kPerN p q u k = k then sv else if w = 0 then sv else sv ||| 2 ^ k
def kSen (p q u w : Int32) (k : Nat) (f : Nat → Int32) : Nat → Int32 := if kPerN p q u k = k then f else upd f k (vp_nar .boolean w)
theorem kPerN_ok {p q u : Int32} {k : Nat} (h1 : ¬ kIn p 0 100 = 0) (h2 : ¬ kIn q 0 99 = 0) (h3 : ¬ kIn u 0 3 = 0) : kPerN p q u k = if k < 10 then k + 1 else k := by unfold kPerN; rw [if_neg h1, if_neg h2, if_neg h3]
theorem kPerN_or (p q u : Int32) (k : Nat) : kPerN p q u k = k ∨ (kPerN p q u k = k + 1 ∧ k < 10) := by
  unfold kPerN
  split
  · exact Or.inl rfl
  · split
    · exact Or.inl rfl
    · split
      · exact Or.inl rfl
      · split
        · exact Or.inr ⟨rfl, by assumption⟩
        · exact Or.inl rfl
theorem kSe_new {p q u w : Int32} (hw : w = 0 ∨ w = 1) {ks sv : Nat} {f : Nat → Int32} (hks : ks ≤ 10) (hsv : sv < 1024) (hb : sv < 2 ^ ks) (H : ∀ j : Nat, j < ks → (f j = 0 ↔ kIsB (nI sv) (nI j) = 0)) : (∀ j : Nat, j < kPerN p q u ks → (kSen p q u w ks f j = 0 ↔ kIsB (nI (kSnN p q u w ks sv)) (nI j) = 0)) ∧ kSnN p q u w ks sv < 2 ^ kPerN p q u ks := by
  rcases kPerN_or p q u ks with e | ⟨e, hk⟩
  · unfold kSen kSnN
    rw [e, if_pos rfl, if_pos rfl]
    exact ⟨H, hb⟩
  · have hne : ¬ ks + 1 = ks := by omega
    unfold kSen kSnN
    rw [e, if_neg hne, if_neg hne]
    have hp : 2 ^ ks < 2 ^ (ks + 1) := by rw [Nat.pow_succ]; have := Nat.one_le_two_pow (n := ks); omega
    have hlt : sv ||| 2 ^ ks < 2 ^ (ks + 1) := Nat.or_lt_two_pow (by omega) hp
    have h10 : 2 ^ (ks + 1) ≤ 1024 := (Nat.pow_le_pow_right (by decide) (by omega) : 2 ^ (ks + 1) ≤ 2 ^ 10)
    have hz : sv.testBit ks = false := Nat.testBit_lt_two_pow hb
    constructor
    · intro j hj
      by_cases ej : j = ks
      · subst ej
        have eu : upd f j (vp_nar .boolean w) j = vp_nar .boolean w := by unfold upd; rw [if_pos rfl]
        rw [eu]
        rcases hw with rfl | rfl
        · rw [if_pos rfl, kIsB_n hsv (by omega), hz]
          exact ⟨fun _ => rfl, fun _ => rfl⟩
        · rw [if_neg (by decide), kIsB_n (by omega) (by omega), Nat.testBit_or, Nat.testBit_two_pow_self, Bool.or_true]
          exact ⟨fun z => absurd z (by decide), fun z => absurd z (by decide)⟩
      · have eu : upd f ks (vp_nar .boolean w) j = f j := by unfold upd; rw [if_neg ej]
        rw [eu, H j (by omega)]
        rcases hw with rfl | rfl
        · rw [if_pos rfl]
        · rw [if_neg (by decide), kIsB_n hsv (by omega), kIsB_n (by omega) (by omega), Nat.testBit_or, Nat.testBit_two_pow_of_ne (by omega), Bool.or_false]
    · rcases hw with rfl | rfl
      · rw [if_pos rfl]; omega
      · rw [if_neg (by decide)]; exact hlt
theorem kAct_se {p k x c se s2 : Int32} {ks ka : Nat} (H : ¬ kPn p ks = 0 → (se = 0 ↔ s2 = 0)) : kActA p k x c ks se ka = kActA p k x c ks s2 ka ∧ kActN p k x c ks se ka = kActN p k x c ks s2 ka := by
  unfold kActA kActN
  by_cases h : kPn p ks = 0
  · rw [if_pos h, if_pos h, if_pos h, if_pos h]; exact ⟨rfl, rfl⟩
  · rw [if_neg h, if_neg h, if_neg h, if_neg h]
    by_cases z : se = 0
    · rw [if_neg (not_not_intro z), if_neg (not_not_intro z), if_neg (not_not_intro ((H h).mp z)), if_neg (not_not_intro ((H h).mp z))]; exact ⟨rfl, rfl⟩
    · have y : ¬ s2 = 0 := fun y => z ((H h).mpr y)
      rw [if_pos z, if_pos z, if_pos y, if_pos y]; exact ⟨rfl, rfl⟩
theorem kActN_le {p k x c se : Int32} {ks ka : Nat} (h : ka ≤ 6) : kActN p k x c ks se ka ≤ 6 := by
  unfold kActN
  split
  · exact h
  · split
    · exact h
    · split
      · exact h
      · split
        · exact h
        · split <;> omega
/-- the class's texts, its nest mates' links, and that arrays can be cloned -/
def kTxt (ad : Nat → Nat) (bA nA : Nat) (xA : Nat → Int32) (bB nB : Nat) (xB : Nat → Int32) (bE nE : Nat) (xE : Nat → Int32) (bG nG : Nat) (xG : Nat → Int32) (A : Nat → Prop) (U : State) : Prop := kRd ad 1 3 bA nA xA bB nB xB A U ∧ kRd ad 2 4 bE nE xE bG nG xG A U ∧ kNL U ∧ kCl U
theorem kTxt_blind {ad : Nat → Nat} {bA nA : Nat} {xA : Nat → Int32} {bB nB : Nat} {xB : Nat → Int32} {bE nE : Nat} {xE : Nat → Int32} {bG nG : Nat} {xG : Nat → Int32} {A : Nat → Prop} : ∀ (U : State) (g : JFrame) (mk : MethodId) (a : Array Value), kTxt ad bA nA xA bB nB xB bE nE xE bG nG xG A U → kTxt ad bA nA xA bB nB xB bE nE xE bG nG xG A (U.calling g mk a) := fun U g mk a h => ⟨kRd_blind U g mk a h.1, kRd_blind U g mk a h.2.1, kNL_blind U g mk a h.2.2.1, kCl_blind U g mk a h.2.2.2⟩
theorem kTxt_give {ad : Nat → Nat} {bA nA : Nat} {xA : Nat → Int32} {bB nB : Nat} {xB : Nat → Int32} {bE nE : Nat} {xE : Nat → Int32} {bG nG : Nat} {xG : Nat → Int32} {A B : Nat → Prop} {s : State} {H : Heap} {locs : List Loc} (h : kTxt ad bA nA xA bB nB xB bE nE xE bG nG xG A s) (hS : va_S A s.heap H locs) (hB : ∀ q, B q → A q) : ∀ U : State, U.heap = H → s.WarmedH U.vm → kTxt ad bA nA xA bB nB xB bE nE xE bG nG xG B U := fun U hU hW => ⟨kRd_give h.1 hS hB U hU hW, kRd_give h.2.1 hS hB U hU hW, kNL_give h.2.2.1 U hU hW, kCl_give h.2.2.2 U hU hW⟩
theorem kTc_z {s : Int32} {o0 o1 : Bool} {kl ku : Nat} (h : kSort s = 0) : kTc s o0 o1 kl ku = 0 := by
  unfold kSort at h
  unfold kTc
  by_cases h0 : s = 0
  · rw [if_pos h0] at h; exact absurd h (by decide)
  · rw [if_neg h0] at h ⊢
    by_cases h1 : s = 1
    · rw [if_pos h1] at h; exact absurd h (by decide)
    · rw [if_neg h1]
theorem kFtA_z {s : Int32} {o0 o1 : Bool} {p0 p1 : Nat} (h : kSort s = 0) : kFtA s o0 p0 o1 p1 = -2 := by
  unfold kSort at h
  unfold kFtA
  by_cases h0 : s = 0
  · rw [if_pos h0] at h; exact absurd h (by decide)
  · rw [if_neg h0] at h ⊢
    by_cases h1 : s = 1
    · rw [if_pos h1] at h; exact absurd h (by decide)
    · rw [if_neg h1]
theorem kFullN {kh nH : Nat} {r : Int32} (h : r = (if kh < nH then 0 else 1)) (c : ¬ r = 0) : nH ≤ kh := by
  by_cases z : kh < nH
  · rw [if_pos z] at h; exact absurd h c
  · omega
theorem kAtW {r : Option Nat} {g : Nat → Option Nat} {k : Nat} {p : Int32} (h : (r = none ∧ kPn p k = 0) ∨ (kPn p k = 1 ∧ ∃ j : Nat, j < k ∧ r = g j)) : r = none ∨ ∃ j : Nat, j < k ∧ r = g j := h.elim (fun z => Or.inl z.1) (fun z => Or.inr z.2)
def kSayA (p t : Int32) (ks ku : Nat) : Int32 := if kPn p ks = 0 then 0 else if t = -1 then 1 else kPn t ku
theorem kCtA_d {w : Int32} {kl ku ks kw kn ka kt : Nat} (h : w.toInt < 0 ∨ 6 < w.toInt) : kCtA w kl ku ks kw kn ka kt = -1 := by
  have H : ∀ n : Int32, (0 ≤ n.toInt ∧ n.toInt ≤ 6) → ¬ w = n := fun n hn z => by rw [z] at h; omega
  unfold kCtA
  rw [if_neg (H 0 (by decide)), if_neg (H 1 (by decide)), if_neg (H 2 (by decide)), if_neg (H 3 (by decide)), if_neg (H 4 (by decide)), if_neg (H 5 (by decide)), if_neg (H 6 (by decide))]
