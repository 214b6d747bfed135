theorem dX4_read_0 : decode cX4_read 0 = .ok (.aload_n 0, 1) := kDs0 kf_42 (by decide +kernel)
theorem dX4_read_1 : decode cX4_read 1 = .ok (.iload_n 1, 1) := kDs0 kf_27 (by decide +kernel)
theorem dX4_read_2 : decode cX4_read 2 = .ok (.ifCond .ne 8, 3) := kDs4 kf_154 (by decide +kernel)
theorem dX4_read_5 : decode cX4_read 5 = .ok (.ldc 41, 2) := kDs1 kf_18 (by decide +kernel)
theorem dX4_read_7 : decode cX4_read 7 = .ok (.goto 5, 3) := kDs4 kf_167 (by decide +kernel)
theorem dX4_read_12 : decode cX4_read 12 = .ok (.putfield 30, 3) := kDs2 kf_181 (by decide +kernel)
theorem dX4_read_15 : decode cX4_read 15 = .ok (.aload_n 0, 1) := kDs0 kf_42 (by decide +kernel)
theorem dX4_read_16 : decode cX4_read 16 = .ok (.iload_n 1, 1) := kDs0 kf_27 (by decide +kernel)
theorem dX4_read_17 : decode cX4_read 17 = .ok (.ifCond .ne 8, 3) := kDs4 kf_154 (by decide +kernel)
theorem dX4_read_20 : decode cX4_read 20 = .ok (.ldc 45, 2) := kDs1 kf_18 (by decide +kernel)
theorem dX4_read_22 : decode cX4_read 22 = .ok (.goto 5, 3) := kDs4 kf_167 (by decide +kernel)
theorem dX4_read_27 : decode cX4_read 27 = .ok (.putfield 34, 3) := kDs2 kf_181 (by decide +kernel)
theorem dX4_read_30 : decode cX4_read 30 = .ok (.aload_n 0, 1) := kDs0 kf_42 (by decide +kernel)
theorem dX4_read_31 : decode cX4_read 31 = .ok (.iconst 0, 1) := kDs0 kf_3 (by decide +kernel)
theorem dX4_read_32 : decode cX4_read 32 = .ok (.putfield 18, 3) := kDs2 kf_181 (by decide +kernel)
theorem dX4_read_35 : decode cX4_read 35 = .ok (.aload_n 0, 1) := kDs0 kf_42 (by decide +kernel)
theorem dX4_read_36 : decode cX4_read 36 = .ok (.iconst 0, 1) := kDs0 kf_3 (by decide +kernel)
theorem dX4_read_37 : decode cX4_read 37 = .ok (.putfield 22, 3) := kDs2 kf_181 (by decide +kernel)
theorem dX4_read_40 : decode cX4_read 40 = .ok (.aload_n 0, 1) := kDs0 kf_42 (by decide +kernel)
theorem dX4_read_41 : decode cX4_read 41 = .ok (.iconst 0, 1) := kDs0 kf_3 (by decide +kernel)
theorem dX4_read_42 : decode cX4_read 42 = .ok (.putfield 25, 3) := kDs2 kf_181 (by decide +kernel)
theorem dX4_read_45 : decode cX4_read 45 = .ok (.iconst 0, 1) := kDs0 kf_3 (by decide +kernel)
theorem dX4_read_46 : decode cX4_read 46 = .ok (.istore_n 2, 1) := kDs0 kf_61 (by decide +kernel)
theorem dX4_read_47 : decode cX4_read 47 = .ok (.iload_n 2, 1) := kDs0 kf_28 (by decide +kernel)
theorem dX4_read_48 : decode cX4_read 48 = .ok (.bipush 31, 2) := kDs3 kf_16 (by decide +kernel)
theorem dX4_read_50 : decode cX4_read 50 = .ok (.if_icmp .ge 44, 3) := kDs4 kf_162 (by decide +kernel)
theorem dX4_read_94 : decode cX4_read 94 = .ok (.aload_n 0, 1) := kDs0 kf_42 (by decide +kernel)
theorem dX4_read_95 : decode cX4_read 95 = .ok (.getfield 25, 3) := kDs2 kf_180 (by decide +kernel)
theorem dX4_read_98 : decode cX4_read 98 = .ok (.ireturn, 1) := kDs0 kf_172 (by decide +kernel)
theorem dX4_read_53 : decode cX4_read 53 = .ok (.aload_n 0, 1) := kDs0 kf_42 (by decide +kernel)
theorem dX4_read_54 : decode cX4_read 54 = .ok (.invokevirtual 49, 3) := kDs2 kf_182 (by decide +kernel)
theorem dX4_read_57 : decode cX4_read 57 = .ok (.ifCond .ne 8, 3) := kDs4 kf_154 (by decide +kernel)
theorem dX4_read_65 : decode cX4_read 65 = .ok (.aload_n 0, 1) := kDs0 kf_42 (by decide +kernel)
theorem dX4_read_66 : decode cX4_read 66 = .ok (.invokevirtual 53, 3) := kDs2 kf_182 (by decide +kernel)
theorem dX4_read_69 : decode cX4_read 69 = .ok (.ifCond .ne 5, 3) := kDs4 kf_154 (by decide +kernel)
theorem dX4_read_74 : decode cX4_read 74 = .ok (.aload_n 0, 1) := kDs0 kf_42 (by decide +kernel)
theorem dX4_read_75 : decode cX4_read 75 = .ok (.bipush 59, 2) := kDs3 kf_16 (by decide +kernel)
theorem dX4_read_77 : decode cX4_read 77 = .ok (.invokevirtual 57, 3) := kDs2 kf_182 (by decide +kernel)
theorem dX4_read_80 : decode cX4_read 80 = .ok (.ifCond .ne 8, 3) := kDs4 kf_154 (by decide +kernel)
theorem dX4_read_88 : decode cX4_read 88 = .ok (.iinc 2 1, 3) := kDs5 kf_132 (by decide +kernel)
theorem dX4_read_91 : decode cX4_read 91 = .ok (.goto (-44), 3) := kDs4 kf_167 (by decide +kernel)
theorem dX4_read_83 : decode cX4_read 83 = .ok (.aload_n 0, 1) := kDs0 kf_42 (by decide +kernel)
theorem dX4_read_84 : decode cX4_read 84 = .ok (.getfield 25, 3) := kDs2 kf_180 (by decide +kernel)
theorem dX4_read_87 : decode cX4_read 87 = .ok (.ireturn, 1) := kDs0 kf_172 (by decide +kernel)
theorem dX4_read_72 : decode cX4_read 72 = .ok (.iconst (-1), 1) := kDs0 kf_2 (by decide +kernel)
theorem dX4_read_73 : decode cX4_read 73 = .ok (.ireturn, 1) := kDs0 kf_172 (by decide +kernel)
theorem dX4_read_60 : decode cX4_read 60 = .ok (.aload_n 0, 1) := kDs0 kf_42 (by decide +kernel)
theorem dX4_read_61 : decode cX4_read 61 = .ok (.getfield 25, 3) := kDs2 kf_180 (by decide +kernel)
theorem dX4_read_64 : decode cX4_read 64 = .ok (.ireturn, 1) := kDs0 kf_172 (by decide +kernel)
def w_s_read4x_0 : List Cond := .code yX4_read cX4_read 3 (some .int) :: ([.fieldLink RX4 30 "NotEnded$Reader" "labelSigns" "Ljava/lang/String;", .fieldLink RX4 34 "NotEnded$Reader" "letterSigns" "Ljava/lang/String;", .fieldLink RX4 18 "NotEnded$Reader" "written" "I", .fieldLink RX4 22 "NotEnded$Reader" "filled" "I", .fieldLink RX4 25 "NotEnded$Reader" "place" "I", .initialized RX4, .selects RX4 yX4_readClause yX4_readClause, .instanceMethod yX4_readClause, .methodLink RX4 49 yX4_readClause, .selects RX4 yX4_look yX4_look, .instanceMethod yX4_look, .methodLink RX4 53 yX4_look, .selects RX4 yX4_take yX4_take, .instanceMethod yX4_take, .methodLink RX4 57 yX4_take] ++ (wsX40 ++ (w_s_clause4x ++ (w_s_look4x ++ (w_s_take4_59)))))
theorem gw_s_read4x_0 : (w_s_read4x_0).all goodWord = true := kGc rfl (kGa (by decide +kernel) (kGa gw_wsX40 (kGa gw_s_clause4x (kGa gw_s_look4x gw_s_take4_59))))
theorem hd_X4_read : yX4_read.cls ≠ "java/lang/invoke/MethodHandle" ∧ yX4_read.cls ≠ "java/lang/invoke/VarHandle" ∧ (parseMethodDescriptor yX4_read.desc).map (fun d => d.parameters.length) = some 1 := by decide +kernel
set_option maxHeartbeats 4000000 in
set_option maxRecDepth 100000 in
theorem s_read4x_0 (l : Launch) (dC : Nat → ClassId) (dI : Nat → Nat → Nat) (ad : Nat → Nat) (jT : Nat) (t0 : Nat) (cC : ClassId) (gT : Nat → Int32) (kt : Nat) (hkt : kt ≤ 120) (hgT : ∀ j : Nat, narrow .char (.int (gT j)) = .int (gT j)) (bt : Nat → Nat) (hbt : ∀ j : Nat, gT j = nI (bt j)) (hb8 : ∀ j : Nat, bt j < 256) (jR : Nat) (r1 : Nat) (r2 : Nat) (c1 : ClassId) (c2 : ClassId) (s1 : Nat → Int32) (s2 : Nat → Int32) (wr : Nat) (fi : Nat) (hwr : wr ≤ 120) (hfi : fi ≤ 124) (pl : Int32) (v6 : Value) (v7 : Value) (b6 : Nat) (n6 : Nat) (g6 : Nat → Int32) (hn6 : n6 ≤ 8) (b7 : Nat) (n7 : Nat) (g7 : Nat → Int32) (hn7 : n7 ≤ 8) (gn6 : ∀ k : Nat, ∃ v : Nat, v < 128 ∧ g6 k = nI v) (hz6 : kIx g6 n6 (nI 0) = n6) (gn7 : ∀ k : Nat, ∃ v : Nat, v < 128 ∧ g7 k = nI v) (hz7 : kIx g7 n7 (nI 0) = n7) (sz : Nat) : Met l yX4_read w_s_read4x_0 ({ frames := 49, cells := 0, slots := 0, locals := 2940 }) (kW dC dI [.ref jR, .int 0] [(jR, .inr (4, [.ref jT, .ref r1, .ref r2, .int (nI (wr)), .int (nI (fi)), .int pl, v6, v7])), (r1, .inl (c1, 120, .inl s1)), (r2, .inl (c2, 124, .inl s2)), (jT, .inr (8, [.ref t0, .int (nI (kt))])), (t0, .inl (cC, 120, .inl gT))] [(c1, .int), (c2, .int), (cC, .char)] (kRd ad 1 3 b6 n6 g6 b7 n7 g7 (va_A [(jR, .inr (4, [.ref jT, .ref r1, .ref r2, .int (nI (wr)), .int (nI (fi)), .int pl, v6, v7])), (r1, .inl (c1, 120, .inl s1)), (r2, .inl (c2, 124, .inl s2)), (jT, .inr (8, [.ref t0, .int (nI (kt))])), (t0, .inl (cC, 120, .inl gT))] sz)) sz) (va_Qi (fun (r : Int32) (u : (Nat → Int32) × (Nat → Int32) × Nat × Nat × Nat × Value × Value × Bool × (List Int32) × (List Int32)) => match u with | (S1, S2, Wr, Fi, Pn, V6, V7, xo, xl, xc) => (kRead bt kt g6 n6 g7 n7 = (xo, Pn, xl, xc) ∧ r = kFt xo Pn ∧ Wr ≤ 120 ∧ Fi ≤ 124 ∧ Pn ≤ kt ∧ (xo = true → Wr = xl.length ∧ S1 = kWrt s1 0 xl ∧ Fi = xc.length ∧ S2 = kWrt s2 0 xc))) (fun (u : (Nat → Int32) × (Nat → Int32) × Nat × Nat × Nat × Value × Value × Bool × (List Int32) × (List Int32)) => match u with | (S1, S2, Wr, Fi, Pn, V6, V7, xo, xl, xc) => fun t : State => kB dC dI [(jR, .inr (4, [.ref jT, .ref r1, .ref r2, .int (nI (Wr)), .int (nI (Fi)), .int (nI (Pn)), V6, V7])), (r1, .inl (c1, 120, .inl S1)), (r2, .inl (c2, 124, .inl S2)), (jT, .inr (8, [.ref t0, .int (nI (kt))])), (t0, .inl (cC, 120, .inl gT))] [(c1, .int), (c2, .int), (cC, .char)] (va_A [(jR, .inr (4, [.ref jT, .ref r1, .ref r2, .int (nI (wr)), .int (nI (fi)), .int pl, v6, v7])), (r1, .inl (c1, 120, .inl s1)), (r2, .inl (c2, 124, .inl s2)), (jT, .inr (8, [.ref t0, .int (nI (kt))])), (t0, .inl (cC, 120, .inl gT))] sz) t) (va_A [(jR, .inr (4, [.ref jT, .ref r1, .ref r2, .int (nI (wr)), .int (nI (fi)), .int pl, v6, v7])), (r1, .inl (c1, 120, .inl s1)), (r2, .inl (c2, 124, .inl s2)), (jT, .inr (8, [.ref t0, .int (nI (kt))])), (t0, .inl (cC, 120, .inl gT))] sz)) 0 0 (va_A [(jR, .inr (4, [.ref jT, .ref r1, .ref r2, .int (nI (wr)), .int (nI (fi)), .int pl, v6, v7])), (r1, .inl (c1, 120, .inl s1)), (r2, .inl (c2, 124, .inl s2)), (jT, .inr (8, [.ref t0, .int (nI (kt))])), (t0, .inl (cC, 120, .inl gT))] sz) := by
  refine Met.ofW (cc := cX4_read) (maxL := 3) (ret := (some .int)) (by decide) rfl ?_
  intro p e s m args below meth c s₁ B hml hv
  obtain ⟨rfl, hsz, hP, hK, hD0, hX⟩ := hv
  have hx := B.exec
  have hb := B.bytes
  have hr := B.returns
  have hts := atoms_spec (ws := w_s_read4x_0) B.pre
  have hown : s.vm.findClass RX4 = some m.cls := findClass_of_methodNamed B.named
  have hlocks := B.notSynchronized
  subst hsz
  have hD := hD0.self (sz := s.heap.size)
  generalize hAe : va_A [(jR, .inr (4, [.ref jT, .ref r1, .ref r2, .int (nI (wr)), .int (nI (fi)), .int pl, v6, v7])), (r1, .inl (c1, 120, .inl s1)), (r2, .inl (c2, 124, .inl s2)), (jT, .inr (8, [.ref t0, .int (nI (kt))])), (t0, .inl (cC, 120, .inl gT))] s.heap.size = A at hD hX ⊢
  have hA : ∀ q : Nat, s.heap.size ≤ q → A q := fun q h => by rw [← hAe]; exact Or.inr h
  have hS : va_S A s.heap s.heap [] := va_S.rf
  have hP : va_P (dC, dI) vwCl [(jR, .inr (4, [.ref jT, .ref r1, .ref r2, .int (nI (wr)), .int (nI (fi)), .int pl, v6, v7])), (r1, .inl (c1, 120, .inl s1)), (r2, .inl (c2, 124, .inl s2)), (jT, .inr (8, [.ref t0, .int (nI (kt))])), (t0, .inl (cC, 120, .inl gT))] s.heap := hP
  have hl := lv_entry ([.ref jR, .int 0]) (n := 3) (Nat.le_of_ble_eq_true rfl)
  rw [lg_entry_eq]
  generalize (lg_sl ([.ref jR, .int 0]) ++ List.replicate (3 - (lg_sl ([.ref jR, .int 0])).length) Slot.unset).toArray = ls at hl ⊢
  have hl : lv_has ls 3 [(0, .ref jR), (1, .int 0)] := hl
  refine kQ (fun Q hQ => ?_)
  refine lv_aload_n hx hb dX4_read_0 rfl (lv_at hl 0 rfl) ?_
  refine lv_iload_n hx hb dX4_read_1 rfl (lv_at hl 1 rfl) ?_
  refine lv_if_ne (tgt := 10) hx hb dX4_read_2 kc_t_2_8 (fun c_1 => absurd (by decide) c_1) (fun c_1 => ?_)
  refine va_ldcS hx hb hown hX.1.2.1 dX4_read_5 ?_
  refine lv_goto (tgt := 12) hx hb dX4_read_7 kc_t_7_5 ?_
  refine va_put (D := (dC, dI)) (ci := 4) (v := .ref (ad 1)) (ty := tyX4 6) (C := RX4) (T := TX4) (N := 8) hx hb hts (fun _ h => List.mem_cons_of_mem _ (List.mem_append_right _ (List.mem_append_left _ h))) tyX4 tyX4_ok nmX4 hown hK hP hD hS 0 rfl rfl 6 kc_l_6_8 (hts (.fieldLink RX4 30 "NotEnded$Reader" "labelSigns" "Ljava/lang/String;") (List.mem_cons_of_mem _ (List.mem_append_left _ (List.mem_of_getElem? (i := 0) rfl)))) (fun _ h9 => h9) rfl (tyX4_ok 6 kc_l_6_8) rfl rfl (Nat.le_of_ble_eq_true rfl) dX4_read_12 (fun H locs hP hD hS => ?_)
  have hPD : kPD dC dI A [(jR, .inr (4, [.ref jT, .ref r1, .ref r2, .int (nI (wr)), .int (nI (fi)), .int pl, .ref (ad 1), v7])), (r1, .inl (c1, 120, .inl s1)), (r2, .inl (c2, 124, .inl s2)), (jT, .inr (8, [.ref t0, .int (nI (kt))])), (t0, .inl (cC, 120, .inl gT))] H := ⟨hP, hD⟩
  have hP := hPD.1
  have hD := hPD.2
  refine lv_aload_n hx hb dX4_read_15 rfl (lv_at hl 0 rfl) ?_
  refine lv_iload_n hx hb dX4_read_16 rfl (lv_at hl 1 rfl) ?_
  refine lv_if_ne (tgt := 25) hx hb dX4_read_17 kc_t_17_8 (fun c_2 => absurd (by decide) c_2) (fun c_2 => ?_)
  refine va_ldcS hx hb hown hX.1.2.2.2.1 dX4_read_20 ?_
  refine lv_goto (tgt := 27) hx hb dX4_read_22 kc_t_22_5 ?_
  refine va_put (D := (dC, dI)) (ci := 4) (v := .ref (ad 3)) (ty := tyX4 7) (C := RX4) (T := TX4) (N := 8) hx hb hts (fun _ h => List.mem_cons_of_mem _ (List.mem_append_right _ (List.mem_append_left _ h))) tyX4 tyX4_ok nmX4 hown hK hP hD hS 0 rfl rfl 7 kc_l_7_8 (hts (.fieldLink RX4 34 "NotEnded$Reader" "letterSigns" "Ljava/lang/String;") (List.mem_cons_of_mem _ (List.mem_append_left _ (List.mem_of_getElem? (i := 1) rfl)))) (fun _ h9 => h9) rfl (tyX4_ok 7 kc_l_7_8) rfl rfl (Nat.le_of_ble_eq_true rfl) dX4_read_27 (fun H locs hP hD hS => ?_)
  have hPD : kPD dC dI A [(jR, .inr (4, [.ref jT, .ref r1, .ref r2, .int (nI (wr)), .int (nI (fi)), .int pl, .ref (ad 1), .ref (ad 3)])), (r1, .inl (c1, 120, .inl s1)), (r2, .inl (c2, 124, .inl s2)), (jT, .inr (8, [.ref t0, .int (nI (kt))])), (t0, .inl (cC, 120, .inl gT))] H := ⟨hP, hD⟩
  have hP := hPD.1
  have hD := hPD.2
  refine lv_aload_n hx hb dX4_read_30 rfl (lv_at hl 0 rfl) ?_
  refine lv_iconst (v := 0) hx hb dX4_read_31 kc_i_0 ?_
  refine va_put (D := (dC, dI)) (ci := 4) (v := .int 0) (ty := tyX4 3) (C := RX4) (T := TX4) (N := 8) hx hb hts (fun _ h => List.mem_cons_of_mem _ (List.mem_append_right _ (List.mem_append_left _ h))) tyX4 tyX4_ok nmX4 hown hK hP hD hS 0 rfl rfl 3 kc_l_3_8 (hts (.fieldLink RX4 18 "NotEnded$Reader" "written" "I") (List.mem_cons_of_mem _ (List.mem_append_left _ (List.mem_of_getElem? (i := 2) rfl)))) (fun _ h9 => h9) rfl (tyX4_ok 3 kc_l_3_8) rfl rfl (Nat.le_of_ble_eq_true rfl) dX4_read_32 (fun H locs hP hD hS => ?_)
  have hPD : kPD dC dI A [(jR, .inr (4, [.ref jT, .ref r1, .ref r2, .int 0, .int (nI (fi)), .int pl, .ref (ad 1), .ref (ad 3)])), (r1, .inl (c1, 120, .inl s1)), (r2, .inl (c2, 124, .inl s2)), (jT, .inr (8, [.ref t0, .int (nI (kt))])), (t0, .inl (cC, 120, .inl gT))] H := ⟨hP, hD⟩
  have hP := hPD.1
  have hD := hPD.2
  refine lv_aload_n hx hb dX4_read_35 rfl (lv_at hl 0 rfl) ?_
  refine lv_iconst (v := 0) hx hb dX4_read_36 kc_i_0 ?_
  refine va_put (D := (dC, dI)) (ci := 4) (v := .int 0) (ty := tyX4 4) (C := RX4) (T := TX4) (N := 8) hx hb hts (fun _ h => List.mem_cons_of_mem _ (List.mem_append_right _ (List.mem_append_left _ h))) tyX4 tyX4_ok nmX4 hown hK hP hD hS 0 rfl rfl 4 kc_l_4_8 (hts (.fieldLink RX4 22 "NotEnded$Reader" "filled" "I") (List.mem_cons_of_mem _ (List.mem_append_left _ (List.mem_of_getElem? (i := 3) rfl)))) (fun _ h9 => h9) rfl (tyX4_ok 4 kc_l_4_8) rfl rfl (Nat.le_of_ble_eq_true rfl) dX4_read_37 (fun H locs hP hD hS => ?_)
  have hPD : kPD dC dI A [(jR, .inr (4, [.ref jT, .ref r1, .ref r2, .int 0, .int 0, .int pl, .ref (ad 1), .ref (ad 3)])), (r1, .inl (c1, 120, .inl s1)), (r2, .inl (c2, 124, .inl s2)), (jT, .inr (8, [.ref t0, .int (nI (kt))])), (t0, .inl (cC, 120, .inl gT))] H := ⟨hP, hD⟩
  have hP := hPD.1
  have hD := hPD.2
  refine lv_aload_n hx hb dX4_read_40 rfl (lv_at hl 0 rfl) ?_
  refine lv_iconst (v := 0) hx hb dX4_read_41 kc_i_0 ?_
  refine va_put (D := (dC, dI)) (ci := 4) (v := .int 0) (ty := tyX4 5) (C := RX4) (T := TX4) (N := 8) hx hb hts (fun _ h => List.mem_cons_of_mem _ (List.mem_append_right _ (List.mem_append_left _ h))) tyX4 tyX4_ok nmX4 hown hK hP hD hS 0 rfl rfl 5 kc_l_5_8 (hts (.fieldLink RX4 25 "NotEnded$Reader" "place" "I") (List.mem_cons_of_mem _ (List.mem_append_left _ (List.mem_of_getElem? (i := 4) rfl)))) (fun _ h9 => h9) rfl (tyX4_ok 5 kc_l_5_8) rfl rfl (Nat.le_of_ble_eq_true rfl) dX4_read_42 (fun H locs hP hD hS => ?_)
  have hPD : kPD dC dI A [(jR, .inr (4, [.ref jT, .ref r1, .ref r2, .int 0, .int 0, .int 0, .ref (ad 1), .ref (ad 3)])), (r1, .inl (c1, 120, .inl s1)), (r2, .inl (c2, 124, .inl s2)), (jT, .inr (8, [.ref t0, .int (nI (kt))])), (t0, .inl (cC, 120, .inl gT))] H := ⟨hP, hD⟩
  have hP := hPD.1
  have hD := hPD.2
  refine lv_iconst (v := 0) hx hb dX4_read_45 kc_i_0 ?_
  refine lv_istore_n hx hb dX4_read_46 rfl hl kc_l_2_3 (kTo [(2, .int 0), (0, .ref jR), (1, .int 0)]) (fun ls hl => ?_)
  have lp_k_3 : ∀ (n9 : Nat) (i : Nat) (xs1 : Nat → Int32) (xs2 : Nat → Int32) (xpn : Nat) (xwr : Nat) (xfi : Nat) (xl : List Int32) (xc : List Int32) (ivk_3_0 : i ≤ 31) (ivk_3_1 : kRdL bt kt g6 n6 g7 n7 (31 - i) xpn xl xc = kRead bt kt g6 n6 g7 n7) (ivk_3_2 : xwr = xl.length) (ivk_3_3 : xs1 = kWrt s1 0 xl) (ivk_3_4 : xfi = 4 * i) (ivk_3_5 : xs2 = kWrt s2 0 xc) (ivk_3_6 : xfi = xc.length) (ivk_3_7 : (xwr ≤ xpn ∧ xpn ≤ kt)) (H : Heap) (locs : List Loc) (_ : va_P (dC, dI) vwCl [(jR, .inr (4, [.ref jT, .ref r1, .ref r2, .int (nI (xwr)), .int (nI (xfi)), .int (nI (xpn)), .ref (ad 1), .ref (ad 3)])), (r1, .inl (c1, 120, .inl xs1)), (r2, .inl (c2, 124, .inl xs2)), (jT, .inr (8, [.ref t0, .int (nI (kt))])), (t0, .inl (cC, 120, .inl gT))] H) (_ : va_D A [(jR, .inr (4, [.ref jT, .ref r1, .ref r2, .int (nI (xwr)), .int (nI (xfi)), .int (nI (xpn)), .ref (ad 1), .ref (ad 3)])), (r1, .inl (c1, 120, .inl xs1)), (r2, .inl (c2, 124, .inl xs2)), (jT, .inr (8, [.ref t0, .int (nI (kt))])), (t0, .inl (cC, 120, .inl gT))]) (_ : va_S A s.heap H locs) (ls : Array Slot) (_ : lv_has ls 3 [(2, .int (nI (i))), (0, .ref jR), (1, .int 0)]) (_ : 31 - i < n9), W p l e (headSpec w_s_read4x_0 ({ frames := 49, cells := 0, slots := 0, locals := 2940 })).room s m (#[.ref jR, .int 0] : Array Value) below meth c H locs 0 0 Q (F0 m 47 ls []) := by
    intro n9
    induction n9 with
    | zero => intro i xs1 xs2 xpn xwr xfi xl xc ivk_3_0 ivk_3_1 ivk_3_2 ivk_3_3 ivk_3_4 ivk_3_5 ivk_3_6 ivk_3_7 H locs hP hD hS ls hl hm9; exact absurd hm9 (Nat.not_lt_zero _)
    | succ n9 ih_k_3 =>
      intro i xs1 xs2 xpn xwr xfi xl xc ivk_3_0 ivk_3_1 ivk_3_2 ivk_3_3 ivk_3_4 ivk_3_5 ivk_3_6 ivk_3_7 H locs hP hD hS ls hl hm9
      refine lv_iload_n hx hb dX4_read_47 rfl (lv_at hl 0 rfl) ?_
      refine lv_bipush (v := 31) hx hb dX4_read_48 kc_b_31 ?_
      refine lv_icmp_ge (tgt := 94) hx hb dX4_read_50 kc_t_50_44 (fun c_4 => ?_) (fun c_4 => ?_)
      · have bd_6 : i < 2147483648 := by omega
        have hn_5 := kle (a := 31) (b := i) kc_31_31 bd_6 c_4
        refine lv_aload_n hx hb dX4_read_94 rfl (lv_at hl 1 rfl) ?_
        refine va_get (D := (dC, dI)) (ci := 4) (v := .int (nI (xpn))) (C := RX4) (T := TX4) (N := 8) hx hb hts (fun _ h => List.mem_cons_of_mem _ (List.mem_append_right _ (List.mem_append_left _ h))) hown hK hP 0 rfl rfl 5 kc_l_5_8 (hts (.fieldLink RX4 25 "NotEnded$Reader" "place" "I") (List.mem_cons_of_mem _ (List.mem_append_left _ (List.mem_of_getElem? (i := 4) rfl)))) (fun _ h9 => h9) rfl dX4_read_95 ?_
        have hP9 := hP
        have hD9 := hD
        have hK9 := hK
        rw [hQ]
        exact W.iret (v := nI (xpn)) hx hb hr (fun t ht hW => ⟨⟨nI (xpn), (xs1, xs2, xwr, xfi, xpn, (.ref (ad 1) : Value), (.ref (ad 3) : Value), false, ([]), ([])), rfl, ⟨(by rw [← ivk_3_1, show 31 - i = 0 by omega]; rfl), rfl, by omega, by omega, by omega, fun z => absurd z (by decide)⟩,  by rw [ht]; exact hP9, va_K.moved hW.alike hK9, hD9⟩, hS.F ht⟩) hS.2.2 dX4_read_98
      · have bd_8 : i < 2147483648 := by omega
        have hn_7 := knle (a := 31) (b := i) kc_31_31 bd_8 c_4
        refine lv_aload_n hx hb dX4_read_53 rfl (lv_at hl 1 rfl) ?_
        have bd_9 : xwr ≤ 120 := by omega
        have bd_10 : xfi ≤ 124 := by omega
        have bd_11 : xpn ≤ kt := by omega
        have bd_12 : xwr ≤ xpn := by omega
        have bd_13 : xfi ≤ 120 := by omega
        have hCu := kCut (wc := [(jR, .inr (4, [.ref jT, .ref r1, .ref r2, .int (nI (xwr)), .int (nI (xfi)), .int (nI (xpn)), .ref (ad 1), .ref (ad 3)])), (r1, .inl (c1, 120, .inl xs1)), (r2, .inl (c2, 124, .inl xs2)), (jT, .inr (8, [.ref t0, .int (nI (kt))])), (t0, .inl (cC, 120, .inl gT))]) hP hD hS hA [0, 1, 2, 3, 4] rfl kc_nd_311 rfl
        have hPc := hCu.1
        have hDc := hCu.2.1
        have hFc := hCu.2.2
        have hKc := hK.sb (tys2 := [(c1, .int), (c2, .int), (cC, .char)]) [0, 1, 2] rfl
        refine va_calli (va_runV (As := []) (rest := []) ⟨hx, hb, hml, hown, hts⟩ (s_clause4x l dC dI jT t0 cC gT kt hkt hgT bt hbt hb8 jR r1 r2 c1 c2 xs1 xs2 xwr xfi (ad 1) (ad 3) bd_9 bd_10 xpn bd_11 bd_12 b6 n6 g6 hn6 b7 n7 g7 hn7 gn6 hz6 gn7 hz7 bd_13 H.size) (cwV 0 hts (kG (List.forall_mem_cons.mpr ⟨(List.mem_cons_of_mem _ (List.mem_append_left _ (List.mem_of_getElem? (i := 8) rfl))), (List.forall_mem_cons.mpr ⟨(List.mem_cons_of_mem _ (List.mem_append_left _ (List.mem_of_getElem? (i := 7) rfl))), (List.forall_mem_cons.mpr ⟨(List.mem_cons_of_mem _ (List.mem_append_left _ (List.mem_of_getElem? (i := 6) rfl))), (List.forall_mem_cons.mpr ⟨(List.mem_cons_of_mem _ (List.mem_append_left _ (List.mem_of_getElem? (i := 5) rfl))), (fun _ h => absurd h List.not_mem_nil)⟩)⟩)⟩)⟩) (kGV _ _ _ _) (fun _ h => List.mem_cons_of_mem _ (List.mem_append_right _ (List.mem_append_right _ (List.mem_append_left _ h)))) gw_s_clause4x) rfl rfl rfl ⟨rfl, hd_X4_readClause⟩ ⟨(Nat.le_of_ble_eq_true rfl), (Nat.le_of_ble_eq_true rfl)⟩) (kW_V kS2_blind (kS2_give hX.2 hS hFc) (va_recv hKc hPc (ci := 4) (q0 := 0) rfl rfl) hPc hKc hDc) rfl rfl hl.1 rfl (lv_room (Nat.le_of_ble_eq_true rfl)) dX4_read_54 ⟨(Nat.le_of_ble_eq_true rfl), (Nat.le_of_ble_eq_true rfl)⟩) hS (fun q _ h => hFc q h) hFc (fun r_14 => kU9 (fun S1_15 S2_16 Wr_17 Fi_18 Pn_19 xo_20 xl_21 xj_22 xk_23 t H_24 locs ht hvm hw hB hz1 hk1 hS => ?_))
        try dsimp only at hw
        have hPD : kPD dC dI A [(jR, .inr (4, [.ref jT, .ref r1, .ref r2, .int (nI (Wr_17)), .int (nI (Fi_18)), .int (nI (Pn_19)), .ref (ad 1), .ref (ad 3)])), (r1, .inl (c1, 120, .inl S1_15)), (r2, .inl (c2, 124, .inl S2_16)), (jT, .inr (8, [.ref t0, .int (nI (kt))])), (t0, .inl (cC, 120, .inl gT))] H_24 := kJoinX hP hD [0, 1, 2, 3, 4] rfl hk1 hFc hB.1 ht hB.2.2 rfl [some 0, some 1, some 2, some 3, some 4] rfl rfl
        have hP := hPD.1
        have hD := hPD.2
        have hw_25 := hw
        have hw_25_k := hw_25.2.2.1
        have hw_25_w := hw_25.2.2.2.1
        have hw_25_i := hw_25.2.2.2.2.1
        refine lv_if_ne (tgt := 65) hx hb dX4_read_57 kc_t_57_8 (fun c_26 => ?_) (fun c_26 => ?_)
        · obtain rfl : xo_20 = true := kBo_t (kNz9 hw_25.1 c_26)
          obtain ⟨hw_25_W, hw_25_S, hw_25_F, hw_25_C, hw_25_l, hw_25_p⟩ := hw_25.2.2.2.2.2 rfl
          refine lv_aload_n hx hb dX4_read_65 rfl (lv_at hl 1 rfl) ?_
          have bd_27 : Wr_17 ≤ 120 := by omega
          have bd_28 : Fi_18 ≤ 124 := by omega
          have bd_29 : Pn_19 ≤ kt := by omega
          have hCu := kCut (wc := [(jR, .inr (4, [.ref jT, .ref r1, .ref r2, .int (nI (Wr_17)), .int (nI (Fi_18)), .int (nI (Pn_19)), .ref (ad 1), .ref (ad 3)])), (r1, .inl (c1, 120, .inl S1_15)), (r2, .inl (c2, 124, .inl S2_16)), (jT, .inr (8, [.ref t0, .int (nI (kt))])), (t0, .inl (cC, 120, .inl gT))]) hP hD hS hA [0, 1, 2, 3, 4] rfl kc_nd_311 rfl
          have hPc := hCu.1
          have hDc := hCu.2.1
          have hFc := hCu.2.2
          have hKc := hK.sb (tys2 := [(c1, .int), (c2, .int), (cC, .char)]) [0, 1, 2] rfl
          refine va_calli (va_runV (As := []) (rest := []) ⟨hx, hb, hml, hown, hts⟩ (s_look4x l dC dI jT t0 cC gT kt hkt hgT bt hbt hb8 jR r1 r2 c1 c2 S1_15 S2_16 Wr_17 Fi_18 (ad 1) (ad 3) bd_27 bd_28 Pn_19 bd_29 H_24.size) (cwV 0 hts (kG (List.forall_mem_cons.mpr ⟨(List.mem_cons_of_mem _ (List.mem_append_left _ (List.mem_of_getElem? (i := 11) rfl))), (List.forall_mem_cons.mpr ⟨(List.mem_cons_of_mem _ (List.mem_append_left _ (List.mem_of_getElem? (i := 10) rfl))), (List.forall_mem_cons.mpr ⟨(List.mem_cons_of_mem _ (List.mem_append_left _ (List.mem_of_getElem? (i := 9) rfl))), (List.forall_mem_cons.mpr ⟨(List.mem_cons_of_mem _ (List.mem_append_left _ (List.mem_of_getElem? (i := 5) rfl))), (fun _ h => absurd h List.not_mem_nil)⟩)⟩)⟩)⟩) (kGV _ _ _ _) (fun _ h => List.mem_cons_of_mem _ (List.mem_append_right _ (List.mem_append_right _ (List.mem_append_right _ (List.mem_append_left _ h))))) gw_s_look4x) rfl rfl rfl ⟨rfl, hd_X4_look⟩ ⟨(Nat.le_of_ble_eq_true rfl), (Nat.le_of_ble_eq_true rfl)⟩) (kW_V kT_blind kT_give (va_recv hKc hPc (ci := 4) (q0 := 0) rfl rfl) hPc hKc hDc) rfl rfl hl.1 rfl (lv_room (Nat.le_of_ble_eq_true rfl)) dX4_read_66 ⟨(Nat.le_of_ble_eq_true rfl), (Nat.le_of_ble_eq_true rfl)⟩) hS (fun q _ h => hFc q h) hFc (fun r_30 => kU2 (fun Pn_31 ch_32 t H_33 locs ht hvm hw hB hz1 hk1 hS => ?_))
          try dsimp only at hw
          have hPD : kPD dC dI A [(jR, .inr (4, [.ref jT, .ref r1, .ref r2, .int (nI (Wr_17)), .int (nI (Fi_18)), .int (nI (Pn_31)), .ref (ad 1), .ref (ad 3)])), (r1, .inl (c1, 120, .inl S1_15)), (r2, .inl (c2, 124, .inl S2_16)), (jT, .inr (8, [.ref t0, .int (nI (kt))])), (t0, .inl (cC, 120, .inl gT))] H_33 := kJoinX hP hD [0, 1, 2, 3, 4] rfl hk1 hFc hB.1 ht hB.2.2 rfl [some 0, some 1, some 2, some 3, some 4] rfl rfl
          have hP := hPD.1
          have hD := hPD.2
          obtain ⟨rfl, hw_34_0, hw_34_1, hw_34_2, hw_34_3, hw_34_4, hw_34_5, hw_34_6⟩ := hw
          refine lv_if_ne (tgt := 74) hx hb dX4_read_69 kc_t_69_5 (fun c_35 => ?_) (fun c_35 => ?_)
          · have bd_37 : ch_32 < 2147483648 := by omega
            have hn_36 := kneq (a := ch_32) (b := 0) bd_37 kc_31_0 c_35
            refine lv_aload_n hx hb dX4_read_74 rfl (lv_at hl 1 rfl) ?_
            refine lv_bipush (v := 59) hx hb dX4_read_75 kc_b_59 ?_
            have bd_38 : Pn_31 ≤ kt := by omega
            have hCu := kCut (wc := [(jR, .inr (4, [.ref jT, .ref r1, .ref r2, .int (nI (Wr_17)), .int (nI (Fi_18)), .int (nI (Pn_31)), .ref (ad 1), .ref (ad 3)])), (r1, .inl (c1, 120, .inl S1_15)), (r2, .inl (c2, 124, .inl S2_16)), (jT, .inr (8, [.ref t0, .int (nI (kt))])), (t0, .inl (cC, 120, .inl gT))]) hP hD hS hA [0, 1, 2, 3, 4] rfl kc_nd_311 rfl
            have hPc := hCu.1
            have hDc := hCu.2.1
            have hFc := hCu.2.2
            have hKc := hK.sb (tys2 := [(c1, .int), (c2, .int), (cC, .char)]) [0, 1, 2] rfl
            refine va_calli (va_runV (As := [.int 59]) (rest := []) ⟨hx, hb, hml, hown, hts⟩ (s_take4_59 l dC dI jT t0 cC gT kt hkt hgT bt hbt hb8 jR r1 r2 c1 c2 S1_15 S2_16 Wr_17 Fi_18 (ad 1) (ad 3) bd_27 bd_28 Pn_31 bd_38 H_33.size) (cwV 1 hts (kG (List.forall_mem_cons.mpr ⟨(List.mem_cons_of_mem _ (List.mem_append_left _ (List.mem_of_getElem? (i := 14) rfl))), (List.forall_mem_cons.mpr ⟨(List.mem_cons_of_mem _ (List.mem_append_left _ (List.mem_of_getElem? (i := 13) rfl))), (List.forall_mem_cons.mpr ⟨(List.mem_cons_of_mem _ (List.mem_append_left _ (List.mem_of_getElem? (i := 12) rfl))), (List.forall_mem_cons.mpr ⟨(List.mem_cons_of_mem _ (List.mem_append_left _ (List.mem_of_getElem? (i := 5) rfl))), (fun _ h => absurd h List.not_mem_nil)⟩)⟩)⟩)⟩) (kGV _ _ _ _) (fun _ h => List.mem_cons_of_mem _ (List.mem_append_right _ (List.mem_append_right _ (List.mem_append_right _ (List.mem_append_right _ h))))) gw_s_take4_59) rfl rfl rfl ⟨rfl, hd_X4_take⟩ ⟨(Nat.le_of_ble_eq_true rfl), (Nat.le_of_ble_eq_true rfl)⟩) (kW_V kT_blind kT_give (va_recv hKc hPc (ci := 4) (q0 := 0) rfl rfl) hPc hKc hDc) rfl rfl hl.1 rfl (lv_room (Nat.le_of_ble_eq_true rfl)) dX4_read_77 ⟨(Nat.le_of_ble_eq_true rfl), (Nat.le_of_ble_eq_true rfl)⟩) hS (fun q _ h => hFc q h) hFc (fun r_39 => kU2 (fun Pn_40 xo_41 t H_42 locs ht hvm hw hB hz1 hk1 hS => ?_))
            try dsimp only at hw
            have hPD : kPD dC dI A [(jR, .inr (4, [.ref jT, .ref r1, .ref r2, .int (nI (Wr_17)), .int (nI (Fi_18)), .int (nI (Pn_40)), .ref (ad 1), .ref (ad 3)])), (r1, .inl (c1, 120, .inl S1_15)), (r2, .inl (c2, 124, .inl S2_16)), (jT, .inr (8, [.ref t0, .int (nI (kt))])), (t0, .inl (cC, 120, .inl gT))] H_42 := kJoinX hP hD [0, 1, 2, 3, 4] rfl hk1 hFc hB.1 ht hB.2.2 rfl [some 0, some 1, some 2, some 3, some 4] rfl rfl
            have hP := hPD.1
            have hD := hPD.2
            have hw_43 := hw
            have hw_43_z := kTk_at (by omega) hw_34_1 hw_43.2.1
            have hw_43_k := hw_43.2.2.2.1
            refine lv_if_ne (tgt := 88) hx hb dX4_read_80 kc_t_80_8 (fun c_44 => ?_) (fun c_44 => ?_)
            · obtain rfl : xo_41 = true := kBo_t (kNz9 hw_43.1 c_44)
              obtain ⟨hw_43_c, hw_43_P⟩ := hw_43_z.1 rfl
              refine lv_iinc (v := nI (i + 1)) hx hb dX4_read_88 hl (k := 0) rfl (kInc _ 1) kc_l_2_3 (kTo [(2, .int (nI (i + 1))), (0, .ref jR), (1, .int 0)]) (fun ls hl => ?_)
              refine lv_goto (tgt := 47) hx hb dX4_read_91 kc_t_91_m44 ?_
              exact ih_k_3 (i + 1) S1_15 S2_16 Pn_40 Wr_17 Fi_18 (xl ++ xl_21) (xc ++ [nI xj_22, nI xl.length, nI (xl.length + xk_23), nI (xl.length + xl_21.length)]) (by omega) (by rw [← ivk_3_1, show 31 - i = (31 - (i + 1)) + 1 by omega, kRdL_t hw_25.2.1, kRdA_s hw_43_c, ← hw_34_1, ← hw_43_P]) (by rw [List.length_append]; omega) (kWrtN ivk_3_3 ivk_3_2 hw_25_S) (by omega) (kWrtN ivk_3_5 ivk_3_6 (by rw [hw_25_C, ivk_3_2])) (by rw [List.length_append]; show _ = _ + 4; omega) (by omega) _ _ hP hD hS ls (lv_sub hl [0, 1, 2] rfl) (by omega)
            · obtain rfl : xo_41 = false := kBo_f (kZr9 hw_43.1 c_44)
              obtain ⟨hw_43_c, hw_43_P⟩ := hw_43_z.2 rfl
              refine lv_aload_n hx hb dX4_read_83 rfl (lv_at hl 1 rfl) ?_
              refine va_get (D := (dC, dI)) (ci := 4) (v := .int (nI (Pn_40))) (C := RX4) (T := TX4) (N := 8) hx hb hts (fun _ h => List.mem_cons_of_mem _ (List.mem_append_right _ (List.mem_append_left _ h))) hown hK hP 0 rfl rfl 5 kc_l_5_8 (hts (.fieldLink RX4 25 "NotEnded$Reader" "place" "I") (List.mem_cons_of_mem _ (List.mem_append_left _ (List.mem_of_getElem? (i := 4) rfl)))) (fun _ h9 => h9) rfl dX4_read_84 ?_
              have hP9 := hP
              have hD9 := hD
              have hK9 := hK
              rw [hQ]
              exact W.iret (v := nI (Pn_40)) hx hb hr (fun t ht hW => ⟨⟨nI (Pn_40), (S1_15, S2_16, Wr_17, Fi_18, Pn_40, (.ref (ad 1) : Value), (.ref (ad 3) : Value), false, ([]), ([])), rfl, ⟨(by rw [← ivk_3_1, show 31 - i = (30 - i) + 1 by omega, kRdL_t hw_25.2.1, kRdA_f (by rw [← hw_34_0]; omega) hw_43_c, ← hw_34_1, ← hw_43_P]), rfl, by omega, by omega, by omega, fun z => absurd z (by decide)⟩,  by rw [ht]; exact hP9, va_K.moved hW.alike hK9, hD9⟩, hS.F ht⟩) hS.2.2 dX4_read_87
          · have bd_46 : ch_32 < 2147483648 := by omega
            have hn_45 := keq (a := ch_32) (b := 0) bd_46 kc_31_0 c_35
            refine lv_iconst (v := (-1)) hx hb dX4_read_72 kc_i_m1 ?_
            have hP9 := hP
            have hD9 := hD
            have hK9 := hK
            rw [hQ]
            exact W.iret (v := (-1)) hx hb hr (fun t ht hW => ⟨⟨(-1), (S1_15, S2_16, Wr_17, Fi_18, Pn_31, (.ref (ad 1) : Value), (.ref (ad 3) : Value), true, (xl ++ xl_21), (xc ++ [nI xj_22, nI xl.length, nI (xl.length + xk_23), nI (xl.length + xl_21.length)])), rfl, ⟨(by rw [← ivk_3_1, show 31 - i = (30 - i) + 1 by omega, kRdL_t hw_25.2.1, kRdA_0 (by rw [← hw_34_0]; omega), ← hw_34_1]), rfl, by omega, by omega, by omega, fun _ => ⟨by rw [List.length_append]; omega, kWrtN ivk_3_3 ivk_3_2 hw_25_S, by rw [List.length_append]; show _ = _ + 4; omega, kWrtN ivk_3_5 ivk_3_6 (by rw [hw_25_C, ivk_3_2])⟩⟩,  by rw [ht]; exact hP9, va_K.moved hW.alike hK9, hD9⟩, hS.F ht⟩) hS.2.2 dX4_read_73
        · obtain rfl : xo_20 = false := kBo_f (kZr9 hw_25.1 c_26)
          refine lv_aload_n hx hb dX4_read_60 rfl (lv_at hl 1 rfl) ?_
          refine va_get (D := (dC, dI)) (ci := 4) (v := .int (nI (Pn_19))) (C := RX4) (T := TX4) (N := 8) hx hb hts (fun _ h => List.mem_cons_of_mem _ (List.mem_append_right _ (List.mem_append_left _ h))) hown hK hP 0 rfl rfl 5 kc_l_5_8 (hts (.fieldLink RX4 25 "NotEnded$Reader" "place" "I") (List.mem_cons_of_mem _ (List.mem_append_left _ (List.mem_of_getElem? (i := 4) rfl)))) (fun _ h9 => h9) rfl dX4_read_61 ?_
          have hP9 := hP
          have hD9 := hD
          have hK9 := hK
          rw [hQ]
          exact W.iret (v := nI (Pn_19)) hx hb hr (fun t ht hW => ⟨⟨nI (Pn_19), (S1_15, S2_16, Wr_17, Fi_18, Pn_19, (.ref (ad 1) : Value), (.ref (ad 3) : Value), false, ([]), ([])), rfl, ⟨(by rw [← ivk_3_1, show 31 - i = (30 - i) + 1 by omega]; exact kRdL_f hw_25.2.1), rfl, by omega, by omega, by omega, fun z => absurd z (by decide)⟩,  by rw [ht]; exact hP9, va_K.moved hW.alike hK9, hD9⟩, hS.F ht⟩) hS.2.2 dX4_read_64
  exact lp_k_3 (31 - 0 + 1) 0 s1 s2 0 0 0 ([]) ([]) (by omega) rfl rfl rfl (by omega) rfl rfl (by omega) _ _ hP hD hS ls (lv_sub hl [0, 1, 2] rfl) (by omega)

theorem dX4_read_10 : decode cX4_read 10 = .ok (.ldc 43, 2) := kDs1 kf_18 (by decide +kernel)
theorem dX4_read_25 : decode cX4_read 25 = .ok (.ldc 47, 2) := kDs1 kf_18 (by decide +kernel)
def w_s_read4x_1 : List Cond := .code yX4_read cX4_read 3 (some .int) :: ([.fieldLink RX4 30 "NotEnded$Reader" "labelSigns" "Ljava/lang/String;", .fieldLink RX4 34 "NotEnded$Reader" "letterSigns" "Ljava/lang/String;", .fieldLink RX4 18 "NotEnded$Reader" "written" "I", .fieldLink RX4 22 "NotEnded$Reader" "filled" "I", .fieldLink RX4 25 "NotEnded$Reader" "place" "I", .initialized RX4, .selects RX4 yX4_readClause yX4_readClause, .instanceMethod yX4_readClause, .methodLink RX4 49 yX4_readClause, .selects RX4 yX4_look yX4_look, .instanceMethod yX4_look, .methodLink RX4 53 yX4_look, .selects RX4 yX4_take yX4_take, .instanceMethod yX4_take, .methodLink RX4 57 yX4_take] ++ (wsX40 ++ (w_s_clause4x ++ (w_s_look4x ++ (w_s_take4_59)))))
theorem gw_s_read4x_1 : (w_s_read4x_1).all goodWord = true := kGc rfl (kGa (by decide +kernel) (kGa gw_wsX40 (kGa gw_s_clause4x (kGa gw_s_look4x gw_s_take4_59))))
set_option maxHeartbeats 4000000 in
set_option maxRecDepth 100000 in
theorem s_read4x_1 (l : Launch) (dC : Nat → ClassId) (dI : Nat → Nat → Nat) (ad : Nat → Nat) (jT : Nat) (t0 : Nat) (cC : ClassId) (gT : Nat → Int32) (kt : Nat) (hkt : kt ≤ 120) (hgT : ∀ j : Nat, narrow .char (.int (gT j)) = .int (gT j)) (bt : Nat → Nat) (hbt : ∀ j : Nat, gT j = nI (bt j)) (hb8 : ∀ j : Nat, bt j < 256) (jR : Nat) (r1 : Nat) (r2 : Nat) (c1 : ClassId) (c2 : ClassId) (s1 : Nat → Int32) (s2 : Nat → Int32) (wr : Nat) (fi : Nat) (hwr : wr ≤ 120) (hfi : fi ≤ 124) (pl : Int32) (v6 : Value) (v7 : Value) (b6 : Nat) (n6 : Nat) (g6 : Nat → Int32) (hn6 : n6 ≤ 8) (b7 : Nat) (n7 : Nat) (g7 : Nat → Int32) (hn7 : n7 ≤ 8) (gn6 : ∀ k : Nat, ∃ v : Nat, v < 128 ∧ g6 k = nI v) (hz6 : kIx g6 n6 (nI 0) = n6) (gn7 : ∀ k : Nat, ∃ v : Nat, v < 128 ∧ g7 k = nI v) (hz7 : kIx g7 n7 (nI 0) = n7) (sz : Nat) : Met l yX4_read w_s_read4x_1 ({ frames := 49, cells := 0, slots := 0, locals := 2940 }) (kW dC dI [.ref jR, .int 1] [(jR, .inr (4, [.ref jT, .ref r1, .ref r2, .int (nI (wr)), .int (nI (fi)), .int pl, v6, v7])), (r1, .inl (c1, 120, .inl s1)), (r2, .inl (c2, 124, .inl s2)), (jT, .inr (8, [.ref t0, .int (nI (kt))])), (t0, .inl (cC, 120, .inl gT))] [(c1, .int), (c2, .int), (cC, .char)] (kRd ad 2 4 b6 n6 g6 b7 n7 g7 (va_A [(jR, .inr (4, [.ref jT, .ref r1, .ref r2, .int (nI (wr)), .int (nI (fi)), .int pl, v6, v7])), (r1, .inl (c1, 120, .inl s1)), (r2, .inl (c2, 124, .inl s2)), (jT, .inr (8, [.ref t0, .int (nI (kt))])), (t0, .inl (cC, 120, .inl gT))] sz)) sz) (va_Qi (fun (r : Int32) (u : (Nat → Int32) × (Nat → Int32) × Nat × Nat × Nat × Value × Value × Bool × (List Int32) × (List Int32)) => match u with | (S1, S2, Wr, Fi, Pn, V6, V7, xo, xl, xc) => (kRead bt kt g6 n6 g7 n7 = (xo, Pn, xl, xc) ∧ r = kFt xo Pn ∧ Wr ≤ 120 ∧ Fi ≤ 124 ∧ Pn ≤ kt ∧ (xo = true → Wr = xl.length ∧ S1 = kWrt s1 0 xl ∧ Fi = xc.length ∧ S2 = kWrt s2 0 xc))) (fun (u : (Nat → Int32) × (Nat → Int32) × Nat × Nat × Nat × Value × Value × Bool × (List Int32) × (List Int32)) => match u with | (S1, S2, Wr, Fi, Pn, V6, V7, xo, xl, xc) => fun t : State => kB dC dI [(jR, .inr (4, [.ref jT, .ref r1, .ref r2, .int (nI (Wr)), .int (nI (Fi)), .int (nI (Pn)), V6, V7])), (r1, .inl (c1, 120, .inl S1)), (r2, .inl (c2, 124, .inl S2)), (jT, .inr (8, [.ref t0, .int (nI (kt))])), (t0, .inl (cC, 120, .inl gT))] [(c1, .int), (c2, .int), (cC, .char)] (va_A [(jR, .inr (4, [.ref jT, .ref r1, .ref r2, .int (nI (wr)), .int (nI (fi)), .int pl, v6, v7])), (r1, .inl (c1, 120, .inl s1)), (r2, .inl (c2, 124, .inl s2)), (jT, .inr (8, [.ref t0, .int (nI (kt))])), (t0, .inl (cC, 120, .inl gT))] sz) t) (va_A [(jR, .inr (4, [.ref jT, .ref r1, .ref r2, .int (nI (wr)), .int (nI (fi)), .int pl, v6, v7])), (r1, .inl (c1, 120, .inl s1)), (r2, .inl (c2, 124, .inl s2)), (jT, .inr (8, [.ref t0, .int (nI (kt))])), (t0, .inl (cC, 120, .inl gT))] sz)) 0 0 (va_A [(jR, .inr (4, [.ref jT, .ref r1, .ref r2, .int (nI (wr)), .int (nI (fi)), .int pl, v6, v7])), (r1, .inl (c1, 120, .inl s1)), (r2, .inl (c2, 124, .inl s2)), (jT, .inr (8, [.ref t0, .int (nI (kt))])), (t0, .inl (cC, 120, .inl gT))] sz) := by
  refine Met.ofW (cc := cX4_read) (maxL := 3) (ret := (some .int)) (by decide) rfl ?_
  intro p e s m args below meth c s₁ B hml hv
  obtain ⟨rfl, hsz, hP, hK, hD0, hX⟩ := hv
  have hx := B.exec
  have hb := B.bytes
  have hr := B.returns
  have hts := atoms_spec (ws := w_s_read4x_1) B.pre
  have hown : s.vm.findClass RX4 = some m.cls := findClass_of_methodNamed B.named
  have hlocks := B.notSynchronized
  subst hsz
  have hD := hD0.self (sz := s.heap.size)
  generalize hAe : va_A [(jR, .inr (4, [.ref jT, .ref r1, .ref r2, .int (nI (wr)), .int (nI (fi)), .int pl, v6, v7])), (r1, .inl (c1, 120, .inl s1)), (r2, .inl (c2, 124, .inl s2)), (jT, .inr (8, [.ref t0, .int (nI (kt))])), (t0, .inl (cC, 120, .inl gT))] s.heap.size = A at hD hX ⊢
  have hA : ∀ q : Nat, s.heap.size ≤ q → A q := fun q h => by rw [← hAe]; exact Or.inr h
  have hS : va_S A s.heap s.heap [] := va_S.rf
  have hP : va_P (dC, dI) vwCl [(jR, .inr (4, [.ref jT, .ref r1, .ref r2, .int (nI (wr)), .int (nI (fi)), .int pl, v6, v7])), (r1, .inl (c1, 120, .inl s1)), (r2, .inl (c2, 124, .inl s2)), (jT, .inr (8, [.ref t0, .int (nI (kt))])), (t0, .inl (cC, 120, .inl gT))] s.heap := hP
  have hl := lv_entry ([.ref jR, .int 1]) (n := 3) (Nat.le_of_ble_eq_true rfl)
  rw [lg_entry_eq]
  generalize (lg_sl ([.ref jR, .int 1]) ++ List.replicate (3 - (lg_sl ([.ref jR, .int 1])).length) Slot.unset).toArray = ls at hl ⊢
  have hl : lv_has ls 3 [(0, .ref jR), (1, .int 1)] := hl
  refine kQ (fun Q hQ => ?_)
  refine lv_aload_n hx hb dX4_read_0 rfl (lv_at hl 0 rfl) ?_
  refine lv_iload_n hx hb dX4_read_1 rfl (lv_at hl 1 rfl) ?_
  refine lv_if_ne (tgt := 10) hx hb dX4_read_2 kc_t_2_8 (fun c_1 => ?_) (fun c_1 => absurd c_1 (by decide))
  refine va_ldcS hx hb hown hX.1.2.2.1 dX4_read_10 ?_
  refine va_put (D := (dC, dI)) (ci := 4) (v := .ref (ad 2)) (ty := tyX4 6) (C := RX4) (T := TX4) (N := 8) hx hb hts (fun _ h => List.mem_cons_of_mem _ (List.mem_append_right _ (List.mem_append_left _ h))) tyX4 tyX4_ok nmX4 hown hK hP hD hS 0 rfl rfl 6 kc_l_6_8 (hts (.fieldLink RX4 30 "NotEnded$Reader" "labelSigns" "Ljava/lang/String;") (List.mem_cons_of_mem _ (List.mem_append_left _ (List.mem_of_getElem? (i := 0) rfl)))) (fun _ h9 => h9) rfl (tyX4_ok 6 kc_l_6_8) rfl rfl (Nat.le_of_ble_eq_true rfl) dX4_read_12 (fun H locs hP hD hS => ?_)
  have hPD : kPD dC dI A [(jR, .inr (4, [.ref jT, .ref r1, .ref r2, .int (nI (wr)), .int (nI (fi)), .int pl, .ref (ad 2), v7])), (r1, .inl (c1, 120, .inl s1)), (r2, .inl (c2, 124, .inl s2)), (jT, .inr (8, [.ref t0, .int (nI (kt))])), (t0, .inl (cC, 120, .inl gT))] H := ⟨hP, hD⟩
  have hP := hPD.1
  have hD := hPD.2
  refine lv_aload_n hx hb dX4_read_15 rfl (lv_at hl 0 rfl) ?_
  refine lv_iload_n hx hb dX4_read_16 rfl (lv_at hl 1 rfl) ?_
  refine lv_if_ne (tgt := 25) hx hb dX4_read_17 kc_t_17_8 (fun c_2 => ?_) (fun c_2 => absurd c_2 (by decide))
  refine va_ldcS hx hb hown hX.1.2.2.2.2.1 dX4_read_25 ?_
  refine va_put (D := (dC, dI)) (ci := 4) (v := .ref (ad 4)) (ty := tyX4 7) (C := RX4) (T := TX4) (N := 8) hx hb hts (fun _ h => List.mem_cons_of_mem _ (List.mem_append_right _ (List.mem_append_left _ h))) tyX4 tyX4_ok nmX4 hown hK hP hD hS 0 rfl rfl 7 kc_l_7_8 (hts (.fieldLink RX4 34 "NotEnded$Reader" "letterSigns" "Ljava/lang/String;") (List.mem_cons_of_mem _ (List.mem_append_left _ (List.mem_of_getElem? (i := 1) rfl)))) (fun _ h9 => h9) rfl (tyX4_ok 7 kc_l_7_8) rfl rfl (Nat.le_of_ble_eq_true rfl) dX4_read_27 (fun H locs hP hD hS => ?_)
  have hPD : kPD dC dI A [(jR, .inr (4, [.ref jT, .ref r1, .ref r2, .int (nI (wr)), .int (nI (fi)), .int pl, .ref (ad 2), .ref (ad 4)])), (r1, .inl (c1, 120, .inl s1)), (r2, .inl (c2, 124, .inl s2)), (jT, .inr (8, [.ref t0, .int (nI (kt))])), (t0, .inl (cC, 120, .inl gT))] H := ⟨hP, hD⟩
  have hP := hPD.1
  have hD := hPD.2
  refine lv_aload_n hx hb dX4_read_30 rfl (lv_at hl 0 rfl) ?_
  refine lv_iconst (v := 0) hx hb dX4_read_31 kc_i_0 ?_
  refine va_put (D := (dC, dI)) (ci := 4) (v := .int 0) (ty := tyX4 3) (C := RX4) (T := TX4) (N := 8) hx hb hts (fun _ h => List.mem_cons_of_mem _ (List.mem_append_right _ (List.mem_append_left _ h))) tyX4 tyX4_ok nmX4 hown hK hP hD hS 0 rfl rfl 3 kc_l_3_8 (hts (.fieldLink RX4 18 "NotEnded$Reader" "written" "I") (List.mem_cons_of_mem _ (List.mem_append_left _ (List.mem_of_getElem? (i := 2) rfl)))) (fun _ h9 => h9) rfl (tyX4_ok 3 kc_l_3_8) rfl rfl (Nat.le_of_ble_eq_true rfl) dX4_read_32 (fun H locs hP hD hS => ?_)
  have hPD : kPD dC dI A [(jR, .inr (4, [.ref jT, .ref r1, .ref r2, .int 0, .int (nI (fi)), .int pl, .ref (ad 2), .ref (ad 4)])), (r1, .inl (c1, 120, .inl s1)), (r2, .inl (c2, 124, .inl s2)), (jT, .inr (8, [.ref t0, .int (nI (kt))])), (t0, .inl (cC, 120, .inl gT))] H := ⟨hP, hD⟩
  have hP := hPD.1
  have hD := hPD.2
  refine lv_aload_n hx hb dX4_read_35 rfl (lv_at hl 0 rfl) ?_
  refine lv_iconst (v := 0) hx hb dX4_read_36 kc_i_0 ?_
  refine va_put (D := (dC, dI)) (ci := 4) (v := .int 0) (ty := tyX4 4) (C := RX4) (T := TX4) (N := 8) hx hb hts (fun _ h => List.mem_cons_of_mem _ (List.mem_append_right _ (List.mem_append_left _ h))) tyX4 tyX4_ok nmX4 hown hK hP hD hS 0 rfl rfl 4 kc_l_4_8 (hts (.fieldLink RX4 22 "NotEnded$Reader" "filled" "I") (List.mem_cons_of_mem _ (List.mem_append_left _ (List.mem_of_getElem? (i := 3) rfl)))) (fun _ h9 => h9) rfl (tyX4_ok 4 kc_l_4_8) rfl rfl (Nat.le_of_ble_eq_true rfl) dX4_read_37 (fun H locs hP hD hS => ?_)
  have hPD : kPD dC dI A [(jR, .inr (4, [.ref jT, .ref r1, .ref r2, .int 0, .int 0, .int pl, .ref (ad 2), .ref (ad 4)])), (r1, .inl (c1, 120, .inl s1)), (r2, .inl (c2, 124, .inl s2)), (jT, .inr (8, [.ref t0, .int (nI (kt))])), (t0, .inl (cC, 120, .inl gT))] H := ⟨hP, hD⟩
  have hP := hPD.1
  have hD := hPD.2
  refine lv_aload_n hx hb dX4_read_40 rfl (lv_at hl 0 rfl) ?_
  refine lv_iconst (v := 0) hx hb dX4_read_41 kc_i_0 ?_
  refine va_put (D := (dC, dI)) (ci := 4) (v := .int 0) (ty := tyX4 5) (C := RX4) (T := TX4) (N := 8) hx hb hts (fun _ h => List.mem_cons_of_mem _ (List.mem_append_right _ (List.mem_append_left _ h))) tyX4 tyX4_ok nmX4 hown hK hP hD hS 0 rfl rfl 5 kc_l_5_8 (hts (.fieldLink RX4 25 "NotEnded$Reader" "place" "I") (List.mem_cons_of_mem _ (List.mem_append_left _ (List.mem_of_getElem? (i := 4) rfl)))) (fun _ h9 => h9) rfl (tyX4_ok 5 kc_l_5_8) rfl rfl (Nat.le_of_ble_eq_true rfl) dX4_read_42 (fun H locs hP hD hS => ?_)
  have hPD : kPD dC dI A [(jR, .inr (4, [.ref jT, .ref r1, .ref r2, .int 0, .int 0, .int 0, .ref (ad 2), .ref (ad 4)])), (r1, .inl (c1, 120, .inl s1)), (r2, .inl (c2, 124, .inl s2)), (jT, .inr (8, [.ref t0, .int (nI (kt))])), (t0, .inl (cC, 120, .inl gT))] H := ⟨hP, hD⟩
  have hP := hPD.1
  have hD := hPD.2
  refine lv_iconst (v := 0) hx hb dX4_read_45 kc_i_0 ?_
  refine lv_istore_n hx hb dX4_read_46 rfl hl kc_l_2_3 (kTo [(2, .int 0), (0, .ref jR), (1, .int 1)]) (fun ls hl => ?_)
  have lp_k_3 : ∀ (n9 : Nat) (i : Nat) (xs1 : Nat → Int32) (xs2 : Nat → Int32) (xpn : Nat) (xwr : Nat) (xfi : Nat) (xl : List Int32) (xc : List Int32) (ivk_3_0 : i ≤ 31) (ivk_3_1 : kRdL bt kt g6 n6 g7 n7 (31 - i) xpn xl xc = kRead bt kt g6 n6 g7 n7) (ivk_3_2 : xwr = xl.length) (ivk_3_3 : xs1 = kWrt s1 0 xl) (ivk_3_4 : xfi = 4 * i) (ivk_3_5 : xs2 = kWrt s2 0 xc) (ivk_3_6 : xfi = xc.length) (ivk_3_7 : (xwr ≤ xpn ∧ xpn ≤ kt)) (H : Heap) (locs : List Loc) (_ : va_P (dC, dI) vwCl [(jR, .inr (4, [.ref jT, .ref r1, .ref r2, .int (nI (xwr)), .int (nI (xfi)), .int (nI (xpn)), .ref (ad 2), .ref (ad 4)])), (r1, .inl (c1, 120, .inl xs1)), (r2, .inl (c2, 124, .inl xs2)), (jT, .inr (8, [.ref t0, .int (nI (kt))])), (t0, .inl (cC, 120, .inl gT))] H) (_ : va_D A [(jR, .inr (4, [.ref jT, .ref r1, .ref r2, .int (nI (xwr)), .int (nI (xfi)), .int (nI (xpn)), .ref (ad 2), .ref (ad 4)])), (r1, .inl (c1, 120, .inl xs1)), (r2, .inl (c2, 124, .inl xs2)), (jT, .inr (8, [.ref t0, .int (nI (kt))])), (t0, .inl (cC, 120, .inl gT))]) (_ : va_S A s.heap H locs) (ls : Array Slot) (_ : lv_has ls 3 [(2, .int (nI (i))), (0, .ref jR), (1, .int 1)]) (_ : 31 - i < n9), W p l e (headSpec w_s_read4x_1 ({ frames := 49, cells := 0, slots := 0, locals := 2940 })).room s m (#[.ref jR, .int 1] : Array Value) below meth c H locs 0 0 Q (F0 m 47 ls []) := by
    intro n9
    induction n9 with
    | zero => intro i xs1 xs2 xpn xwr xfi xl xc ivk_3_0 ivk_3_1 ivk_3_2 ivk_3_3 ivk_3_4 ivk_3_5 ivk_3_6 ivk_3_7 H locs hP hD hS ls hl hm9; exact absurd hm9 (Nat.not_lt_zero _)
    | succ n9 ih_k_3 =>
      intro i xs1 xs2 xpn xwr xfi xl xc ivk_3_0 ivk_3_1 ivk_3_2 ivk_3_3 ivk_3_4 ivk_3_5 ivk_3_6 ivk_3_7 H locs hP hD hS ls hl hm9
      refine lv_iload_n hx hb dX4_read_47 rfl (lv_at hl 0 rfl) ?_
      refine lv_bipush (v := 31) hx hb dX4_read_48 kc_b_31 ?_
      refine lv_icmp_ge (tgt := 94) hx hb dX4_read_50 kc_t_50_44 (fun c_4 => ?_) (fun c_4 => ?_)
      · have bd_6 : i < 2147483648 := by omega
        have hn_5 := kle (a := 31) (b := i) kc_31_31 bd_6 c_4
        refine lv_aload_n hx hb dX4_read_94 rfl (lv_at hl 1 rfl) ?_
        refine va_get (D := (dC, dI)) (ci := 4) (v := .int (nI (xpn))) (C := RX4) (T := TX4) (N := 8) hx hb hts (fun _ h => List.mem_cons_of_mem _ (List.mem_append_right _ (List.mem_append_left _ h))) hown hK hP 0 rfl rfl 5 kc_l_5_8 (hts (.fieldLink RX4 25 "NotEnded$Reader" "place" "I") (List.mem_cons_of_mem _ (List.mem_append_left _ (List.mem_of_getElem? (i := 4) rfl)))) (fun _ h9 => h9) rfl dX4_read_95 ?_
        have hP9 := hP
        have hD9 := hD
        have hK9 := hK
        rw [hQ]
        exact W.iret (v := nI (xpn)) hx hb hr (fun t ht hW => ⟨⟨nI (xpn), (xs1, xs2, xwr, xfi, xpn, (.ref (ad 2) : Value), (.ref (ad 4) : Value), false, ([]), ([])), rfl, ⟨(by rw [← ivk_3_1, show 31 - i = 0 by omega]; rfl), rfl, by omega, by omega, by omega, fun z => absurd z (by decide)⟩,  by rw [ht]; exact hP9, va_K.moved hW.alike hK9, hD9⟩, hS.F ht⟩) hS.2.2 dX4_read_98
      · have bd_8 : i < 2147483648 := by omega
        have hn_7 := knle (a := 31) (b := i) kc_31_31 bd_8 c_4
        refine lv_aload_n hx hb dX4_read_53 rfl (lv_at hl 1 rfl) ?_
        have bd_9 : xwr ≤ 120 := by omega
        have bd_10 : xfi ≤ 124 := by omega
        have bd_11 : xpn ≤ kt := by omega
        have bd_12 : xwr ≤ xpn := by omega
        have bd_13 : xfi ≤ 120 := by omega
        have hCu := kCut (wc := [(jR, .inr (4, [.ref jT, .ref r1, .ref r2, .int (nI (xwr)), .int (nI (xfi)), .int (nI (xpn)), .ref (ad 2), .ref (ad 4)])), (r1, .inl (c1, 120, .inl xs1)), (r2, .inl (c2, 124, .inl xs2)), (jT, .inr (8, [.ref t0, .int (nI (kt))])), (t0, .inl (cC, 120, .inl gT))]) hP hD hS hA [0, 1, 2, 3, 4] rfl kc_nd_311 rfl
        have hPc := hCu.1
        have hDc := hCu.2.1
        have hFc := hCu.2.2
        have hKc := hK.sb (tys2 := [(c1, .int), (c2, .int), (cC, .char)]) [0, 1, 2] rfl
        refine va_calli (va_runV (As := []) (rest := []) ⟨hx, hb, hml, hown, hts⟩ (s_clause4x l dC dI jT t0 cC gT kt hkt hgT bt hbt hb8 jR r1 r2 c1 c2 xs1 xs2 xwr xfi (ad 2) (ad 4) bd_9 bd_10 xpn bd_11 bd_12 b6 n6 g6 hn6 b7 n7 g7 hn7 gn6 hz6 gn7 hz7 bd_13 H.size) (cwV 0 hts (kG (List.forall_mem_cons.mpr ⟨(List.mem_cons_of_mem _ (List.mem_append_left _ (List.mem_of_getElem? (i := 8) rfl))), (List.forall_mem_cons.mpr ⟨(List.mem_cons_of_mem _ (List.mem_append_left _ (List.mem_of_getElem? (i := 7) rfl))), (List.forall_mem_cons.mpr ⟨(List.mem_cons_of_mem _ (List.mem_append_left _ (List.mem_of_getElem? (i := 6) rfl))), (List.forall_mem_cons.mpr ⟨(List.mem_cons_of_mem _ (List.mem_append_left _ (List.mem_of_getElem? (i := 5) rfl))), (fun _ h => absurd h List.not_mem_nil)⟩)⟩)⟩)⟩) (kGV _ _ _ _) (fun _ h => List.mem_cons_of_mem _ (List.mem_append_right _ (List.mem_append_right _ (List.mem_append_left _ h)))) gw_s_clause4x) rfl rfl rfl ⟨rfl, hd_X4_readClause⟩ ⟨(Nat.le_of_ble_eq_true rfl), (Nat.le_of_ble_eq_true rfl)⟩) (kW_V kS2_blind (kS2_give hX.2 hS hFc) (va_recv hKc hPc (ci := 4) (q0 := 0) rfl rfl) hPc hKc hDc) rfl rfl hl.1 rfl (lv_room (Nat.le_of_ble_eq_true rfl)) dX4_read_54 ⟨(Nat.le_of_ble_eq_true rfl), (Nat.le_of_ble_eq_true rfl)⟩) hS (fun q _ h => hFc q h) hFc (fun r_14 => kU9 (fun S1_15 S2_16 Wr_17 Fi_18 Pn_19 xo_20 xl_21 xj_22 xk_23 t H_24 locs ht hvm hw hB hz1 hk1 hS => ?_))
        try dsimp only at hw
        have hPD : kPD dC dI A [(jR, .inr (4, [.ref jT, .ref r1, .ref r2, .int (nI (Wr_17)), .int (nI (Fi_18)), .int (nI (Pn_19)), .ref (ad 2), .ref (ad 4)])), (r1, .inl (c1, 120, .inl S1_15)), (r2, .inl (c2, 124, .inl S2_16)), (jT, .inr (8, [.ref t0, .int (nI (kt))])), (t0, .inl (cC, 120, .inl gT))] H_24 := kJoinX hP hD [0, 1, 2, 3, 4] rfl hk1 hFc hB.1 ht hB.2.2 rfl [some 0, some 1, some 2, some 3, some 4] rfl rfl
        have hP := hPD.1
        have hD := hPD.2
        have hw_25 := hw
        have hw_25_k := hw_25.2.2.1
        have hw_25_w := hw_25.2.2.2.1
        have hw_25_i := hw_25.2.2.2.2.1
        refine lv_if_ne (tgt := 65) hx hb dX4_read_57 kc_t_57_8 (fun c_26 => ?_) (fun c_26 => ?_)
        · obtain rfl : xo_20 = true := kBo_t (kNz9 hw_25.1 c_26)
          obtain ⟨hw_25_W, hw_25_S, hw_25_F, hw_25_C, hw_25_l, hw_25_p⟩ := hw_25.2.2.2.2.2 rfl
          refine lv_aload_n hx hb dX4_read_65 rfl (lv_at hl 1 rfl) ?_
          have bd_27 : Wr_17 ≤ 120 := by omega
          have bd_28 : Fi_18 ≤ 124 := by omega
          have bd_29 : Pn_19 ≤ kt := by omega
          have hCu := kCut (wc := [(jR, .inr (4, [.ref jT, .ref r1, .ref r2, .int (nI (Wr_17)), .int (nI (Fi_18)), .int (nI (Pn_19)), .ref (ad 2), .ref (ad 4)])), (r1, .inl (c1, 120, .inl S1_15)), (r2, .inl (c2, 124, .inl S2_16)), (jT, .inr (8, [.ref t0, .int (nI (kt))])), (t0, .inl (cC, 120, .inl gT))]) hP hD hS hA [0, 1, 2, 3, 4] rfl kc_nd_311 rfl
          have hPc := hCu.1
          have hDc := hCu.2.1
          have hFc := hCu.2.2
          have hKc := hK.sb (tys2 := [(c1, .int), (c2, .int), (cC, .char)]) [0, 1, 2] rfl
          refine va_calli (va_runV (As := []) (rest := []) ⟨hx, hb, hml, hown, hts⟩ (s_look4x l dC dI jT t0 cC gT kt hkt hgT bt hbt hb8 jR r1 r2 c1 c2 S1_15 S2_16 Wr_17 Fi_18 (ad 2) (ad 4) bd_27 bd_28 Pn_19 bd_29 H_24.size) (cwV 0 hts (kG (List.forall_mem_cons.mpr ⟨(List.mem_cons_of_mem _ (List.mem_append_left _ (List.mem_of_getElem? (i := 11) rfl))), (List.forall_mem_cons.mpr ⟨(List.mem_cons_of_mem _ (List.mem_append_left _ (List.mem_of_getElem? (i := 10) rfl))), (List.forall_mem_cons.mpr ⟨(List.mem_cons_of_mem _ (List.mem_append_left _ (List.mem_of_getElem? (i := 9) rfl))), (List.forall_mem_cons.mpr ⟨(List.mem_cons_of_mem _ (List.mem_append_left _ (List.mem_of_getElem? (i := 5) rfl))), (fun _ h => absurd h List.not_mem_nil)⟩)⟩)⟩)⟩) (kGV _ _ _ _) (fun _ h => List.mem_cons_of_mem _ (List.mem_append_right _ (List.mem_append_right _ (List.mem_append_right _ (List.mem_append_left _ h))))) gw_s_look4x) rfl rfl rfl ⟨rfl, hd_X4_look⟩ ⟨(Nat.le_of_ble_eq_true rfl), (Nat.le_of_ble_eq_true rfl)⟩) (kW_V kT_blind kT_give (va_recv hKc hPc (ci := 4) (q0 := 0) rfl rfl) hPc hKc hDc) rfl rfl hl.1 rfl (lv_room (Nat.le_of_ble_eq_true rfl)) dX4_read_66 ⟨(Nat.le_of_ble_eq_true rfl), (Nat.le_of_ble_eq_true rfl)⟩) hS (fun q _ h => hFc q h) hFc (fun r_30 => kU2 (fun Pn_31 ch_32 t H_33 locs ht hvm hw hB hz1 hk1 hS => ?_))
          try dsimp only at hw
          have hPD : kPD dC dI A [(jR, .inr (4, [.ref jT, .ref r1, .ref r2, .int (nI (Wr_17)), .int (nI (Fi_18)), .int (nI (Pn_31)), .ref (ad 2), .ref (ad 4)])), (r1, .inl (c1, 120, .inl S1_15)), (r2, .inl (c2, 124, .inl S2_16)), (jT, .inr (8, [.ref t0, .int (nI (kt))])), (t0, .inl (cC, 120, .inl gT))] H_33 := kJoinX hP hD [0, 1, 2, 3, 4] rfl hk1 hFc hB.1 ht hB.2.2 rfl [some 0, some 1, some 2, some 3, some 4] rfl rfl
          have hP := hPD.1
          have hD := hPD.2
          obtain ⟨rfl, hw_34_0, hw_34_1, hw_34_2, hw_34_3, hw_34_4, hw_34_5, hw_34_6⟩ := hw
          refine lv_if_ne (tgt := 74) hx hb dX4_read_69 kc_t_69_5 (fun c_35 => ?_) (fun c_35 => ?_)
          · have bd_37 : ch_32 < 2147483648 := by omega
            have hn_36 := kneq (a := ch_32) (b := 0) bd_37 kc_31_0 c_35
            refine lv_aload_n hx hb dX4_read_74 rfl (lv_at hl 1 rfl) ?_
            refine lv_bipush (v := 59) hx hb dX4_read_75 kc_b_59 ?_
            have bd_38 : Pn_31 ≤ kt := by omega
            have hCu := kCut (wc := [(jR, .inr (4, [.ref jT, .ref r1, .ref r2, .int (nI (Wr_17)), .int (nI (Fi_18)), .int (nI (Pn_31)), .ref (ad 2), .ref (ad 4)])), (r1, .inl (c1, 120, .inl S1_15)), (r2, .inl (c2, 124, .inl S2_16)), (jT, .inr (8, [.ref t0, .int (nI (kt))])), (t0, .inl (cC, 120, .inl gT))]) hP hD hS hA [0, 1, 2, 3, 4] rfl kc_nd_311 rfl
            have hPc := hCu.1
            have hDc := hCu.2.1
            have hFc := hCu.2.2
            have hKc := hK.sb (tys2 := [(c1, .int), (c2, .int), (cC, .char)]) [0, 1, 2] rfl
            refine va_calli (va_runV (As := [.int 59]) (rest := []) ⟨hx, hb, hml, hown, hts⟩ (s_take4_59 l dC dI jT t0 cC gT kt hkt hgT bt hbt hb8 jR r1 r2 c1 c2 S1_15 S2_16 Wr_17 Fi_18 (ad 2) (ad 4) bd_27 bd_28 Pn_31 bd_38 H_33.size) (cwV 1 hts (kG (List.forall_mem_cons.mpr ⟨(List.mem_cons_of_mem _ (List.mem_append_left _ (List.mem_of_getElem? (i := 14) rfl))), (List.forall_mem_cons.mpr ⟨(List.mem_cons_of_mem _ (List.mem_append_left _ (List.mem_of_getElem? (i := 13) rfl))), (List.forall_mem_cons.mpr ⟨(List.mem_cons_of_mem _ (List.mem_append_left _ (List.mem_of_getElem? (i := 12) rfl))), (List.forall_mem_cons.mpr ⟨(List.mem_cons_of_mem _ (List.mem_append_left _ (List.mem_of_getElem? (i := 5) rfl))), (fun _ h => absurd h List.not_mem_nil)⟩)⟩)⟩)⟩) (kGV _ _ _ _) (fun _ h => List.mem_cons_of_mem _ (List.mem_append_right _ (List.mem_append_right _ (List.mem_append_right _ (List.mem_append_right _ h))))) gw_s_take4_59) rfl rfl rfl ⟨rfl, hd_X4_take⟩ ⟨(Nat.le_of_ble_eq_true rfl), (Nat.le_of_ble_eq_true rfl)⟩) (kW_V kT_blind kT_give (va_recv hKc hPc (ci := 4) (q0 := 0) rfl rfl) hPc hKc hDc) rfl rfl hl.1 rfl (lv_room (Nat.le_of_ble_eq_true rfl)) dX4_read_77 ⟨(Nat.le_of_ble_eq_true rfl), (Nat.le_of_ble_eq_true rfl)⟩) hS (fun q _ h => hFc q h) hFc (fun r_39 => kU2 (fun Pn_40 xo_41 t H_42 locs ht hvm hw hB hz1 hk1 hS => ?_))
            try dsimp only at hw
            have hPD : kPD dC dI A [(jR, .inr (4, [.ref jT, .ref r1, .ref r2, .int (nI (Wr_17)), .int (nI (Fi_18)), .int (nI (Pn_40)), .ref (ad 2), .ref (ad 4)])), (r1, .inl (c1, 120, .inl S1_15)), (r2, .inl (c2, 124, .inl S2_16)), (jT, .inr (8, [.ref t0, .int (nI (kt))])), (t0, .inl (cC, 120, .inl gT))] H_42 := kJoinX hP hD [0, 1, 2, 3, 4] rfl hk1 hFc hB.1 ht hB.2.2 rfl [some 0, some 1, some 2, some 3, some 4] rfl rfl
            have hP := hPD.1
            have hD := hPD.2
            have hw_43 := hw
            have hw_43_z := kTk_at (by omega) hw_34_1 hw_43.2.1
            have hw_43_k := hw_43.2.2.2.1
            refine lv_if_ne (tgt := 88) hx hb dX4_read_80 kc_t_80_8 (fun c_44 => ?_) (fun c_44 => ?_)
            · obtain rfl : xo_41 = true := kBo_t (kNz9 hw_43.1 c_44)
              obtain ⟨hw_43_c, hw_43_P⟩ := hw_43_z.1 rfl
              refine lv_iinc (v := nI (i + 1)) hx hb dX4_read_88 hl (k := 0) rfl (kInc _ 1) kc_l_2_3 (kTo [(2, .int (nI (i + 1))), (0, .ref jR), (1, .int 1)]) (fun ls hl => ?_)
              refine lv_goto (tgt := 47) hx hb dX4_read_91 kc_t_91_m44 ?_
              exact ih_k_3 (i + 1) S1_15 S2_16 Pn_40 Wr_17 Fi_18 (xl ++ xl_21) (xc ++ [nI xj_22, nI xl.length, nI (xl.length + xk_23), nI (xl.length + xl_21.length)]) (by omega) (by rw [← ivk_3_1, show 31 - i = (31 - (i + 1)) + 1 by omega, kRdL_t hw_25.2.1, kRdA_s hw_43_c, ← hw_34_1, ← hw_43_P]) (by rw [List.length_append]; omega) (kWrtN ivk_3_3 ivk_3_2 hw_25_S) (by omega) (kWrtN ivk_3_5 ivk_3_6 (by rw [hw_25_C, ivk_3_2])) (by rw [List.length_append]; show _ = _ + 4; omega) (by omega) _ _ hP hD hS ls (lv_sub hl [0, 1, 2] rfl) (by omega)
            · obtain rfl : xo_41 = false := kBo_f (kZr9 hw_43.1 c_44)
              obtain ⟨hw_43_c, hw_43_P⟩ := hw_43_z.2 rfl
              refine lv_aload_n hx hb dX4_read_83 rfl (lv_at hl 1 rfl) ?_
              refine va_get (D := (dC, dI)) (ci := 4) (v := .int (nI (Pn_40))) (C := RX4) (T := TX4) (N := 8) hx hb hts (fun _ h => List.mem_cons_of_mem _ (List.mem_append_right _ (List.mem_append_left _ h))) hown hK hP 0 rfl rfl 5 kc_l_5_8 (hts (.fieldLink RX4 25 "NotEnded$Reader" "place" "I") (List.mem_cons_of_mem _ (List.mem_append_left _ (List.mem_of_getElem? (i := 4) rfl)))) (fun _ h9 => h9) rfl dX4_read_84 ?_
              have hP9 := hP
              have hD9 := hD
              have hK9 := hK
              rw [hQ]
              exact W.iret (v := nI (Pn_40)) hx hb hr (fun t ht hW => ⟨⟨nI (Pn_40), (S1_15, S2_16, Wr_17, Fi_18, Pn_40, (.ref (ad 2) : Value), (.ref (ad 4) : Value), false, ([]), ([])), rfl, ⟨(by rw [← ivk_3_1, show 31 - i = (30 - i) + 1 by omega, kRdL_t hw_25.2.1, kRdA_f (by rw [← hw_34_0]; omega) hw_43_c, ← hw_34_1, ← hw_43_P]), rfl, by omega, by omega, by omega, fun z => absurd z (by decide)⟩,  by rw [ht]; exact hP9, va_K.moved hW.alike hK9, hD9⟩, hS.F ht⟩) hS.2.2 dX4_read_87
          · have bd_46 : ch_32 < 2147483648 := by omega
            have hn_45 := keq (a := ch_32) (b := 0) bd_46 kc_31_0 c_35
            refine lv_iconst (v := (-1)) hx hb dX4_read_72 kc_i_m1 ?_
            have hP9 := hP
            have hD9 := hD
            have hK9 := hK
            rw [hQ]
            exact W.iret (v := (-1)) hx hb hr (fun t ht hW => ⟨⟨(-1), (S1_15, S2_16, Wr_17, Fi_18, Pn_31, (.ref (ad 2) : Value), (.ref (ad 4) : Value), true, (xl ++ xl_21), (xc ++ [nI xj_22, nI xl.length, nI (xl.length + xk_23), nI (xl.length + xl_21.length)])), rfl, ⟨(by rw [← ivk_3_1, show 31 - i = (30 - i) + 1 by omega, kRdL_t hw_25.2.1, kRdA_0 (by rw [← hw_34_0]; omega), ← hw_34_1]), rfl, by omega, by omega, by omega, fun _ => ⟨by rw [List.length_append]; omega, kWrtN ivk_3_3 ivk_3_2 hw_25_S, by rw [List.length_append]; show _ = _ + 4; omega, kWrtN ivk_3_5 ivk_3_6 (by rw [hw_25_C, ivk_3_2])⟩⟩,  by rw [ht]; exact hP9, va_K.moved hW.alike hK9, hD9⟩, hS.F ht⟩) hS.2.2 dX4_read_73
        · obtain rfl : xo_20 = false := kBo_f (kZr9 hw_25.1 c_26)
          refine lv_aload_n hx hb dX4_read_60 rfl (lv_at hl 1 rfl) ?_
          refine va_get (D := (dC, dI)) (ci := 4) (v := .int (nI (Pn_19))) (C := RX4) (T := TX4) (N := 8) hx hb hts (fun _ h => List.mem_cons_of_mem _ (List.mem_append_right _ (List.mem_append_left _ h))) hown hK hP 0 rfl rfl 5 kc_l_5_8 (hts (.fieldLink RX4 25 "NotEnded$Reader" "place" "I") (List.mem_cons_of_mem _ (List.mem_append_left _ (List.mem_of_getElem? (i := 4) rfl)))) (fun _ h9 => h9) rfl dX4_read_61 ?_
          have hP9 := hP
          have hD9 := hD
          have hK9 := hK
          rw [hQ]
          exact W.iret (v := nI (Pn_19)) hx hb hr (fun t ht hW => ⟨⟨nI (Pn_19), (S1_15, S2_16, Wr_17, Fi_18, Pn_19, (.ref (ad 2) : Value), (.ref (ad 4) : Value), false, ([]), ([])), rfl, ⟨(by rw [← ivk_3_1, show 31 - i = (30 - i) + 1 by omega]; exact kRdL_f hw_25.2.1), rfl, by omega, by omega, by omega, fun z => absurd z (by decide)⟩,  by rw [ht]; exact hP9, va_K.moved hW.alike hK9, hD9⟩, hS.F ht⟩) hS.2.2 dX4_read_64
  exact lp_k_3 (31 - 0 + 1) 0 s1 s2 0 0 0 ([]) ([]) (by omega) rfl rfl rfl (by omega) rfl rfl (by omega) _ _ hP hD hS ls (lv_sub hl [0, 1, 2] rfl) (by omega)
