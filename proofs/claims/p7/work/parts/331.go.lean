theorem dX10_goThrough_0 : decode cX10_goThrough 0 = .ok (.aload_n 0, 1) := by decide +kernel
theorem dX10_goThrough_1 : decode cX10_goThrough 1 = .ok (.aload_n 1, 1) := by decide +kernel
theorem dX10_goThrough_2 : decode cX10_goThrough 2 = .ok (.putfield 23, 3) := by decide +kernel
theorem dX10_goThrough_5 : decode cX10_goThrough 5 = .ok (.aload_n 0, 1) := by decide +kernel
theorem dX10_goThrough_6 : decode cX10_goThrough 6 = .ok (.iload_n 2, 1) := by decide +kernel
theorem dX10_goThrough_7 : decode cX10_goThrough 7 = .ok (.putfield 147, 3) := by decide +kernel
theorem dX10_goThrough_10 : decode cX10_goThrough 10 = .ok (.aload_n 0, 1) := by decide +kernel
theorem dX10_goThrough_11 : decode cX10_goThrough 11 = .ok (.iload_n 3, 1) := by decide +kernel
theorem dX10_goThrough_12 : decode cX10_goThrough 12 = .ok (.putfield 144, 3) := by decide +kernel
theorem dX10_goThrough_15 : decode cX10_goThrough 15 = .ok (.aload_n 0, 1) := by decide +kernel
theorem dX10_goThrough_16 : decode cX10_goThrough 16 = .ok (.iload 4, 2) := by decide +kernel
theorem dX10_goThrough_18 : decode cX10_goThrough 18 = .ok (.ifCond .eq 8, 3) := by decide +kernel
theorem dX10_goThrough_26 : decode cX10_goThrough 26 = .ok (.ldc 26, 2) := by decide +kernel
theorem dX10_goThrough_28 : decode cX10_goThrough 28 = .ok (.putfield 28, 3) := by decide +kernel
theorem dX10_goThrough_31 : decode cX10_goThrough 31 = .ok (.aload_n 0, 1) := by decide +kernel
theorem dX10_goThrough_32 : decode cX10_goThrough 32 = .ok (.iload 4, 2) := by decide +kernel
theorem dX10_goThrough_34 : decode cX10_goThrough 34 = .ok (.ifCond .eq 8, 3) := by decide +kernel
theorem dX10_goThrough_42 : decode cX10_goThrough 42 = .ok (.ldc 32, 2) := by decide +kernel
theorem dX10_goThrough_44 : decode cX10_goThrough 44 = .ok (.putfield 34, 3) := by decide +kernel
theorem dX10_goThrough_47 : decode cX10_goThrough 47 = .ok (.aload_n 0, 1) := by decide +kernel
theorem dX10_goThrough_48 : decode cX10_goThrough 48 = .ok (.iload 5, 2) := by decide +kernel
theorem dX10_goThrough_50 : decode cX10_goThrough 50 = .ok (.putfield 223, 3) := by decide +kernel
theorem dX10_goThrough_53 : decode cX10_goThrough 53 = .ok (.aload_n 0, 1) := by decide +kernel
theorem dX10_goThrough_54 : decode cX10_goThrough 54 = .ok (.iconst 0, 1) := by decide +kernel
theorem dX10_goThrough_55 : decode cX10_goThrough 55 = .ok (.putfield 141, 3) := by decide +kernel
theorem dX10_goThrough_58 : decode cX10_goThrough 58 = .ok (.aload_n 0, 1) := by decide +kernel
theorem dX10_goThrough_59 : decode cX10_goThrough 59 = .ok (.iconst (-1), 1) := by decide +kernel
theorem dX10_goThrough_60 : decode cX10_goThrough 60 = .ok (.putfield 150, 3) := by decide +kernel
theorem dX10_goThrough_63 : decode cX10_goThrough 63 = .ok (.aload_n 0, 1) := by decide +kernel
theorem dX10_goThrough_64 : decode cX10_goThrough 64 = .ok (.iconst 0, 1) := by decide +kernel
theorem dX10_goThrough_65 : decode cX10_goThrough 65 = .ok (.putfield 153, 3) := by decide +kernel
theorem dX10_goThrough_68 : decode cX10_goThrough 68 = .ok (.aload_n 0, 1) := by decide +kernel
theorem dX10_goThrough_69 : decode cX10_goThrough 69 = .ok (.iconst 0, 1) := by decide +kernel
theorem dX10_goThrough_70 : decode cX10_goThrough 70 = .ok (.putfield 219, 3) := by decide +kernel
theorem dX10_goThrough_73 : decode cX10_goThrough 73 = .ok (.aload_n 0, 1) := by decide +kernel
theorem dX10_goThrough_74 : decode cX10_goThrough 74 = .ok (.iconst 0, 1) := by decide +kernel
theorem dX10_goThrough_75 : decode cX10_goThrough 75 = .ok (.putfield 226, 3) := by decide +kernel
theorem dX10_goThrough_78 : decode cX10_goThrough 78 = .ok (.aload_n 0, 1) := by decide +kernel
theorem dX10_goThrough_79 : decode cX10_goThrough 79 = .ok (.invokevirtual 233, 3) := by decide +kernel
theorem dX10_goThrough_82 : decode cX10_goThrough 82 = .ok (.aload_n 0, 1) := by decide +kernel
theorem dX10_goThrough_83 : decode cX10_goThrough 83 = .ok (.getfield 150, 3) := by decide +kernel
theorem dX10_goThrough_86 : decode cX10_goThrough 86 = .ok (.iconst (-1), 1) := by decide +kernel
theorem dX10_goThrough_87 : decode cX10_goThrough 87 = .ok (.if_icmp .ne 29, 3) := by decide +kernel
theorem dX10_goThrough_116 : decode cX10_goThrough 116 = .ok (.aload_n 0, 1) := by decide +kernel
theorem dX10_goThrough_117 : decode cX10_goThrough 117 = .ok (.getfield 150, 3) := by decide +kernel
theorem dX10_goThrough_120 : decode cX10_goThrough 120 = .ok (.iconst (-1), 1) := by decide +kernel
theorem dX10_goThrough_121 : decode cX10_goThrough 121 = .ok (.if_icmp .ne 16, 3) := by decide +kernel
theorem dX10_goThrough_137 : decode cX10_goThrough 137 = .ok (.return_, 1) := by decide +kernel
theorem dX10_goThrough_124 : decode cX10_goThrough 124 = .ok (.aload_n 0, 1) := by decide +kernel
theorem dX10_goThrough_125 : decode cX10_goThrough 125 = .ok (.invokevirtual 160, 3) := by decide +kernel
theorem dX10_goThrough_128 : decode cX10_goThrough 128 = .ok (.iconst (-1), 1) := by decide +kernel
theorem dX10_goThrough_129 : decode cX10_goThrough 129 = .ok (.if_icmp .eq 8, 3) := by decide +kernel
theorem dX10_goThrough_132 : decode cX10_goThrough 132 = .ok (.aload_n 0, 1) := by decide +kernel
theorem dX10_goThrough_133 : decode cX10_goThrough 133 = .ok (.invokevirtual 156, 3) := by decide +kernel
theorem dX10_goThrough_136 : decode cX10_goThrough 136 = .ok (.pop, 1) := by decide +kernel
theorem dX10_goThrough_90 : decode cX10_goThrough 90 = .ok (.aload_n 0, 1) := by decide +kernel
theorem dX10_goThrough_91 : decode cX10_goThrough 91 = .ok (.invokevirtual 160, 3) := by decide +kernel
theorem dX10_goThrough_94 : decode cX10_goThrough 94 = .ok (.bipush 59, 2) := by decide +kernel
theorem dX10_goThrough_96 : decode cX10_goThrough 96 = .ok (.if_icmp .ne 20, 3) := by decide +kernel
theorem dX10_goThrough_99 : decode cX10_goThrough 99 = .ok (.aload_n 0, 1) := by decide +kernel
theorem dX10_goThrough_100 : decode cX10_goThrough 100 = .ok (.dup, 1) := by decide +kernel
theorem dX10_goThrough_101 : decode cX10_goThrough 101 = .ok (.getfield 141, 3) := by decide +kernel
theorem dX10_goThrough_104 : decode cX10_goThrough 104 = .ok (.iconst 1, 1) := by decide +kernel
theorem dX10_goThrough_105 : decode cX10_goThrough 105 = .ok (.iadd, 1) := by decide +kernel
theorem dX10_goThrough_106 : decode cX10_goThrough 106 = .ok (.putfield 141, 3) := by decide +kernel
theorem dX10_goThrough_109 : decode cX10_goThrough 109 = .ok (.aload_n 0, 1) := by decide +kernel
theorem dX10_goThrough_110 : decode cX10_goThrough 110 = .ok (.invokevirtual 233, 3) := by decide +kernel
theorem dX10_goThrough_113 : decode cX10_goThrough 113 = .ok (.goto (-31), 3) := by decide +kernel
def w_s_go10_0 : List Cond := .code yX10_goThrough cX10_goThrough 6 none :: ([.fieldLink RX10 23 "NotEndedModel" "text" "[B", .fieldLink RX10 147 "NotEndedModel" "begins" "I", .fieldLink RX10 144 "NotEndedModel" "ends" "I", .fieldLink RX10 28 "NotEndedModel" "labels" "Ljava/lang/String;", .fieldLink RX10 34 "NotEndedModel" "allowed" "Ljava/lang/String;", .fieldLink RX10 223 "NotEndedModel" "label" "I", .fieldLink RX10 141 "NotEndedModel" "at" "I", .fieldLink RX10 150 "NotEndedModel" "fault" "I", .fieldLink RX10 153 "NotEndedModel" "deep" "I", .fieldLink RX10 219 "NotEndedModel" "hasFound" "Z", .fieldLink RX10 226 "NotEndedModel" "found" "I", .initialized RX10, .selects RX10 yX10_clause yX10_clause, .instanceMethod yX10_clause, .methodLink RX10 233 yX10_clause, .selects RX10 yX10_look yX10_look, .instanceMethod yX10_look, .methodLink RX10 160 yX10_look, .selects RX10 yX10_fails yX10_fails, .instanceMethod yX10_fails, .methodLink RX10 156 yX10_fails] ++ (wsX100 ++ (w_s_clause10 ++ (w_s_look10 ++ (w_s_fails10)))))
theorem gw_s_go10_0 : (w_s_go10_0).all goodWord = true := kGc rfl (kGa (by decide +kernel) (kGa gw_wsX100 (kGa gw_s_clause10 (kGa gw_s_look10 gw_s_fails10))))
theorem hd_X10_goThrough : yX10_goThrough.cls ≠ "java/lang/invoke/MethodHandle" ∧ yX10_goThrough.cls ≠ "java/lang/invoke/VarHandle" ∧ (parseMethodDescriptor yX10_goThrough.desc).map (fun d => d.parameters.length) = some 5 := by decide +kernel
set_option maxHeartbeats 4000000 in
set_option maxRecDepth 100000 in
theorem s_go10_0 (l : Launch) (dC : Nat → ClassId) (dI : Nat → Nat → Nat) (ad : Nat → Nat) (jM : Nat) (vs : Nat → Value) (v5 : Value) (v9 : Value) (v10 : Value) (v11 : Value) (v12 : Value) (v13 : Value) (v14 : Value) (v15 : Value) (v16 : Value) (v17 : Value) (v18 : Value) (lt : Nat) (tx : Nat) (cT : ClassId) (nT : Nat) (gT : Nat → Int32) (be : Nat) (en : Nat) (hbe : be + en ≤ nT) (hnT : nT ≤ 1680) (cE : ClassId) (gE : Nat → Int32) (b6 : Nat) (n6 : Nat) (g6 : Nat → Int32) (hn6 : n6 ≤ 8) (hg6 : ∀ k : Nat, ∃ v : Nat, v < 128 ∧ g6 k = nI v) (b7 : Nat) (n7 : Nat) (g7 : Nat → Int32) (hn7 : n7 ≤ 8) (hg7 : ∀ k : Nat, ∃ v : Nat, v < 128 ∧ g7 k = nI v) (p4 : Int32) (sz : Nat) : Met l yX10_goThrough w_s_go10_0 ({ frames := 57, cells := 0, slots := 0, locals := 3420 }) (kW dC dI [.ref jM, .ref tx, .int (nI (be)), .int (nI (en)), .int 0, .int p4] [(jM, kMo vs (.ref lt) v5 v9 v10 v11 v12 v13 v14 v15 v16 v17 v18), (tx, .inl (cT, nT, .inl gT)), (lt, .inl (cE, 128, .inl gE))] [(cT, .byte), (cE, .int)] (kRd ad 5 7 b6 n6 g6 b7 n7 g7 (va_A [(jM, kMo vs (.ref lt) v5 v9 v10 v11 v12 v13 v14 v15 v16 v17 v18), (tx, .inl (cT, nT, .inl gT)), (lt, .inl (cE, 128, .inl gE))] sz)) sz) (va_Qv (fun (u : Nat × Int32 × Int32 × Int32 × Int32) => match u with | (a1, xf, xd, fd, hf) => True) (fun (u : Nat × Int32 × Int32 × Int32 × Int32) => match u with | (a1, xf, xd, fd, hf) => fun t : State => kB dC dI [(jM, kMo vs (.ref lt) (.ref tx) (.int (nI (be))) (.int (nI (en))) (.int (nI (a1))) (.int xf) (.int xd) (.int p4) (.int fd) (.ref (ad 5)) (.ref (ad 7)) (.int hf)), (tx, .inl (cT, nT, .inl gT)), (lt, .inl (cE, 128, .inl gE))] [(cT, .byte), (cE, .int)] (va_A [(jM, kMo vs (.ref lt) v5 v9 v10 v11 v12 v13 v14 v15 v16 v17 v18), (tx, .inl (cT, nT, .inl gT)), (lt, .inl (cE, 128, .inl gE))] sz) t) (va_A [(jM, kMo vs (.ref lt) v5 v9 v10 v11 v12 v13 v14 v15 v16 v17 v18), (tx, .inl (cT, nT, .inl gT)), (lt, .inl (cE, 128, .inl gE))] sz)) 0 0 (va_A [(jM, kMo vs (.ref lt) v5 v9 v10 v11 v12 v13 v14 v15 v16 v17 v18), (tx, .inl (cT, nT, .inl gT)), (lt, .inl (cE, 128, .inl gE))] sz) := by
  refine Met.ofW (cc := cX10_goThrough) (maxL := 6) (ret := none) (by decide) rfl ?_
  intro p e s m args below meth c s₁ B hml hv
  obtain ⟨rfl, hsz, hP, hK, hD0, hX⟩ := hv
  have hx := B.exec
  have hb := B.bytes
  have hr := B.returns
  have hts := atoms_spec (ws := w_s_go10_0) B.pre
  have hown : s.vm.findClass RX10 = some m.cls := findClass_of_methodNamed B.named
  have hlocks := B.notSynchronized
  subst hsz
  have hD := hD0.self (sz := s.heap.size)
  generalize hAe : va_A [(jM, kMo vs (.ref lt) v5 v9 v10 v11 v12 v13 v14 v15 v16 v17 v18), (tx, .inl (cT, nT, .inl gT)), (lt, .inl (cE, 128, .inl gE))] s.heap.size = A at hD hX ⊢
  have hA : ∀ q : Nat, s.heap.size ≤ q → A q := fun q h => by rw [← hAe]; exact Or.inr h
  have hS : va_S A s.heap s.heap [] := va_S.rf
  have hP : va_P (dC, dI) vwCl [(jM, kMo vs (.ref lt) v5 v9 v10 v11 v12 v13 v14 v15 v16 v17 v18), (tx, .inl (cT, nT, .inl gT)), (lt, .inl (cE, 128, .inl gE))] s.heap := hP
  have hl := lv_entry ([.ref jM, .ref tx, .int (nI (be)), .int (nI (en)), .int 0, .int p4]) (n := 6) (Nat.le_of_ble_eq_true rfl)
  rw [lg_entry_eq]
  generalize (lg_sl ([.ref jM, .ref tx, .int (nI (be)), .int (nI (en)), .int 0, .int p4]) ++ List.replicate (6 - (lg_sl ([.ref jM, .ref tx, .int (nI (be)), .int (nI (en)), .int 0, .int p4])).length) Slot.unset).toArray = ls at hl ⊢
  have hl : lv_has ls 6 [(0, .ref jM), (1, .ref tx), (2, .int (nI (be))), (3, .int (nI (en))), (4, .int 0), (5, .int p4)] := hl
  refine kQ (fun Q hQ => ?_)
  refine lv_aload_n hx hb dX10_goThrough_0 rfl (lv_at hl 0 rfl) ?_
  refine lv_aload_n hx hb dX10_goThrough_1 rfl (lv_at hl 1 rfl) ?_
  refine va_put (D := (dC, dI)) (ci := 10) (v := .ref tx) (ty := tyX10 5) (C := RX10) (T := TX10) (N := 52) hx hb hts (fun _ h => List.mem_cons_of_mem _ (List.mem_append_right _ (List.mem_append_left _ h))) tyX10 tyX10_ok nmX10 hown hK hP hD hS 0 rfl rfl 5 (by decide) (hts (.fieldLink RX10 23 "NotEndedModel" "text" "[B") (List.mem_cons_of_mem _ (List.mem_append_left _ (List.mem_of_getElem? (i := 0) rfl)))) (fun _ h9 => h9) rfl (tyX10_ok 5 (by decide)) rfl rfl (Nat.le_of_ble_eq_true rfl) dX10_goThrough_2 (fun H locs hP hD hS => ?_)
  obtain ⟨hP, hD⟩ : kPD dC dI A [(jM, kMo vs (.ref lt) (.ref tx) v9 v10 v11 v12 v13 v14 v15 v16 v17 v18), (tx, .inl (cT, nT, .inl gT)), (lt, .inl (cE, 128, .inl gE))] H := ⟨hP, hD⟩
  refine lv_aload_n hx hb dX10_goThrough_5 rfl (lv_at hl 0 rfl) ?_
  refine lv_iload_n hx hb dX10_goThrough_6 rfl (lv_at hl 2 rfl) ?_
  refine va_put (D := (dC, dI)) (ci := 10) (v := .int (nI (be))) (ty := tyX10 9) (C := RX10) (T := TX10) (N := 52) hx hb hts (fun _ h => List.mem_cons_of_mem _ (List.mem_append_right _ (List.mem_append_left _ h))) tyX10 tyX10_ok nmX10 hown hK hP hD hS 0 rfl rfl 9 (by decide) (hts (.fieldLink RX10 147 "NotEndedModel" "begins" "I") (List.mem_cons_of_mem _ (List.mem_append_left _ (List.mem_of_getElem? (i := 1) rfl)))) (fun _ h9 => h9) rfl (tyX10_ok 9 (by decide)) rfl rfl (Nat.le_of_ble_eq_true rfl) dX10_goThrough_7 (fun H locs hP hD hS => ?_)
  obtain ⟨hP, hD⟩ : kPD dC dI A [(jM, kMo vs (.ref lt) (.ref tx) (.int (nI (be))) v10 v11 v12 v13 v14 v15 v16 v17 v18), (tx, .inl (cT, nT, .inl gT)), (lt, .inl (cE, 128, .inl gE))] H := ⟨hP, hD⟩
  refine lv_aload_n hx hb dX10_goThrough_10 rfl (lv_at hl 0 rfl) ?_
  refine lv_iload_n hx hb dX10_goThrough_11 rfl (lv_at hl 3 rfl) ?_
  refine va_put (D := (dC, dI)) (ci := 10) (v := .int (nI (en))) (ty := tyX10 10) (C := RX10) (T := TX10) (N := 52) hx hb hts (fun _ h => List.mem_cons_of_mem _ (List.mem_append_right _ (List.mem_append_left _ h))) tyX10 tyX10_ok nmX10 hown hK hP hD hS 0 rfl rfl 10 (by decide) (hts (.fieldLink RX10 144 "NotEndedModel" "ends" "I") (List.mem_cons_of_mem _ (List.mem_append_left _ (List.mem_of_getElem? (i := 2) rfl)))) (fun _ h9 => h9) rfl (tyX10_ok 10 (by decide)) rfl rfl (Nat.le_of_ble_eq_true rfl) dX10_goThrough_12 (fun H locs hP hD hS => ?_)
  obtain ⟨hP, hD⟩ : kPD dC dI A [(jM, kMo vs (.ref lt) (.ref tx) (.int (nI (be))) (.int (nI (en))) v11 v12 v13 v14 v15 v16 v17 v18), (tx, .inl (cT, nT, .inl gT)), (lt, .inl (cE, 128, .inl gE))] H := ⟨hP, hD⟩
  refine lv_aload_n hx hb dX10_goThrough_15 rfl (lv_at hl 0 rfl) ?_
  refine lv_iload hx hb dX10_goThrough_16 (lv_at hl 4 rfl) ?_
  refine lv_if_eq (tgt := 26) hx hb dX10_goThrough_18 (by decide) (fun c_1 => ?_) (fun c_1 => absurd (by decide) c_1)
  refine va_ldcS hx hb hown hX.1.2.2.2.2.2.1 dX10_goThrough_26 ?_
  refine va_put (D := (dC, dI)) (ci := 10) (v := .ref (ad 5)) (ty := tyX10 16) (C := RX10) (T := TX10) (N := 52) hx hb hts (fun _ h => List.mem_cons_of_mem _ (List.mem_append_right _ (List.mem_append_left _ h))) tyX10 tyX10_ok nmX10 hown hK hP hD hS 0 rfl rfl 16 (by decide) (hts (.fieldLink RX10 28 "NotEndedModel" "labels" "Ljava/lang/String;") (List.mem_cons_of_mem _ (List.mem_append_left _ (List.mem_of_getElem? (i := 3) rfl)))) (fun _ h9 => h9) rfl (tyX10_ok 16 (by decide)) rfl rfl (Nat.le_of_ble_eq_true rfl) dX10_goThrough_28 (fun H locs hP hD hS => ?_)
  obtain ⟨hP, hD⟩ : kPD dC dI A [(jM, kMo vs (.ref lt) (.ref tx) (.int (nI (be))) (.int (nI (en))) v11 v12 v13 v14 v15 (.ref (ad 5)) v17 v18), (tx, .inl (cT, nT, .inl gT)), (lt, .inl (cE, 128, .inl gE))] H := ⟨hP, hD⟩
  refine lv_aload_n hx hb dX10_goThrough_31 rfl (lv_at hl 0 rfl) ?_
  refine lv_iload hx hb dX10_goThrough_32 (lv_at hl 4 rfl) ?_
  refine lv_if_eq (tgt := 42) hx hb dX10_goThrough_34 (by decide) (fun c_2 => ?_) (fun c_2 => absurd (by decide) c_2)
  refine va_ldcS hx hb hown hX.1.2.2.2.2.2.2.2.1 dX10_goThrough_42 ?_
  refine va_put (D := (dC, dI)) (ci := 10) (v := .ref (ad 7)) (ty := tyX10 17) (C := RX10) (T := TX10) (N := 52) hx hb hts (fun _ h => List.mem_cons_of_mem _ (List.mem_append_right _ (List.mem_append_left _ h))) tyX10 tyX10_ok nmX10 hown hK hP hD hS 0 rfl rfl 17 (by decide) (hts (.fieldLink RX10 34 "NotEndedModel" "allowed" "Ljava/lang/String;") (List.mem_cons_of_mem _ (List.mem_append_left _ (List.mem_of_getElem? (i := 4) rfl)))) (fun _ h9 => h9) rfl (tyX10_ok 17 (by decide)) rfl rfl (Nat.le_of_ble_eq_true rfl) dX10_goThrough_44 (fun H locs hP hD hS => ?_)
  obtain ⟨hP, hD⟩ : kPD dC dI A [(jM, kMo vs (.ref lt) (.ref tx) (.int (nI (be))) (.int (nI (en))) v11 v12 v13 v14 v15 (.ref (ad 5)) (.ref (ad 7)) v18), (tx, .inl (cT, nT, .inl gT)), (lt, .inl (cE, 128, .inl gE))] H := ⟨hP, hD⟩
  refine lv_aload_n hx hb dX10_goThrough_47 rfl (lv_at hl 0 rfl) ?_
  refine lv_iload hx hb dX10_goThrough_48 (lv_at hl 5 rfl) ?_
  refine va_put (D := (dC, dI)) (ci := 10) (v := .int p4) (ty := tyX10 14) (C := RX10) (T := TX10) (N := 52) hx hb hts (fun _ h => List.mem_cons_of_mem _ (List.mem_append_right _ (List.mem_append_left _ h))) tyX10 tyX10_ok nmX10 hown hK hP hD hS 0 rfl rfl 14 (by decide) (hts (.fieldLink RX10 223 "NotEndedModel" "label" "I") (List.mem_cons_of_mem _ (List.mem_append_left _ (List.mem_of_getElem? (i := 5) rfl)))) (fun _ h9 => h9) rfl (tyX10_ok 14 (by decide)) rfl rfl (Nat.le_of_ble_eq_true rfl) dX10_goThrough_50 (fun H locs hP hD hS => ?_)
  obtain ⟨hP, hD⟩ : kPD dC dI A [(jM, kMo vs (.ref lt) (.ref tx) (.int (nI (be))) (.int (nI (en))) v11 v12 v13 (.int p4) v15 (.ref (ad 5)) (.ref (ad 7)) v18), (tx, .inl (cT, nT, .inl gT)), (lt, .inl (cE, 128, .inl gE))] H := ⟨hP, hD⟩
  refine lv_aload_n hx hb dX10_goThrough_53 rfl (lv_at hl 0 rfl) ?_
  refine lv_iconst (v := 0) hx hb dX10_goThrough_54 (by decide) ?_
  refine va_put (D := (dC, dI)) (ci := 10) (v := .int 0) (ty := tyX10 11) (C := RX10) (T := TX10) (N := 52) hx hb hts (fun _ h => List.mem_cons_of_mem _ (List.mem_append_right _ (List.mem_append_left _ h))) tyX10 tyX10_ok nmX10 hown hK hP hD hS 0 rfl rfl 11 (by decide) (hts (.fieldLink RX10 141 "NotEndedModel" "at" "I") (List.mem_cons_of_mem _ (List.mem_append_left _ (List.mem_of_getElem? (i := 6) rfl)))) (fun _ h9 => h9) rfl (tyX10_ok 11 (by decide)) rfl rfl (Nat.le_of_ble_eq_true rfl) dX10_goThrough_55 (fun H locs hP hD hS => ?_)
  obtain ⟨hP, hD⟩ : kPD dC dI A [(jM, kMo vs (.ref lt) (.ref tx) (.int (nI (be))) (.int (nI (en))) (.int 0) v12 v13 (.int p4) v15 (.ref (ad 5)) (.ref (ad 7)) v18), (tx, .inl (cT, nT, .inl gT)), (lt, .inl (cE, 128, .inl gE))] H := ⟨hP, hD⟩
  refine lv_aload_n hx hb dX10_goThrough_58 rfl (lv_at hl 0 rfl) ?_
  refine lv_iconst (v := (-1)) hx hb dX10_goThrough_59 (by decide) ?_
  refine va_put (D := (dC, dI)) (ci := 10) (v := .int (-1)) (ty := tyX10 12) (C := RX10) (T := TX10) (N := 52) hx hb hts (fun _ h => List.mem_cons_of_mem _ (List.mem_append_right _ (List.mem_append_left _ h))) tyX10 tyX10_ok nmX10 hown hK hP hD hS 0 rfl rfl 12 (by decide) (hts (.fieldLink RX10 150 "NotEndedModel" "fault" "I") (List.mem_cons_of_mem _ (List.mem_append_left _ (List.mem_of_getElem? (i := 7) rfl)))) (fun _ h9 => h9) rfl (tyX10_ok 12 (by decide)) rfl rfl (Nat.le_of_ble_eq_true rfl) dX10_goThrough_60 (fun H locs hP hD hS => ?_)
  obtain ⟨hP, hD⟩ : kPD dC dI A [(jM, kMo vs (.ref lt) (.ref tx) (.int (nI (be))) (.int (nI (en))) (.int 0) (.int (-1)) v13 (.int p4) v15 (.ref (ad 5)) (.ref (ad 7)) v18), (tx, .inl (cT, nT, .inl gT)), (lt, .inl (cE, 128, .inl gE))] H := ⟨hP, hD⟩
  refine lv_aload_n hx hb dX10_goThrough_63 rfl (lv_at hl 0 rfl) ?_
  refine lv_iconst (v := 0) hx hb dX10_goThrough_64 (by decide) ?_
  refine va_put (D := (dC, dI)) (ci := 10) (v := .int 0) (ty := tyX10 13) (C := RX10) (T := TX10) (N := 52) hx hb hts (fun _ h => List.mem_cons_of_mem _ (List.mem_append_right _ (List.mem_append_left _ h))) tyX10 tyX10_ok nmX10 hown hK hP hD hS 0 rfl rfl 13 (by decide) (hts (.fieldLink RX10 153 "NotEndedModel" "deep" "I") (List.mem_cons_of_mem _ (List.mem_append_left _ (List.mem_of_getElem? (i := 8) rfl)))) (fun _ h9 => h9) rfl (tyX10_ok 13 (by decide)) rfl rfl (Nat.le_of_ble_eq_true rfl) dX10_goThrough_65 (fun H locs hP hD hS => ?_)
  obtain ⟨hP, hD⟩ : kPD dC dI A [(jM, kMo vs (.ref lt) (.ref tx) (.int (nI (be))) (.int (nI (en))) (.int 0) (.int (-1)) (.int 0) (.int p4) v15 (.ref (ad 5)) (.ref (ad 7)) v18), (tx, .inl (cT, nT, .inl gT)), (lt, .inl (cE, 128, .inl gE))] H := ⟨hP, hD⟩
  refine lv_aload_n hx hb dX10_goThrough_68 rfl (lv_at hl 0 rfl) ?_
  refine lv_iconst (v := 0) hx hb dX10_goThrough_69 (by decide) ?_
  refine va_put (D := (dC, dI)) (ci := 10) (v := .int 0) (ty := tyX10 18) (C := RX10) (T := TX10) (N := 52) hx hb hts (fun _ h => List.mem_cons_of_mem _ (List.mem_append_right _ (List.mem_append_left _ h))) tyX10 tyX10_ok nmX10 hown hK hP hD hS 0 rfl rfl 18 (by decide) (hts (.fieldLink RX10 219 "NotEndedModel" "hasFound" "Z") (List.mem_cons_of_mem _ (List.mem_append_left _ (List.mem_of_getElem? (i := 9) rfl)))) (fun _ h9 => h9) rfl (tyX10_ok 18 (by decide)) rfl rfl (Nat.le_of_ble_eq_true rfl) dX10_goThrough_70 (fun H locs hP hD hS => ?_)
  obtain ⟨hP, hD⟩ : kPD dC dI A [(jM, kMo vs (.ref lt) (.ref tx) (.int (nI (be))) (.int (nI (en))) (.int 0) (.int (-1)) (.int 0) (.int p4) v15 (.ref (ad 5)) (.ref (ad 7)) (.int 0)), (tx, .inl (cT, nT, .inl gT)), (lt, .inl (cE, 128, .inl gE))] H := ⟨hP, hD⟩
  refine lv_aload_n hx hb dX10_goThrough_73 rfl (lv_at hl 0 rfl) ?_
  refine lv_iconst (v := 0) hx hb dX10_goThrough_74 (by decide) ?_
  refine va_put (D := (dC, dI)) (ci := 10) (v := .int 0) (ty := tyX10 15) (C := RX10) (T := TX10) (N := 52) hx hb hts (fun _ h => List.mem_cons_of_mem _ (List.mem_append_right _ (List.mem_append_left _ h))) tyX10 tyX10_ok nmX10 hown hK hP hD hS 0 rfl rfl 15 (by decide) (hts (.fieldLink RX10 226 "NotEndedModel" "found" "I") (List.mem_cons_of_mem _ (List.mem_append_left _ (List.mem_of_getElem? (i := 10) rfl)))) (fun _ h9 => h9) rfl (tyX10_ok 15 (by decide)) rfl rfl (Nat.le_of_ble_eq_true rfl) dX10_goThrough_75 (fun H locs hP hD hS => ?_)
  obtain ⟨hP, hD⟩ : kPD dC dI A [(jM, kMo vs (.ref lt) (.ref tx) (.int (nI (be))) (.int (nI (en))) (.int 0) (.int (-1)) (.int 0) (.int p4) (.int 0) (.ref (ad 5)) (.ref (ad 7)) (.int 0)), (tx, .inl (cT, nT, .inl gT)), (lt, .inl (cE, 128, .inl gE))] H := ⟨hP, hD⟩
  refine lv_aload_n hx hb dX10_goThrough_78 rfl (lv_at hl 0 rfl) ?_
  obtain ⟨hPc, hDc, hFc⟩ := kCut (wc := [(jM, kMo vs (.ref lt) (.ref tx) (.int (nI (be))) (.int (nI (en))) (.int 0) (.int (-1)) (.int 0) (.int p4) (.int 0) (.ref (ad 5)) (.ref (ad 7)) (.int 0)), (tx, .inl (cT, nT, .inl gT)), (lt, .inl (cE, 128, .inl gE))]) hP hD hS hA [0, 1, 2] rfl (by decide) rfl
  have hKc := hK.sb (tys2 := [(cT, .byte), (cE, .int)]) [0, 1] rfl
  refine va_callv (va_runV (As := []) (rest := []) ⟨hx, hb, hml, hown, hts⟩ (s_clause10 l dC dI jM vs lt (ad 5) (ad 7) tx cT nT gT be en 0 (by omega) (by omega) (by omega) cE gE b6 n6 g6 hn6 hg6 b7 n7 g7 hn7 hg7 p4 0 0 H.size) (cwV 0 hts (kG (List.forall_mem_cons.mpr ⟨(List.mem_cons_of_mem _ (List.mem_append_left _ (List.mem_of_getElem? (i := 14) rfl))), (List.forall_mem_cons.mpr ⟨(List.mem_cons_of_mem _ (List.mem_append_left _ (List.mem_of_getElem? (i := 13) rfl))), (List.forall_mem_cons.mpr ⟨(List.mem_cons_of_mem _ (List.mem_append_left _ (List.mem_of_getElem? (i := 12) rfl))), (List.forall_mem_cons.mpr ⟨(List.mem_cons_of_mem _ (List.mem_append_left _ (List.mem_of_getElem? (i := 11) rfl))), (fun _ h => absurd h List.not_mem_nil)⟩)⟩)⟩)⟩) (kGV _ _ _ _) (fun _ h => List.mem_cons_of_mem _ (List.mem_append_right _ (List.mem_append_right _ (List.mem_append_left _ h)))) gw_s_clause10) rfl rfl rfl ⟨rfl, hd_X10_clause⟩ ⟨(Nat.le_of_ble_eq_true rfl), (Nat.le_of_ble_eq_true rfl)⟩) (kW_V kS2_blind (kS2_give hX.2 hS hFc) (va_recv hKc hPc (ci := 10) (q0 := 0) rfl rfl) hPc hKc hDc) rfl rfl hl.1 rfl (lv_room (Nat.le_of_ble_eq_true rfl)) dX10_goThrough_79 ⟨(Nat.le_of_ble_eq_true rfl), (Nat.le_of_ble_eq_true rfl)⟩) hS (fun q _ h => hFc q h) hFc (fun u t H1 locs ht hvm hw hB hz1 hk1 hS => ?_)
  obtain ⟨a1_3, xf_4, xd_5, fd1_6, hf1_7⟩ := u
  obtain ⟨hP1, hK1, hD1⟩ := hB
  rw [ht] at hP1
  try dsimp only at hw
  obtain ⟨hP, hD⟩ : kPD dC dI A [(jM, kMo vs (.ref lt) (.ref tx) (.int (nI (be))) (.int (nI (en))) (.int (nI (a1_3))) (.int xf_4) (.int xd_5) (.int p4) (.int fd1_6) (.ref (ad 5)) (.ref (ad 7)) (.int hf1_7)), (tx, .inl (cT, nT, .inl gT)), (lt, .inl (cE, 128, .inl gE))] H1 := kJoinI hP hD [0, 1, 2] rfl hk1 hFc hP1 hD1 rfl [some 0, some 1, some 2] rfl rfl
  generalize H1 = H at hP hS ⊢
  have hw_8 := hw
  have hw_8_a := hw_8.1
  have lp_k_9 : ∀ (n9 : Nat) (i : Nat) (lf : Int32) (ld : Int32) (lfd : Int32) (lhf : Int32) (ivk_9_0 : i ≤ en) (ivk_9_1 : (lf = -1 → ld = 0)) (H : Heap) (locs : List Loc) (_ : va_P (dC, dI) vwCl [(jM, kMo vs (.ref lt) (.ref tx) (.int (nI (be))) (.int (nI (en))) (.int (nI (i))) (.int lf) (.int ld) (.int p4) (.int lfd) (.ref (ad 5)) (.ref (ad 7)) (.int lhf)), (tx, .inl (cT, nT, .inl gT)), (lt, .inl (cE, 128, .inl gE))] H) (_ : va_D A [(jM, kMo vs (.ref lt) (.ref tx) (.int (nI (be))) (.int (nI (en))) (.int (nI (i))) (.int lf) (.int ld) (.int p4) (.int lfd) (.ref (ad 5)) (.ref (ad 7)) (.int lhf)), (tx, .inl (cT, nT, .inl gT)), (lt, .inl (cE, 128, .inl gE))]) (_ : va_S A s.heap H locs) (ls : Array Slot) (_ : lv_has ls 6 [(0, .ref jM), (1, .ref tx), (2, .int (nI (be))), (3, .int (nI (en))), (4, .int 0), (5, .int p4)]) (_ : en - i < n9), W p l e (headSpec w_s_go10_0 ({ frames := 57, cells := 0, slots := 0, locals := 3420 })).room s m (#[.ref jM, .ref tx, .int (nI (be)), .int (nI (en)), .int 0, .int p4] : Array Value) below meth c H locs 0 0 Q (F0 m 82 ls []) := by
    intro n9
    induction n9 with
    | zero => intro i lf ld lfd lhf ivk_9_0 ivk_9_1 H locs hP hD hS ls hl hm9; exact absurd hm9 (Nat.not_lt_zero _)
    | succ n9 ih_k_9 =>
      intro i lf ld lfd lhf ivk_9_0 ivk_9_1 H locs hP hD hS ls hl hm9
      refine lv_aload_n hx hb dX10_goThrough_82 rfl (lv_at hl 0 rfl) ?_
      refine va_get (D := (dC, dI)) (ci := 10) (v := .int lf) (C := RX10) (T := TX10) (N := 52) hx hb hts (fun _ h => List.mem_cons_of_mem _ (List.mem_append_right _ (List.mem_append_left _ h))) hown hK hP 0 rfl rfl 12 (by decide) (hts (.fieldLink RX10 150 "NotEndedModel" "fault" "I") (List.mem_cons_of_mem _ (List.mem_append_left _ (List.mem_of_getElem? (i := 7) rfl)))) (fun _ h9 => h9) rfl dX10_goThrough_83 ?_
      refine lv_iconst (v := (-1)) hx hb dX10_goThrough_86 (by decide) ?_
      refine lv_icmp_ne (tgt := 116) hx hb dX10_goThrough_87 (by decide) (fun c_10 => ?_) (fun c_10 => ?_)
      · refine lv_aload_n hx hb dX10_goThrough_116 rfl (lv_at hl 0 rfl) ?_
        refine va_get (D := (dC, dI)) (ci := 10) (v := .int lf) (C := RX10) (T := TX10) (N := 52) hx hb hts (fun _ h => List.mem_cons_of_mem _ (List.mem_append_right _ (List.mem_append_left _ h))) hown hK hP 0 rfl rfl 12 (by decide) (hts (.fieldLink RX10 150 "NotEndedModel" "fault" "I") (List.mem_cons_of_mem _ (List.mem_append_left _ (List.mem_of_getElem? (i := 7) rfl)))) (fun _ h9 => h9) rfl dX10_goThrough_117 ?_
        refine lv_iconst (v := (-1)) hx hb dX10_goThrough_120 (by decide) ?_
        refine lv_icmp_ne (tgt := 137) hx hb dX10_goThrough_121 (by decide) (fun c_11 => ?_) (fun c_11 => ?_)
        · have hP9 := hP
          have hD9 := hD
          have hK9 := hK
          rw [hQ]
          exact W.vret hx hb hr (fun t ht hW => ⟨⟨(i, lf, ld, lfd, lhf), rfl, trivial,  by rw [ht]; exact hP9, va_K.moved hW.alike hK9, hD9⟩, hS.F ht⟩) hS.2.2 dX10_goThrough_137
        · have e_12 := ivk_9_1 c_11
          subst e_12
          subst c_11
          refine lv_aload_n hx hb dX10_goThrough_124 rfl (lv_at hl 0 rfl) ?_
          obtain ⟨hPc, hDc, hFc⟩ := kCut (wc := [(jM, kMo vs (.ref lt) (.ref tx) (.int (nI (be))) (.int (nI (en))) (.int (nI (i))) (.int (-1)) (.int 0) (.int p4) (.int lfd) (.ref (ad 5)) (.ref (ad 7)) (.int lhf)), (tx, .inl (cT, nT, .inl gT))]) hP hD hS hA [0, 1] rfl (by decide) rfl
          have hKc := hK.sb (tys2 := [(cT, .byte)]) [0] rfl
          refine va_calli (va_runV (As := []) (rest := []) ⟨hx, hb, hml, hown, hts⟩ (s_look10 l dC dI jM vs (.int (-1) : Value) (.int 0 : Value) (.int p4 : Value) (.int lfd : Value) (.int lhf : Value) lt (ad 5) (ad 7) tx cT nT gT be en i (by omega) (by omega) (by omega) H.size) (cwV 0 hts (kG (List.forall_mem_cons.mpr ⟨(List.mem_cons_of_mem _ (List.mem_append_left _ (List.mem_of_getElem? (i := 17) rfl))), (List.forall_mem_cons.mpr ⟨(List.mem_cons_of_mem _ (List.mem_append_left _ (List.mem_of_getElem? (i := 16) rfl))), (List.forall_mem_cons.mpr ⟨(List.mem_cons_of_mem _ (List.mem_append_left _ (List.mem_of_getElem? (i := 15) rfl))), (List.forall_mem_cons.mpr ⟨(List.mem_cons_of_mem _ (List.mem_append_left _ (List.mem_of_getElem? (i := 11) rfl))), (fun _ h => absurd h List.not_mem_nil)⟩)⟩)⟩)⟩) (kGV _ _ _ _) (fun _ h => List.mem_cons_of_mem _ (List.mem_append_right _ (List.mem_append_right _ (List.mem_append_right _ (List.mem_append_left _ h))))) gw_s_look10) rfl rfl rfl ⟨rfl, hd_X10_look⟩ ⟨(Nat.le_of_ble_eq_true rfl), (Nat.le_of_ble_eq_true rfl)⟩) (kW_V kT_blind kT_give (va_recv hKc hPc (ci := 10) (q0 := 0) rfl rfl) hPc hKc hDc) rfl rfl hl.1 rfl (lv_room (Nat.le_of_ble_eq_true rfl)) dX10_goThrough_125 ⟨(Nat.le_of_ble_eq_true rfl), (Nat.le_of_ble_eq_true rfl)⟩) hS (fun q _ h => hFc q h) hFc (fun r_13 u t H1 locs ht hvm hw hB hz1 hk1 hS => ?_)
          obtain ⟨a1_14, rfl⟩ : ∃ z, z = u := ⟨_, rfl⟩
          obtain ⟨hP1, hK1, hD1⟩ := hB
          rw [ht] at hP1
          try dsimp only at hw
          obtain ⟨hP, hD⟩ : kPD dC dI A [(jM, kMo vs (.ref lt) (.ref tx) (.int (nI (be))) (.int (nI (en))) (.int (nI (a1_14))) (.int (-1)) (.int 0) (.int p4) (.int lfd) (.ref (ad 5)) (.ref (ad 7)) (.int lhf)), (tx, .inl (cT, nT, .inl gT)), (lt, .inl (cE, 128, .inl gE))] H1 := kJoinI hP hD [0, 1] rfl hk1 hFc hP1 hD1 rfl [some 0, some 1, none] rfl rfl
          generalize H1 = H at hP hS ⊢
          have hw_15 := hw
          have hw_15_3 := hw_15.2.1
          refine lv_iconst (v := (-1)) hx hb dX10_goThrough_128 (by decide) ?_
          refine lv_icmp_eq (tgt := 137) hx hb dX10_goThrough_129 (by decide) (fun c_16 => ?_) (fun c_16 => ?_)
          · have hP9 := hP
            have hD9 := hD
            have hK9 := hK
            rw [hQ]
            exact W.vret hx hb hr (fun t ht hW => ⟨⟨(a1_14, (-1), 0, lfd, lhf), rfl, trivial,  by rw [ht]; exact hP9, va_K.moved hW.alike hK9, hD9⟩, hS.F ht⟩) hS.2.2 dX10_goThrough_137
          · refine lv_aload_n hx hb dX10_goThrough_132 rfl (lv_at hl 0 rfl) ?_
            obtain ⟨hPc, hDc, hFc⟩ := kCut (wc := [(jM, kMo vs (.ref lt) (.ref tx) (.int (nI (be))) (.int (nI (en))) (.int (nI (a1_14))) (.int (-1)) (.int 0) (.int p4) (.int lfd) (.ref (ad 5)) (.ref (ad 7)) (.int lhf))]) hP hD hS hA [0] rfl (by decide) rfl
            have hKc := hK.sb (tys2 := []) [] rfl
            refine va_calli (va_runV (As := []) (rest := []) ⟨hx, hb, hml, hown, hts⟩ (s_fails10 l dC dI jM vs (.int 0 : Value) (.int p4 : Value) (.int lfd : Value) (.int lhf : Value) lt (ad 5) (ad 7) tx be en a1_14 (by omega) (by omega) (-1) H.size) (cwV 0 hts (kG (List.forall_mem_cons.mpr ⟨(List.mem_cons_of_mem _ (List.mem_append_left _ (List.mem_of_getElem? (i := 20) rfl))), (List.forall_mem_cons.mpr ⟨(List.mem_cons_of_mem _ (List.mem_append_left _ (List.mem_of_getElem? (i := 19) rfl))), (List.forall_mem_cons.mpr ⟨(List.mem_cons_of_mem _ (List.mem_append_left _ (List.mem_of_getElem? (i := 18) rfl))), (List.forall_mem_cons.mpr ⟨(List.mem_cons_of_mem _ (List.mem_append_left _ (List.mem_of_getElem? (i := 11) rfl))), (fun _ h => absurd h List.not_mem_nil)⟩)⟩)⟩)⟩) (kGV _ _ _ _) (fun _ h => List.mem_cons_of_mem _ (List.mem_append_right _ (List.mem_append_right _ (List.mem_append_right _ (List.mem_append_right _ h))))) gw_s_fails10) rfl rfl rfl ⟨rfl, hd_X10_fails⟩ ⟨(Nat.le_of_ble_eq_true rfl), (Nat.le_of_ble_eq_true rfl)⟩) (kW_V kT_blind kT_give (va_recv hKc hPc (ci := 10) (q0 := 0) rfl rfl) hPc hKc hDc) rfl rfl hl.1 rfl (lv_room (Nat.le_of_ble_eq_true rfl)) dX10_goThrough_133 ⟨(Nat.le_of_ble_eq_true rfl), (Nat.le_of_ble_eq_true rfl)⟩) hS (fun q _ h => hFc q h) hFc (fun r_17 u t H1 locs ht hvm hw hB hz1 hk1 hS => ?_)
            obtain ⟨xf_18, rfl⟩ : ∃ z, z = u := ⟨_, rfl⟩
            obtain ⟨hP1, hK1, hD1⟩ := hB
            rw [ht] at hP1
            try dsimp only at hw
            obtain ⟨hP, hD⟩ : kPD dC dI A [(jM, kMo vs (.ref lt) (.ref tx) (.int (nI (be))) (.int (nI (en))) (.int (nI (a1_14))) (.int xf_18) (.int 0) (.int p4) (.int lfd) (.ref (ad 5)) (.ref (ad 7)) (.int lhf)), (tx, .inl (cT, nT, .inl gT)), (lt, .inl (cE, 128, .inl gE))] H1 := kJoinI hP hD [0] rfl hk1 hFc hP1 hD1 rfl [some 0, none, none] rfl rfl
            generalize H1 = H at hP hS ⊢
            obtain ⟨rfl, hw_19⟩ := hw
            refine lv_pop hx hb dX10_goThrough_136 rfl ?_
            have hP9 := hP
            have hD9 := hD
            have hK9 := hK
            rw [hQ]
            exact W.vret hx hb hr (fun t ht hW => ⟨⟨(a1_14, xf_18, 0, lfd, lhf), rfl, trivial,  by rw [ht]; exact hP9, va_K.moved hW.alike hK9, hD9⟩, hS.F ht⟩) hS.2.2 dX10_goThrough_137
      · have e_20 := ivk_9_1 c_10
        subst e_20
        subst c_10
        refine lv_aload_n hx hb dX10_goThrough_90 rfl (lv_at hl 0 rfl) ?_
        obtain ⟨hPc, hDc, hFc⟩ := kCut (wc := [(jM, kMo vs (.ref lt) (.ref tx) (.int (nI (be))) (.int (nI (en))) (.int (nI (i))) (.int (-1)) (.int 0) (.int p4) (.int lfd) (.ref (ad 5)) (.ref (ad 7)) (.int lhf)), (tx, .inl (cT, nT, .inl gT))]) hP hD hS hA [0, 1] rfl (by decide) rfl
        have hKc := hK.sb (tys2 := [(cT, .byte)]) [0] rfl
        refine va_calli (va_runV (As := []) (rest := []) ⟨hx, hb, hml, hown, hts⟩ (s_look10 l dC dI jM vs (.int (-1) : Value) (.int 0 : Value) (.int p4 : Value) (.int lfd : Value) (.int lhf : Value) lt (ad 5) (ad 7) tx cT nT gT be en i (by omega) (by omega) (by omega) H.size) (cwV 0 hts (kG (List.forall_mem_cons.mpr ⟨(List.mem_cons_of_mem _ (List.mem_append_left _ (List.mem_of_getElem? (i := 17) rfl))), (List.forall_mem_cons.mpr ⟨(List.mem_cons_of_mem _ (List.mem_append_left _ (List.mem_of_getElem? (i := 16) rfl))), (List.forall_mem_cons.mpr ⟨(List.mem_cons_of_mem _ (List.mem_append_left _ (List.mem_of_getElem? (i := 15) rfl))), (List.forall_mem_cons.mpr ⟨(List.mem_cons_of_mem _ (List.mem_append_left _ (List.mem_of_getElem? (i := 11) rfl))), (fun _ h => absurd h List.not_mem_nil)⟩)⟩)⟩)⟩) (kGV _ _ _ _) (fun _ h => List.mem_cons_of_mem _ (List.mem_append_right _ (List.mem_append_right _ (List.mem_append_right _ (List.mem_append_left _ h))))) gw_s_look10) rfl rfl rfl ⟨rfl, hd_X10_look⟩ ⟨(Nat.le_of_ble_eq_true rfl), (Nat.le_of_ble_eq_true rfl)⟩) (kW_V kT_blind kT_give (va_recv hKc hPc (ci := 10) (q0 := 0) rfl rfl) hPc hKc hDc) rfl rfl hl.1 rfl (lv_room (Nat.le_of_ble_eq_true rfl)) dX10_goThrough_91 ⟨(Nat.le_of_ble_eq_true rfl), (Nat.le_of_ble_eq_true rfl)⟩) hS (fun q _ h => hFc q h) hFc (fun r_21 u t H1 locs ht hvm hw hB hz1 hk1 hS => ?_)
        obtain ⟨a1_22, rfl⟩ : ∃ z, z = u := ⟨_, rfl⟩
        obtain ⟨hP1, hK1, hD1⟩ := hB
        rw [ht] at hP1
        try dsimp only at hw
        obtain ⟨hP, hD⟩ : kPD dC dI A [(jM, kMo vs (.ref lt) (.ref tx) (.int (nI (be))) (.int (nI (en))) (.int (nI (a1_22))) (.int (-1)) (.int 0) (.int p4) (.int lfd) (.ref (ad 5)) (.ref (ad 7)) (.int lhf)), (tx, .inl (cT, nT, .inl gT)), (lt, .inl (cE, 128, .inl gE))] H1 := kJoinI hP hD [0, 1] rfl hk1 hFc hP1 hD1 rfl [some 0, some 1, none] rfl rfl
        generalize H1 = H at hP hS ⊢
        have hw_23 := hw
        have hw_23_3 := hw_23.2.1
        refine lv_bipush (v := 59) hx hb dX10_goThrough_94 (by decide) ?_
        refine lv_icmp_ne (tgt := 116) hx hb dX10_goThrough_96 (by decide) (fun c_24 => ?_) (fun c_24 => ?_)
        · refine lv_aload_n hx hb dX10_goThrough_116 rfl (lv_at hl 0 rfl) ?_
          refine va_get (D := (dC, dI)) (ci := 10) (v := .int (-1)) (C := RX10) (T := TX10) (N := 52) hx hb hts (fun _ h => List.mem_cons_of_mem _ (List.mem_append_right _ (List.mem_append_left _ h))) hown hK hP 0 rfl rfl 12 (by decide) (hts (.fieldLink RX10 150 "NotEndedModel" "fault" "I") (List.mem_cons_of_mem _ (List.mem_append_left _ (List.mem_of_getElem? (i := 7) rfl)))) (fun _ h9 => h9) rfl dX10_goThrough_117 ?_
          refine lv_iconst (v := (-1)) hx hb dX10_goThrough_120 (by decide) ?_
          refine lv_icmp_ne (tgt := 137) hx hb dX10_goThrough_121 (by decide) (fun c_25 => absurd (by decide) c_25) (fun c_25 => ?_)
          refine lv_aload_n hx hb dX10_goThrough_124 rfl (lv_at hl 0 rfl) ?_
          obtain ⟨hPc, hDc, hFc⟩ := kCut (wc := [(jM, kMo vs (.ref lt) (.ref tx) (.int (nI (be))) (.int (nI (en))) (.int (nI (a1_22))) (.int (-1)) (.int 0) (.int p4) (.int lfd) (.ref (ad 5)) (.ref (ad 7)) (.int lhf)), (tx, .inl (cT, nT, .inl gT))]) hP hD hS hA [0, 1] rfl (by decide) rfl
          have hKc := hK.sb (tys2 := [(cT, .byte)]) [0] rfl
          refine va_calli (va_runV (As := []) (rest := []) ⟨hx, hb, hml, hown, hts⟩ (s_look10 l dC dI jM vs (.int (-1) : Value) (.int 0 : Value) (.int p4 : Value) (.int lfd : Value) (.int lhf : Value) lt (ad 5) (ad 7) tx cT nT gT be en a1_22 (by omega) (by omega) (by omega) H.size) (cwV 0 hts (kG (List.forall_mem_cons.mpr ⟨(List.mem_cons_of_mem _ (List.mem_append_left _ (List.mem_of_getElem? (i := 17) rfl))), (List.forall_mem_cons.mpr ⟨(List.mem_cons_of_mem _ (List.mem_append_left _ (List.mem_of_getElem? (i := 16) rfl))), (List.forall_mem_cons.mpr ⟨(List.mem_cons_of_mem _ (List.mem_append_left _ (List.mem_of_getElem? (i := 15) rfl))), (List.forall_mem_cons.mpr ⟨(List.mem_cons_of_mem _ (List.mem_append_left _ (List.mem_of_getElem? (i := 11) rfl))), (fun _ h => absurd h List.not_mem_nil)⟩)⟩)⟩)⟩) (kGV _ _ _ _) (fun _ h => List.mem_cons_of_mem _ (List.mem_append_right _ (List.mem_append_right _ (List.mem_append_right _ (List.mem_append_left _ h))))) gw_s_look10) rfl rfl rfl ⟨rfl, hd_X10_look⟩ ⟨(Nat.le_of_ble_eq_true rfl), (Nat.le_of_ble_eq_true rfl)⟩) (kW_V kT_blind kT_give (va_recv hKc hPc (ci := 10) (q0 := 0) rfl rfl) hPc hKc hDc) rfl rfl hl.1 rfl (lv_room (Nat.le_of_ble_eq_true rfl)) dX10_goThrough_125 ⟨(Nat.le_of_ble_eq_true rfl), (Nat.le_of_ble_eq_true rfl)⟩) hS (fun q _ h => hFc q h) hFc (fun r_26 u t H1 locs ht hvm hw hB hz1 hk1 hS => ?_)
          obtain ⟨a1_27, rfl⟩ : ∃ z, z = u := ⟨_, rfl⟩
          obtain ⟨hP1, hK1, hD1⟩ := hB
          rw [ht] at hP1
          try dsimp only at hw
          obtain ⟨hP, hD⟩ : kPD dC dI A [(jM, kMo vs (.ref lt) (.ref tx) (.int (nI (be))) (.int (nI (en))) (.int (nI (a1_27))) (.int (-1)) (.int 0) (.int p4) (.int lfd) (.ref (ad 5)) (.ref (ad 7)) (.int lhf)), (tx, .inl (cT, nT, .inl gT)), (lt, .inl (cE, 128, .inl gE))] H1 := kJoinI hP hD [0, 1] rfl hk1 hFc hP1 hD1 rfl [some 0, some 1, none] rfl rfl
          generalize H1 = H at hP hS ⊢
          have hw_28 := hw
          have hw_28_3 := hw_28.2.1
          refine lv_iconst (v := (-1)) hx hb dX10_goThrough_128 (by decide) ?_
          refine lv_icmp_eq (tgt := 137) hx hb dX10_goThrough_129 (by decide) (fun c_29 => ?_) (fun c_29 => ?_)
          · have hP9 := hP
            have hD9 := hD
            have hK9 := hK
            rw [hQ]
            exact W.vret hx hb hr (fun t ht hW => ⟨⟨(a1_27, (-1), 0, lfd, lhf), rfl, trivial,  by rw [ht]; exact hP9, va_K.moved hW.alike hK9, hD9⟩, hS.F ht⟩) hS.2.2 dX10_goThrough_137
          · refine lv_aload_n hx hb dX10_goThrough_132 rfl (lv_at hl 0 rfl) ?_
            obtain ⟨hPc, hDc, hFc⟩ := kCut (wc := [(jM, kMo vs (.ref lt) (.ref tx) (.int (nI (be))) (.int (nI (en))) (.int (nI (a1_27))) (.int (-1)) (.int 0) (.int p4) (.int lfd) (.ref (ad 5)) (.ref (ad 7)) (.int lhf))]) hP hD hS hA [0] rfl (by decide) rfl
            have hKc := hK.sb (tys2 := []) [] rfl
            refine va_calli (va_runV (As := []) (rest := []) ⟨hx, hb, hml, hown, hts⟩ (s_fails10 l dC dI jM vs (.int 0 : Value) (.int p4 : Value) (.int lfd : Value) (.int lhf : Value) lt (ad 5) (ad 7) tx be en a1_27 (by omega) (by omega) (-1) H.size) (cwV 0 hts (kG (List.forall_mem_cons.mpr ⟨(List.mem_cons_of_mem _ (List.mem_append_left _ (List.mem_of_getElem? (i := 20) rfl))), (List.forall_mem_cons.mpr ⟨(List.mem_cons_of_mem _ (List.mem_append_left _ (List.mem_of_getElem? (i := 19) rfl))), (List.forall_mem_cons.mpr ⟨(List.mem_cons_of_mem _ (List.mem_append_left _ (List.mem_of_getElem? (i := 18) rfl))), (List.forall_mem_cons.mpr ⟨(List.mem_cons_of_mem _ (List.mem_append_left _ (List.mem_of_getElem? (i := 11) rfl))), (fun _ h => absurd h List.not_mem_nil)⟩)⟩)⟩)⟩) (kGV _ _ _ _) (fun _ h => List.mem_cons_of_mem _ (List.mem_append_right _ (List.mem_append_right _ (List.mem_append_right _ (List.mem_append_right _ h))))) gw_s_fails10) rfl rfl rfl ⟨rfl, hd_X10_fails⟩ ⟨(Nat.le_of_ble_eq_true rfl), (Nat.le_of_ble_eq_true rfl)⟩) (kW_V kT_blind kT_give (va_recv hKc hPc (ci := 10) (q0 := 0) rfl rfl) hPc hKc hDc) rfl rfl hl.1 rfl (lv_room (Nat.le_of_ble_eq_true rfl)) dX10_goThrough_133 ⟨(Nat.le_of_ble_eq_true rfl), (Nat.le_of_ble_eq_true rfl)⟩) hS (fun q _ h => hFc q h) hFc (fun r_30 u t H1 locs ht hvm hw hB hz1 hk1 hS => ?_)
            obtain ⟨xf_31, rfl⟩ : ∃ z, z = u := ⟨_, rfl⟩
            obtain ⟨hP1, hK1, hD1⟩ := hB
            rw [ht] at hP1
            try dsimp only at hw
            obtain ⟨hP, hD⟩ : kPD dC dI A [(jM, kMo vs (.ref lt) (.ref tx) (.int (nI (be))) (.int (nI (en))) (.int (nI (a1_27))) (.int xf_31) (.int 0) (.int p4) (.int lfd) (.ref (ad 5)) (.ref (ad 7)) (.int lhf)), (tx, .inl (cT, nT, .inl gT)), (lt, .inl (cE, 128, .inl gE))] H1 := kJoinI hP hD [0] rfl hk1 hFc hP1 hD1 rfl [some 0, none, none] rfl rfl
            generalize H1 = H at hP hS ⊢
            obtain ⟨rfl, hw_32⟩ := hw
            refine lv_pop hx hb dX10_goThrough_136 rfl ?_
            have hP9 := hP
            have hD9 := hD
            have hK9 := hK
            rw [hQ]
            exact W.vret hx hb hr (fun t ht hW => ⟨⟨(a1_27, xf_31, 0, lfd, lhf), rfl, trivial,  by rw [ht]; exact hP9, va_K.moved hW.alike hK9, hD9⟩, hS.F ht⟩) hS.2.2 dX10_goThrough_137
        · have hns_33 := hw_23.1.resolve_left (fun z9 => absurd (c_24.symm.trans z9) (by decide))
          have hns_33_1 := hns_33.1
          refine lv_aload_n hx hb dX10_goThrough_99 rfl (lv_at hl 0 rfl) ?_
          refine lv_dup hx hb dX10_goThrough_100 rfl ?_
          refine va_get (D := (dC, dI)) (ci := 10) (v := .int (nI (a1_22))) (C := RX10) (T := TX10) (N := 52) hx hb hts (fun _ h => List.mem_cons_of_mem _ (List.mem_append_right _ (List.mem_append_left _ h))) hown hK hP 0 rfl rfl 11 (by decide) (hts (.fieldLink RX10 141 "NotEndedModel" "at" "I") (List.mem_cons_of_mem _ (List.mem_append_left _ (List.mem_of_getElem? (i := 6) rfl)))) (fun _ h9 => h9) rfl dX10_goThrough_101 ?_
          refine lv_iconst (v := 1) hx hb dX10_goThrough_104 (by decide) ?_
          refine lv_iadd hx hb dX10_goThrough_105 ?_
          refine lv_topi (fun y_34 ey_34 => ?_)
          obtain rfl : y_34 = nI (a1_22 + 1) := ey_34.trans (nI_add (a1_22) (1))
          refine va_put (D := (dC, dI)) (ci := 10) (v := .int (nI (a1_22 + 1))) (ty := tyX10 11) (C := RX10) (T := TX10) (N := 52) hx hb hts (fun _ h => List.mem_cons_of_mem _ (List.mem_append_right _ (List.mem_append_left _ h))) tyX10 tyX10_ok nmX10 hown hK hP hD hS 0 rfl rfl 11 (by decide) (hts (.fieldLink RX10 141 "NotEndedModel" "at" "I") (List.mem_cons_of_mem _ (List.mem_append_left _ (List.mem_of_getElem? (i := 6) rfl)))) (fun _ h9 => h9) rfl (tyX10_ok 11 (by decide)) rfl rfl (Nat.le_of_ble_eq_true rfl) dX10_goThrough_106 (fun H locs hP hD hS => ?_)
          obtain ⟨hP, hD⟩ : kPD dC dI A [(jM, kMo vs (.ref lt) (.ref tx) (.int (nI (be))) (.int (nI (en))) (.int (nI (a1_22 + 1))) (.int (-1)) (.int 0) (.int p4) (.int lfd) (.ref (ad 5)) (.ref (ad 7)) (.int lhf)), (tx, .inl (cT, nT, .inl gT)), (lt, .inl (cE, 128, .inl gE))] H := ⟨hP, hD⟩
          refine lv_aload_n hx hb dX10_goThrough_109 rfl (lv_at hl 0 rfl) ?_
          obtain ⟨hPc, hDc, hFc⟩ := kCut (wc := [(jM, kMo vs (.ref lt) (.ref tx) (.int (nI (be))) (.int (nI (en))) (.int (nI (a1_22 + 1))) (.int (-1)) (.int 0) (.int p4) (.int lfd) (.ref (ad 5)) (.ref (ad 7)) (.int lhf)), (tx, .inl (cT, nT, .inl gT)), (lt, .inl (cE, 128, .inl gE))]) hP hD hS hA [0, 1, 2] rfl (by decide) rfl
          have hKc := hK.sb (tys2 := [(cT, .byte), (cE, .int)]) [0, 1] rfl
          refine va_callv (va_runV (As := []) (rest := []) ⟨hx, hb, hml, hown, hts⟩ (s_clause10 l dC dI jM vs lt (ad 5) (ad 7) tx cT nT gT be en (a1_22 + 1) (by omega) (by omega) (by omega) cE gE b6 n6 g6 hn6 hg6 b7 n7 g7 hn7 hg7 p4 lfd lhf H.size) (cwV 0 hts (kG (List.forall_mem_cons.mpr ⟨(List.mem_cons_of_mem _ (List.mem_append_left _ (List.mem_of_getElem? (i := 14) rfl))), (List.forall_mem_cons.mpr ⟨(List.mem_cons_of_mem _ (List.mem_append_left _ (List.mem_of_getElem? (i := 13) rfl))), (List.forall_mem_cons.mpr ⟨(List.mem_cons_of_mem _ (List.mem_append_left _ (List.mem_of_getElem? (i := 12) rfl))), (List.forall_mem_cons.mpr ⟨(List.mem_cons_of_mem _ (List.mem_append_left _ (List.mem_of_getElem? (i := 11) rfl))), (fun _ h => absurd h List.not_mem_nil)⟩)⟩)⟩)⟩) (kGV _ _ _ _) (fun _ h => List.mem_cons_of_mem _ (List.mem_append_right _ (List.mem_append_right _ (List.mem_append_left _ h)))) gw_s_clause10) rfl rfl rfl ⟨rfl, hd_X10_clause⟩ ⟨(Nat.le_of_ble_eq_true rfl), (Nat.le_of_ble_eq_true rfl)⟩) (kW_V kS2_blind (kS2_give hX.2 hS hFc) (va_recv hKc hPc (ci := 10) (q0 := 0) rfl rfl) hPc hKc hDc) rfl rfl hl.1 rfl (lv_room (Nat.le_of_ble_eq_true rfl)) dX10_goThrough_110 ⟨(Nat.le_of_ble_eq_true rfl), (Nat.le_of_ble_eq_true rfl)⟩) hS (fun q _ h => hFc q h) hFc (fun u t H1 locs ht hvm hw hB hz1 hk1 hS => ?_)
          obtain ⟨a1_35, xf_36, xd_37, fd1_38, hf1_39⟩ := u
          obtain ⟨hP1, hK1, hD1⟩ := hB
          rw [ht] at hP1
          try dsimp only at hw
          obtain ⟨hP, hD⟩ : kPD dC dI A [(jM, kMo vs (.ref lt) (.ref tx) (.int (nI (be))) (.int (nI (en))) (.int (nI (a1_35))) (.int xf_36) (.int xd_37) (.int p4) (.int fd1_38) (.ref (ad 5)) (.ref (ad 7)) (.int hf1_39)), (tx, .inl (cT, nT, .inl gT)), (lt, .inl (cE, 128, .inl gE))] H1 := kJoinI hP hD [0, 1, 2] rfl hk1 hFc hP1 hD1 rfl [some 0, some 1, some 2] rfl rfl
          generalize H1 = H at hP hS ⊢
          have hw_40 := hw
          have hw_40_a := hw_40.1
          refine lv_goto (tgt := 82) hx hb dX10_goThrough_113 (by decide) ?_
          exact ih_k_9 a1_35 xf_36 xd_37 fd1_38 hf1_39 (by omega) hw_40.2 _ _ hP hD hS ls (lv_sub hl [0, 1, 2, 3, 4, 5] rfl) (by omega)
  exact lp_k_9 (en - a1_3 + 1) a1_3 xf_4 xd_5 fd1_6 hf1_7 (by omega) hw_8.2 _ _ hP hD hS ls (lv_sub hl [0, 1, 2, 3, 4, 5] rfl) (by omega)

theorem dX10_goThrough_21 : decode cX10_goThrough 21 = .ok (.ldc 229, 2) := by decide +kernel
theorem dX10_goThrough_23 : decode cX10_goThrough 23 = .ok (.goto 5, 3) := by decide +kernel
theorem dX10_goThrough_37 : decode cX10_goThrough 37 = .ok (.ldc 231, 2) := by decide +kernel
theorem dX10_goThrough_39 : decode cX10_goThrough 39 = .ok (.goto 5, 3) := by decide +kernel
def w_s_go10_1 : List Cond := .code yX10_goThrough cX10_goThrough 6 none :: ([.fieldLink RX10 23 "NotEndedModel" "text" "[B", .fieldLink RX10 147 "NotEndedModel" "begins" "I", .fieldLink RX10 144 "NotEndedModel" "ends" "I", .fieldLink RX10 28 "NotEndedModel" "labels" "Ljava/lang/String;", .fieldLink RX10 34 "NotEndedModel" "allowed" "Ljava/lang/String;", .fieldLink RX10 223 "NotEndedModel" "label" "I", .fieldLink RX10 141 "NotEndedModel" "at" "I", .fieldLink RX10 150 "NotEndedModel" "fault" "I", .fieldLink RX10 153 "NotEndedModel" "deep" "I", .fieldLink RX10 219 "NotEndedModel" "hasFound" "Z", .fieldLink RX10 226 "NotEndedModel" "found" "I", .initialized RX10, .selects RX10 yX10_clause yX10_clause, .instanceMethod yX10_clause, .methodLink RX10 233 yX10_clause, .selects RX10 yX10_look yX10_look, .instanceMethod yX10_look, .methodLink RX10 160 yX10_look, .selects RX10 yX10_fails yX10_fails, .instanceMethod yX10_fails, .methodLink RX10 156 yX10_fails] ++ (wsX100 ++ (w_s_clause10 ++ (w_s_look10 ++ (w_s_fails10)))))
theorem gw_s_go10_1 : (w_s_go10_1).all goodWord = true := kGc rfl (kGa (by decide +kernel) (kGa gw_wsX100 (kGa gw_s_clause10 (kGa gw_s_look10 gw_s_fails10))))
set_option maxHeartbeats 4000000 in
set_option maxRecDepth 100000 in
theorem s_go10_1 (l : Launch) (dC : Nat → ClassId) (dI : Nat → Nat → Nat) (ad : Nat → Nat) (jM : Nat) (vs : Nat → Value) (v5 : Value) (v9 : Value) (v10 : Value) (v11 : Value) (v12 : Value) (v13 : Value) (v14 : Value) (v15 : Value) (v16 : Value) (v17 : Value) (v18 : Value) (lt : Nat) (tx : Nat) (cT : ClassId) (nT : Nat) (gT : Nat → Int32) (be : Nat) (en : Nat) (hbe : be + en ≤ nT) (hnT : nT ≤ 1680) (cE : ClassId) (gE : Nat → Int32) (b6 : Nat) (n6 : Nat) (g6 : Nat → Int32) (hn6 : n6 ≤ 8) (hg6 : ∀ k : Nat, ∃ v : Nat, v < 128 ∧ g6 k = nI v) (b7 : Nat) (n7 : Nat) (g7 : Nat → Int32) (hn7 : n7 ≤ 8) (hg7 : ∀ k : Nat, ∃ v : Nat, v < 128 ∧ g7 k = nI v) (p4 : Int32) (sz : Nat) : Met l yX10_goThrough w_s_go10_1 ({ frames := 57, cells := 0, slots := 0, locals := 3420 }) (kW dC dI [.ref jM, .ref tx, .int (nI (be)), .int (nI (en)), .int 1, .int p4] [(jM, kMo vs (.ref lt) v5 v9 v10 v11 v12 v13 v14 v15 v16 v17 v18), (tx, .inl (cT, nT, .inl gT)), (lt, .inl (cE, 128, .inl gE))] [(cT, .byte), (cE, .int)] (kRd ad 6 8 b6 n6 g6 b7 n7 g7 (va_A [(jM, kMo vs (.ref lt) v5 v9 v10 v11 v12 v13 v14 v15 v16 v17 v18), (tx, .inl (cT, nT, .inl gT)), (lt, .inl (cE, 128, .inl gE))] sz)) sz) (va_Qv (fun (u : Nat × Int32 × Int32 × Int32 × Int32) => match u with | (a1, xf, xd, fd, hf) => True) (fun (u : Nat × Int32 × Int32 × Int32 × Int32) => match u with | (a1, xf, xd, fd, hf) => fun t : State => kB dC dI [(jM, kMo vs (.ref lt) (.ref tx) (.int (nI (be))) (.int (nI (en))) (.int (nI (a1))) (.int xf) (.int xd) (.int p4) (.int fd) (.ref (ad 6)) (.ref (ad 8)) (.int hf)), (tx, .inl (cT, nT, .inl gT)), (lt, .inl (cE, 128, .inl gE))] [(cT, .byte), (cE, .int)] (va_A [(jM, kMo vs (.ref lt) v5 v9 v10 v11 v12 v13 v14 v15 v16 v17 v18), (tx, .inl (cT, nT, .inl gT)), (lt, .inl (cE, 128, .inl gE))] sz) t) (va_A [(jM, kMo vs (.ref lt) v5 v9 v10 v11 v12 v13 v14 v15 v16 v17 v18), (tx, .inl (cT, nT, .inl gT)), (lt, .inl (cE, 128, .inl gE))] sz)) 0 0 (va_A [(jM, kMo vs (.ref lt) v5 v9 v10 v11 v12 v13 v14 v15 v16 v17 v18), (tx, .inl (cT, nT, .inl gT)), (lt, .inl (cE, 128, .inl gE))] sz) := by
  refine Met.ofW (cc := cX10_goThrough) (maxL := 6) (ret := none) (by decide) rfl ?_
  intro p e s m args below meth c s₁ B hml hv
  obtain ⟨rfl, hsz, hP, hK, hD0, hX⟩ := hv
  have hx := B.exec
  have hb := B.bytes
  have hr := B.returns
  have hts := atoms_spec (ws := w_s_go10_1) B.pre
  have hown : s.vm.findClass RX10 = some m.cls := findClass_of_methodNamed B.named
  have hlocks := B.notSynchronized
  subst hsz
  have hD := hD0.self (sz := s.heap.size)
  generalize hAe : va_A [(jM, kMo vs (.ref lt) v5 v9 v10 v11 v12 v13 v14 v15 v16 v17 v18), (tx, .inl (cT, nT, .inl gT)), (lt, .inl (cE, 128, .inl gE))] s.heap.size = A at hD hX ⊢
  have hA : ∀ q : Nat, s.heap.size ≤ q → A q := fun q h => by rw [← hAe]; exact Or.inr h
  have hS : va_S A s.heap s.heap [] := va_S.rf
  have hP : va_P (dC, dI) vwCl [(jM, kMo vs (.ref lt) v5 v9 v10 v11 v12 v13 v14 v15 v16 v17 v18), (tx, .inl (cT, nT, .inl gT)), (lt, .inl (cE, 128, .inl gE))] s.heap := hP
  have hl := lv_entry ([.ref jM, .ref tx, .int (nI (be)), .int (nI (en)), .int 1, .int p4]) (n := 6) (Nat.le_of_ble_eq_true rfl)
  rw [lg_entry_eq]
  generalize (lg_sl ([.ref jM, .ref tx, .int (nI (be)), .int (nI (en)), .int 1, .int p4]) ++ List.replicate (6 - (lg_sl ([.ref jM, .ref tx, .int (nI (be)), .int (nI (en)), .int 1, .int p4])).length) Slot.unset).toArray = ls at hl ⊢
  have hl : lv_has ls 6 [(0, .ref jM), (1, .ref tx), (2, .int (nI (be))), (3, .int (nI (en))), (4, .int 1), (5, .int p4)] := hl
  refine kQ (fun Q hQ => ?_)
  refine lv_aload_n hx hb dX10_goThrough_0 rfl (lv_at hl 0 rfl) ?_
  refine lv_aload_n hx hb dX10_goThrough_1 rfl (lv_at hl 1 rfl) ?_
  refine va_put (D := (dC, dI)) (ci := 10) (v := .ref tx) (ty := tyX10 5) (C := RX10) (T := TX10) (N := 52) hx hb hts (fun _ h => List.mem_cons_of_mem _ (List.mem_append_right _ (List.mem_append_left _ h))) tyX10 tyX10_ok nmX10 hown hK hP hD hS 0 rfl rfl 5 (by decide) (hts (.fieldLink RX10 23 "NotEndedModel" "text" "[B") (List.mem_cons_of_mem _ (List.mem_append_left _ (List.mem_of_getElem? (i := 0) rfl)))) (fun _ h9 => h9) rfl (tyX10_ok 5 (by decide)) rfl rfl (Nat.le_of_ble_eq_true rfl) dX10_goThrough_2 (fun H locs hP hD hS => ?_)
  obtain ⟨hP, hD⟩ : kPD dC dI A [(jM, kMo vs (.ref lt) (.ref tx) v9 v10 v11 v12 v13 v14 v15 v16 v17 v18), (tx, .inl (cT, nT, .inl gT)), (lt, .inl (cE, 128, .inl gE))] H := ⟨hP, hD⟩
  refine lv_aload_n hx hb dX10_goThrough_5 rfl (lv_at hl 0 rfl) ?_
  refine lv_iload_n hx hb dX10_goThrough_6 rfl (lv_at hl 2 rfl) ?_
  refine va_put (D := (dC, dI)) (ci := 10) (v := .int (nI (be))) (ty := tyX10 9) (C := RX10) (T := TX10) (N := 52) hx hb hts (fun _ h => List.mem_cons_of_mem _ (List.mem_append_right _ (List.mem_append_left _ h))) tyX10 tyX10_ok nmX10 hown hK hP hD hS 0 rfl rfl 9 (by decide) (hts (.fieldLink RX10 147 "NotEndedModel" "begins" "I") (List.mem_cons_of_mem _ (List.mem_append_left _ (List.mem_of_getElem? (i := 1) rfl)))) (fun _ h9 => h9) rfl (tyX10_ok 9 (by decide)) rfl rfl (Nat.le_of_ble_eq_true rfl) dX10_goThrough_7 (fun H locs hP hD hS => ?_)
  obtain ⟨hP, hD⟩ : kPD dC dI A [(jM, kMo vs (.ref lt) (.ref tx) (.int (nI (be))) v10 v11 v12 v13 v14 v15 v16 v17 v18), (tx, .inl (cT, nT, .inl gT)), (lt, .inl (cE, 128, .inl gE))] H := ⟨hP, hD⟩
  refine lv_aload_n hx hb dX10_goThrough_10 rfl (lv_at hl 0 rfl) ?_
  refine lv_iload_n hx hb dX10_goThrough_11 rfl (lv_at hl 3 rfl) ?_
  refine va_put (D := (dC, dI)) (ci := 10) (v := .int (nI (en))) (ty := tyX10 10) (C := RX10) (T := TX10) (N := 52) hx hb hts (fun _ h => List.mem_cons_of_mem _ (List.mem_append_right _ (List.mem_append_left _ h))) tyX10 tyX10_ok nmX10 hown hK hP hD hS 0 rfl rfl 10 (by decide) (hts (.fieldLink RX10 144 "NotEndedModel" "ends" "I") (List.mem_cons_of_mem _ (List.mem_append_left _ (List.mem_of_getElem? (i := 2) rfl)))) (fun _ h9 => h9) rfl (tyX10_ok 10 (by decide)) rfl rfl (Nat.le_of_ble_eq_true rfl) dX10_goThrough_12 (fun H locs hP hD hS => ?_)
  obtain ⟨hP, hD⟩ : kPD dC dI A [(jM, kMo vs (.ref lt) (.ref tx) (.int (nI (be))) (.int (nI (en))) v11 v12 v13 v14 v15 v16 v17 v18), (tx, .inl (cT, nT, .inl gT)), (lt, .inl (cE, 128, .inl gE))] H := ⟨hP, hD⟩
  refine lv_aload_n hx hb dX10_goThrough_15 rfl (lv_at hl 0 rfl) ?_
  refine lv_iload hx hb dX10_goThrough_16 (lv_at hl 4 rfl) ?_
  refine lv_if_eq (tgt := 26) hx hb dX10_goThrough_18 (by decide) (fun c_1 => absurd c_1 (by decide)) (fun c_1 => ?_)
  refine va_ldcS hx hb hown hX.1.2.2.2.2.2.2.1 dX10_goThrough_21 ?_
  refine lv_goto (tgt := 28) hx hb dX10_goThrough_23 (by decide) ?_
  refine va_put (D := (dC, dI)) (ci := 10) (v := .ref (ad 6)) (ty := tyX10 16) (C := RX10) (T := TX10) (N := 52) hx hb hts (fun _ h => List.mem_cons_of_mem _ (List.mem_append_right _ (List.mem_append_left _ h))) tyX10 tyX10_ok nmX10 hown hK hP hD hS 0 rfl rfl 16 (by decide) (hts (.fieldLink RX10 28 "NotEndedModel" "labels" "Ljava/lang/String;") (List.mem_cons_of_mem _ (List.mem_append_left _ (List.mem_of_getElem? (i := 3) rfl)))) (fun _ h9 => h9) rfl (tyX10_ok 16 (by decide)) rfl rfl (Nat.le_of_ble_eq_true rfl) dX10_goThrough_28 (fun H locs hP hD hS => ?_)
  obtain ⟨hP, hD⟩ : kPD dC dI A [(jM, kMo vs (.ref lt) (.ref tx) (.int (nI (be))) (.int (nI (en))) v11 v12 v13 v14 v15 (.ref (ad 6)) v17 v18), (tx, .inl (cT, nT, .inl gT)), (lt, .inl (cE, 128, .inl gE))] H := ⟨hP, hD⟩
  refine lv_aload_n hx hb dX10_goThrough_31 rfl (lv_at hl 0 rfl) ?_
  refine lv_iload hx hb dX10_goThrough_32 (lv_at hl 4 rfl) ?_
  refine lv_if_eq (tgt := 42) hx hb dX10_goThrough_34 (by decide) (fun c_2 => absurd c_2 (by decide)) (fun c_2 => ?_)
  refine va_ldcS hx hb hown hX.1.2.2.2.2.2.2.2.2 dX10_goThrough_37 ?_
  refine lv_goto (tgt := 44) hx hb dX10_goThrough_39 (by decide) ?_
  refine va_put (D := (dC, dI)) (ci := 10) (v := .ref (ad 8)) (ty := tyX10 17) (C := RX10) (T := TX10) (N := 52) hx hb hts (fun _ h => List.mem_cons_of_mem _ (List.mem_append_right _ (List.mem_append_left _ h))) tyX10 tyX10_ok nmX10 hown hK hP hD hS 0 rfl rfl 17 (by decide) (hts (.fieldLink RX10 34 "NotEndedModel" "allowed" "Ljava/lang/String;") (List.mem_cons_of_mem _ (List.mem_append_left _ (List.mem_of_getElem? (i := 4) rfl)))) (fun _ h9 => h9) rfl (tyX10_ok 17 (by decide)) rfl rfl (Nat.le_of_ble_eq_true rfl) dX10_goThrough_44 (fun H locs hP hD hS => ?_)
  obtain ⟨hP, hD⟩ : kPD dC dI A [(jM, kMo vs (.ref lt) (.ref tx) (.int (nI (be))) (.int (nI (en))) v11 v12 v13 v14 v15 (.ref (ad 6)) (.ref (ad 8)) v18), (tx, .inl (cT, nT, .inl gT)), (lt, .inl (cE, 128, .inl gE))] H := ⟨hP, hD⟩
  refine lv_aload_n hx hb dX10_goThrough_47 rfl (lv_at hl 0 rfl) ?_
  refine lv_iload hx hb dX10_goThrough_48 (lv_at hl 5 rfl) ?_
  refine va_put (D := (dC, dI)) (ci := 10) (v := .int p4) (ty := tyX10 14) (C := RX10) (T := TX10) (N := 52) hx hb hts (fun _ h => List.mem_cons_of_mem _ (List.mem_append_right _ (List.mem_append_left _ h))) tyX10 tyX10_ok nmX10 hown hK hP hD hS 0 rfl rfl 14 (by decide) (hts (.fieldLink RX10 223 "NotEndedModel" "label" "I") (List.mem_cons_of_mem _ (List.mem_append_left _ (List.mem_of_getElem? (i := 5) rfl)))) (fun _ h9 => h9) rfl (tyX10_ok 14 (by decide)) rfl rfl (Nat.le_of_ble_eq_true rfl) dX10_goThrough_50 (fun H locs hP hD hS => ?_)
  obtain ⟨hP, hD⟩ : kPD dC dI A [(jM, kMo vs (.ref lt) (.ref tx) (.int (nI (be))) (.int (nI (en))) v11 v12 v13 (.int p4) v15 (.ref (ad 6)) (.ref (ad 8)) v18), (tx, .inl (cT, nT, .inl gT)), (lt, .inl (cE, 128, .inl gE))] H := ⟨hP, hD⟩
  refine lv_aload_n hx hb dX10_goThrough_53 rfl (lv_at hl 0 rfl) ?_
  refine lv_iconst (v := 0) hx hb dX10_goThrough_54 (by decide) ?_
  refine va_put (D := (dC, dI)) (ci := 10) (v := .int 0) (ty := tyX10 11) (C := RX10) (T := TX10) (N := 52) hx hb hts (fun _ h => List.mem_cons_of_mem _ (List.mem_append_right _ (List.mem_append_left _ h))) tyX10 tyX10_ok nmX10 hown hK hP hD hS 0 rfl rfl 11 (by decide) (hts (.fieldLink RX10 141 "NotEndedModel" "at" "I") (List.mem_cons_of_mem _ (List.mem_append_left _ (List.mem_of_getElem? (i := 6) rfl)))) (fun _ h9 => h9) rfl (tyX10_ok 11 (by decide)) rfl rfl (Nat.le_of_ble_eq_true rfl) dX10_goThrough_55 (fun H locs hP hD hS => ?_)
  obtain ⟨hP, hD⟩ : kPD dC dI A [(jM, kMo vs (.ref lt) (.ref tx) (.int (nI (be))) (.int (nI (en))) (.int 0) v12 v13 (.int p4) v15 (.ref (ad 6)) (.ref (ad 8)) v18), (tx, .inl (cT, nT, .inl gT)), (lt, .inl (cE, 128, .inl gE))] H := ⟨hP, hD⟩
  refine lv_aload_n hx hb dX10_goThrough_58 rfl (lv_at hl 0 rfl) ?_
  refine lv_iconst (v := (-1)) hx hb dX10_goThrough_59 (by decide) ?_
  refine va_put (D := (dC, dI)) (ci := 10) (v := .int (-1)) (ty := tyX10 12) (C := RX10) (T := TX10) (N := 52) hx hb hts (fun _ h => List.mem_cons_of_mem _ (List.mem_append_right _ (List.mem_append_left _ h))) tyX10 tyX10_ok nmX10 hown hK hP hD hS 0 rfl rfl 12 (by decide) (hts (.fieldLink RX10 150 "NotEndedModel" "fault" "I") (List.mem_cons_of_mem _ (List.mem_append_left _ (List.mem_of_getElem? (i := 7) rfl)))) (fun _ h9 => h9) rfl (tyX10_ok 12 (by decide)) rfl rfl (Nat.le_of_ble_eq_true rfl) dX10_goThrough_60 (fun H locs hP hD hS => ?_)
  obtain ⟨hP, hD⟩ : kPD dC dI A [(jM, kMo vs (.ref lt) (.ref tx) (.int (nI (be))) (.int (nI (en))) (.int 0) (.int (-1)) v13 (.int p4) v15 (.ref (ad 6)) (.ref (ad 8)) v18), (tx, .inl (cT, nT, .inl gT)), (lt, .inl (cE, 128, .inl gE))] H := ⟨hP, hD⟩
  refine lv_aload_n hx hb dX10_goThrough_63 rfl (lv_at hl 0 rfl) ?_
  refine lv_iconst (v := 0) hx hb dX10_goThrough_64 (by decide) ?_
  refine va_put (D := (dC, dI)) (ci := 10) (v := .int 0) (ty := tyX10 13) (C := RX10) (T := TX10) (N := 52) hx hb hts (fun _ h => List.mem_cons_of_mem _ (List.mem_append_right _ (List.mem_append_left _ h))) tyX10 tyX10_ok nmX10 hown hK hP hD hS 0 rfl rfl 13 (by decide) (hts (.fieldLink RX10 153 "NotEndedModel" "deep" "I") (List.mem_cons_of_mem _ (List.mem_append_left _ (List.mem_of_getElem? (i := 8) rfl)))) (fun _ h9 => h9) rfl (tyX10_ok 13 (by decide)) rfl rfl (Nat.le_of_ble_eq_true rfl) dX10_goThrough_65 (fun H locs hP hD hS => ?_)
  obtain ⟨hP, hD⟩ : kPD dC dI A [(jM, kMo vs (.ref lt) (.ref tx) (.int (nI (be))) (.int (nI (en))) (.int 0) (.int (-1)) (.int 0) (.int p4) v15 (.ref (ad 6)) (.ref (ad 8)) v18), (tx, .inl (cT, nT, .inl gT)), (lt, .inl (cE, 128, .inl gE))] H := ⟨hP, hD⟩
  refine lv_aload_n hx hb dX10_goThrough_68 rfl (lv_at hl 0 rfl) ?_
  refine lv_iconst (v := 0) hx hb dX10_goThrough_69 (by decide) ?_
  refine va_put (D := (dC, dI)) (ci := 10) (v := .int 0) (ty := tyX10 18) (C := RX10) (T := TX10) (N := 52) hx hb hts (fun _ h => List.mem_cons_of_mem _ (List.mem_append_right _ (List.mem_append_left _ h))) tyX10 tyX10_ok nmX10 hown hK hP hD hS 0 rfl rfl 18 (by decide) (hts (.fieldLink RX10 219 "NotEndedModel" "hasFound" "Z") (List.mem_cons_of_mem _ (List.mem_append_left _ (List.mem_of_getElem? (i := 9) rfl)))) (fun _ h9 => h9) rfl (tyX10_ok 18 (by decide)) rfl rfl (Nat.le_of_ble_eq_true rfl) dX10_goThrough_70 (fun H locs hP hD hS => ?_)
  obtain ⟨hP, hD⟩ : kPD dC dI A [(jM, kMo vs (.ref lt) (.ref tx) (.int (nI (be))) (.int (nI (en))) (.int 0) (.int (-1)) (.int 0) (.int p4) v15 (.ref (ad 6)) (.ref (ad 8)) (.int 0)), (tx, .inl (cT, nT, .inl gT)), (lt, .inl (cE, 128, .inl gE))] H := ⟨hP, hD⟩
  refine lv_aload_n hx hb dX10_goThrough_73 rfl (lv_at hl 0 rfl) ?_
  refine lv_iconst (v := 0) hx hb dX10_goThrough_74 (by decide) ?_
  refine va_put (D := (dC, dI)) (ci := 10) (v := .int 0) (ty := tyX10 15) (C := RX10) (T := TX10) (N := 52) hx hb hts (fun _ h => List.mem_cons_of_mem _ (List.mem_append_right _ (List.mem_append_left _ h))) tyX10 tyX10_ok nmX10 hown hK hP hD hS 0 rfl rfl 15 (by decide) (hts (.fieldLink RX10 226 "NotEndedModel" "found" "I") (List.mem_cons_of_mem _ (List.mem_append_left _ (List.mem_of_getElem? (i := 10) rfl)))) (fun _ h9 => h9) rfl (tyX10_ok 15 (by decide)) rfl rfl (Nat.le_of_ble_eq_true rfl) dX10_goThrough_75 (fun H locs hP hD hS => ?_)
  obtain ⟨hP, hD⟩ : kPD dC dI A [(jM, kMo vs (.ref lt) (.ref tx) (.int (nI (be))) (.int (nI (en))) (.int 0) (.int (-1)) (.int 0) (.int p4) (.int 0) (.ref (ad 6)) (.ref (ad 8)) (.int 0)), (tx, .inl (cT, nT, .inl gT)), (lt, .inl (cE, 128, .inl gE))] H := ⟨hP, hD⟩
  refine lv_aload_n hx hb dX10_goThrough_78 rfl (lv_at hl 0 rfl) ?_
  obtain ⟨hPc, hDc, hFc⟩ := kCut (wc := [(jM, kMo vs (.ref lt) (.ref tx) (.int (nI (be))) (.int (nI (en))) (.int 0) (.int (-1)) (.int 0) (.int p4) (.int 0) (.ref (ad 6)) (.ref (ad 8)) (.int 0)), (tx, .inl (cT, nT, .inl gT)), (lt, .inl (cE, 128, .inl gE))]) hP hD hS hA [0, 1, 2] rfl (by decide) rfl
  have hKc := hK.sb (tys2 := [(cT, .byte), (cE, .int)]) [0, 1] rfl
  refine va_callv (va_runV (As := []) (rest := []) ⟨hx, hb, hml, hown, hts⟩ (s_clause10 l dC dI jM vs lt (ad 6) (ad 8) tx cT nT gT be en 0 (by omega) (by omega) (by omega) cE gE b6 n6 g6 hn6 hg6 b7 n7 g7 hn7 hg7 p4 0 0 H.size) (cwV 0 hts (kG (List.forall_mem_cons.mpr ⟨(List.mem_cons_of_mem _ (List.mem_append_left _ (List.mem_of_getElem? (i := 14) rfl))), (List.forall_mem_cons.mpr ⟨(List.mem_cons_of_mem _ (List.mem_append_left _ (List.mem_of_getElem? (i := 13) rfl))), (List.forall_mem_cons.mpr ⟨(List.mem_cons_of_mem _ (List.mem_append_left _ (List.mem_of_getElem? (i := 12) rfl))), (List.forall_mem_cons.mpr ⟨(List.mem_cons_of_mem _ (List.mem_append_left _ (List.mem_of_getElem? (i := 11) rfl))), (fun _ h => absurd h List.not_mem_nil)⟩)⟩)⟩)⟩) (kGV _ _ _ _) (fun _ h => List.mem_cons_of_mem _ (List.mem_append_right _ (List.mem_append_right _ (List.mem_append_left _ h)))) gw_s_clause10) rfl rfl rfl ⟨rfl, hd_X10_clause⟩ ⟨(Nat.le_of_ble_eq_true rfl), (Nat.le_of_ble_eq_true rfl)⟩) (kW_V kS2_blind (kS2_give hX.2 hS hFc) (va_recv hKc hPc (ci := 10) (q0 := 0) rfl rfl) hPc hKc hDc) rfl rfl hl.1 rfl (lv_room (Nat.le_of_ble_eq_true rfl)) dX10_goThrough_79 ⟨(Nat.le_of_ble_eq_true rfl), (Nat.le_of_ble_eq_true rfl)⟩) hS (fun q _ h => hFc q h) hFc (fun u t H1 locs ht hvm hw hB hz1 hk1 hS => ?_)
  obtain ⟨a1_3, xf_4, xd_5, fd1_6, hf1_7⟩ := u
  obtain ⟨hP1, hK1, hD1⟩ := hB
  rw [ht] at hP1
  try dsimp only at hw
  obtain ⟨hP, hD⟩ : kPD dC dI A [(jM, kMo vs (.ref lt) (.ref tx) (.int (nI (be))) (.int (nI (en))) (.int (nI (a1_3))) (.int xf_4) (.int xd_5) (.int p4) (.int fd1_6) (.ref (ad 6)) (.ref (ad 8)) (.int hf1_7)), (tx, .inl (cT, nT, .inl gT)), (lt, .inl (cE, 128, .inl gE))] H1 := kJoinI hP hD [0, 1, 2] rfl hk1 hFc hP1 hD1 rfl [some 0, some 1, some 2] rfl rfl
  generalize H1 = H at hP hS ⊢
  have hw_8 := hw
  have hw_8_a := hw_8.1
  have lp_k_9 : ∀ (n9 : Nat) (i : Nat) (lf : Int32) (ld : Int32) (lfd : Int32) (lhf : Int32) (ivk_9_0 : i ≤ en) (ivk_9_1 : (lf = -1 → ld = 0)) (H : Heap) (locs : List Loc) (_ : va_P (dC, dI) vwCl [(jM, kMo vs (.ref lt) (.ref tx) (.int (nI (be))) (.int (nI (en))) (.int (nI (i))) (.int lf) (.int ld) (.int p4) (.int lfd) (.ref (ad 6)) (.ref (ad 8)) (.int lhf)), (tx, .inl (cT, nT, .inl gT)), (lt, .inl (cE, 128, .inl gE))] H) (_ : va_D A [(jM, kMo vs (.ref lt) (.ref tx) (.int (nI (be))) (.int (nI (en))) (.int (nI (i))) (.int lf) (.int ld) (.int p4) (.int lfd) (.ref (ad 6)) (.ref (ad 8)) (.int lhf)), (tx, .inl (cT, nT, .inl gT)), (lt, .inl (cE, 128, .inl gE))]) (_ : va_S A s.heap H locs) (ls : Array Slot) (_ : lv_has ls 6 [(0, .ref jM), (1, .ref tx), (2, .int (nI (be))), (3, .int (nI (en))), (4, .int 1), (5, .int p4)]) (_ : en - i < n9), W p l e (headSpec w_s_go10_1 ({ frames := 57, cells := 0, slots := 0, locals := 3420 })).room s m (#[.ref jM, .ref tx, .int (nI (be)), .int (nI (en)), .int 1, .int p4] : Array Value) below meth c H locs 0 0 Q (F0 m 82 ls []) := by
    intro n9
    induction n9 with
    | zero => intro i lf ld lfd lhf ivk_9_0 ivk_9_1 H locs hP hD hS ls hl hm9; exact absurd hm9 (Nat.not_lt_zero _)
    | succ n9 ih_k_9 =>
      intro i lf ld lfd lhf ivk_9_0 ivk_9_1 H locs hP hD hS ls hl hm9
      refine lv_aload_n hx hb dX10_goThrough_82 rfl (lv_at hl 0 rfl) ?_
      refine va_get (D := (dC, dI)) (ci := 10) (v := .int lf) (C := RX10) (T := TX10) (N := 52) hx hb hts (fun _ h => List.mem_cons_of_mem _ (List.mem_append_right _ (List.mem_append_left _ h))) hown hK hP 0 rfl rfl 12 (by decide) (hts (.fieldLink RX10 150 "NotEndedModel" "fault" "I") (List.mem_cons_of_mem _ (List.mem_append_left _ (List.mem_of_getElem? (i := 7) rfl)))) (fun _ h9 => h9) rfl dX10_goThrough_83 ?_
      refine lv_iconst (v := (-1)) hx hb dX10_goThrough_86 (by decide) ?_
      refine lv_icmp_ne (tgt := 116) hx hb dX10_goThrough_87 (by decide) (fun c_10 => ?_) (fun c_10 => ?_)
      · refine lv_aload_n hx hb dX10_goThrough_116 rfl (lv_at hl 0 rfl) ?_
        refine va_get (D := (dC, dI)) (ci := 10) (v := .int lf) (C := RX10) (T := TX10) (N := 52) hx hb hts (fun _ h => List.mem_cons_of_mem _ (List.mem_append_right _ (List.mem_append_left _ h))) hown hK hP 0 rfl rfl 12 (by decide) (hts (.fieldLink RX10 150 "NotEndedModel" "fault" "I") (List.mem_cons_of_mem _ (List.mem_append_left _ (List.mem_of_getElem? (i := 7) rfl)))) (fun _ h9 => h9) rfl dX10_goThrough_117 ?_
        refine lv_iconst (v := (-1)) hx hb dX10_goThrough_120 (by decide) ?_
        refine lv_icmp_ne (tgt := 137) hx hb dX10_goThrough_121 (by decide) (fun c_11 => ?_) (fun c_11 => ?_)
        · have hP9 := hP
          have hD9 := hD
          have hK9 := hK
          rw [hQ]
          exact W.vret hx hb hr (fun t ht hW => ⟨⟨(i, lf, ld, lfd, lhf), rfl, trivial,  by rw [ht]; exact hP9, va_K.moved hW.alike hK9, hD9⟩, hS.F ht⟩) hS.2.2 dX10_goThrough_137
        · have e_12 := ivk_9_1 c_11
          subst e_12
          subst c_11
          refine lv_aload_n hx hb dX10_goThrough_124 rfl (lv_at hl 0 rfl) ?_
          obtain ⟨hPc, hDc, hFc⟩ := kCut (wc := [(jM, kMo vs (.ref lt) (.ref tx) (.int (nI (be))) (.int (nI (en))) (.int (nI (i))) (.int (-1)) (.int 0) (.int p4) (.int lfd) (.ref (ad 6)) (.ref (ad 8)) (.int lhf)), (tx, .inl (cT, nT, .inl gT))]) hP hD hS hA [0, 1] rfl (by decide) rfl
          have hKc := hK.sb (tys2 := [(cT, .byte)]) [0] rfl
          refine va_calli (va_runV (As := []) (rest := []) ⟨hx, hb, hml, hown, hts⟩ (s_look10 l dC dI jM vs (.int (-1) : Value) (.int 0 : Value) (.int p4 : Value) (.int lfd : Value) (.int lhf : Value) lt (ad 6) (ad 8) tx cT nT gT be en i (by omega) (by omega) (by omega) H.size) (cwV 0 hts (kG (List.forall_mem_cons.mpr ⟨(List.mem_cons_of_mem _ (List.mem_append_left _ (List.mem_of_getElem? (i := 17) rfl))), (List.forall_mem_cons.mpr ⟨(List.mem_cons_of_mem _ (List.mem_append_left _ (List.mem_of_getElem? (i := 16) rfl))), (List.forall_mem_cons.mpr ⟨(List.mem_cons_of_mem _ (List.mem_append_left _ (List.mem_of_getElem? (i := 15) rfl))), (List.forall_mem_cons.mpr ⟨(List.mem_cons_of_mem _ (List.mem_append_left _ (List.mem_of_getElem? (i := 11) rfl))), (fun _ h => absurd h List.not_mem_nil)⟩)⟩)⟩)⟩) (kGV _ _ _ _) (fun _ h => List.mem_cons_of_mem _ (List.mem_append_right _ (List.mem_append_right _ (List.mem_append_right _ (List.mem_append_left _ h))))) gw_s_look10) rfl rfl rfl ⟨rfl, hd_X10_look⟩ ⟨(Nat.le_of_ble_eq_true rfl), (Nat.le_of_ble_eq_true rfl)⟩) (kW_V kT_blind kT_give (va_recv hKc hPc (ci := 10) (q0 := 0) rfl rfl) hPc hKc hDc) rfl rfl hl.1 rfl (lv_room (Nat.le_of_ble_eq_true rfl)) dX10_goThrough_125 ⟨(Nat.le_of_ble_eq_true rfl), (Nat.le_of_ble_eq_true rfl)⟩) hS (fun q _ h => hFc q h) hFc (fun r_13 u t H1 locs ht hvm hw hB hz1 hk1 hS => ?_)
          obtain ⟨a1_14, rfl⟩ : ∃ z, z = u := ⟨_, rfl⟩
          obtain ⟨hP1, hK1, hD1⟩ := hB
          rw [ht] at hP1
          try dsimp only at hw
          obtain ⟨hP, hD⟩ : kPD dC dI A [(jM, kMo vs (.ref lt) (.ref tx) (.int (nI (be))) (.int (nI (en))) (.int (nI (a1_14))) (.int (-1)) (.int 0) (.int p4) (.int lfd) (.ref (ad 6)) (.ref (ad 8)) (.int lhf)), (tx, .inl (cT, nT, .inl gT)), (lt, .inl (cE, 128, .inl gE))] H1 := kJoinI hP hD [0, 1] rfl hk1 hFc hP1 hD1 rfl [some 0, some 1, none] rfl rfl
          generalize H1 = H at hP hS ⊢
          have hw_15 := hw
          have hw_15_3 := hw_15.2.1
          refine lv_iconst (v := (-1)) hx hb dX10_goThrough_128 (by decide) ?_
          refine lv_icmp_eq (tgt := 137) hx hb dX10_goThrough_129 (by decide) (fun c_16 => ?_) (fun c_16 => ?_)
          · have hP9 := hP
            have hD9 := hD
            have hK9 := hK
            rw [hQ]
            exact W.vret hx hb hr (fun t ht hW => ⟨⟨(a1_14, (-1), 0, lfd, lhf), rfl, trivial,  by rw [ht]; exact hP9, va_K.moved hW.alike hK9, hD9⟩, hS.F ht⟩) hS.2.2 dX10_goThrough_137
          · refine lv_aload_n hx hb dX10_goThrough_132 rfl (lv_at hl 0 rfl) ?_
            obtain ⟨hPc, hDc, hFc⟩ := kCut (wc := [(jM, kMo vs (.ref lt) (.ref tx) (.int (nI (be))) (.int (nI (en))) (.int (nI (a1_14))) (.int (-1)) (.int 0) (.int p4) (.int lfd) (.ref (ad 6)) (.ref (ad 8)) (.int lhf))]) hP hD hS hA [0] rfl (by decide) rfl
            have hKc := hK.sb (tys2 := []) [] rfl
            refine va_calli (va_runV (As := []) (rest := []) ⟨hx, hb, hml, hown, hts⟩ (s_fails10 l dC dI jM vs (.int 0 : Value) (.int p4 : Value) (.int lfd : Value) (.int lhf : Value) lt (ad 6) (ad 8) tx be en a1_14 (by omega) (by omega) (-1) H.size) (cwV 0 hts (kG (List.forall_mem_cons.mpr ⟨(List.mem_cons_of_mem _ (List.mem_append_left _ (List.mem_of_getElem? (i := 20) rfl))), (List.forall_mem_cons.mpr ⟨(List.mem_cons_of_mem _ (List.mem_append_left _ (List.mem_of_getElem? (i := 19) rfl))), (List.forall_mem_cons.mpr ⟨(List.mem_cons_of_mem _ (List.mem_append_left _ (List.mem_of_getElem? (i := 18) rfl))), (List.forall_mem_cons.mpr ⟨(List.mem_cons_of_mem _ (List.mem_append_left _ (List.mem_of_getElem? (i := 11) rfl))), (fun _ h => absurd h List.not_mem_nil)⟩)⟩)⟩)⟩) (kGV _ _ _ _) (fun _ h => List.mem_cons_of_mem _ (List.mem_append_right _ (List.mem_append_right _ (List.mem_append_right _ (List.mem_append_right _ h))))) gw_s_fails10) rfl rfl rfl ⟨rfl, hd_X10_fails⟩ ⟨(Nat.le_of_ble_eq_true rfl), (Nat.le_of_ble_eq_true rfl)⟩) (kW_V kT_blind kT_give (va_recv hKc hPc (ci := 10) (q0 := 0) rfl rfl) hPc hKc hDc) rfl rfl hl.1 rfl (lv_room (Nat.le_of_ble_eq_true rfl)) dX10_goThrough_133 ⟨(Nat.le_of_ble_eq_true rfl), (Nat.le_of_ble_eq_true rfl)⟩) hS (fun q _ h => hFc q h) hFc (fun r_17 u t H1 locs ht hvm hw hB hz1 hk1 hS => ?_)
            obtain ⟨xf_18, rfl⟩ : ∃ z, z = u := ⟨_, rfl⟩
            obtain ⟨hP1, hK1, hD1⟩ := hB
            rw [ht] at hP1
            try dsimp only at hw
            obtain ⟨hP, hD⟩ : kPD dC dI A [(jM, kMo vs (.ref lt) (.ref tx) (.int (nI (be))) (.int (nI (en))) (.int (nI (a1_14))) (.int xf_18) (.int 0) (.int p4) (.int lfd) (.ref (ad 6)) (.ref (ad 8)) (.int lhf)), (tx, .inl (cT, nT, .inl gT)), (lt, .inl (cE, 128, .inl gE))] H1 := kJoinI hP hD [0] rfl hk1 hFc hP1 hD1 rfl [some 0, none, none] rfl rfl
            generalize H1 = H at hP hS ⊢
            obtain ⟨rfl, hw_19⟩ := hw
            refine lv_pop hx hb dX10_goThrough_136 rfl ?_
            have hP9 := hP
            have hD9 := hD
            have hK9 := hK
            rw [hQ]
            exact W.vret hx hb hr (fun t ht hW => ⟨⟨(a1_14, xf_18, 0, lfd, lhf), rfl, trivial,  by rw [ht]; exact hP9, va_K.moved hW.alike hK9, hD9⟩, hS.F ht⟩) hS.2.2 dX10_goThrough_137
      · have e_20 := ivk_9_1 c_10
        subst e_20
        subst c_10
        refine lv_aload_n hx hb dX10_goThrough_90 rfl (lv_at hl 0 rfl) ?_
        obtain ⟨hPc, hDc, hFc⟩ := kCut (wc := [(jM, kMo vs (.ref lt) (.ref tx) (.int (nI (be))) (.int (nI (en))) (.int (nI (i))) (.int (-1)) (.int 0) (.int p4) (.int lfd) (.ref (ad 6)) (.ref (ad 8)) (.int lhf)), (tx, .inl (cT, nT, .inl gT))]) hP hD hS hA [0, 1] rfl (by decide) rfl
        have hKc := hK.sb (tys2 := [(cT, .byte)]) [0] rfl
        refine va_calli (va_runV (As := []) (rest := []) ⟨hx, hb, hml, hown, hts⟩ (s_look10 l dC dI jM vs (.int (-1) : Value) (.int 0 : Value) (.int p4 : Value) (.int lfd : Value) (.int lhf : Value) lt (ad 6) (ad 8) tx cT nT gT be en i (by omega) (by omega) (by omega) H.size) (cwV 0 hts (kG (List.forall_mem_cons.mpr ⟨(List.mem_cons_of_mem _ (List.mem_append_left _ (List.mem_of_getElem? (i := 17) rfl))), (List.forall_mem_cons.mpr ⟨(List.mem_cons_of_mem _ (List.mem_append_left _ (List.mem_of_getElem? (i := 16) rfl))), (List.forall_mem_cons.mpr ⟨(List.mem_cons_of_mem _ (List.mem_append_left _ (List.mem_of_getElem? (i := 15) rfl))), (List.forall_mem_cons.mpr ⟨(List.mem_cons_of_mem _ (List.mem_append_left _ (List.mem_of_getElem? (i := 11) rfl))), (fun _ h => absurd h List.not_mem_nil)⟩)⟩)⟩)⟩) (kGV _ _ _ _) (fun _ h => List.mem_cons_of_mem _ (List.mem_append_right _ (List.mem_append_right _ (List.mem_append_right _ (List.mem_append_left _ h))))) gw_s_look10) rfl rfl rfl ⟨rfl, hd_X10_look⟩ ⟨(Nat.le_of_ble_eq_true rfl), (Nat.le_of_ble_eq_true rfl)⟩) (kW_V kT_blind kT_give (va_recv hKc hPc (ci := 10) (q0 := 0) rfl rfl) hPc hKc hDc) rfl rfl hl.1 rfl (lv_room (Nat.le_of_ble_eq_true rfl)) dX10_goThrough_91 ⟨(Nat.le_of_ble_eq_true rfl), (Nat.le_of_ble_eq_true rfl)⟩) hS (fun q _ h => hFc q h) hFc (fun r_21 u t H1 locs ht hvm hw hB hz1 hk1 hS => ?_)
        obtain ⟨a1_22, rfl⟩ : ∃ z, z = u := ⟨_, rfl⟩
        obtain ⟨hP1, hK1, hD1⟩ := hB
        rw [ht] at hP1
        try dsimp only at hw
        obtain ⟨hP, hD⟩ : kPD dC dI A [(jM, kMo vs (.ref lt) (.ref tx) (.int (nI (be))) (.int (nI (en))) (.int (nI (a1_22))) (.int (-1)) (.int 0) (.int p4) (.int lfd) (.ref (ad 6)) (.ref (ad 8)) (.int lhf)), (tx, .inl (cT, nT, .inl gT)), (lt, .inl (cE, 128, .inl gE))] H1 := kJoinI hP hD [0, 1] rfl hk1 hFc hP1 hD1 rfl [some 0, some 1, none] rfl rfl
        generalize H1 = H at hP hS ⊢
        have hw_23 := hw
        have hw_23_3 := hw_23.2.1
        refine lv_bipush (v := 59) hx hb dX10_goThrough_94 (by decide) ?_
        refine lv_icmp_ne (tgt := 116) hx hb dX10_goThrough_96 (by decide) (fun c_24 => ?_) (fun c_24 => ?_)
        · refine lv_aload_n hx hb dX10_goThrough_116 rfl (lv_at hl 0 rfl) ?_
          refine va_get (D := (dC, dI)) (ci := 10) (v := .int (-1)) (C := RX10) (T := TX10) (N := 52) hx hb hts (fun _ h => List.mem_cons_of_mem _ (List.mem_append_right _ (List.mem_append_left _ h))) hown hK hP 0 rfl rfl 12 (by decide) (hts (.fieldLink RX10 150 "NotEndedModel" "fault" "I") (List.mem_cons_of_mem _ (List.mem_append_left _ (List.mem_of_getElem? (i := 7) rfl)))) (fun _ h9 => h9) rfl dX10_goThrough_117 ?_
          refine lv_iconst (v := (-1)) hx hb dX10_goThrough_120 (by decide) ?_
          refine lv_icmp_ne (tgt := 137) hx hb dX10_goThrough_121 (by decide) (fun c_25 => absurd (by decide) c_25) (fun c_25 => ?_)
          refine lv_aload_n hx hb dX10_goThrough_124 rfl (lv_at hl 0 rfl) ?_
          obtain ⟨hPc, hDc, hFc⟩ := kCut (wc := [(jM, kMo vs (.ref lt) (.ref tx) (.int (nI (be))) (.int (nI (en))) (.int (nI (a1_22))) (.int (-1)) (.int 0) (.int p4) (.int lfd) (.ref (ad 6)) (.ref (ad 8)) (.int lhf)), (tx, .inl (cT, nT, .inl gT))]) hP hD hS hA [0, 1] rfl (by decide) rfl
          have hKc := hK.sb (tys2 := [(cT, .byte)]) [0] rfl
          refine va_calli (va_runV (As := []) (rest := []) ⟨hx, hb, hml, hown, hts⟩ (s_look10 l dC dI jM vs (.int (-1) : Value) (.int 0 : Value) (.int p4 : Value) (.int lfd : Value) (.int lhf : Value) lt (ad 6) (ad 8) tx cT nT gT be en a1_22 (by omega) (by omega) (by omega) H.size) (cwV 0 hts (kG (List.forall_mem_cons.mpr ⟨(List.mem_cons_of_mem _ (List.mem_append_left _ (List.mem_of_getElem? (i := 17) rfl))), (List.forall_mem_cons.mpr ⟨(List.mem_cons_of_mem _ (List.mem_append_left _ (List.mem_of_getElem? (i := 16) rfl))), (List.forall_mem_cons.mpr ⟨(List.mem_cons_of_mem _ (List.mem_append_left _ (List.mem_of_getElem? (i := 15) rfl))), (List.forall_mem_cons.mpr ⟨(List.mem_cons_of_mem _ (List.mem_append_left _ (List.mem_of_getElem? (i := 11) rfl))), (fun _ h => absurd h List.not_mem_nil)⟩)⟩)⟩)⟩) (kGV _ _ _ _) (fun _ h => List.mem_cons_of_mem _ (List.mem_append_right _ (List.mem_append_right _ (List.mem_append_right _ (List.mem_append_left _ h))))) gw_s_look10) rfl rfl rfl ⟨rfl, hd_X10_look⟩ ⟨(Nat.le_of_ble_eq_true rfl), (Nat.le_of_ble_eq_true rfl)⟩) (kW_V kT_blind kT_give (va_recv hKc hPc (ci := 10) (q0 := 0) rfl rfl) hPc hKc hDc) rfl rfl hl.1 rfl (lv_room (Nat.le_of_ble_eq_true rfl)) dX10_goThrough_125 ⟨(Nat.le_of_ble_eq_true rfl), (Nat.le_of_ble_eq_true rfl)⟩) hS (fun q _ h => hFc q h) hFc (fun r_26 u t H1 locs ht hvm hw hB hz1 hk1 hS => ?_)
          obtain ⟨a1_27, rfl⟩ : ∃ z, z = u := ⟨_, rfl⟩
          obtain ⟨hP1, hK1, hD1⟩ := hB
          rw [ht] at hP1
          try dsimp only at hw
          obtain ⟨hP, hD⟩ : kPD dC dI A [(jM, kMo vs (.ref lt) (.ref tx) (.int (nI (be))) (.int (nI (en))) (.int (nI (a1_27))) (.int (-1)) (.int 0) (.int p4) (.int lfd) (.ref (ad 6)) (.ref (ad 8)) (.int lhf)), (tx, .inl (cT, nT, .inl gT)), (lt, .inl (cE, 128, .inl gE))] H1 := kJoinI hP hD [0, 1] rfl hk1 hFc hP1 hD1 rfl [some 0, some 1, none] rfl rfl
          generalize H1 = H at hP hS ⊢
          have hw_28 := hw
          have hw_28_3 := hw_28.2.1
          refine lv_iconst (v := (-1)) hx hb dX10_goThrough_128 (by decide) ?_
          refine lv_icmp_eq (tgt := 137) hx hb dX10_goThrough_129 (by decide) (fun c_29 => ?_) (fun c_29 => ?_)
          · have hP9 := hP
            have hD9 := hD
            have hK9 := hK
            rw [hQ]
            exact W.vret hx hb hr (fun t ht hW => ⟨⟨(a1_27, (-1), 0, lfd, lhf), rfl, trivial,  by rw [ht]; exact hP9, va_K.moved hW.alike hK9, hD9⟩, hS.F ht⟩) hS.2.2 dX10_goThrough_137
          · refine lv_aload_n hx hb dX10_goThrough_132 rfl (lv_at hl 0 rfl) ?_
            obtain ⟨hPc, hDc, hFc⟩ := kCut (wc := [(jM, kMo vs (.ref lt) (.ref tx) (.int (nI (be))) (.int (nI (en))) (.int (nI (a1_27))) (.int (-1)) (.int 0) (.int p4) (.int lfd) (.ref (ad 6)) (.ref (ad 8)) (.int lhf))]) hP hD hS hA [0] rfl (by decide) rfl
            have hKc := hK.sb (tys2 := []) [] rfl
            refine va_calli (va_runV (As := []) (rest := []) ⟨hx, hb, hml, hown, hts⟩ (s_fails10 l dC dI jM vs (.int 0 : Value) (.int p4 : Value) (.int lfd : Value) (.int lhf : Value) lt (ad 6) (ad 8) tx be en a1_27 (by omega) (by omega) (-1) H.size) (cwV 0 hts (kG (List.forall_mem_cons.mpr ⟨(List.mem_cons_of_mem _ (List.mem_append_left _ (List.mem_of_getElem? (i := 20) rfl))), (List.forall_mem_cons.mpr ⟨(List.mem_cons_of_mem _ (List.mem_append_left _ (List.mem_of_getElem? (i := 19) rfl))), (List.forall_mem_cons.mpr ⟨(List.mem_cons_of_mem _ (List.mem_append_left _ (List.mem_of_getElem? (i := 18) rfl))), (List.forall_mem_cons.mpr ⟨(List.mem_cons_of_mem _ (List.mem_append_left _ (List.mem_of_getElem? (i := 11) rfl))), (fun _ h => absurd h List.not_mem_nil)⟩)⟩)⟩)⟩) (kGV _ _ _ _) (fun _ h => List.mem_cons_of_mem _ (List.mem_append_right _ (List.mem_append_right _ (List.mem_append_right _ (List.mem_append_right _ h))))) gw_s_fails10) rfl rfl rfl ⟨rfl, hd_X10_fails⟩ ⟨(Nat.le_of_ble_eq_true rfl), (Nat.le_of_ble_eq_true rfl)⟩) (kW_V kT_blind kT_give (va_recv hKc hPc (ci := 10) (q0 := 0) rfl rfl) hPc hKc hDc) rfl rfl hl.1 rfl (lv_room (Nat.le_of_ble_eq_true rfl)) dX10_goThrough_133 ⟨(Nat.le_of_ble_eq_true rfl), (Nat.le_of_ble_eq_true rfl)⟩) hS (fun q _ h => hFc q h) hFc (fun r_30 u t H1 locs ht hvm hw hB hz1 hk1 hS => ?_)
            obtain ⟨xf_31, rfl⟩ : ∃ z, z = u := ⟨_, rfl⟩
            obtain ⟨hP1, hK1, hD1⟩ := hB
            rw [ht] at hP1
            try dsimp only at hw
            obtain ⟨hP, hD⟩ : kPD dC dI A [(jM, kMo vs (.ref lt) (.ref tx) (.int (nI (be))) (.int (nI (en))) (.int (nI (a1_27))) (.int xf_31) (.int 0) (.int p4) (.int lfd) (.ref (ad 6)) (.ref (ad 8)) (.int lhf)), (tx, .inl (cT, nT, .inl gT)), (lt, .inl (cE, 128, .inl gE))] H1 := kJoinI hP hD [0] rfl hk1 hFc hP1 hD1 rfl [some 0, none, none] rfl rfl
            generalize H1 = H at hP hS ⊢
            obtain ⟨rfl, hw_32⟩ := hw
            refine lv_pop hx hb dX10_goThrough_136 rfl ?_
            have hP9 := hP
            have hD9 := hD
            have hK9 := hK
            rw [hQ]
            exact W.vret hx hb hr (fun t ht hW => ⟨⟨(a1_27, xf_31, 0, lfd, lhf), rfl, trivial,  by rw [ht]; exact hP9, va_K.moved hW.alike hK9, hD9⟩, hS.F ht⟩) hS.2.2 dX10_goThrough_137
        · have hns_33 := hw_23.1.resolve_left (fun z9 => absurd (c_24.symm.trans z9) (by decide))
          have hns_33_1 := hns_33.1
          refine lv_aload_n hx hb dX10_goThrough_99 rfl (lv_at hl 0 rfl) ?_
          refine lv_dup hx hb dX10_goThrough_100 rfl ?_
          refine va_get (D := (dC, dI)) (ci := 10) (v := .int (nI (a1_22))) (C := RX10) (T := TX10) (N := 52) hx hb hts (fun _ h => List.mem_cons_of_mem _ (List.mem_append_right _ (List.mem_append_left _ h))) hown hK hP 0 rfl rfl 11 (by decide) (hts (.fieldLink RX10 141 "NotEndedModel" "at" "I") (List.mem_cons_of_mem _ (List.mem_append_left _ (List.mem_of_getElem? (i := 6) rfl)))) (fun _ h9 => h9) rfl dX10_goThrough_101 ?_
          refine lv_iconst (v := 1) hx hb dX10_goThrough_104 (by decide) ?_
          refine lv_iadd hx hb dX10_goThrough_105 ?_
          refine lv_topi (fun y_34 ey_34 => ?_)
          obtain rfl : y_34 = nI (a1_22 + 1) := ey_34.trans (nI_add (a1_22) (1))
          refine va_put (D := (dC, dI)) (ci := 10) (v := .int (nI (a1_22 + 1))) (ty := tyX10 11) (C := RX10) (T := TX10) (N := 52) hx hb hts (fun _ h => List.mem_cons_of_mem _ (List.mem_append_right _ (List.mem_append_left _ h))) tyX10 tyX10_ok nmX10 hown hK hP hD hS 0 rfl rfl 11 (by decide) (hts (.fieldLink RX10 141 "NotEndedModel" "at" "I") (List.mem_cons_of_mem _ (List.mem_append_left _ (List.mem_of_getElem? (i := 6) rfl)))) (fun _ h9 => h9) rfl (tyX10_ok 11 (by decide)) rfl rfl (Nat.le_of_ble_eq_true rfl) dX10_goThrough_106 (fun H locs hP hD hS => ?_)
          obtain ⟨hP, hD⟩ : kPD dC dI A [(jM, kMo vs (.ref lt) (.ref tx) (.int (nI (be))) (.int (nI (en))) (.int (nI (a1_22 + 1))) (.int (-1)) (.int 0) (.int p4) (.int lfd) (.ref (ad 6)) (.ref (ad 8)) (.int lhf)), (tx, .inl (cT, nT, .inl gT)), (lt, .inl (cE, 128, .inl gE))] H := ⟨hP, hD⟩
          refine lv_aload_n hx hb dX10_goThrough_109 rfl (lv_at hl 0 rfl) ?_
          obtain ⟨hPc, hDc, hFc⟩ := kCut (wc := [(jM, kMo vs (.ref lt) (.ref tx) (.int (nI (be))) (.int (nI (en))) (.int (nI (a1_22 + 1))) (.int (-1)) (.int 0) (.int p4) (.int lfd) (.ref (ad 6)) (.ref (ad 8)) (.int lhf)), (tx, .inl (cT, nT, .inl gT)), (lt, .inl (cE, 128, .inl gE))]) hP hD hS hA [0, 1, 2] rfl (by decide) rfl
          have hKc := hK.sb (tys2 := [(cT, .byte), (cE, .int)]) [0, 1] rfl
          refine va_callv (va_runV (As := []) (rest := []) ⟨hx, hb, hml, hown, hts⟩ (s_clause10 l dC dI jM vs lt (ad 6) (ad 8) tx cT nT gT be en (a1_22 + 1) (by omega) (by omega) (by omega) cE gE b6 n6 g6 hn6 hg6 b7 n7 g7 hn7 hg7 p4 lfd lhf H.size) (cwV 0 hts (kG (List.forall_mem_cons.mpr ⟨(List.mem_cons_of_mem _ (List.mem_append_left _ (List.mem_of_getElem? (i := 14) rfl))), (List.forall_mem_cons.mpr ⟨(List.mem_cons_of_mem _ (List.mem_append_left _ (List.mem_of_getElem? (i := 13) rfl))), (List.forall_mem_cons.mpr ⟨(List.mem_cons_of_mem _ (List.mem_append_left _ (List.mem_of_getElem? (i := 12) rfl))), (List.forall_mem_cons.mpr ⟨(List.mem_cons_of_mem _ (List.mem_append_left _ (List.mem_of_getElem? (i := 11) rfl))), (fun _ h => absurd h List.not_mem_nil)⟩)⟩)⟩)⟩) (kGV _ _ _ _) (fun _ h => List.mem_cons_of_mem _ (List.mem_append_right _ (List.mem_append_right _ (List.mem_append_left _ h)))) gw_s_clause10) rfl rfl rfl ⟨rfl, hd_X10_clause⟩ ⟨(Nat.le_of_ble_eq_true rfl), (Nat.le_of_ble_eq_true rfl)⟩) (kW_V kS2_blind (kS2_give hX.2 hS hFc) (va_recv hKc hPc (ci := 10) (q0 := 0) rfl rfl) hPc hKc hDc) rfl rfl hl.1 rfl (lv_room (Nat.le_of_ble_eq_true rfl)) dX10_goThrough_110 ⟨(Nat.le_of_ble_eq_true rfl), (Nat.le_of_ble_eq_true rfl)⟩) hS (fun q _ h => hFc q h) hFc (fun u t H1 locs ht hvm hw hB hz1 hk1 hS => ?_)
          obtain ⟨a1_35, xf_36, xd_37, fd1_38, hf1_39⟩ := u
          obtain ⟨hP1, hK1, hD1⟩ := hB
          rw [ht] at hP1
          try dsimp only at hw
          obtain ⟨hP, hD⟩ : kPD dC dI A [(jM, kMo vs (.ref lt) (.ref tx) (.int (nI (be))) (.int (nI (en))) (.int (nI (a1_35))) (.int xf_36) (.int xd_37) (.int p4) (.int fd1_38) (.ref (ad 6)) (.ref (ad 8)) (.int hf1_39)), (tx, .inl (cT, nT, .inl gT)), (lt, .inl (cE, 128, .inl gE))] H1 := kJoinI hP hD [0, 1, 2] rfl hk1 hFc hP1 hD1 rfl [some 0, some 1, some 2] rfl rfl
          generalize H1 = H at hP hS ⊢
          have hw_40 := hw
          have hw_40_a := hw_40.1
          refine lv_goto (tgt := 82) hx hb dX10_goThrough_113 (by decide) ?_
          exact ih_k_9 a1_35 xf_36 xd_37 fd1_38 hf1_39 (by omega) hw_40.2 _ _ hP hD hS ls (lv_sub hl [0, 1, 2, 3, 4, 5] rfl) (by omega)
  exact lp_k_9 (en - a1_3 + 1) a1_3 xf_4 xd_5 fd1_6 hf1_7 (by omega) hw_8.2 _ _ hP hD hS ls (lv_sub hl [0, 1, 2, 3, 4, 5] rfl) (by omega)

theorem dX10_worthOf_0 : decode cX10_worthOf 0 = .ok (.aload_n 0, 1) := by decide +kernel
theorem dX10_worthOf_1 : decode cX10_worthOf 1 = .ok (.aload_n 0, 1) := by decide +kernel
theorem dX10_worthOf_2 : decode cX10_worthOf 2 = .ok (.getfield 13, 3) := by decide +kernel
theorem dX10_worthOf_5 : decode cX10_worthOf 5 = .ok (.bipush 120, 2) := by decide +kernel
theorem dX10_worthOf_7 : decode cX10_worthOf 7 = .ok (.iload_n 1, 1) := by decide +kernel
theorem dX10_worthOf_8 : decode cX10_worthOf 8 = .ok (.imul, 1) := by decide +kernel
theorem dX10_worthOf_9 : decode cX10_worthOf 9 = .ok (.aload_n 0, 1) := by decide +kernel
theorem dX10_worthOf_10 : decode cX10_worthOf 10 = .ok (.getfield 16, 3) := by decide +kernel
theorem dX10_worthOf_13 : decode cX10_worthOf 13 = .ok (.iload_n 1, 1) := by decide +kernel
theorem dX10_worthOf_14 : decode cX10_worthOf 14 = .ok (.iaload, 1) := by decide +kernel
theorem dX10_worthOf_15 : decode cX10_worthOf 15 = .ok (.iload_n 2, 1) := by decide +kernel
theorem dX10_worthOf_16 : decode cX10_worthOf 16 = .ok (.iload_n 3, 1) := by decide +kernel
theorem dX10_worthOf_17 : decode cX10_worthOf 17 = .ok (.invokevirtual 240, 3) := by decide +kernel
theorem dX10_worthOf_20 : decode cX10_worthOf 20 = .ok (.aload_n 0, 1) := by decide +kernel
theorem dX10_worthOf_21 : decode cX10_worthOf 21 = .ok (.getfield 226, 3) := by decide +kernel
theorem dX10_worthOf_24 : decode cX10_worthOf 24 = .ok (.ireturn, 1) := by decide +kernel
def w_s_worthOf10_0 : List Cond := .code yX10_worthOf cX10_worthOf 4 (some .int) :: ([.fieldLink RX10 13 "NotEndedModel" "texts" "[B", .fieldLink RX10 16 "NotEndedModel" "textLong" "[I", .initialized RX10, .selects RX10 yX10_goThrough yX10_goThrough, .instanceMethod yX10_goThrough, .methodLink RX10 240 yX10_goThrough, .fieldLink RX10 226 "NotEndedModel" "found" "I"] ++ (wsX100 ++ (w_s_go10_0)))
theorem gw_s_worthOf10_0 : (w_s_worthOf10_0).all goodWord = true := kGc rfl (kGa (by decide +kernel) (kGa gw_wsX100 gw_s_go10_0))
theorem hd_X10_worthOf : yX10_worthOf.cls ≠ "java/lang/invoke/MethodHandle" ∧ yX10_worthOf.cls ≠ "java/lang/invoke/VarHandle" ∧ (parseMethodDescriptor yX10_worthOf.desc).map (fun d => d.parameters.length) = some 3 := by decide +kernel
set_option maxHeartbeats 4000000 in
set_option maxRecDepth 100000 in
theorem s_worthOf10_0 (l : Launch) (dC : Nat → ClassId) (dI : Nat → Nat → Nat) (ad : Nat → Nat) (jM : Nat) (v0 : Value) (v1 : Value) (v5 : Value) (v6 : Value) (v7 : Value) (v8 : Value) (v9 : Value) (v10 : Value) (v11 : Value) (v12 : Value) (v13 : Value) (v14 : Value) (v15 : Value) (v16 : Value) (v17 : Value) (v18 : Value) (v19 : Value) (v20 : Value) (v21 : Value) (v22 : Value) (v23 : Value) (v24 : Value) (v25 : Value) (v26 : Value) (v27 : Value) (v28 : Value) (v29 : Value) (v30 : Value) (v31 : Value) (v32 : Value) (v33 : Value) (v34 : Value) (v35 : Value) (v36 : Value) (v37 : Value) (v38 : Value) (v39 : Value) (v40 : Value) (v41 : Value) (v42 : Value) (v43 : Value) (v44 : Value) (v45 : Value) (v46 : Value) (v47 : Value) (v48 : Value) (v49 : Value) (v50 : Value) (v51 : Value) (m2 : Nat) (mc2 : ClassId) (mf2 : Nat → Int32) (m3 : Nat) (mc3 : ClassId) (mf3 : Nat → Int32) (m4 : Nat) (mc4 : ClassId) (mf4 : Nat → Int32) (hTl : ∀ j : Nat, ∃ v : Nat, v ≤ 120 ∧ mf3 j = nI v) (b6 : Nat) (n6 : Nat) (g6 : Nat → Int32) (hn6 : n6 ≤ 8) (hg6 : ∀ k : Nat, ∃ v : Nat, v < 128 ∧ g6 k = nI v) (b7 : Nat) (n7 : Nat) (g7 : Nat → Int32) (hn7 : n7 ≤ 8) (hg7 : ∀ k : Nat, ∃ v : Nat, v < 128 ∧ g7 k = nI v) (pl : Nat) (hpl : pl < 14) (p2 : Int32) (sz : Nat) : Met l yX10_worthOf w_s_worthOf10_0 ({ frames := 58, cells := 0, slots := 0, locals := 3480 }) (kW dC dI [.ref jM, .int (nI (pl)), .int 0, .int p2] [(jM, .inr (10, [v0, v1, .ref m2, .ref m3, .ref m4, v5, v6, v7, v8, v9, v10, v11, v12, v13, v14, v15, v16, v17, v18, v19, v20, v21, v22, v23, v24, v25, v26, v27, v28, v29, v30, v31, v32, v33, v34, v35, v36, v37, v38, v39, v40, v41, v42, v43, v44, v45, v46, v47, v48, v49, v50, v51])), (m2, .inl (mc2, 1680, .inl mf2)), (m3, .inl (mc3, 14, .inl mf3)), (m4, .inl (mc4, 128, .inl mf4))] [(mc2, .byte), (mc3, .int), (mc4, .int)] (kRd ad 5 7 b6 n6 g6 b7 n7 g7 (va_A [(jM, .inr (10, [v0, v1, .ref m2, .ref m3, .ref m4, v5, v6, v7, v8, v9, v10, v11, v12, v13, v14, v15, v16, v17, v18, v19, v20, v21, v22, v23, v24, v25, v26, v27, v28, v29, v30, v31, v32, v33, v34, v35, v36, v37, v38, v39, v40, v41, v42, v43, v44, v45, v46, v47, v48, v49, v50, v51])), (m2, .inl (mc2, 1680, .inl mf2)), (m3, .inl (mc3, 14, .inl mf3)), (m4, .inl (mc4, 128, .inl mf4))] sz)) sz) (va_Qi (fun (r : Int32) (u : Value × Value × Value × Value × Value × Value × Value × Value × Value × Value × Value) => match u with | (W5, W9, W10, W11, W12, W13, W14, W15, W16, W17, W18) => True) (fun (u : Value × Value × Value × Value × Value × Value × Value × Value × Value × Value × Value) => match u with | (W5, W9, W10, W11, W12, W13, W14, W15, W16, W17, W18) => fun t : State => kB dC dI [(jM, .inr (10, [v0, v1, .ref m2, .ref m3, .ref m4, W5, v6, v7, v8, W9, W10, W11, W12, W13, W14, W15, W16, W17, W18, v19, v20, v21, v22, v23, v24, v25, v26, v27, v28, v29, v30, v31, v32, v33, v34, v35, v36, v37, v38, v39, v40, v41, v42, v43, v44, v45, v46, v47, v48, v49, v50, v51])), (m2, .inl (mc2, 1680, .inl mf2)), (m3, .inl (mc3, 14, .inl mf3)), (m4, .inl (mc4, 128, .inl mf4))] [(mc2, .byte), (mc3, .int), (mc4, .int)] (va_A [(jM, .inr (10, [v0, v1, .ref m2, .ref m3, .ref m4, v5, v6, v7, v8, v9, v10, v11, v12, v13, v14, v15, v16, v17, v18, v19, v20, v21, v22, v23, v24, v25, v26, v27, v28, v29, v30, v31, v32, v33, v34, v35, v36, v37, v38, v39, v40, v41, v42, v43, v44, v45, v46, v47, v48, v49, v50, v51])), (m2, .inl (mc2, 1680, .inl mf2)), (m3, .inl (mc3, 14, .inl mf3)), (m4, .inl (mc4, 128, .inl mf4))] sz) t) (va_A [(jM, .inr (10, [v0, v1, .ref m2, .ref m3, .ref m4, v5, v6, v7, v8, v9, v10, v11, v12, v13, v14, v15, v16, v17, v18, v19, v20, v21, v22, v23, v24, v25, v26, v27, v28, v29, v30, v31, v32, v33, v34, v35, v36, v37, v38, v39, v40, v41, v42, v43, v44, v45, v46, v47, v48, v49, v50, v51])), (m2, .inl (mc2, 1680, .inl mf2)), (m3, .inl (mc3, 14, .inl mf3)), (m4, .inl (mc4, 128, .inl mf4))] sz)) 0 0 (va_A [(jM, .inr (10, [v0, v1, .ref m2, .ref m3, .ref m4, v5, v6, v7, v8, v9, v10, v11, v12, v13, v14, v15, v16, v17, v18, v19, v20, v21, v22, v23, v24, v25, v26, v27, v28, v29, v30, v31, v32, v33, v34, v35, v36, v37, v38, v39, v40, v41, v42, v43, v44, v45, v46, v47, v48, v49, v50, v51])), (m2, .inl (mc2, 1680, .inl mf2)), (m3, .inl (mc3, 14, .inl mf3)), (m4, .inl (mc4, 128, .inl mf4))] sz) := by
  refine Met.ofW (cc := cX10_worthOf) (maxL := 4) (ret := (some .int)) (by decide) rfl ?_
  intro p e s m args below meth c s₁ B hml hv
  obtain ⟨rfl, hsz, hP, hK, hD0, hX⟩ := hv
  have hx := B.exec
  have hb := B.bytes
  have hr := B.returns
  have hts := atoms_spec (ws := w_s_worthOf10_0) B.pre
  have hown : s.vm.findClass RX10 = some m.cls := findClass_of_methodNamed B.named
  have hlocks := B.notSynchronized
  subst hsz
  have hD := hD0.self (sz := s.heap.size)
  generalize hAe : va_A [(jM, .inr (10, [v0, v1, .ref m2, .ref m3, .ref m4, v5, v6, v7, v8, v9, v10, v11, v12, v13, v14, v15, v16, v17, v18, v19, v20, v21, v22, v23, v24, v25, v26, v27, v28, v29, v30, v31, v32, v33, v34, v35, v36, v37, v38, v39, v40, v41, v42, v43, v44, v45, v46, v47, v48, v49, v50, v51])), (m2, .inl (mc2, 1680, .inl mf2)), (m3, .inl (mc3, 14, .inl mf3)), (m4, .inl (mc4, 128, .inl mf4))] s.heap.size = A at hD hX ⊢
  have hA : ∀ q : Nat, s.heap.size ≤ q → A q := fun q h => by rw [← hAe]; exact Or.inr h
  have hS : va_S A s.heap s.heap [] := va_S.rf
  have hP : va_P (dC, dI) vwCl [(jM, .inr (10, [v0, v1, .ref m2, .ref m3, .ref m4, v5, v6, v7, v8, v9, v10, v11, v12, v13, v14, v15, v16, v17, v18, v19, v20, v21, v22, v23, v24, v25, v26, v27, v28, v29, v30, v31, v32, v33, v34, v35, v36, v37, v38, v39, v40, v41, v42, v43, v44, v45, v46, v47, v48, v49, v50, v51])), (m2, .inl (mc2, 1680, .inl mf2)), (m3, .inl (mc3, 14, .inl mf3)), (m4, .inl (mc4, 128, .inl mf4))] s.heap := hP
  have hl := lv_entry ([.ref jM, .int (nI (pl)), .int 0, .int p2]) (n := 4) (Nat.le_of_ble_eq_true rfl)
  rw [lg_entry_eq]
  generalize (lg_sl ([.ref jM, .int (nI (pl)), .int 0, .int p2]) ++ List.replicate (4 - (lg_sl ([.ref jM, .int (nI (pl)), .int 0, .int p2])).length) Slot.unset).toArray = ls at hl ⊢
  have hl : lv_has ls 4 [(0, .ref jM), (1, .int (nI (pl))), (2, .int 0), (3, .int p2)] := hl
  refine kQ (fun Q hQ => ?_)
  refine lv_aload_n hx hb dX10_worthOf_0 rfl (lv_at hl 0 rfl) ?_
  refine lv_aload_n hx hb dX10_worthOf_1 rfl (lv_at hl 0 rfl) ?_
  refine va_get (D := (dC, dI)) (ci := 10) (v := .ref m2) (C := RX10) (T := TX10) (N := 52) hx hb hts (fun _ h => List.mem_cons_of_mem _ (List.mem_append_right _ (List.mem_append_left _ h))) hown hK hP 0 rfl rfl 2 (by decide) (hts (.fieldLink RX10 13 "NotEndedModel" "texts" "[B") (List.mem_cons_of_mem _ (List.mem_append_left _ (List.mem_of_getElem? (i := 0) rfl)))) (fun _ h9 => h9) rfl dX10_worthOf_2 ?_
  refine lv_bipush (v := 120) hx hb dX10_worthOf_5 (by decide) ?_
  refine lv_iload_n hx hb dX10_worthOf_7 rfl (lv_at hl 1 rfl) ?_
  refine lv_imul hx hb dX10_worthOf_8 ?_
  refine lv_topi (fun y_1 ey_1 => ?_)
  obtain rfl : y_1 = nI ((120) * (pl)) := ey_1.trans (pk_mul _ _)
  refine lv_aload_n hx hb dX10_worthOf_9 rfl (lv_at hl 0 rfl) ?_
  refine va_get (D := (dC, dI)) (ci := 10) (v := .ref m3) (C := RX10) (T := TX10) (N := 52) hx hb hts (fun _ h => List.mem_cons_of_mem _ (List.mem_append_right _ (List.mem_append_left _ h))) hown hK hP 0 rfl rfl 3 (by decide) (hts (.fieldLink RX10 16 "NotEndedModel" "textLong" "[I") (List.mem_cons_of_mem _ (List.mem_append_left _ (List.mem_of_getElem? (i := 1) rfl)))) (fun _ h9 => h9) rfl dX10_worthOf_10 ?_
  refine lv_iload_n hx hb dX10_worthOf_13 rfl (lv_at hl 1 rfl) ?_
  refine va_iald hx hb hK hP 2 1 rfl rfl (vp_in_nI (n := pl) (N := 14) (by omega) (by omega)) dX10_worthOf_14 ?_
  refine lv_topi (fun x_2 ex_2 => ?_)
  obtain ⟨j_3, hj_3, qj_3⟩ := hTl (pl)
  rw [nI_clamp (n := pl) (by omega), qj_3] at ex_2
  subst ex_2
  refine lv_iload_n hx hb dX10_worthOf_15 rfl (lv_at hl 2 rfl) ?_
  refine lv_iload_n hx hb dX10_worthOf_16 rfl (lv_at hl 3 rfl) ?_
  obtain ⟨hPc, hDc, hFc⟩ := kCut (wc := [(jM, .inr (10, [v0, v1, .ref m2, .ref m3, .ref m4, v5, v6, v7, v8, v9, v10, v11, v12, v13, v14, v15, v16, v17, v18, v19, v20, v21, v22, v23, v24, v25, v26, v27, v28, v29, v30, v31, v32, v33, v34, v35, v36, v37, v38, v39, v40, v41, v42, v43, v44, v45, v46, v47, v48, v49, v50, v51])), (m2, .inl (mc2, 1680, .inl mf2)), (m4, .inl (mc4, 128, .inl mf4))]) hP hD hS hA [0, 1, 3] rfl (by decide) rfl
  have hKc := hK.sb (tys2 := [(mc2, .byte), (mc4, .int)]) [0, 2] rfl
  refine va_callv (va_runV (As := [.ref m2, .int (nI ((120) * (pl))), .int (nI (j_3)), .int 0, .int p2]) (rest := []) ⟨hx, hb, hml, hown, hts⟩ (s_go10_0 l dC dI ad jM (kVl [v0, v1, .ref m2, .ref m3, .ref m4, v5, v6, v7, v8, v9, v10, v11, v12, v13, v14, v15, v16, v17, v18, v19, v20, v21, v22, v23, v24, v25, v26, v27, v28, v29, v30, v31, v32, v33, v34, v35, v36, v37, v38, v39, v40, v41, v42, v43, v44, v45, v46, v47, v48, v49, v50, v51]) (v5 : Value) (v9 : Value) (v10 : Value) (v11 : Value) (v12 : Value) (v13 : Value) (v14 : Value) (v15 : Value) (v16 : Value) (v17 : Value) (v18 : Value) m4 m2 mc2 1680 mf2 ((120) * (pl)) j_3 (by omega) (by omega) mc4 mf4 b6 n6 g6 hn6 hg6 b7 n7 g7 hn7 hg7 p2 s.heap.size) (cwV 5 hts (kG (List.forall_mem_cons.mpr ⟨(List.mem_cons_of_mem _ (List.mem_append_left _ (List.mem_of_getElem? (i := 5) rfl))), (List.forall_mem_cons.mpr ⟨(List.mem_cons_of_mem _ (List.mem_append_left _ (List.mem_of_getElem? (i := 4) rfl))), (List.forall_mem_cons.mpr ⟨(List.mem_cons_of_mem _ (List.mem_append_left _ (List.mem_of_getElem? (i := 3) rfl))), (List.forall_mem_cons.mpr ⟨(List.mem_cons_of_mem _ (List.mem_append_left _ (List.mem_of_getElem? (i := 2) rfl))), (fun _ h => absurd h List.not_mem_nil)⟩)⟩)⟩)⟩) (kGV _ _ _ _) (fun _ h => List.mem_cons_of_mem _ (List.mem_append_right _ (List.mem_append_right _ h))) gw_s_go10_0) rfl rfl rfl ⟨rfl, hd_X10_goThrough⟩ ⟨(Nat.le_of_ble_eq_true rfl), (Nat.le_of_ble_eq_true rfl)⟩) (kW_V kRd_blind (kRd_give hX hS hFc) (va_recv hKc hPc (ci := 10) (q0 := 0) rfl rfl) hPc hKc hDc) rfl rfl hl.1 rfl (lv_room (Nat.le_of_ble_eq_true rfl)) dX10_worthOf_17 ⟨(Nat.le_of_ble_eq_true rfl), (Nat.le_of_ble_eq_true rfl)⟩) hS (fun q _ h => hFc q h) hFc (fun u t H1 locs ht hvm hw hB hz1 hk1 hS => ?_)
  obtain ⟨a1_4, xf_5, xd_6, fd_7, hf_8⟩ := u
  obtain ⟨hP1, hK1, hD1⟩ := hB
  rw [ht] at hP1
  try dsimp only at hw
  have hPD : kPD dC dI A [(jM, .inr (10, [(v0 : Value), (v1 : Value), .ref m2, .ref m3, .ref m4, .ref m2, (v6 : Value), (v7 : Value), (v8 : Value), .int (nI ((120) * (pl))), .int (nI (j_3)), .int (nI (a1_4)), .int xf_5, .int xd_6, .int p2, .int fd_7, .ref (ad 5), .ref (ad 7), .int hf_8, (v19 : Value), (v20 : Value), (v21 : Value), (v22 : Value), (v23 : Value), (v24 : Value), (v25 : Value), (v26 : Value), (v27 : Value), (v28 : Value), (v29 : Value), (v30 : Value), (v31 : Value), (v32 : Value), (v33 : Value), (v34 : Value), (v35 : Value), (v36 : Value), (v37 : Value), (v38 : Value), (v39 : Value), (v40 : Value), (v41 : Value), (v42 : Value), (v43 : Value), (v44 : Value), (v45 : Value), (v46 : Value), (v47 : Value), (v48 : Value), (v49 : Value), (v50 : Value), (v51 : Value)])), (m2, .inl (mc2, 1680, .inl mf2)), (m3, .inl (mc3, 14, .inl mf3)), (m4, .inl (mc4, 128, .inl mf4))] H1 := kJoinI hP hD [0, 1, 3] rfl hk1 hFc hP1 hD1 rfl [some 0, some 1, none, some 2] rfl rfl
  obtain ⟨hP, hD⟩ := hPD
  generalize H1 = H at hP hS ⊢
  refine lv_aload_n hx hb dX10_worthOf_20 rfl (lv_at hl 0 rfl) ?_
  refine va_get (D := (dC, dI)) (ci := 10) (v := .int fd_7) (C := RX10) (T := TX10) (N := 52) hx hb hts (fun _ h => List.mem_cons_of_mem _ (List.mem_append_right _ (List.mem_append_left _ h))) hown hK hP 0 rfl rfl 15 (by decide) (hts (.fieldLink RX10 226 "NotEndedModel" "found" "I") (List.mem_cons_of_mem _ (List.mem_append_left _ (List.mem_of_getElem? (i := 6) rfl)))) (fun _ h9 => h9) rfl dX10_worthOf_21 ?_
  have hP9 := hP
  have hD9 := hD
  have hK9 := hK
  rw [hQ]
  exact W.iret (v := fd_7) hx hb hr (fun t ht hW => ⟨⟨fd_7, ((.ref m2 : Value), (.int (nI ((120) * (pl))) : Value), (.int (nI (j_3)) : Value), (.int (nI (a1_4)) : Value), (.int xf_5 : Value), (.int xd_6 : Value), (.int p2 : Value), (.int fd_7 : Value), (.ref (ad 5) : Value), (.ref (ad 7) : Value), (.int hf_8 : Value)), rfl, trivial,  by rw [ht]; exact hP9, va_K.moved hW.alike hK9, hD9⟩, hS.F ht⟩) hS.2.2 dX10_worthOf_24

def w_s_worthOf10_1 : List Cond := .code yX10_worthOf cX10_worthOf 4 (some .int) :: ([.fieldLink RX10 13 "NotEndedModel" "texts" "[B", .fieldLink RX10 16 "NotEndedModel" "textLong" "[I", .initialized RX10, .selects RX10 yX10_goThrough yX10_goThrough, .instanceMethod yX10_goThrough, .methodLink RX10 240 yX10_goThrough, .fieldLink RX10 226 "NotEndedModel" "found" "I"] ++ (wsX100 ++ (w_s_go10_1)))
theorem gw_s_worthOf10_1 : (w_s_worthOf10_1).all goodWord = true := kGc rfl (kGa (by decide +kernel) (kGa gw_wsX100 gw_s_go10_1))
set_option maxHeartbeats 4000000 in
set_option maxRecDepth 100000 in
theorem s_worthOf10_1 (l : Launch) (dC : Nat → ClassId) (dI : Nat → Nat → Nat) (ad : Nat → Nat) (jM : Nat) (v0 : Value) (v1 : Value) (v5 : Value) (v6 : Value) (v7 : Value) (v8 : Value) (v9 : Value) (v10 : Value) (v11 : Value) (v12 : Value) (v13 : Value) (v14 : Value) (v15 : Value) (v16 : Value) (v17 : Value) (v18 : Value) (v19 : Value) (v20 : Value) (v21 : Value) (v22 : Value) (v23 : Value) (v24 : Value) (v25 : Value) (v26 : Value) (v27 : Value) (v28 : Value) (v29 : Value) (v30 : Value) (v31 : Value) (v32 : Value) (v33 : Value) (v34 : Value) (v35 : Value) (v36 : Value) (v37 : Value) (v38 : Value) (v39 : Value) (v40 : Value) (v41 : Value) (v42 : Value) (v43 : Value) (v44 : Value) (v45 : Value) (v46 : Value) (v47 : Value) (v48 : Value) (v49 : Value) (v50 : Value) (v51 : Value) (m2 : Nat) (mc2 : ClassId) (mf2 : Nat → Int32) (m3 : Nat) (mc3 : ClassId) (mf3 : Nat → Int32) (m4 : Nat) (mc4 : ClassId) (mf4 : Nat → Int32) (hTl : ∀ j : Nat, ∃ v : Nat, v ≤ 120 ∧ mf3 j = nI v) (b6 : Nat) (n6 : Nat) (g6 : Nat → Int32) (hn6 : n6 ≤ 8) (hg6 : ∀ k : Nat, ∃ v : Nat, v < 128 ∧ g6 k = nI v) (b7 : Nat) (n7 : Nat) (g7 : Nat → Int32) (hn7 : n7 ≤ 8) (hg7 : ∀ k : Nat, ∃ v : Nat, v < 128 ∧ g7 k = nI v) (pl : Nat) (hpl : pl < 14) (p2 : Int32) (sz : Nat) : Met l yX10_worthOf w_s_worthOf10_1 ({ frames := 58, cells := 0, slots := 0, locals := 3480 }) (kW dC dI [.ref jM, .int (nI (pl)), .int 1, .int p2] [(jM, .inr (10, [v0, v1, .ref m2, .ref m3, .ref m4, v5, v6, v7, v8, v9, v10, v11, v12, v13, v14, v15, v16, v17, v18, v19, v20, v21, v22, v23, v24, v25, v26, v27, v28, v29, v30, v31, v32, v33, v34, v35, v36, v37, v38, v39, v40, v41, v42, v43, v44, v45, v46, v47, v48, v49, v50, v51])), (m2, .inl (mc2, 1680, .inl mf2)), (m3, .inl (mc3, 14, .inl mf3)), (m4, .inl (mc4, 128, .inl mf4))] [(mc2, .byte), (mc3, .int), (mc4, .int)] (kRd ad 6 8 b6 n6 g6 b7 n7 g7 (va_A [(jM, .inr (10, [v0, v1, .ref m2, .ref m3, .ref m4, v5, v6, v7, v8, v9, v10, v11, v12, v13, v14, v15, v16, v17, v18, v19, v20, v21, v22, v23, v24, v25, v26, v27, v28, v29, v30, v31, v32, v33, v34, v35, v36, v37, v38, v39, v40, v41, v42, v43, v44, v45, v46, v47, v48, v49, v50, v51])), (m2, .inl (mc2, 1680, .inl mf2)), (m3, .inl (mc3, 14, .inl mf3)), (m4, .inl (mc4, 128, .inl mf4))] sz)) sz) (va_Qi (fun (r : Int32) (u : Value × Value × Value × Value × Value × Value × Value × Value × Value × Value × Value) => match u with | (W5, W9, W10, W11, W12, W13, W14, W15, W16, W17, W18) => True) (fun (u : Value × Value × Value × Value × Value × Value × Value × Value × Value × Value × Value) => match u with | (W5, W9, W10, W11, W12, W13, W14, W15, W16, W17, W18) => fun t : State => kB dC dI [(jM, .inr (10, [v0, v1, .ref m2, .ref m3, .ref m4, W5, v6, v7, v8, W9, W10, W11, W12, W13, W14, W15, W16, W17, W18, v19, v20, v21, v22, v23, v24, v25, v26, v27, v28, v29, v30, v31, v32, v33, v34, v35, v36, v37, v38, v39, v40, v41, v42, v43, v44, v45, v46, v47, v48, v49, v50, v51])), (m2, .inl (mc2, 1680, .inl mf2)), (m3, .inl (mc3, 14, .inl mf3)), (m4, .inl (mc4, 128, .inl mf4))] [(mc2, .byte), (mc3, .int), (mc4, .int)] (va_A [(jM, .inr (10, [v0, v1, .ref m2, .ref m3, .ref m4, v5, v6, v7, v8, v9, v10, v11, v12, v13, v14, v15, v16, v17, v18, v19, v20, v21, v22, v23, v24, v25, v26, v27, v28, v29, v30, v31, v32, v33, v34, v35, v36, v37, v38, v39, v40, v41, v42, v43, v44, v45, v46, v47, v48, v49, v50, v51])), (m2, .inl (mc2, 1680, .inl mf2)), (m3, .inl (mc3, 14, .inl mf3)), (m4, .inl (mc4, 128, .inl mf4))] sz) t) (va_A [(jM, .inr (10, [v0, v1, .ref m2, .ref m3, .ref m4, v5, v6, v7, v8, v9, v10, v11, v12, v13, v14, v15, v16, v17, v18, v19, v20, v21, v22, v23, v24, v25, v26, v27, v28, v29, v30, v31, v32, v33, v34, v35, v36, v37, v38, v39, v40, v41, v42, v43, v44, v45, v46, v47, v48, v49, v50, v51])), (m2, .inl (mc2, 1680, .inl mf2)), (m3, .inl (mc3, 14, .inl mf3)), (m4, .inl (mc4, 128, .inl mf4))] sz)) 0 0 (va_A [(jM, .inr (10, [v0, v1, .ref m2, .ref m3, .ref m4, v5, v6, v7, v8, v9, v10, v11, v12, v13, v14, v15, v16, v17, v18, v19, v20, v21, v22, v23, v24, v25, v26, v27, v28, v29, v30, v31, v32, v33, v34, v35, v36, v37, v38, v39, v40, v41, v42, v43, v44, v45, v46, v47, v48, v49, v50, v51])), (m2, .inl (mc2, 1680, .inl mf2)), (m3, .inl (mc3, 14, .inl mf3)), (m4, .inl (mc4, 128, .inl mf4))] sz) := by
  refine Met.ofW (cc := cX10_worthOf) (maxL := 4) (ret := (some .int)) (by decide) rfl ?_
  intro p e s m args below meth c s₁ B hml hv
  obtain ⟨rfl, hsz, hP, hK, hD0, hX⟩ := hv
  have hx := B.exec
  have hb := B.bytes
  have hr := B.returns
  have hts := atoms_spec (ws := w_s_worthOf10_1) B.pre
  have hown : s.vm.findClass RX10 = some m.cls := findClass_of_methodNamed B.named
  have hlocks := B.notSynchronized
  subst hsz
  have hD := hD0.self (sz := s.heap.size)
  generalize hAe : va_A [(jM, .inr (10, [v0, v1, .ref m2, .ref m3, .ref m4, v5, v6, v7, v8, v9, v10, v11, v12, v13, v14, v15, v16, v17, v18, v19, v20, v21, v22, v23, v24, v25, v26, v27, v28, v29, v30, v31, v32, v33, v34, v35, v36, v37, v38, v39, v40, v41, v42, v43, v44, v45, v46, v47, v48, v49, v50, v51])), (m2, .inl (mc2, 1680, .inl mf2)), (m3, .inl (mc3, 14, .inl mf3)), (m4, .inl (mc4, 128, .inl mf4))] s.heap.size = A at hD hX ⊢
  have hA : ∀ q : Nat, s.heap.size ≤ q → A q := fun q h => by rw [← hAe]; exact Or.inr h
  have hS : va_S A s.heap s.heap [] := va_S.rf
  have hP : va_P (dC, dI) vwCl [(jM, .inr (10, [v0, v1, .ref m2, .ref m3, .ref m4, v5, v6, v7, v8, v9, v10, v11, v12, v13, v14, v15, v16, v17, v18, v19, v20, v21, v22, v23, v24, v25, v26, v27, v28, v29, v30, v31, v32, v33, v34, v35, v36, v37, v38, v39, v40, v41, v42, v43, v44, v45, v46, v47, v48, v49, v50, v51])), (m2, .inl (mc2, 1680, .inl mf2)), (m3, .inl (mc3, 14, .inl mf3)), (m4, .inl (mc4, 128, .inl mf4))] s.heap := hP
  have hl := lv_entry ([.ref jM, .int (nI (pl)), .int 1, .int p2]) (n := 4) (Nat.le_of_ble_eq_true rfl)
  rw [lg_entry_eq]
  generalize (lg_sl ([.ref jM, .int (nI (pl)), .int 1, .int p2]) ++ List.replicate (4 - (lg_sl ([.ref jM, .int (nI (pl)), .int 1, .int p2])).length) Slot.unset).toArray = ls at hl ⊢
  have hl : lv_has ls 4 [(0, .ref jM), (1, .int (nI (pl))), (2, .int 1), (3, .int p2)] := hl
  refine kQ (fun Q hQ => ?_)
  refine lv_aload_n hx hb dX10_worthOf_0 rfl (lv_at hl 0 rfl) ?_
  refine lv_aload_n hx hb dX10_worthOf_1 rfl (lv_at hl 0 rfl) ?_
  refine va_get (D := (dC, dI)) (ci := 10) (v := .ref m2) (C := RX10) (T := TX10) (N := 52) hx hb hts (fun _ h => List.mem_cons_of_mem _ (List.mem_append_right _ (List.mem_append_left _ h))) hown hK hP 0 rfl rfl 2 (by decide) (hts (.fieldLink RX10 13 "NotEndedModel" "texts" "[B") (List.mem_cons_of_mem _ (List.mem_append_left _ (List.mem_of_getElem? (i := 0) rfl)))) (fun _ h9 => h9) rfl dX10_worthOf_2 ?_
  refine lv_bipush (v := 120) hx hb dX10_worthOf_5 (by decide) ?_
  refine lv_iload_n hx hb dX10_worthOf_7 rfl (lv_at hl 1 rfl) ?_
  refine lv_imul hx hb dX10_worthOf_8 ?_
  refine lv_topi (fun y_1 ey_1 => ?_)
  obtain rfl : y_1 = nI ((120) * (pl)) := ey_1.trans (pk_mul _ _)
  refine lv_aload_n hx hb dX10_worthOf_9 rfl (lv_at hl 0 rfl) ?_
  refine va_get (D := (dC, dI)) (ci := 10) (v := .ref m3) (C := RX10) (T := TX10) (N := 52) hx hb hts (fun _ h => List.mem_cons_of_mem _ (List.mem_append_right _ (List.mem_append_left _ h))) hown hK hP 0 rfl rfl 3 (by decide) (hts (.fieldLink RX10 16 "NotEndedModel" "textLong" "[I") (List.mem_cons_of_mem _ (List.mem_append_left _ (List.mem_of_getElem? (i := 1) rfl)))) (fun _ h9 => h9) rfl dX10_worthOf_10 ?_
  refine lv_iload_n hx hb dX10_worthOf_13 rfl (lv_at hl 1 rfl) ?_
  refine va_iald hx hb hK hP 2 1 rfl rfl (vp_in_nI (n := pl) (N := 14) (by omega) (by omega)) dX10_worthOf_14 ?_
  refine lv_topi (fun x_2 ex_2 => ?_)
  obtain ⟨j_3, hj_3, qj_3⟩ := hTl (pl)
  rw [nI_clamp (n := pl) (by omega), qj_3] at ex_2
  subst ex_2
  refine lv_iload_n hx hb dX10_worthOf_15 rfl (lv_at hl 2 rfl) ?_
  refine lv_iload_n hx hb dX10_worthOf_16 rfl (lv_at hl 3 rfl) ?_
  obtain ⟨hPc, hDc, hFc⟩ := kCut (wc := [(jM, .inr (10, [v0, v1, .ref m2, .ref m3, .ref m4, v5, v6, v7, v8, v9, v10, v11, v12, v13, v14, v15, v16, v17, v18, v19, v20, v21, v22, v23, v24, v25, v26, v27, v28, v29, v30, v31, v32, v33, v34, v35, v36, v37, v38, v39, v40, v41, v42, v43, v44, v45, v46, v47, v48, v49, v50, v51])), (m2, .inl (mc2, 1680, .inl mf2)), (m4, .inl (mc4, 128, .inl mf4))]) hP hD hS hA [0, 1, 3] rfl (by decide) rfl
  have hKc := hK.sb (tys2 := [(mc2, .byte), (mc4, .int)]) [0, 2] rfl
  refine va_callv (va_runV (As := [.ref m2, .int (nI ((120) * (pl))), .int (nI (j_3)), .int 1, .int p2]) (rest := []) ⟨hx, hb, hml, hown, hts⟩ (s_go10_1 l dC dI ad jM (kVl [v0, v1, .ref m2, .ref m3, .ref m4, v5, v6, v7, v8, v9, v10, v11, v12, v13, v14, v15, v16, v17, v18, v19, v20, v21, v22, v23, v24, v25, v26, v27, v28, v29, v30, v31, v32, v33, v34, v35, v36, v37, v38, v39, v40, v41, v42, v43, v44, v45, v46, v47, v48, v49, v50, v51]) (v5 : Value) (v9 : Value) (v10 : Value) (v11 : Value) (v12 : Value) (v13 : Value) (v14 : Value) (v15 : Value) (v16 : Value) (v17 : Value) (v18 : Value) m4 m2 mc2 1680 mf2 ((120) * (pl)) j_3 (by omega) (by omega) mc4 mf4 b6 n6 g6 hn6 hg6 b7 n7 g7 hn7 hg7 p2 s.heap.size) (cwV 5 hts (kG (List.forall_mem_cons.mpr ⟨(List.mem_cons_of_mem _ (List.mem_append_left _ (List.mem_of_getElem? (i := 5) rfl))), (List.forall_mem_cons.mpr ⟨(List.mem_cons_of_mem _ (List.mem_append_left _ (List.mem_of_getElem? (i := 4) rfl))), (List.forall_mem_cons.mpr ⟨(List.mem_cons_of_mem _ (List.mem_append_left _ (List.mem_of_getElem? (i := 3) rfl))), (List.forall_mem_cons.mpr ⟨(List.mem_cons_of_mem _ (List.mem_append_left _ (List.mem_of_getElem? (i := 2) rfl))), (fun _ h => absurd h List.not_mem_nil)⟩)⟩)⟩)⟩) (kGV _ _ _ _) (fun _ h => List.mem_cons_of_mem _ (List.mem_append_right _ (List.mem_append_right _ h))) gw_s_go10_1) rfl rfl rfl ⟨rfl, hd_X10_goThrough⟩ ⟨(Nat.le_of_ble_eq_true rfl), (Nat.le_of_ble_eq_true rfl)⟩) (kW_V kRd_blind (kRd_give hX hS hFc) (va_recv hKc hPc (ci := 10) (q0 := 0) rfl rfl) hPc hKc hDc) rfl rfl hl.1 rfl (lv_room (Nat.le_of_ble_eq_true rfl)) dX10_worthOf_17 ⟨(Nat.le_of_ble_eq_true rfl), (Nat.le_of_ble_eq_true rfl)⟩) hS (fun q _ h => hFc q h) hFc (fun u t H1 locs ht hvm hw hB hz1 hk1 hS => ?_)
  obtain ⟨a1_4, xf_5, xd_6, fd_7, hf_8⟩ := u
  obtain ⟨hP1, hK1, hD1⟩ := hB
  rw [ht] at hP1
  try dsimp only at hw
  have hPD : kPD dC dI A [(jM, .inr (10, [(v0 : Value), (v1 : Value), .ref m2, .ref m3, .ref m4, .ref m2, (v6 : Value), (v7 : Value), (v8 : Value), .int (nI ((120) * (pl))), .int (nI (j_3)), .int (nI (a1_4)), .int xf_5, .int xd_6, .int p2, .int fd_7, .ref (ad 6), .ref (ad 8), .int hf_8, (v19 : Value), (v20 : Value), (v21 : Value), (v22 : Value), (v23 : Value), (v24 : Value), (v25 : Value), (v26 : Value), (v27 : Value), (v28 : Value), (v29 : Value), (v30 : Value), (v31 : Value), (v32 : Value), (v33 : Value), (v34 : Value), (v35 : Value), (v36 : Value), (v37 : Value), (v38 : Value), (v39 : Value), (v40 : Value), (v41 : Value), (v42 : Value), (v43 : Value), (v44 : Value), (v45 : Value), (v46 : Value), (v47 : Value), (v48 : Value), (v49 : Value), (v50 : Value), (v51 : Value)])), (m2, .inl (mc2, 1680, .inl mf2)), (m3, .inl (mc3, 14, .inl mf3)), (m4, .inl (mc4, 128, .inl mf4))] H1 := kJoinI hP hD [0, 1, 3] rfl hk1 hFc hP1 hD1 rfl [some 0, some 1, none, some 2] rfl rfl
  obtain ⟨hP, hD⟩ := hPD
  generalize H1 = H at hP hS ⊢
  refine lv_aload_n hx hb dX10_worthOf_20 rfl (lv_at hl 0 rfl) ?_
  refine va_get (D := (dC, dI)) (ci := 10) (v := .int fd_7) (C := RX10) (T := TX10) (N := 52) hx hb hts (fun _ h => List.mem_cons_of_mem _ (List.mem_append_right _ (List.mem_append_left _ h))) hown hK hP 0 rfl rfl 15 (by decide) (hts (.fieldLink RX10 226 "NotEndedModel" "found" "I") (List.mem_cons_of_mem _ (List.mem_append_left _ (List.mem_of_getElem? (i := 6) rfl)))) (fun _ h9 => h9) rfl dX10_worthOf_21 ?_
  have hP9 := hP
  have hD9 := hD
  have hK9 := hK
  rw [hQ]
  exact W.iret (v := fd_7) hx hb hr (fun t ht hW => ⟨⟨fd_7, ((.ref m2 : Value), (.int (nI ((120) * (pl))) : Value), (.int (nI (j_3)) : Value), (.int (nI (a1_4)) : Value), (.int xf_5 : Value), (.int xd_6 : Value), (.int p2 : Value), (.int fd_7 : Value), (.ref (ad 6) : Value), (.ref (ad 8) : Value), (.int hf_8 : Value)), rfl, trivial,  by rw [ht]; exact hP9, va_K.moved hW.alike hK9, hD9⟩, hS.F ht⟩) hS.2.2 dX10_worthOf_24
