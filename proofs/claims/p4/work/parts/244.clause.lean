theorem dX4_readClause_0 : decode cX4_readClause 0 = .ok (.aload_n 0, 1) := kDs0 kf_42 (by decide +kernel)
theorem dX4_readClause_1 : decode cX4_readClause 1 = .ok (.getfield 30, 3) := kDs2 kf_180 (by decide +kernel)
theorem dX4_readClause_4 : decode cX4_readClause 4 = .ok (.aload_n 0, 1) := kDs0 kf_42 (by decide +kernel)
theorem dX4_readClause_5 : decode cX4_readClause 5 = .ok (.invokevirtual 53, 3) := kDs2 kf_182 (by decide +kernel)
theorem dX4_readClause_8 : decode cX4_readClause 8 = .ok (.invokevirtual 72, 3) := kDs2 kf_182 (by decide +kernel)
theorem dX4_readClause_11 : decode cX4_readClause 11 = .ok (.istore_n 1, 1) := kDs0 kf_60 (by decide +kernel)
theorem dX4_readClause_12 : decode cX4_readClause 12 = .ok (.iload_n 1, 1) := kDs0 kf_27 (by decide +kernel)
theorem dX4_readClause_13 : decode cX4_readClause 13 = .ok (.ifCond .ge 5, 3) := kDs4 kf_156 (by decide +kernel)
theorem dX4_readClause_16 : decode cX4_readClause 16 = .ok (.iconst 0, 1) := kDs0 kf_3 (by decide +kernel)
theorem dX4_readClause_17 : decode cX4_readClause 17 = .ok (.ireturn, 1) := kDs0 kf_172 (by decide +kernel)
theorem dX4_readClause_18 : decode cX4_readClause 18 = .ok (.aload_n 0, 1) := kDs0 kf_42 (by decide +kernel)
theorem dX4_readClause_19 : decode cX4_readClause 19 = .ok (.dup, 1) := kDs0 kf_89 (by decide +kernel)
theorem dX4_readClause_20 : decode cX4_readClause 20 = .ok (.getfield 25, 3) := kDs2 kf_180 (by decide +kernel)
theorem dX4_readClause_23 : decode cX4_readClause 23 = .ok (.iconst 1, 1) := kDs0 kf_4 (by decide +kernel)
theorem dX4_readClause_24 : decode cX4_readClause 24 = .ok (.iadd, 1) := kDs0 kf_96 (by decide +kernel)
theorem dX4_readClause_25 : decode cX4_readClause 25 = .ok (.putfield 25, 3) := kDs2 kf_181 (by decide +kernel)
theorem dX4_readClause_28 : decode cX4_readClause 28 = .ok (.aload_n 0, 1) := kDs0 kf_42 (by decide +kernel)
theorem dX4_readClause_29 : decode cX4_readClause 29 = .ok (.bipush 58, 2) := kDs3 kf_16 (by decide +kernel)
theorem dX4_readClause_31 : decode cX4_readClause 31 = .ok (.invokevirtual 57, 3) := kDs2 kf_182 (by decide +kernel)
theorem dX4_readClause_34 : decode cX4_readClause 34 = .ok (.ifCond .ne 5, 3) := kDs4 kf_154 (by decide +kernel)
theorem dX4_readClause_39 : decode cX4_readClause 39 = .ok (.aload_n 0, 1) := kDs0 kf_42 (by decide +kernel)
theorem dX4_readClause_40 : decode cX4_readClause 40 = .ok (.getfield 18, 3) := kDs2 kf_180 (by decide +kernel)
theorem dX4_readClause_43 : decode cX4_readClause 43 = .ok (.istore_n 2, 1) := kDs0 kf_61 (by decide +kernel)
theorem dX4_readClause_44 : decode cX4_readClause 44 = .ok (.aload_n 0, 1) := kDs0 kf_42 (by decide +kernel)
theorem dX4_readClause_45 : decode cX4_readClause 45 = .ok (.invokevirtual 53, 3) := kDs2 kf_182 (by decide +kernel)
theorem dX4_readClause_48 : decode cX4_readClause 48 = .ok (.bipush 33, 2) := kDs3 kf_16 (by decide +kernel)
theorem dX4_readClause_50 : decode cX4_readClause 50 = .ok (.if_icmp .eq 12, 3) := kDs4 kf_159 (by decide +kernel)
theorem dX4_readClause_62 : decode cX4_readClause 62 = .ok (.iconst 1, 1) := kDs0 kf_4 (by decide +kernel)
theorem dX4_readClause_63 : decode cX4_readClause 63 = .ok (.goto 4, 3) := kDs4 kf_167 (by decide +kernel)
theorem dX4_readClause_67 : decode cX4_readClause 67 = .ok (.istore_n 3, 1) := kDs0 kf_62 (by decide +kernel)
theorem dX4_readClause_68 : decode cX4_readClause 68 = .ok (.iload_n 3, 1) := kDs0 kf_29 (by decide +kernel)
theorem dX4_readClause_69 : decode cX4_readClause 69 = .ok (.ifCond .ne 31, 3) := kDs4 kf_154 (by decide +kernel)
theorem dX4_readClause_100 : decode cX4_readClause 100 = .ok (.aload_n 0, 1) := kDs0 kf_42 (by decide +kernel)
theorem dX4_readClause_101 : decode cX4_readClause 101 = .ok (.iconst 0, 1) := kDs0 kf_3 (by decide +kernel)
theorem dX4_readClause_102 : decode cX4_readClause 102 = .ok (.iload_n 3, 1) := kDs0 kf_29 (by decide +kernel)
theorem dX4_readClause_103 : decode cX4_readClause 103 = .ok (.ifCond .ne 7, 3) := kDs4 kf_154 (by decide +kernel)
theorem dX4_readClause_110 : decode cX4_readClause 110 = .ok (.iconst 0, 1) := kDs0 kf_3 (by decide +kernel)
theorem dX4_readClause_111 : decode cX4_readClause 111 = .ok (.invokevirtual 89, 3) := kDs2 kf_182 (by decide +kernel)
theorem dX4_readClause_114 : decode cX4_readClause 114 = .ok (.ifCond .ne 5, 3) := kDs4 kf_154 (by decide +kernel)
theorem dX4_readClause_119 : decode cX4_readClause 119 = .ok (.aload_n 0, 1) := kDs0 kf_42 (by decide +kernel)
theorem dX4_readClause_120 : decode cX4_readClause 120 = .ok (.getfield 18, 3) := kDs2 kf_180 (by decide +kernel)
theorem dX4_readClause_123 : decode cX4_readClause 123 = .ok (.istore 4, 2) := kDs1 kf_54 (by decide +kernel)
theorem dX4_readClause_125 : decode cX4_readClause 125 = .ok (.aload_n 0, 1) := kDs0 kf_42 (by decide +kernel)
theorem dX4_readClause_126 : decode cX4_readClause 126 = .ok (.bipush 63, 2) := kDs3 kf_16 (by decide +kernel)
theorem dX4_readClause_128 : decode cX4_readClause 128 = .ok (.invokevirtual 57, 3) := kDs2 kf_182 (by decide +kernel)
theorem dX4_readClause_131 : decode cX4_readClause 131 = .ok (.ifCond .eq 26, 3) := kDs4 kf_153 (by decide +kernel)
theorem dX4_readClause_157 : decode cX4_readClause 157 = .ok (.iconst 0, 1) := kDs0 kf_3 (by decide +kernel)
theorem dX4_readClause_158 : decode cX4_readClause 158 = .ok (.ireturn, 1) := kDs0 kf_172 (by decide +kernel)
theorem dX4_readClause_134 : decode cX4_readClause 134 = .ok (.aload_n 0, 1) := kDs0 kf_42 (by decide +kernel)
theorem dX4_readClause_135 : decode cX4_readClause 135 = .ok (.iconst 0, 1) := kDs0 kf_3 (by decide +kernel)
theorem dX4_readClause_136 : decode cX4_readClause 136 = .ok (.invokevirtual 78, 3) := kDs2 kf_182 (by decide +kernel)
theorem dX4_readClause_139 : decode cX4_readClause 139 = .ok (.ifCond .eq 18, 3) := kDs4 kf_153 (by decide +kernel)
theorem dX4_readClause_142 : decode cX4_readClause 142 = .ok (.aload_n 0, 1) := kDs0 kf_42 (by decide +kernel)
theorem dX4_readClause_143 : decode cX4_readClause 143 = .ok (.iload_n 1, 1) := kDs0 kf_27 (by decide +kernel)
theorem dX4_readClause_144 : decode cX4_readClause 144 = .ok (.iload_n 2, 1) := kDs0 kf_28 (by decide +kernel)
theorem dX4_readClause_145 : decode cX4_readClause 145 = .ok (.iload 4, 2) := kDs1 kf_21 (by decide +kernel)
theorem dX4_readClause_147 : decode cX4_readClause 147 = .ok (.invokevirtual 85, 3) := kDs2 kf_182 (by decide +kernel)
theorem dX4_readClause_150 : decode cX4_readClause 150 = .ok (.ifCond .eq 7, 3) := kDs4 kf_153 (by decide +kernel)
theorem dX4_readClause_153 : decode cX4_readClause 153 = .ok (.iconst 1, 1) := kDs0 kf_4 (by decide +kernel)
theorem dX4_readClause_154 : decode cX4_readClause 154 = .ok (.goto 4, 3) := kDs4 kf_167 (by decide +kernel)
theorem dX4_readClause_117 : decode cX4_readClause 117 = .ok (.iconst 0, 1) := kDs0 kf_3 (by decide +kernel)
theorem dX4_readClause_118 : decode cX4_readClause 118 = .ok (.ireturn, 1) := kDs0 kf_172 (by decide +kernel)
theorem dX4_readClause_53 : decode cX4_readClause 53 = .ok (.aload_n 0, 1) := kDs0 kf_42 (by decide +kernel)
theorem dX4_readClause_54 : decode cX4_readClause 54 = .ok (.invokevirtual 53, 3) := kDs2 kf_182 (by decide +kernel)
theorem dX4_readClause_57 : decode cX4_readClause 57 = .ok (.bipush 40, 2) := kDs3 kf_16 (by decide +kernel)
theorem dX4_readClause_59 : decode cX4_readClause 59 = .ok (.if_icmp .ne 7, 3) := kDs4 kf_160 (by decide +kernel)
theorem dX4_readClause_66 : decode cX4_readClause 66 = .ok (.iconst 0, 1) := kDs0 kf_3 (by decide +kernel)
theorem dX4_readClause_72 : decode cX4_readClause 72 = .ok (.aload_n 0, 1) := kDs0 kf_42 (by decide +kernel)
theorem dX4_readClause_73 : decode cX4_readClause 73 = .ok (.iconst 0, 1) := kDs0 kf_3 (by decide +kernel)
theorem dX4_readClause_74 : decode cX4_readClause 74 = .ok (.invokevirtual 78, 3) := kDs2 kf_182 (by decide +kernel)
theorem dX4_readClause_77 : decode cX4_readClause 77 = .ok (.ifCond .ne 5, 3) := kDs4 kf_154 (by decide +kernel)
theorem dX4_readClause_82 : decode cX4_readClause 82 = .ok (.aload_n 0, 1) := kDs0 kf_42 (by decide +kernel)
theorem dX4_readClause_83 : decode cX4_readClause 83 = .ok (.invokevirtual 53, 3) := kDs2 kf_182 (by decide +kernel)
theorem dX4_readClause_86 : decode cX4_readClause 86 = .ok (.invokestatic 82, 3) := kDs2 kf_184 (by decide +kernel)
theorem dX4_readClause_89 : decode cX4_readClause 89 = .ok (.ifCond .ne 11, 3) := kDs4 kf_154 (by decide +kernel)
theorem dX4_readClause_106 : decode cX4_readClause 106 = .ok (.iconst 1, 1) := kDs0 kf_4 (by decide +kernel)
theorem dX4_readClause_107 : decode cX4_readClause 107 = .ok (.goto 4, 3) := kDs4 kf_167 (by decide +kernel)
theorem dX4_readClause_92 : decode cX4_readClause 92 = .ok (.aload_n 0, 1) := kDs0 kf_42 (by decide +kernel)
theorem dX4_readClause_93 : decode cX4_readClause 93 = .ok (.iload_n 1, 1) := kDs0 kf_27 (by decide +kernel)
theorem dX4_readClause_94 : decode cX4_readClause 94 = .ok (.iload_n 2, 1) := kDs0 kf_28 (by decide +kernel)
theorem dX4_readClause_95 : decode cX4_readClause 95 = .ok (.iload_n 2, 1) := kDs0 kf_28 (by decide +kernel)
theorem dX4_readClause_96 : decode cX4_readClause 96 = .ok (.invokevirtual 85, 3) := kDs2 kf_182 (by decide +kernel)
theorem dX4_readClause_99 : decode cX4_readClause 99 = .ok (.ireturn, 1) := kDs0 kf_172 (by decide +kernel)
theorem dX4_readClause_80 : decode cX4_readClause 80 = .ok (.iconst 0, 1) := kDs0 kf_3 (by decide +kernel)
theorem dX4_readClause_81 : decode cX4_readClause 81 = .ok (.ireturn, 1) := kDs0 kf_172 (by decide +kernel)
theorem dX4_readClause_37 : decode cX4_readClause 37 = .ok (.iconst 0, 1) := kDs0 kf_3 (by decide +kernel)
theorem dX4_readClause_38 : decode cX4_readClause 38 = .ok (.ireturn, 1) := kDs0 kf_172 (by decide +kernel)
def w_s_clause4x : List Cond := .code yX4_readClause cX4_readClause 5 (some .boolean) :: wf_rq
theorem gw_s_clause4x : (w_s_clause4x).all goodWord = true := kFamG rfl gf_rq
theorem hd_X4_readClause : yX4_readClause.cls ≠ "java/lang/invoke/MethodHandle" ∧ yX4_readClause.cls ≠ "java/lang/invoke/VarHandle" ∧ (parseMethodDescriptor yX4_readClause.desc).map (fun d => d.parameters.length) = some 0 := by decide +kernel
set_option maxHeartbeats 4000000 in
set_option maxRecDepth 100000 in
theorem s_clause4x (l : Launch) (dC : Nat → ClassId) (dI : Nat → Nat → Nat) (jT : Nat) (t0 : Nat) (cC : ClassId) (gT : Nat → Int32) (kt : Nat) (hkt : kt ≤ 120) (hgT : ∀ j : Nat, narrow .char (.int (gT j)) = .int (gT j)) (bt : Nat → Nat) (hbt : ∀ j : Nat, gT j = nI (bt j)) (hb8 : ∀ j : Nat, bt j < 256) (jR : Nat) (r1 : Nat) (r2 : Nat) (c1 : ClassId) (c2 : ClassId) (s1 : Nat → Int32) (s2 : Nat → Int32) (wr : Nat) (fi : Nat) (q6 : Nat) (q7 : Nat) (hwr : wr ≤ 120) (hfi : fi ≤ 124) (pn : Nat) (hpn : pn ≤ kt) (hwp : wr ≤ pn) (b6 : Nat) (n6 : Nat) (g6 : Nat → Int32) (hn6 : n6 ≤ 8) (b7 : Nat) (n7 : Nat) (g7 : Nat → Int32) (hn7 : n7 ≤ 8) (gn6 : ∀ k : Nat, ∃ v : Nat, v < 128 ∧ g6 k = nI v) (hz6 : kIx g6 n6 (nI 0) = n6) (gn7 : ∀ k : Nat, ∃ v : Nat, v < 128 ∧ g7 k = nI v) (hz7 : kIx g7 n7 (nI 0) = n7) (hf9 : fi ≤ 120) (sz : Nat) : Met l yX4_readClause w_s_clause4x ({ frames := 48, cells := 0, slots := 0, locals := 2880 }) (kW dC dI [.ref jR] [(jR, .inr (4, [.ref jT, .ref r1, .ref r2, .int (nI (wr)), .int (nI (fi)), .int (nI (pn)), .ref q6, .ref q7])), (r1, .inl (c1, 120, .inl s1)), (r2, .inl (c2, 124, .inl s2)), (jT, .inr (8, [.ref t0, .int (nI (kt))])), (t0, .inl (cC, 120, .inl gT))] [(c1, .int), (c2, .int), (cC, .char)] (kS2 q6 b6 n6 g6 q7 b7 n7 g7 (va_A [(jR, .inr (4, [.ref jT, .ref r1, .ref r2, .int (nI (wr)), .int (nI (fi)), .int (nI (pn)), .ref q6, .ref q7])), (r1, .inl (c1, 120, .inl s1)), (r2, .inl (c2, 124, .inl s2)), (jT, .inr (8, [.ref t0, .int (nI (kt))])), (t0, .inl (cC, 120, .inl gT))] sz)) sz) (va_Qi (fun (r : Int32) (u : (Nat → Int32) × (Nat → Int32) × Nat × Nat × Nat × Bool × (List Int32) × Nat × Nat) => match u with | (S1, S2, Wr, Fi, Pn, xo, xl, xj, xk) => (r = kBo xo ∧ kCla bt kt g6 n6 g7 n7 pn = (xo, Pn, xl, xj, xk) ∧ Pn ≤ kt ∧ Wr ≤ 120 ∧ Fi ≤ 124 ∧ (xo = true → Wr = wr + xl.length ∧ S1 = kWrt s1 wr xl ∧ Fi = fi + 4 ∧ S2 = kWrt s2 fi [nI xj, nI wr, nI (wr + xk), nI (wr + xl.length)] ∧ pn + xl.length ≤ Pn ∧ pn + 3 ≤ Pn))) (fun (u : (Nat → Int32) × (Nat → Int32) × Nat × Nat × Nat × Bool × (List Int32) × Nat × Nat) => match u with | (S1, S2, Wr, Fi, Pn, xo, xl, xj, xk) => fun t : State => kB dC dI [(jR, .inr (4, [.ref jT, .ref r1, .ref r2, .int (nI (Wr)), .int (nI (Fi)), .int (nI (Pn)), .ref q6, .ref q7])), (r1, .inl (c1, 120, .inl S1)), (r2, .inl (c2, 124, .inl S2)), (jT, .inr (8, [.ref t0, .int (nI (kt))])), (t0, .inl (cC, 120, .inl gT))] [(c1, .int), (c2, .int), (cC, .char)] (va_A [(jR, .inr (4, [.ref jT, .ref r1, .ref r2, .int (nI (wr)), .int (nI (fi)), .int (nI (pn)), .ref q6, .ref q7])), (r1, .inl (c1, 120, .inl s1)), (r2, .inl (c2, 124, .inl s2)), (jT, .inr (8, [.ref t0, .int (nI (kt))])), (t0, .inl (cC, 120, .inl gT))] sz) t) (va_A [(jR, .inr (4, [.ref jT, .ref r1, .ref r2, .int (nI (wr)), .int (nI (fi)), .int (nI (pn)), .ref q6, .ref q7])), (r1, .inl (c1, 120, .inl s1)), (r2, .inl (c2, 124, .inl s2)), (jT, .inr (8, [.ref t0, .int (nI (kt))])), (t0, .inl (cC, 120, .inl gT))] sz)) 0 0 (va_A [(jR, .inr (4, [.ref jT, .ref r1, .ref r2, .int (nI (wr)), .int (nI (fi)), .int (nI (pn)), .ref q6, .ref q7])), (r1, .inl (c1, 120, .inl s1)), (r2, .inl (c2, 124, .inl s2)), (jT, .inr (8, [.ref t0, .int (nI (kt))])), (t0, .inl (cC, 120, .inl gT))] sz) := by
  refine Met.ofW (cc := cX4_readClause) (maxL := 5) (ret := (some .boolean)) (by decide) rfl ?_
  intro p e s m args below meth c s₁ B hml hv
  obtain ⟨rfl, hsz, hP, hK, hD0, hX⟩ := hv
  have hx := B.exec
  have hb := B.bytes
  have hr := B.returns
  have hts := atoms_spec (ws := w_s_clause4x) B.pre
  have hown : s.vm.findClass RX4 = some m.cls := findClass_of_methodNamed B.named
  have hlocks := B.notSynchronized
  subst hsz
  have hD := hD0.self (sz := s.heap.size)
  generalize hAe : va_A [(jR, .inr (4, [.ref jT, .ref r1, .ref r2, .int (nI (wr)), .int (nI (fi)), .int (nI (pn)), .ref q6, .ref q7])), (r1, .inl (c1, 120, .inl s1)), (r2, .inl (c2, 124, .inl s2)), (jT, .inr (8, [.ref t0, .int (nI (kt))])), (t0, .inl (cC, 120, .inl gT))] s.heap.size = A at hD hX ⊢
  have hA : ∀ q : Nat, s.heap.size ≤ q → A q := fun q h => by rw [← hAe]; exact Or.inr h
  have hS : va_S A s.heap s.heap [] := va_S.rf
  have hP : va_P (dC, dI) vwCl [(jR, .inr (4, [.ref jT, .ref r1, .ref r2, .int (nI (wr)), .int (nI (fi)), .int (nI (pn)), .ref q6, .ref q7])), (r1, .inl (c1, 120, .inl s1)), (r2, .inl (c2, 124, .inl s2)), (jT, .inr (8, [.ref t0, .int (nI (kt))])), (t0, .inl (cC, 120, .inl gT))] s.heap := hP
  have hl := lv_entry ([.ref jR]) (n := 5) (Nat.le_of_ble_eq_true rfl)
  rw [lg_entry_eq]
  generalize (lg_sl ([.ref jR]) ++ List.replicate (5 - (lg_sl ([.ref jR])).length) Slot.unset).toArray = ls at hl ⊢
  have hl : lv_has ls 5 [(0, .ref jR)] := hl
  refine kQ (fun Q hQ => ?_)
  refine lv_aload_n hx hb dX4_readClause_0 rfl (lv_at hl 0 rfl) ?_
  refine va_get (D := (dC, dI)) (ci := 4) (v := .ref q6) (C := RX4) (T := TX4) (N := 8) hx hb hts (fun _ h => List.mem_cons_of_mem _ (List.mem_append_right _ (List.mem_append_right _ (List.mem_append_right _ (List.mem_append_left _ h))))) hown hK hP 0 rfl rfl 6 kc_l_6_8 (hts (.fieldLink RX4 30 "NotEnded$Reader" "labelSigns" "Ljava/lang/String;") (List.mem_cons_of_mem _ (List.mem_append_left _ (List.mem_of_getElem? (i := 50) rfl)))) (fun _ h9 => h9) rfl dX4_readClause_1 ?_
  refine lv_aload_n hx hb dX4_readClause_4 rfl (lv_at hl 0 rfl) ?_
  have hCu := kCut (wc := [(jR, .inr (4, [.ref jT, .ref r1, .ref r2, .int (nI (wr)), .int (nI (fi)), .int (nI (pn)), .ref q6, .ref q7])), (r1, .inl (c1, 120, .inl s1)), (r2, .inl (c2, 124, .inl s2)), (jT, .inr (8, [.ref t0, .int (nI (kt))])), (t0, .inl (cC, 120, .inl gT))]) hP hD hS hA [0, 1, 2, 3, 4] rfl kc_nd_311 rfl
  have hPc := hCu.1
  have hDc := hCu.2.1
  have hFc := hCu.2.2
  have hKc := hK.sb (tys2 := [(c1, .int), (c2, .int), (cC, .char)]) [0, 1, 2] rfl
  refine va_calli (va_runV (As := []) (rest := [.ref q6]) ⟨hx, hb, hml, hown, hts⟩ (s_look4x l dC dI jT t0 cC gT kt hkt hgT bt hbt hb8 jR r1 r2 c1 c2 s1 s2 wr fi q6 q7 hwr hfi pn hpn s.heap.size) (cwV 0 hts (kG (List.forall_mem_cons.mpr ⟨(List.mem_cons_of_mem _ (List.mem_append_left _ (List.mem_of_getElem? (i := 3) rfl))), (List.forall_mem_cons.mpr ⟨(List.mem_cons_of_mem _ (List.mem_append_left _ (List.mem_of_getElem? (i := 2) rfl))), (List.forall_mem_cons.mpr ⟨(List.mem_cons_of_mem _ (List.mem_append_left _ (List.mem_of_getElem? (i := 1) rfl))), (List.forall_mem_cons.mpr ⟨(List.mem_cons_of_mem _ (List.mem_append_left _ (List.mem_of_getElem? (i := 0) rfl))), (fun _ h => absurd h List.not_mem_nil)⟩)⟩)⟩)⟩) (kGV _ _ _ _) (fun _ h => List.mem_cons_of_mem _ (List.mem_append_right _ (List.mem_append_left _ h))) gw_s_look4x) rfl rfl rfl ⟨rfl, hd_X4_look⟩ ⟨(Nat.le_of_ble_eq_true rfl), (Nat.le_of_ble_eq_true rfl)⟩) (kW_V kT_blind kT_give (va_recv hKc hPc (ci := 4) (q0 := 0) rfl rfl) hPc hKc hDc) rfl rfl hl.1 rfl (lv_room (Nat.le_of_ble_eq_true rfl)) dX4_readClause_5 ⟨(Nat.le_of_ble_eq_true rfl), (Nat.le_of_ble_eq_true rfl)⟩) hS (fun q _ h => hFc q h) hFc (fun r_1 => kU2 (fun Pn_2 ch_3 t H_4 locs ht hvm hw hB hz1 hk1 hS => ?_))
  try dsimp only at hw
  have hPD : kPD dC dI A [(jR, .inr (4, [.ref jT, .ref r1, .ref r2, .int (nI (wr)), .int (nI (fi)), .int (nI (Pn_2)), .ref q6, .ref q7])), (r1, .inl (c1, 120, .inl s1)), (r2, .inl (c2, 124, .inl s2)), (jT, .inr (8, [.ref t0, .int (nI (kt))])), (t0, .inl (cC, 120, .inl gT))] H_4 := kJoinX hP hD [0, 1, 2, 3, 4] rfl hk1 hFc hB.1 ht hB.2.2 rfl [some 0, some 1, some 2, some 3, some 4] rfl rfl
  have hP := hPD.1
  have hD := hPD.2
  obtain ⟨rfl, hw_5_0, hw_5_1, hw_5_2, hw_5_3, hw_5_4, hw_5_5, hw_5_6⟩ := hw
  have bd_6 : ch_3 < 256 := by omega
  have hPc := hP.sb (ws2 := []) [] rfl
  have hKc := hK.sb (tys2 := []) [] rfl
  refine vp_callSi (va_runV (As := [.int (nI (ch_3))]) (rest := []) ⟨hx, hb, hml, hown, hts⟩ (s_t_ixx l dC dI q6 b6 n6 g6 hn6 A gn6 ch_3 bd_6) (cwV 1 hts (kG (List.forall_mem_cons.mpr ⟨(List.mem_cons_of_mem _ (List.mem_append_left _ (List.mem_of_getElem? (i := 10) rfl))), (List.forall_mem_cons.mpr ⟨(List.mem_cons_of_mem _ (List.mem_append_left _ (List.mem_of_getElem? (i := 9) rfl))), (List.forall_mem_cons.mpr ⟨(List.mem_cons_of_mem _ (List.mem_append_left _ (List.mem_of_getElem? (i := 8) rfl))), (List.forall_mem_cons.mpr ⟨(List.mem_cons_of_mem _ (List.mem_append_left _ (List.mem_of_getElem? (i := 7) rfl))), (fun _ h => absurd h List.not_mem_nil)⟩)⟩)⟩)⟩) (kGV _ _ _ _) (fun _ h => List.mem_cons_of_mem _ (List.mem_append_right _ (List.mem_append_right _ (List.mem_append_right _ (List.mem_append_right _ (List.mem_append_left _ h)))))) gw_s_t_ixx) rfl rfl rfl ⟨rfl, hd_J0_indexOf_0f7a4⟩ ⟨(Nat.le_of_ble_eq_true rfl), (Nat.le_of_ble_eq_true rfl)⟩) (kR_V kSt_blind (kSt_give hX.1 hS) (kSt_recv hX.1 hS) hPc hKc) rfl rfl hl.1 rfl (lv_room (Nat.le_of_ble_eq_true rfl)) dX4_readClause_8 ⟨(Nat.le_of_ble_eq_true rfl), (Nat.le_of_ble_eq_true rfl)⟩).run (fun r_7 hw => ?_)
  have hw_8 := hw
  rcases hw_8 with ⟨rfl, hj_10⟩ | ⟨j_9, hj_10_1, rfl, hj_10⟩
  · refine lv_istore_n hx hb dX4_readClause_11 rfl hl kc_l_1_5 (kTo [(1, .int (-1)), (0, .ref jR)]) (fun ls hl => ?_)
    refine lv_iload_n hx hb dX4_readClause_12 rfl (lv_at hl 0 rfl) ?_
    refine lv_if_ge (tgt := 18) hx hb dX4_readClause_13 kc_t_13_5 (fun c_11 => absurd c_11 (by decide)) (fun c_11 => ?_)
    refine lv_iconst (v := 0) hx hb dX4_readClause_16 kc_i_0 ?_
    have hP9 := hP
    have hD9 := hD
    have hK9 := hK
    rw [hQ]
    exact W.zret (v := 0) hx hb hr rfl (fun t ht hW => ⟨⟨0, (s1, s2, wr, fi, Pn_2, false, ([]), 0, 0), rfl, ⟨rfl, (by unfold kCla; rw [← hw_5_0, ← hw_5_1]; rw [if_neg (by omega)]), by omega, by omega, by omega, fun z => absurd z (by decide)⟩,  by rw [ht]; exact hP9, va_K.moved hW.alike hK9, hD9⟩, hS.F ht⟩) hS.2.2 dX4_readClause_17
  · have hlt9 : Pn_2 < kt := by rcases (show ch_3 = 0 ∨ Pn_2 < kt by assumption) with z | z; (exfalso; rw [z, hz6] at hj_10; omega); exact z
    refine lv_istore_n hx hb dX4_readClause_11 rfl hl kc_l_1_5 (kTo [(1, .int (nI (j_9))), (0, .ref jR)]) (fun ls hl => ?_)
    refine lv_iload_n hx hb dX4_readClause_12 rfl (lv_at hl 0 rfl) ?_
    have bd_12 : j_9 < 2147483648 := by omega
    refine lv_if_ge (tgt := 18) hx hb dX4_readClause_13 kc_t_13_5 (fun c_13 => ?_) (fun c_13 => absurd (nI_pos' (n := j_9) bd_12) c_13)
    refine lv_aload_n hx hb dX4_readClause_18 rfl (lv_at hl 1 rfl) ?_
    refine lv_dup hx hb dX4_readClause_19 rfl ?_
    refine va_get (D := (dC, dI)) (ci := 4) (v := .int (nI (Pn_2))) (C := RX4) (T := TX4) (N := 8) hx hb hts (fun _ h => List.mem_cons_of_mem _ (List.mem_append_right _ (List.mem_append_right _ (List.mem_append_right _ (List.mem_append_left _ h))))) hown hK hP 0 rfl rfl 5 kc_l_5_8 (hts (.fieldLink RX4 25 "NotEnded$Reader" "place" "I") (List.mem_cons_of_mem _ (List.mem_append_left _ (List.mem_of_getElem? (i := 11) rfl)))) (fun _ h9 => h9) rfl dX4_readClause_20 ?_
    refine lv_iconst (v := 1) hx hb dX4_readClause_23 kc_i_1 ?_
    refine lv_iadd hx hb dX4_readClause_24 ?_
    refine lv_topi (fun y_14 ey_14 => ?_)
    obtain rfl : y_14 = nI (Pn_2 + 1) := ey_14.trans (nI_add (Pn_2) (1))
    refine va_put (D := (dC, dI)) (ci := 4) (v := .int (nI (Pn_2 + 1))) (ty := tyX4 5) (C := RX4) (T := TX4) (N := 8) hx hb hts (fun _ h => List.mem_cons_of_mem _ (List.mem_append_right _ (List.mem_append_right _ (List.mem_append_right _ (List.mem_append_left _ h))))) tyX4 tyX4_ok nmX4 hown hK hP hD hS 0 rfl rfl 5 kc_l_5_8 (hts (.fieldLink RX4 25 "NotEnded$Reader" "place" "I") (List.mem_cons_of_mem _ (List.mem_append_left _ (List.mem_of_getElem? (i := 11) rfl)))) (fun _ h9 => h9) rfl (tyX4_ok 5 kc_l_5_8) rfl rfl (Nat.le_of_ble_eq_true rfl) dX4_readClause_25 (fun H locs hP hD hS => ?_)
    have hPD : kPD dC dI A [(jR, .inr (4, [.ref jT, .ref r1, .ref r2, .int (nI (wr)), .int (nI (fi)), .int (nI (Pn_2 + 1)), .ref q6, .ref q7])), (r1, .inl (c1, 120, .inl s1)), (r2, .inl (c2, 124, .inl s2)), (jT, .inr (8, [.ref t0, .int (nI (kt))])), (t0, .inl (cC, 120, .inl gT))] H := ⟨hP, hD⟩
    have hP := hPD.1
    have hD := hPD.2
    refine lv_aload_n hx hb dX4_readClause_28 rfl (lv_at hl 1 rfl) ?_
    refine lv_bipush (v := 58) hx hb dX4_readClause_29 kc_b_58 ?_
    have bd_15 : (Pn_2 + 1) ≤ kt := by omega
    have hCu := kCut (wc := [(jR, .inr (4, [.ref jT, .ref r1, .ref r2, .int (nI (wr)), .int (nI (fi)), .int (nI (Pn_2 + 1)), .ref q6, .ref q7])), (r1, .inl (c1, 120, .inl s1)), (r2, .inl (c2, 124, .inl s2)), (jT, .inr (8, [.ref t0, .int (nI (kt))])), (t0, .inl (cC, 120, .inl gT))]) hP hD hS hA [0, 1, 2, 3, 4] rfl kc_nd_311 rfl
    have hPc := hCu.1
    have hDc := hCu.2.1
    have hFc := hCu.2.2
    have hKc := hK.sb (tys2 := [(c1, .int), (c2, .int), (cC, .char)]) [0, 1, 2] rfl
    refine va_calli (va_runV (As := [.int 58]) (rest := []) ⟨hx, hb, hml, hown, hts⟩ (s_take4_58 l dC dI jT t0 cC gT kt hkt hgT bt hbt hb8 jR r1 r2 c1 c2 s1 s2 wr fi q6 q7 hwr hfi (Pn_2 + 1) bd_15 H.size) (cwV 1 hts (kG (List.forall_mem_cons.mpr ⟨(List.mem_cons_of_mem _ (List.mem_append_left _ (List.mem_of_getElem? (i := 45) rfl))), (List.forall_mem_cons.mpr ⟨(List.mem_cons_of_mem _ (List.mem_append_left _ (List.mem_of_getElem? (i := 44) rfl))), (List.forall_mem_cons.mpr ⟨(List.mem_cons_of_mem _ (List.mem_append_left _ (List.mem_of_getElem? (i := 43) rfl))), (List.forall_mem_cons.mpr ⟨(List.mem_cons_of_mem _ (List.mem_append_left _ (List.mem_of_getElem? (i := 0) rfl))), (fun _ h => absurd h List.not_mem_nil)⟩)⟩)⟩)⟩) (kGV _ _ _ _) (fun _ h => List.mem_cons_of_mem _ (List.mem_append_right _ (List.mem_append_right _ (List.mem_append_right _ (List.mem_append_right _ (List.mem_append_right _ (List.mem_append_right _ (List.mem_append_right _ (List.mem_append_right _ (List.mem_append_right _ (List.mem_append_right _ (List.mem_append_right _ (List.mem_append_right _ (List.mem_append_left _ h)))))))))))))) gw_s_take4_58) rfl rfl rfl ⟨rfl, hd_X4_take⟩ ⟨(Nat.le_of_ble_eq_true rfl), (Nat.le_of_ble_eq_true rfl)⟩) (kW_V kT_blind kT_give (va_recv hKc hPc (ci := 4) (q0 := 0) rfl rfl) hPc hKc hDc) rfl rfl hl.1 rfl (lv_room (Nat.le_of_ble_eq_true rfl)) dX4_readClause_31 ⟨(Nat.le_of_ble_eq_true rfl), (Nat.le_of_ble_eq_true rfl)⟩) hS (fun q _ h => hFc q h) hFc (fun r_16 => kU2 (fun Pn_17 xo_18 t H_19 locs ht hvm hw hB hz1 hk1 hS => ?_))
    try dsimp only at hw
    have hPD : kPD dC dI A [(jR, .inr (4, [.ref jT, .ref r1, .ref r2, .int (nI (wr)), .int (nI (fi)), .int (nI (Pn_17)), .ref q6, .ref q7])), (r1, .inl (c1, 120, .inl s1)), (r2, .inl (c2, 124, .inl s2)), (jT, .inr (8, [.ref t0, .int (nI (kt))])), (t0, .inl (cC, 120, .inl gT))] H_19 := kJoinX hP hD [0, 1, 2, 3, 4] rfl hk1 hFc hB.1 ht hB.2.2 rfl [some 0, some 1, some 2, some 3, some 4] rfl rfl
    have hP := hPD.1
    have hD := hPD.2
    have hw_20 := hw
    refine lv_if_ne (tgt := 39) hx hb dX4_readClause_34 kc_t_34_5 (fun c_21 => ?_) (fun c_21 => ?_)
    · obtain rfl : xo_18 = true := kBo_t (kNz9 hw_20.1 c_21)
      have hw_20_p := hw_20.2.2.2.2 rfl
      have hw_20_k := hw_20.2.2.2.1
      refine lv_aload_n hx hb dX4_readClause_39 rfl (lv_at hl 1 rfl) ?_
      refine va_get (D := (dC, dI)) (ci := 4) (v := .int (nI (wr))) (C := RX4) (T := TX4) (N := 8) hx hb hts (fun _ h => List.mem_cons_of_mem _ (List.mem_append_right _ (List.mem_append_right _ (List.mem_append_right _ (List.mem_append_left _ h))))) hown hK hP 0 rfl rfl 3 kc_l_3_8 (hts (.fieldLink RX4 18 "NotEnded$Reader" "written" "I") (List.mem_cons_of_mem _ (List.mem_append_left _ (List.mem_of_getElem? (i := 51) rfl)))) (fun _ h9 => h9) rfl dX4_readClause_40 ?_
      refine lv_istore_n hx hb dX4_readClause_43 rfl hl kc_l_2_5 (kTo [(2, .int (nI (wr))), (1, .int (nI (j_9))), (0, .ref jR)]) (fun ls hl => ?_)
      refine lv_aload_n hx hb dX4_readClause_44 rfl (lv_at hl 2 rfl) ?_
      have bd_22 : Pn_17 ≤ kt := by omega
      have hCu := kCut (wc := [(jR, .inr (4, [.ref jT, .ref r1, .ref r2, .int (nI (wr)), .int (nI (fi)), .int (nI (Pn_17)), .ref q6, .ref q7])), (r1, .inl (c1, 120, .inl s1)), (r2, .inl (c2, 124, .inl s2)), (jT, .inr (8, [.ref t0, .int (nI (kt))])), (t0, .inl (cC, 120, .inl gT))]) hP hD hS hA [0, 1, 2, 3, 4] rfl kc_nd_311 rfl
      have hPc := hCu.1
      have hDc := hCu.2.1
      have hFc := hCu.2.2
      have hKc := hK.sb (tys2 := [(c1, .int), (c2, .int), (cC, .char)]) [0, 1, 2] rfl
      refine va_calli (va_runV (As := []) (rest := []) ⟨hx, hb, hml, hown, hts⟩ (s_look4x l dC dI jT t0 cC gT kt hkt hgT bt hbt hb8 jR r1 r2 c1 c2 s1 s2 wr fi q6 q7 hwr hfi Pn_17 bd_22 H_19.size) (cwV 0 hts (kG (List.forall_mem_cons.mpr ⟨(List.mem_cons_of_mem _ (List.mem_append_left _ (List.mem_of_getElem? (i := 3) rfl))), (List.forall_mem_cons.mpr ⟨(List.mem_cons_of_mem _ (List.mem_append_left _ (List.mem_of_getElem? (i := 2) rfl))), (List.forall_mem_cons.mpr ⟨(List.mem_cons_of_mem _ (List.mem_append_left _ (List.mem_of_getElem? (i := 1) rfl))), (List.forall_mem_cons.mpr ⟨(List.mem_cons_of_mem _ (List.mem_append_left _ (List.mem_of_getElem? (i := 0) rfl))), (fun _ h => absurd h List.not_mem_nil)⟩)⟩)⟩)⟩) (kGV _ _ _ _) (fun _ h => List.mem_cons_of_mem _ (List.mem_append_right _ (List.mem_append_left _ h))) gw_s_look4x) rfl rfl rfl ⟨rfl, hd_X4_look⟩ ⟨(Nat.le_of_ble_eq_true rfl), (Nat.le_of_ble_eq_true rfl)⟩) (kW_V kT_blind kT_give (va_recv hKc hPc (ci := 4) (q0 := 0) rfl rfl) hPc hKc hDc) rfl rfl hl.1 rfl (lv_room (Nat.le_of_ble_eq_true rfl)) dX4_readClause_45 ⟨(Nat.le_of_ble_eq_true rfl), (Nat.le_of_ble_eq_true rfl)⟩) hS (fun q _ h => hFc q h) hFc (fun r_23 => kU2 (fun Pn_24 ch_25 t H_26 locs ht hvm hw hB hz1 hk1 hS => ?_))
      try dsimp only at hw
      have hPD : kPD dC dI A [(jR, .inr (4, [.ref jT, .ref r1, .ref r2, .int (nI (wr)), .int (nI (fi)), .int (nI (Pn_24)), .ref q6, .ref q7])), (r1, .inl (c1, 120, .inl s1)), (r2, .inl (c2, 124, .inl s2)), (jT, .inr (8, [.ref t0, .int (nI (kt))])), (t0, .inl (cC, 120, .inl gT))] H_26 := kJoinX hP hD [0, 1, 2, 3, 4] rfl hk1 hFc hB.1 ht hB.2.2 rfl [some 0, some 1, some 2, some 3, some 4] rfl rfl
      have hP := hPD.1
      have hD := hPD.2
      obtain ⟨rfl, hw_27_0, hw_27_1, hw_27_2, hw_27_3, hw_27_4, hw_27_5, hw_27_6⟩ := hw
      refine lv_bipush (v := 33) hx hb dX4_readClause_48 kc_b_33 ?_
      refine lv_icmp_eq (tgt := 62) hx hb dX4_readClause_50 kc_t_50_12 (fun c_28 => ?_) (fun c_28 => ?_)
      · have bd_30 : ch_25 < 2147483648 := by omega
        have hn_29 := keq (a := ch_25) (b := 33) bd_30 kc_31_33 c_28
        refine lv_iconst (v := 1) hx hb dX4_readClause_62 kc_i_1 ?_
        refine lv_goto (tgt := 67) hx hb dX4_readClause_63 kc_t_63_4 ?_
        refine lv_istore_n hx hb dX4_readClause_67 rfl hl kc_l_3_5 (kTo [(3, .int 1), (2, .int (nI (wr))), (1, .int (nI (j_9))), (0, .ref jR)]) (fun ls hl => ?_)
        refine lv_iload_n hx hb dX4_readClause_68 rfl (lv_at hl 0 rfl) ?_
        refine lv_if_ne (tgt := 100) hx hb dX4_readClause_69 kc_t_69_31 (fun c_31 => ?_) (fun c_31 => absurd c_31 (by decide))
        refine lv_aload_n hx hb dX4_readClause_100 rfl (lv_at hl 3 rfl) ?_
        refine lv_iconst (v := 0) hx hb dX4_readClause_101 kc_i_0 ?_
        refine lv_iload_n hx hb dX4_readClause_102 rfl (lv_at hl 0 rfl) ?_
        refine lv_if_ne (tgt := 110) hx hb dX4_readClause_103 kc_t_103_7 (fun c_32 => ?_) (fun c_32 => absurd c_32 (by decide))
        refine lv_iconst (v := 0) hx hb dX4_readClause_110 kc_i_0 ?_
        have bd_33 : Pn_24 ≤ kt := by omega
        have bd_34 : wr ≤ Pn_24 := by omega
        have hCu := kCut (wc := [(jR, .inr (4, [.ref jT, .ref r1, .ref r2, .int (nI (wr)), .int (nI (fi)), .int (nI (Pn_24)), .ref q6, .ref q7])), (r1, .inl (c1, 120, .inl s1)), (r2, .inl (c2, 124, .inl s2)), (jT, .inr (8, [.ref t0, .int (nI (kt))])), (t0, .inl (cC, 120, .inl gT))]) hP hD hS hA [0, 1, 2, 3, 4] rfl kc_nd_311 rfl
        have hPc := hCu.1
        have hDc := hCu.2.1
        have hFc := hCu.2.2
        have hKc := hK.sb (tys2 := [(c1, .int), (c2, .int), (cC, .char)]) [0, 1, 2] rfl
        refine va_calli (va_runV (As := [.int 0, .int 0]) (rest := []) ⟨hx, hb, hml, hown, hts⟩ (s_cond4x_0_0 l dC dI jT t0 cC gT kt hkt hgT bt hbt hb8 jR r1 r2 c1 c2 s1 s2 wr fi q6 q7 hwr hfi Pn_24 bd_33 bd_34 b6 n6 g6 hn6 b7 n7 g7 hn7 gn6 hz6 gn7 hz7 H_26.size) (cwV 2 hts (kG (List.forall_mem_cons.mpr ⟨(List.mem_cons_of_mem _ (List.mem_append_left _ (List.mem_of_getElem? (i := 49) rfl))), (List.forall_mem_cons.mpr ⟨(List.mem_cons_of_mem _ (List.mem_append_left _ (List.mem_of_getElem? (i := 48) rfl))), (List.forall_mem_cons.mpr ⟨(List.mem_cons_of_mem _ (List.mem_append_left _ (List.mem_of_getElem? (i := 47) rfl))), (List.forall_mem_cons.mpr ⟨(List.mem_cons_of_mem _ (List.mem_append_left _ (List.mem_of_getElem? (i := 0) rfl))), (fun _ h => absurd h List.not_mem_nil)⟩)⟩)⟩)⟩) (kGV _ _ _ _) (kFam (List.mem_cons_of_mem _ (List.mem_append_left _ (List.mem_of_getElem? (i := 46) rfl)))) gw_s_cond4x_0_0) rfl rfl rfl ⟨rfl, hd_X4_readCondition⟩ ⟨(Nat.le_of_ble_eq_true rfl), (Nat.le_of_ble_eq_true rfl)⟩) (kW_V kS2_blind (kS2_give hX hS hFc) (va_recv hKc hPc (ci := 4) (q0 := 0) rfl rfl) hPc hKc hDc) rfl rfl hl.1 rfl (lv_room (Nat.le_of_ble_eq_true rfl)) dX4_readClause_111 ⟨(Nat.le_of_ble_eq_true rfl), (Nat.le_of_ble_eq_true rfl)⟩) hS (fun q _ h => hFc q h) hFc (fun r_35 => kU5 (fun S1_36 Wr_37 Pn_38 xo_39 xl_40 t H_41 locs ht hvm hw hB hz1 hk1 hS => ?_))
        try dsimp only at hw
        have hPD : kPD dC dI A [(jR, .inr (4, [.ref jT, .ref r1, .ref r2, .int (nI (Wr_37)), .int (nI (fi)), .int (nI (Pn_38)), .ref q6, .ref q7])), (r1, .inl (c1, 120, .inl S1_36)), (r2, .inl (c2, 124, .inl s2)), (jT, .inr (8, [.ref t0, .int (nI (kt))])), (t0, .inl (cC, 120, .inl gT))] H_41 := kJoinX hP hD [0, 1, 2, 3, 4] rfl hk1 hFc hB.1 ht hB.2.2 rfl [some 0, some 1, some 2, some 3, some 4] rfl rfl
        have hP := hPD.1
        have hD := hPD.2
        have hw_42 := hw
        refine lv_if_ne (tgt := 119) hx hb dX4_readClause_114 kc_t_114_5 (fun c_43 => ?_) (fun c_43 => ?_)
        · obtain rfl : xo_39 = true := kBo_t (kNz9 hw_42.1 c_43)
          obtain ⟨hw_42_W, hw_42_S, hw_42_l, hw_42_p⟩ := hw_42.2.1.2.2 rfl
          have hw_42_k := hw_42.2.1.2.1
          refine lv_aload_n hx hb dX4_readClause_119 rfl (lv_at hl 3 rfl) ?_
          refine va_get (D := (dC, dI)) (ci := 4) (v := .int (nI (Wr_37))) (C := RX4) (T := TX4) (N := 8) hx hb hts (fun _ h => List.mem_cons_of_mem _ (List.mem_append_right _ (List.mem_append_right _ (List.mem_append_right _ (List.mem_append_left _ h))))) hown hK hP 0 rfl rfl 3 kc_l_3_8 (hts (.fieldLink RX4 18 "NotEnded$Reader" "written" "I") (List.mem_cons_of_mem _ (List.mem_append_left _ (List.mem_of_getElem? (i := 51) rfl)))) (fun _ h9 => h9) rfl dX4_readClause_120 ?_
          refine lv_istore hx hb dX4_readClause_123 hl kc_l_4_5 (kTo [(4, .int (nI (Wr_37))), (3, .int 1), (2, .int (nI (wr))), (1, .int (nI (j_9))), (0, .ref jR)]) (fun ls hl => ?_)
          refine lv_aload_n hx hb dX4_readClause_125 rfl (lv_at hl 4 rfl) ?_
          refine lv_bipush (v := 63) hx hb dX4_readClause_126 kc_b_63 ?_
          have bd_44 : Wr_37 ≤ 120 := by omega
          have bd_45 : Pn_38 ≤ kt := by omega
          have hCu := kCut (wc := [(jR, .inr (4, [.ref jT, .ref r1, .ref r2, .int (nI (Wr_37)), .int (nI (fi)), .int (nI (Pn_38)), .ref q6, .ref q7])), (r1, .inl (c1, 120, .inl S1_36)), (r2, .inl (c2, 124, .inl s2)), (jT, .inr (8, [.ref t0, .int (nI (kt))])), (t0, .inl (cC, 120, .inl gT))]) hP hD hS hA [0, 1, 2, 3, 4] rfl kc_nd_311 rfl
          have hPc := hCu.1
          have hDc := hCu.2.1
          have hFc := hCu.2.2
          have hKc := hK.sb (tys2 := [(c1, .int), (c2, .int), (cC, .char)]) [0, 1, 2] rfl
          refine va_calli (va_runV (As := [.int 63]) (rest := []) ⟨hx, hb, hml, hown, hts⟩ (s_take4_63 l dC dI jT t0 cC gT kt hkt hgT bt hbt hb8 jR r1 r2 c1 c2 S1_36 s2 Wr_37 fi q6 q7 bd_44 hfi Pn_38 bd_45 H_41.size) (cwV 1 hts (kG (List.forall_mem_cons.mpr ⟨(List.mem_cons_of_mem _ (List.mem_append_left _ (List.mem_of_getElem? (i := 45) rfl))), (List.forall_mem_cons.mpr ⟨(List.mem_cons_of_mem _ (List.mem_append_left _ (List.mem_of_getElem? (i := 44) rfl))), (List.forall_mem_cons.mpr ⟨(List.mem_cons_of_mem _ (List.mem_append_left _ (List.mem_of_getElem? (i := 43) rfl))), (List.forall_mem_cons.mpr ⟨(List.mem_cons_of_mem _ (List.mem_append_left _ (List.mem_of_getElem? (i := 0) rfl))), (fun _ h => absurd h List.not_mem_nil)⟩)⟩)⟩)⟩) (kGV _ _ _ _) (fun _ h => List.mem_cons_of_mem _ (List.mem_append_right _ (List.mem_append_right _ (List.mem_append_right _ (List.mem_append_right _ (List.mem_append_right _ (List.mem_append_right _ (List.mem_append_right _ (List.mem_append_right _ (List.mem_append_right _ (List.mem_append_right _ (List.mem_append_right _ (List.mem_append_right _ (List.mem_append_right _ (List.mem_append_left _ h))))))))))))))) gw_s_take4_63) rfl rfl rfl ⟨rfl, hd_X4_take⟩ ⟨(Nat.le_of_ble_eq_true rfl), (Nat.le_of_ble_eq_true rfl)⟩) (kW_V kT_blind kT_give (va_recv hKc hPc (ci := 4) (q0 := 0) rfl rfl) hPc hKc hDc) rfl rfl hl.1 rfl (lv_room (Nat.le_of_ble_eq_true rfl)) dX4_readClause_128 ⟨(Nat.le_of_ble_eq_true rfl), (Nat.le_of_ble_eq_true rfl)⟩) hS (fun q _ h => hFc q h) hFc (fun r_46 => kU2 (fun Pn_47 xo_48 t H_49 locs ht hvm hw hB hz1 hk1 hS => ?_))
          try dsimp only at hw
          have hPD : kPD dC dI A [(jR, .inr (4, [.ref jT, .ref r1, .ref r2, .int (nI (Wr_37)), .int (nI (fi)), .int (nI (Pn_47)), .ref q6, .ref q7])), (r1, .inl (c1, 120, .inl S1_36)), (r2, .inl (c2, 124, .inl s2)), (jT, .inr (8, [.ref t0, .int (nI (kt))])), (t0, .inl (cC, 120, .inl gT))] H_49 := kJoinX hP hD [0, 1, 2, 3, 4] rfl hk1 hFc hB.1 ht hB.2.2 rfl [some 0, some 1, some 2, some 3, some 4] rfl rfl
          have hP := hPD.1
          have hD := hPD.2
          have hw_50 := hw
          refine lv_if_eq (tgt := 157) hx hb dX4_readClause_131 kc_t_131_26 (fun c_51 => ?_) (fun c_51 => ?_)
          · obtain rfl : xo_48 = false := kBo_f (kZr9 hw_50.1 c_51)
            have hw_50_k := hw_50.2.2.2.1
            refine lv_iconst (v := 0) hx hb dX4_readClause_157 kc_i_0 ?_
            have hP9 := hP
            have hD9 := hD
            have hK9 := hK
            rw [hQ]
            exact W.zret (v := 0) hx hb hr rfl (fun t ht hW => ⟨⟨0, (S1_36, s2, Wr_37, fi, Pn_47, false, ([]), 0, 0), rfl, ⟨rfl, (by unfold kCla; rw [← hw_5_0, ← hw_5_1]; rw [hj_10, if_pos (by omega), hw_20.2.1, kThC_t]; unfold kCla1; rw [← hw_27_0, ← hw_27_1, if_pos (by omega), hw_42.2.1.1, kThC_t]; unfold kCla2; rw [hw_50.2.1]; rfl), by omega, by omega, by omega, fun z => absurd z (by decide)⟩,  by rw [ht]; exact hP9, va_K.moved hW.alike hK9, hD9⟩, hS.F ht⟩) hS.2.2 dX4_readClause_158
          · obtain rfl : xo_48 = true := kBo_t (kNz9 hw_50.1 c_51)
            have hw_50_p := hw_50.2.2.2.2 rfl
            have hw_50_k := hw_50.2.2.2.1
            refine lv_aload_n hx hb dX4_readClause_134 rfl (lv_at hl 4 rfl) ?_
            refine lv_iconst (v := 0) hx hb dX4_readClause_135 kc_i_0 ?_
            have bd_52 : Pn_47 ≤ kt := by omega
            have bd_53 : Wr_37 ≤ Pn_47 := by omega
            have hCu := kCut (wc := [(jR, .inr (4, [.ref jT, .ref r1, .ref r2, .int (nI (Wr_37)), .int (nI (fi)), .int (nI (Pn_47)), .ref q6, .ref q7])), (r1, .inl (c1, 120, .inl S1_36)), (r2, .inl (c2, 124, .inl s2)), (jT, .inr (8, [.ref t0, .int (nI (kt))])), (t0, .inl (cC, 120, .inl gT))]) hP hD hS hA [0, 1, 2, 3, 4] rfl kc_nd_311 rfl
            have hPc := hCu.1
            have hDc := hCu.2.1
            have hFc := hCu.2.2
            have hKc := hK.sb (tys2 := [(c1, .int), (c2, .int), (cC, .char)]) [0, 1, 2] rfl
            refine va_calli (va_runV (As := [.int 0]) (rest := []) ⟨hx, hb, hml, hown, hts⟩ (s_sum4x_0 l dC dI jT t0 cC gT kt hkt hgT bt hbt hb8 jR r1 r2 c1 c2 S1_36 s2 Wr_37 fi q6 q7 bd_44 hfi Pn_47 bd_52 bd_53 b6 n6 g6 hn6 b7 n7 g7 hn7 gn6 hz6 gn7 hz7 H_49.size) (cwV 1 hts (kG (List.forall_mem_cons.mpr ⟨(List.mem_cons_of_mem _ (List.mem_append_left _ (List.mem_of_getElem? (i := 32) rfl))), (List.forall_mem_cons.mpr ⟨(List.mem_cons_of_mem _ (List.mem_append_left _ (List.mem_of_getElem? (i := 31) rfl))), (List.forall_mem_cons.mpr ⟨(List.mem_cons_of_mem _ (List.mem_append_left _ (List.mem_of_getElem? (i := 30) rfl))), (List.forall_mem_cons.mpr ⟨(List.mem_cons_of_mem _ (List.mem_append_left _ (List.mem_of_getElem? (i := 0) rfl))), (fun _ h => absurd h List.not_mem_nil)⟩)⟩)⟩)⟩) (kGV _ _ _ _) (kFam (List.mem_cons_of_mem _ (List.mem_append_left _ (List.mem_of_getElem? (i := 29) rfl)))) gw_s_sum4x_0) rfl rfl rfl ⟨rfl, hd_X4_readSum⟩ ⟨(Nat.le_of_ble_eq_true rfl), (Nat.le_of_ble_eq_true rfl)⟩) (kW_V kS2_blind (kS2_give hX hS hFc) (va_recv hKc hPc (ci := 4) (q0 := 0) rfl rfl) hPc hKc hDc) rfl rfl hl.1 rfl (lv_room (Nat.le_of_ble_eq_true rfl)) dX4_readClause_136 ⟨(Nat.le_of_ble_eq_true rfl), (Nat.le_of_ble_eq_true rfl)⟩) hS (fun q _ h => hFc q h) hFc (fun r_54 => kU5 (fun S1_55 Wr_56 Pn_57 xo_58 xl_59 t H_60 locs ht hvm hw hB hz1 hk1 hS => ?_))
            try dsimp only at hw
            have hPD : kPD dC dI A [(jR, .inr (4, [.ref jT, .ref r1, .ref r2, .int (nI (Wr_56)), .int (nI (fi)), .int (nI (Pn_57)), .ref q6, .ref q7])), (r1, .inl (c1, 120, .inl S1_55)), (r2, .inl (c2, 124, .inl s2)), (jT, .inr (8, [.ref t0, .int (nI (kt))])), (t0, .inl (cC, 120, .inl gT))] H_60 := kJoinX hP hD [0, 1, 2, 3, 4] rfl hk1 hFc hB.1 ht hB.2.2 rfl [some 0, some 1, some 2, some 3, some 4] rfl rfl
            have hP := hPD.1
            have hD := hPD.2
            have hw_61 := hw
            refine lv_if_eq (tgt := 157) hx hb dX4_readClause_139 kc_t_139_18 (fun c_62 => ?_) (fun c_62 => ?_)
            · obtain rfl : xo_58 = false := kBo_f (kZr9 hw_61.1 c_62)
              have hw_61_k := hw_61.2.1.2.1
              refine lv_iconst (v := 0) hx hb dX4_readClause_157 kc_i_0 ?_
              have hP9 := hP
              have hD9 := hD
              have hK9 := hK
              rw [hQ]
              exact W.zret (v := 0) hx hb hr rfl (fun t ht hW => ⟨⟨0, (S1_55, s2, Wr_56, fi, Pn_57, false, ([]), 0, 0), rfl, ⟨rfl, (by unfold kCla; rw [← hw_5_0, ← hw_5_1]; rw [hj_10, if_pos (by omega), hw_20.2.1, kThC_t]; unfold kCla1; rw [← hw_27_0, ← hw_27_1, if_pos (by omega), hw_42.2.1.1, kThC_t]; unfold kCla2; rw [hw_50.2.1, kThC_t, hw_61.2.1.1]; rfl), by omega, by omega, by omega, fun z => absurd z (by decide)⟩,  by rw [ht]; exact hP9, va_K.moved hW.alike hK9, hD9⟩, hS.F ht⟩) hS.2.2 dX4_readClause_158
            · obtain rfl : xo_58 = true := kBo_t (kNz9 hw_61.1 c_62)
              obtain ⟨hw_61_W, hw_61_S, hw_61_l, hw_61_p⟩ := hw_61.2.1.2.2 rfl
              have hw_61_k := hw_61.2.1.2.1
              refine lv_aload_n hx hb dX4_readClause_142 rfl (lv_at hl 4 rfl) ?_
              refine lv_iload_n hx hb dX4_readClause_143 rfl (lv_at hl 3 rfl) ?_
              refine lv_iload_n hx hb dX4_readClause_144 rfl (lv_at hl 2 rfl) ?_
              refine lv_iload hx hb dX4_readClause_145 (lv_at hl 0 rfl) ?_
              have bd_63 : Wr_56 ≤ 120 := by omega
              have bd_64 : Pn_57 ≤ kt := by omega
              have hCu := kCut (wc := [(jR, .inr (4, [.ref jT, .ref r1, .ref r2, .int (nI (Wr_56)), .int (nI (fi)), .int (nI (Pn_57)), .ref q6, .ref q7])), (r1, .inl (c1, 120, .inl S1_55)), (r2, .inl (c2, 124, .inl s2)), (jT, .inr (8, [.ref t0, .int (nI (kt))])), (t0, .inl (cC, 120, .inl gT))]) hP hD hS hA [0, 1, 2, 3, 4] rfl kc_nd_311 rfl
              have hPc := hCu.1
              have hDc := hCu.2.1
              have hFc := hCu.2.2
              have hKc := hK.sb (tys2 := [(c1, .int), (c2, .int), (cC, .char)]) [0, 1, 2] rfl
              refine va_calli (va_runV (As := [.int (nI (j_9)), .int (nI (wr)), .int (nI (Wr_37))]) (rest := []) ⟨hx, hb, hml, hown, hts⟩ (s_keep4x l dC dI jT t0 cC gT kt hkt hgT bt hbt hb8 jR r1 r2 c1 c2 S1_55 s2 Wr_56 fi q6 q7 bd_63 hfi Pn_57 bd_64 j_9 wr Wr_37 hf9 H_60.size) (cwV 3 hts (kG (List.forall_mem_cons.mpr ⟨(List.mem_cons_of_mem _ (List.mem_append_left _ (List.mem_of_getElem? (i := 54) rfl))), (List.forall_mem_cons.mpr ⟨(List.mem_cons_of_mem _ (List.mem_append_left _ (List.mem_of_getElem? (i := 53) rfl))), (List.forall_mem_cons.mpr ⟨(List.mem_cons_of_mem _ (List.mem_append_left _ (List.mem_of_getElem? (i := 52) rfl))), (List.forall_mem_cons.mpr ⟨(List.mem_cons_of_mem _ (List.mem_append_left _ (List.mem_of_getElem? (i := 0) rfl))), (fun _ h => absurd h List.not_mem_nil)⟩)⟩)⟩)⟩) (kGV _ _ _ _) (fun _ h => List.mem_cons_of_mem _ (List.mem_append_right _ (List.mem_append_right _ (List.mem_append_right _ (List.mem_append_right _ (List.mem_append_right _ (List.mem_append_right _ (List.mem_append_right _ (List.mem_append_right _ (List.mem_append_right _ (List.mem_append_right _ (List.mem_append_right _ (List.mem_append_right _ (List.mem_append_right _ (List.mem_append_right _ h))))))))))))))) gw_s_keep4x) rfl rfl rfl ⟨rfl, hd_X4_keepClause⟩ ⟨(Nat.le_of_ble_eq_true rfl), (Nat.le_of_ble_eq_true rfl)⟩) (kW_V kT_blind kT_give (va_recv hKc hPc (ci := 4) (q0 := 0) rfl rfl) hPc hKc hDc) rfl rfl hl.1 rfl (lv_room (Nat.le_of_ble_eq_true rfl)) dX4_readClause_147 ⟨(Nat.le_of_ble_eq_true rfl), (Nat.le_of_ble_eq_true rfl)⟩) hS (fun q _ h => hFc q h) hFc (fun r_65 => kU2 (fun S2_66 Fi_67 t H_68 locs ht hvm hw hB hz1 hk1 hS => ?_))
              try dsimp only at hw
              have hPD : kPD dC dI A [(jR, .inr (4, [.ref jT, .ref r1, .ref r2, .int (nI (Wr_56)), .int (nI (Fi_67)), .int (nI (Pn_57)), .ref q6, .ref q7])), (r1, .inl (c1, 120, .inl S1_55)), (r2, .inl (c2, 124, .inl S2_66)), (jT, .inr (8, [.ref t0, .int (nI (kt))])), (t0, .inl (cC, 120, .inl gT))] H_68 := kJoinX hP hD [0, 1, 2, 3, 4] rfl hk1 hFc hB.1 ht hB.2.2 rfl [some 0, some 1, some 2, some 3, some 4] rfl rfl
              have hP := hPD.1
              have hD := hPD.2
              obtain ⟨rfl, hw_69⟩ := hw
              refine lv_if_eq (tgt := 157) hx hb dX4_readClause_150 kc_t_150_7 (fun c_70 => absurd c_70 (by decide)) (fun c_70 => ?_)
              refine lv_iconst (v := 1) hx hb dX4_readClause_153 kc_i_1 ?_
              refine lv_goto (tgt := 158) hx hb dX4_readClause_154 kc_t_154_4 ?_
              have hP9 := hP
              have hD9 := hD
              have hK9 := hK
              rw [hQ]
              exact W.zret (v := 1) hx hb hr rfl (fun t ht hW => ⟨⟨1, (S1_55, S2_66, Wr_56, Fi_67, Pn_57, true, (xl_40 ++ xl_59), j_9, ((xl_40).length)), rfl, ⟨rfl, (by unfold kCla; rw [← hw_5_0, ← hw_5_1]; rw [hj_10, if_pos (by omega), hw_20.2.1, kThC_t]; unfold kCla1; rw [← hw_27_0, ← hw_27_1, if_pos (by omega), hw_42.2.1.1, kThC_t]; unfold kCla2; rw [hw_50.2.1, kThC_t, hw_61.2.1.1, kThC_t]), by omega, by omega, by omega, fun _ => ⟨(by first | omega | (simp only [List.length_append]; omega)), (kWrtC hw_42_S hw_42_W hw_61_S), hw_69.1, kKeep hw_69.2 (by first | omega | (simp only [List.length_append]; omega)) (by first | omega | (simp only [List.length_append]; omega)), (by first | omega | (simp only [List.length_append]; omega)), by omega⟩⟩,  by rw [ht]; exact hP9, va_K.moved hW.alike hK9, hD9⟩, hS.F ht⟩) hS.2.2 dX4_readClause_158
        · obtain rfl : xo_39 = false := kBo_f (kZr9 hw_42.1 c_43)
          have hw_42_k := hw_42.2.1.2.1
          refine lv_iconst (v := 0) hx hb dX4_readClause_117 kc_i_0 ?_
          have hP9 := hP
          have hD9 := hD
          have hK9 := hK
          rw [hQ]
          exact W.zret (v := 0) hx hb hr rfl (fun t ht hW => ⟨⟨0, (S1_36, s2, Wr_37, fi, Pn_38, false, ([]), 0, 0), rfl, ⟨rfl, (by unfold kCla; rw [← hw_5_0, ← hw_5_1]; rw [hj_10, if_pos (by omega), hw_20.2.1, kThC_t]; unfold kCla1; rw [← hw_27_0, ← hw_27_1, if_pos (by omega), hw_42.2.1.1]; rfl), by omega, by omega, by omega, fun z => absurd z (by decide)⟩,  by rw [ht]; exact hP9, va_K.moved hW.alike hK9, hD9⟩, hS.F ht⟩) hS.2.2 dX4_readClause_118
      · have bd_72 : ch_25 < 2147483648 := by omega
        have hn_71 := kneq (a := ch_25) (b := 33) bd_72 kc_31_33 c_28
        refine lv_aload_n hx hb dX4_readClause_53 rfl (lv_at hl 2 rfl) ?_
        have bd_73 : Pn_24 ≤ kt := by omega
        have hCu := kCut (wc := [(jR, .inr (4, [.ref jT, .ref r1, .ref r2, .int (nI (wr)), .int (nI (fi)), .int (nI (Pn_24)), .ref q6, .ref q7])), (r1, .inl (c1, 120, .inl s1)), (r2, .inl (c2, 124, .inl s2)), (jT, .inr (8, [.ref t0, .int (nI (kt))])), (t0, .inl (cC, 120, .inl gT))]) hP hD hS hA [0, 1, 2, 3, 4] rfl kc_nd_311 rfl
        have hPc := hCu.1
        have hDc := hCu.2.1
        have hFc := hCu.2.2
        have hKc := hK.sb (tys2 := [(c1, .int), (c2, .int), (cC, .char)]) [0, 1, 2] rfl
        refine va_calli (va_runV (As := []) (rest := []) ⟨hx, hb, hml, hown, hts⟩ (s_look4x l dC dI jT t0 cC gT kt hkt hgT bt hbt hb8 jR r1 r2 c1 c2 s1 s2 wr fi q6 q7 hwr hfi Pn_24 bd_73 H_26.size) (cwV 0 hts (kG (List.forall_mem_cons.mpr ⟨(List.mem_cons_of_mem _ (List.mem_append_left _ (List.mem_of_getElem? (i := 3) rfl))), (List.forall_mem_cons.mpr ⟨(List.mem_cons_of_mem _ (List.mem_append_left _ (List.mem_of_getElem? (i := 2) rfl))), (List.forall_mem_cons.mpr ⟨(List.mem_cons_of_mem _ (List.mem_append_left _ (List.mem_of_getElem? (i := 1) rfl))), (List.forall_mem_cons.mpr ⟨(List.mem_cons_of_mem _ (List.mem_append_left _ (List.mem_of_getElem? (i := 0) rfl))), (fun _ h => absurd h List.not_mem_nil)⟩)⟩)⟩)⟩) (kGV _ _ _ _) (fun _ h => List.mem_cons_of_mem _ (List.mem_append_right _ (List.mem_append_left _ h))) gw_s_look4x) rfl rfl rfl ⟨rfl, hd_X4_look⟩ ⟨(Nat.le_of_ble_eq_true rfl), (Nat.le_of_ble_eq_true rfl)⟩) (kW_V kT_blind kT_give (va_recv hKc hPc (ci := 4) (q0 := 0) rfl rfl) hPc hKc hDc) rfl rfl hl.1 rfl (lv_room (Nat.le_of_ble_eq_true rfl)) dX4_readClause_54 ⟨(Nat.le_of_ble_eq_true rfl), (Nat.le_of_ble_eq_true rfl)⟩) hS (fun q _ h => hFc q h) hFc (fun r_74 => kU2 (fun Pn_75 ch_76 t H_77 locs ht hvm hw hB hz1 hk1 hS => ?_))
        try dsimp only at hw
        have hPD : kPD dC dI A [(jR, .inr (4, [.ref jT, .ref r1, .ref r2, .int (nI (wr)), .int (nI (fi)), .int (nI (Pn_75)), .ref q6, .ref q7])), (r1, .inl (c1, 120, .inl s1)), (r2, .inl (c2, 124, .inl s2)), (jT, .inr (8, [.ref t0, .int (nI (kt))])), (t0, .inl (cC, 120, .inl gT))] H_77 := kJoinX hP hD [0, 1, 2, 3, 4] rfl hk1 hFc hB.1 ht hB.2.2 rfl [some 0, some 1, some 2, some 3, some 4] rfl rfl
        have hP := hPD.1
        have hD := hPD.2
        obtain ⟨rfl, hw_78_0, hw_78_1, hw_78_2, hw_78_3, hw_78_4, hw_78_5, hw_78_6⟩ := hw
        have e9 : Pn_24 = Pn_75 := by rw [hw_78_1, hw_27_1]; exact (kSp_sp (by omega)).symm
        have e8 : ch_25 = ch_76 := by rw [hw_78_0, hw_27_0, hw_27_1]; exact (kLk_sp (by omega)).symm
        subst e9
        subst e8
        refine lv_bipush (v := 40) hx hb dX4_readClause_57 kc_b_40 ?_
        refine lv_icmp_ne (tgt := 66) hx hb dX4_readClause_59 kc_t_59_7 (fun c_79 => ?_) (fun c_79 => ?_)
        · have hn_80 := kneq (a := ch_25) (b := 40) bd_72 kc_31_40 c_79
          refine lv_iconst (v := 0) hx hb dX4_readClause_66 kc_i_0 ?_
          refine lv_istore_n hx hb dX4_readClause_67 rfl hl kc_l_3_5 (kTo [(3, .int 0), (2, .int (nI (wr))), (1, .int (nI (j_9))), (0, .ref jR)]) (fun ls hl => ?_)
          refine lv_iload_n hx hb dX4_readClause_68 rfl (lv_at hl 0 rfl) ?_
          refine lv_if_ne (tgt := 100) hx hb dX4_readClause_69 kc_t_69_31 (fun c_81 => absurd (by decide) c_81) (fun c_81 => ?_)
          refine lv_aload_n hx hb dX4_readClause_72 rfl (lv_at hl 3 rfl) ?_
          refine lv_iconst (v := 0) hx hb dX4_readClause_73 kc_i_0 ?_
          have bd_82 : wr ≤ Pn_24 := by omega
          have hCu := kCut (wc := [(jR, .inr (4, [.ref jT, .ref r1, .ref r2, .int (nI (wr)), .int (nI (fi)), .int (nI (Pn_24)), .ref q6, .ref q7])), (r1, .inl (c1, 120, .inl s1)), (r2, .inl (c2, 124, .inl s2)), (jT, .inr (8, [.ref t0, .int (nI (kt))])), (t0, .inl (cC, 120, .inl gT))]) hP hD hS hA [0, 1, 2, 3, 4] rfl kc_nd_311 rfl
          have hPc := hCu.1
          have hDc := hCu.2.1
          have hFc := hCu.2.2
          have hKc := hK.sb (tys2 := [(c1, .int), (c2, .int), (cC, .char)]) [0, 1, 2] rfl
          refine va_calli (va_runV (As := [.int 0]) (rest := []) ⟨hx, hb, hml, hown, hts⟩ (s_sum4x_0 l dC dI jT t0 cC gT kt hkt hgT bt hbt hb8 jR r1 r2 c1 c2 s1 s2 wr fi q6 q7 hwr hfi Pn_24 bd_73 bd_82 b6 n6 g6 hn6 b7 n7 g7 hn7 gn6 hz6 gn7 hz7 H_77.size) (cwV 1 hts (kG (List.forall_mem_cons.mpr ⟨(List.mem_cons_of_mem _ (List.mem_append_left _ (List.mem_of_getElem? (i := 32) rfl))), (List.forall_mem_cons.mpr ⟨(List.mem_cons_of_mem _ (List.mem_append_left _ (List.mem_of_getElem? (i := 31) rfl))), (List.forall_mem_cons.mpr ⟨(List.mem_cons_of_mem _ (List.mem_append_left _ (List.mem_of_getElem? (i := 30) rfl))), (List.forall_mem_cons.mpr ⟨(List.mem_cons_of_mem _ (List.mem_append_left _ (List.mem_of_getElem? (i := 0) rfl))), (fun _ h => absurd h List.not_mem_nil)⟩)⟩)⟩)⟩) (kGV _ _ _ _) (kFam (List.mem_cons_of_mem _ (List.mem_append_left _ (List.mem_of_getElem? (i := 29) rfl)))) gw_s_sum4x_0) rfl rfl rfl ⟨rfl, hd_X4_readSum⟩ ⟨(Nat.le_of_ble_eq_true rfl), (Nat.le_of_ble_eq_true rfl)⟩) (kW_V kS2_blind (kS2_give hX hS hFc) (va_recv hKc hPc (ci := 4) (q0 := 0) rfl rfl) hPc hKc hDc) rfl rfl hl.1 rfl (lv_room (Nat.le_of_ble_eq_true rfl)) dX4_readClause_74 ⟨(Nat.le_of_ble_eq_true rfl), (Nat.le_of_ble_eq_true rfl)⟩) hS (fun q _ h => hFc q h) hFc (fun r_83 => kU5 (fun S1_84 Wr_85 Pn_86 xo_87 xl_88 t H_89 locs ht hvm hw hB hz1 hk1 hS => ?_))
          try dsimp only at hw
          have hPD : kPD dC dI A [(jR, .inr (4, [.ref jT, .ref r1, .ref r2, .int (nI (Wr_85)), .int (nI (fi)), .int (nI (Pn_86)), .ref q6, .ref q7])), (r1, .inl (c1, 120, .inl S1_84)), (r2, .inl (c2, 124, .inl s2)), (jT, .inr (8, [.ref t0, .int (nI (kt))])), (t0, .inl (cC, 120, .inl gT))] H_89 := kJoinX hP hD [0, 1, 2, 3, 4] rfl hk1 hFc hB.1 ht hB.2.2 rfl [some 0, some 1, some 2, some 3, some 4] rfl rfl
          have hP := hPD.1
          have hD := hPD.2
          have hw_90 := hw
          refine lv_if_ne (tgt := 82) hx hb dX4_readClause_77 kc_t_77_5 (fun c_91 => ?_) (fun c_91 => ?_)
          · obtain rfl : xo_87 = true := kBo_t (kNz9 hw_90.1 c_91)
            obtain ⟨hw_90_W, hw_90_S, hw_90_l, hw_90_p⟩ := hw_90.2.1.2.2 rfl
            have hw_90_k := hw_90.2.1.2.1
            refine lv_aload_n hx hb dX4_readClause_82 rfl (lv_at hl 3 rfl) ?_
            have bd_92 : Wr_85 ≤ 120 := by omega
            have bd_93 : Pn_86 ≤ kt := by omega
            have hCu := kCut (wc := [(jR, .inr (4, [.ref jT, .ref r1, .ref r2, .int (nI (Wr_85)), .int (nI (fi)), .int (nI (Pn_86)), .ref q6, .ref q7])), (r1, .inl (c1, 120, .inl S1_84)), (r2, .inl (c2, 124, .inl s2)), (jT, .inr (8, [.ref t0, .int (nI (kt))])), (t0, .inl (cC, 120, .inl gT))]) hP hD hS hA [0, 1, 2, 3, 4] rfl kc_nd_311 rfl
            have hPc := hCu.1
            have hDc := hCu.2.1
            have hFc := hCu.2.2
            have hKc := hK.sb (tys2 := [(c1, .int), (c2, .int), (cC, .char)]) [0, 1, 2] rfl
            refine va_calli (va_runV (As := []) (rest := []) ⟨hx, hb, hml, hown, hts⟩ (s_look4x l dC dI jT t0 cC gT kt hkt hgT bt hbt hb8 jR r1 r2 c1 c2 S1_84 s2 Wr_85 fi q6 q7 bd_92 hfi Pn_86 bd_93 H_89.size) (cwV 0 hts (kG (List.forall_mem_cons.mpr ⟨(List.mem_cons_of_mem _ (List.mem_append_left _ (List.mem_of_getElem? (i := 3) rfl))), (List.forall_mem_cons.mpr ⟨(List.mem_cons_of_mem _ (List.mem_append_left _ (List.mem_of_getElem? (i := 2) rfl))), (List.forall_mem_cons.mpr ⟨(List.mem_cons_of_mem _ (List.mem_append_left _ (List.mem_of_getElem? (i := 1) rfl))), (List.forall_mem_cons.mpr ⟨(List.mem_cons_of_mem _ (List.mem_append_left _ (List.mem_of_getElem? (i := 0) rfl))), (fun _ h => absurd h List.not_mem_nil)⟩)⟩)⟩)⟩) (kGV _ _ _ _) (fun _ h => List.mem_cons_of_mem _ (List.mem_append_right _ (List.mem_append_left _ h))) gw_s_look4x) rfl rfl rfl ⟨rfl, hd_X4_look⟩ ⟨(Nat.le_of_ble_eq_true rfl), (Nat.le_of_ble_eq_true rfl)⟩) (kW_V kT_blind kT_give (va_recv hKc hPc (ci := 4) (q0 := 0) rfl rfl) hPc hKc hDc) rfl rfl hl.1 rfl (lv_room (Nat.le_of_ble_eq_true rfl)) dX4_readClause_83 ⟨(Nat.le_of_ble_eq_true rfl), (Nat.le_of_ble_eq_true rfl)⟩) hS (fun q _ h => hFc q h) hFc (fun r_94 => kU2 (fun Pn_95 ch_96 t H_97 locs ht hvm hw hB hz1 hk1 hS => ?_))
            try dsimp only at hw
            have hPD : kPD dC dI A [(jR, .inr (4, [.ref jT, .ref r1, .ref r2, .int (nI (Wr_85)), .int (nI (fi)), .int (nI (Pn_95)), .ref q6, .ref q7])), (r1, .inl (c1, 120, .inl S1_84)), (r2, .inl (c2, 124, .inl s2)), (jT, .inr (8, [.ref t0, .int (nI (kt))])), (t0, .inl (cC, 120, .inl gT))] H_97 := kJoinX hP hD [0, 1, 2, 3, 4] rfl hk1 hFc hB.1 ht hB.2.2 rfl [some 0, some 1, some 2, some 3, some 4] rfl rfl
            have hP := hPD.1
            have hD := hPD.2
            obtain ⟨rfl, hw_98_0, hw_98_1, hw_98_2, hw_98_3, hw_98_4, hw_98_5, hw_98_6⟩ := hw
            have bd_99 : ch_96 < 256 := by omega
            have hPc := hP.sb (ws2 := []) [] rfl
            have hKc := hK.sb (tys2 := []) [] rfl
            refine vp_callSi (va_runS (As := [.int (nI (ch_96))]) (rest := []) ⟨hx, hb, hml, hown, hts⟩ (s_comp4x l dC dI ch_96 bd_99) (va_cwS 1 hts (kG (List.forall_mem_cons.mpr ⟨(List.mem_cons_of_mem _ (List.mem_append_left _ (List.mem_of_getElem? (i := 34) rfl))), (List.forall_mem_cons.mpr ⟨(List.mem_cons_of_mem _ (List.mem_append_left _ (List.mem_of_getElem? (i := 33) rfl))), (List.forall_mem_cons.mpr ⟨(List.mem_cons_of_mem _ (List.mem_append_left _ (List.mem_of_getElem? (i := 0) rfl))), (fun _ h => absurd h List.not_mem_nil)⟩)⟩)⟩) (kGS _ _ _) (fun _ h => List.mem_cons_of_mem _ (List.mem_append_right _ (List.mem_append_right _ (List.mem_append_right _ (List.mem_append_right _ (List.mem_append_right _ (List.mem_append_right _ (List.mem_append_right _ (List.mem_append_right _ (List.mem_append_left _ h)))))))))) gw_s_comp4x) rfl rfl rfl hd_X4_isComparison ⟨(Nat.le_of_ble_eq_true rfl), (Nat.le_of_ble_eq_true rfl)⟩) (kR_S kT_blind kT_give hPc hKc) rfl rfl hl.1 rfl (lv_room (Nat.le_of_ble_eq_true rfl)) dX4_readClause_86 ⟨(Nat.le_of_ble_eq_true rfl), (Nat.le_of_ble_eq_true rfl)⟩).run (fun r_100 hw => ?_)
            have hw_101 := hw
            refine lv_if_ne (tgt := 100) hx hb dX4_readClause_89 kc_t_89_11 (fun c_102 => ?_) (fun c_102 => ?_)
            · have hcp := hw_101.mp c_102
              refine lv_aload_n hx hb dX4_readClause_100 rfl (lv_at hl 3 rfl) ?_
              refine lv_iconst (v := 0) hx hb dX4_readClause_101 kc_i_0 ?_
              refine lv_iload_n hx hb dX4_readClause_102 rfl (lv_at hl 0 rfl) ?_
              refine lv_if_ne (tgt := 110) hx hb dX4_readClause_103 kc_t_103_7 (fun c_103 => absurd (by decide) c_103) (fun c_103 => ?_)
              refine lv_iconst (v := 1) hx hb dX4_readClause_106 kc_i_1 ?_
              refine lv_goto (tgt := 111) hx hb dX4_readClause_107 kc_t_107_4 ?_
              have bd_104 : Pn_95 ≤ kt := by omega
              have bd_105 : Wr_85 ≤ Pn_95 := by omega
              have hCu := kCut (wc := [(jR, .inr (4, [.ref jT, .ref r1, .ref r2, .int (nI (Wr_85)), .int (nI (fi)), .int (nI (Pn_95)), .ref q6, .ref q7])), (r1, .inl (c1, 120, .inl S1_84)), (r2, .inl (c2, 124, .inl s2)), (jT, .inr (8, [.ref t0, .int (nI (kt))])), (t0, .inl (cC, 120, .inl gT))]) hP hD hS hA [0, 1, 2, 3, 4] rfl kc_nd_311 rfl
              have hPc := hCu.1
              have hDc := hCu.2.1
              have hFc := hCu.2.2
              have hKc := hK.sb (tys2 := [(c1, .int), (c2, .int), (cC, .char)]) [0, 1, 2] rfl
              refine va_calli (va_runV (As := [.int 0, .int 1]) (rest := []) ⟨hx, hb, hml, hown, hts⟩ (s_cond4x_0_1 l dC dI jT t0 cC gT kt hkt hgT bt hbt hb8 jR r1 r2 c1 c2 S1_84 s2 Wr_85 fi q6 q7 bd_92 hfi Pn_95 bd_104 bd_105 b6 n6 g6 hn6 b7 n7 g7 hn7 gn6 hz6 gn7 hz7 H_97.size) (cwV 2 hts (kG (List.forall_mem_cons.mpr ⟨(List.mem_cons_of_mem _ (List.mem_append_left _ (List.mem_of_getElem? (i := 49) rfl))), (List.forall_mem_cons.mpr ⟨(List.mem_cons_of_mem _ (List.mem_append_left _ (List.mem_of_getElem? (i := 48) rfl))), (List.forall_mem_cons.mpr ⟨(List.mem_cons_of_mem _ (List.mem_append_left _ (List.mem_of_getElem? (i := 47) rfl))), (List.forall_mem_cons.mpr ⟨(List.mem_cons_of_mem _ (List.mem_append_left _ (List.mem_of_getElem? (i := 0) rfl))), (fun _ h => absurd h List.not_mem_nil)⟩)⟩)⟩)⟩) (kGV _ _ _ _) (kFam (List.mem_cons_of_mem _ (List.mem_append_left _ (List.mem_of_getElem? (i := 46) rfl)))) gw_s_cond4x_0_1) rfl rfl rfl ⟨rfl, hd_X4_readCondition⟩ ⟨(Nat.le_of_ble_eq_true rfl), (Nat.le_of_ble_eq_true rfl)⟩) (kW_V kS2_blind (kS2_give hX hS hFc) (va_recv hKc hPc (ci := 4) (q0 := 0) rfl rfl) hPc hKc hDc) rfl rfl hl.1 rfl (lv_room (Nat.le_of_ble_eq_true rfl)) dX4_readClause_111 ⟨(Nat.le_of_ble_eq_true rfl), (Nat.le_of_ble_eq_true rfl)⟩) hS (fun q _ h => hFc q h) hFc (fun r_106 => kU5 (fun S1_107 Wr_108 Pn_109 xo_110 xl_111 t H_112 locs ht hvm hw hB hz1 hk1 hS => ?_))
              try dsimp only at hw
              have hPD : kPD dC dI A [(jR, .inr (4, [.ref jT, .ref r1, .ref r2, .int (nI (Wr_108)), .int (nI (fi)), .int (nI (Pn_109)), .ref q6, .ref q7])), (r1, .inl (c1, 120, .inl S1_107)), (r2, .inl (c2, 124, .inl s2)), (jT, .inr (8, [.ref t0, .int (nI (kt))])), (t0, .inl (cC, 120, .inl gT))] H_112 := kJoinX hP hD [0, 1, 2, 3, 4] rfl hk1 hFc hB.1 ht hB.2.2 rfl [some 0, some 1, some 2, some 3, some 4] rfl rfl
              have hP := hPD.1
              have hD := hPD.2
              have hw_113 := hw
              refine lv_if_ne (tgt := 119) hx hb dX4_readClause_114 kc_t_114_5 (fun c_114 => ?_) (fun c_114 => ?_)
              · obtain rfl : xo_110 = true := kBo_t (kNz9 hw_113.1 c_114)
                obtain ⟨hw_113_W, hw_113_S, hw_113_l, hw_113_p⟩ := hw_113.2.1.2.2 rfl
                have hw_113_k := hw_113.2.1.2.1
                refine lv_aload_n hx hb dX4_readClause_119 rfl (lv_at hl 3 rfl) ?_
                refine va_get (D := (dC, dI)) (ci := 4) (v := .int (nI (Wr_108))) (C := RX4) (T := TX4) (N := 8) hx hb hts (fun _ h => List.mem_cons_of_mem _ (List.mem_append_right _ (List.mem_append_right _ (List.mem_append_right _ (List.mem_append_left _ h))))) hown hK hP 0 rfl rfl 3 kc_l_3_8 (hts (.fieldLink RX4 18 "NotEnded$Reader" "written" "I") (List.mem_cons_of_mem _ (List.mem_append_left _ (List.mem_of_getElem? (i := 51) rfl)))) (fun _ h9 => h9) rfl dX4_readClause_120 ?_
                refine lv_istore hx hb dX4_readClause_123 hl kc_l_4_5 (kTo [(4, .int (nI (Wr_108))), (3, .int 0), (2, .int (nI (wr))), (1, .int (nI (j_9))), (0, .ref jR)]) (fun ls hl => ?_)
                refine lv_aload_n hx hb dX4_readClause_125 rfl (lv_at hl 4 rfl) ?_
                refine lv_bipush (v := 63) hx hb dX4_readClause_126 kc_b_63 ?_
                have bd_115 : Wr_108 ≤ 120 := by omega
                have bd_116 : Pn_109 ≤ kt := by omega
                have hCu := kCut (wc := [(jR, .inr (4, [.ref jT, .ref r1, .ref r2, .int (nI (Wr_108)), .int (nI (fi)), .int (nI (Pn_109)), .ref q6, .ref q7])), (r1, .inl (c1, 120, .inl S1_107)), (r2, .inl (c2, 124, .inl s2)), (jT, .inr (8, [.ref t0, .int (nI (kt))])), (t0, .inl (cC, 120, .inl gT))]) hP hD hS hA [0, 1, 2, 3, 4] rfl kc_nd_311 rfl
                have hPc := hCu.1
                have hDc := hCu.2.1
                have hFc := hCu.2.2
                have hKc := hK.sb (tys2 := [(c1, .int), (c2, .int), (cC, .char)]) [0, 1, 2] rfl
                refine va_calli (va_runV (As := [.int 63]) (rest := []) ⟨hx, hb, hml, hown, hts⟩ (s_take4_63 l dC dI jT t0 cC gT kt hkt hgT bt hbt hb8 jR r1 r2 c1 c2 S1_107 s2 Wr_108 fi q6 q7 bd_115 hfi Pn_109 bd_116 H_112.size) (cwV 1 hts (kG (List.forall_mem_cons.mpr ⟨(List.mem_cons_of_mem _ (List.mem_append_left _ (List.mem_of_getElem? (i := 45) rfl))), (List.forall_mem_cons.mpr ⟨(List.mem_cons_of_mem _ (List.mem_append_left _ (List.mem_of_getElem? (i := 44) rfl))), (List.forall_mem_cons.mpr ⟨(List.mem_cons_of_mem _ (List.mem_append_left _ (List.mem_of_getElem? (i := 43) rfl))), (List.forall_mem_cons.mpr ⟨(List.mem_cons_of_mem _ (List.mem_append_left _ (List.mem_of_getElem? (i := 0) rfl))), (fun _ h => absurd h List.not_mem_nil)⟩)⟩)⟩)⟩) (kGV _ _ _ _) (fun _ h => List.mem_cons_of_mem _ (List.mem_append_right _ (List.mem_append_right _ (List.mem_append_right _ (List.mem_append_right _ (List.mem_append_right _ (List.mem_append_right _ (List.mem_append_right _ (List.mem_append_right _ (List.mem_append_right _ (List.mem_append_right _ (List.mem_append_right _ (List.mem_append_right _ (List.mem_append_right _ (List.mem_append_left _ h))))))))))))))) gw_s_take4_63) rfl rfl rfl ⟨rfl, hd_X4_take⟩ ⟨(Nat.le_of_ble_eq_true rfl), (Nat.le_of_ble_eq_true rfl)⟩) (kW_V kT_blind kT_give (va_recv hKc hPc (ci := 4) (q0 := 0) rfl rfl) hPc hKc hDc) rfl rfl hl.1 rfl (lv_room (Nat.le_of_ble_eq_true rfl)) dX4_readClause_128 ⟨(Nat.le_of_ble_eq_true rfl), (Nat.le_of_ble_eq_true rfl)⟩) hS (fun q _ h => hFc q h) hFc (fun r_117 => kU2 (fun Pn_118 xo_119 t H_120 locs ht hvm hw hB hz1 hk1 hS => ?_))
                try dsimp only at hw
                have hPD : kPD dC dI A [(jR, .inr (4, [.ref jT, .ref r1, .ref r2, .int (nI (Wr_108)), .int (nI (fi)), .int (nI (Pn_118)), .ref q6, .ref q7])), (r1, .inl (c1, 120, .inl S1_107)), (r2, .inl (c2, 124, .inl s2)), (jT, .inr (8, [.ref t0, .int (nI (kt))])), (t0, .inl (cC, 120, .inl gT))] H_120 := kJoinX hP hD [0, 1, 2, 3, 4] rfl hk1 hFc hB.1 ht hB.2.2 rfl [some 0, some 1, some 2, some 3, some 4] rfl rfl
                have hP := hPD.1
                have hD := hPD.2
                have hw_121 := hw
                refine lv_if_eq (tgt := 157) hx hb dX4_readClause_131 kc_t_131_26 (fun c_122 => ?_) (fun c_122 => ?_)
                · obtain rfl : xo_119 = false := kBo_f (kZr9 hw_121.1 c_122)
                  have hw_121_k := hw_121.2.2.2.1
                  refine lv_iconst (v := 0) hx hb dX4_readClause_157 kc_i_0 ?_
                  have hP9 := hP
                  have hD9 := hD
                  have hK9 := hK
                  rw [hQ]
                  exact W.zret (v := 0) hx hb hr rfl (fun t ht hW => ⟨⟨0, (S1_107, s2, Wr_108, fi, Pn_118, false, ([]), 0, 0), rfl, ⟨rfl, (by unfold kCla; rw [← hw_5_0, ← hw_5_1]; rw [hj_10, if_pos (by omega), hw_20.2.1, kThC_t]; unfold kCla1; rw [← hw_27_0, ← hw_27_1, if_neg (by omega), hw_90.2.1.1, kThC_t, ← hw_98_0, ← hw_98_1, if_pos (by omega), hw_113.2.1.1, kThC_t]; unfold kCla2; rw [hw_121.2.1]; rfl), by omega, by omega, by omega, fun z => absurd z (by decide)⟩,  by rw [ht]; exact hP9, va_K.moved hW.alike hK9, hD9⟩, hS.F ht⟩) hS.2.2 dX4_readClause_158
                · obtain rfl : xo_119 = true := kBo_t (kNz9 hw_121.1 c_122)
                  have hw_121_p := hw_121.2.2.2.2 rfl
                  have hw_121_k := hw_121.2.2.2.1
                  refine lv_aload_n hx hb dX4_readClause_134 rfl (lv_at hl 4 rfl) ?_
                  refine lv_iconst (v := 0) hx hb dX4_readClause_135 kc_i_0 ?_
                  have bd_123 : Pn_118 ≤ kt := by omega
                  have bd_124 : Wr_108 ≤ Pn_118 := by omega
                  have hCu := kCut (wc := [(jR, .inr (4, [.ref jT, .ref r1, .ref r2, .int (nI (Wr_108)), .int (nI (fi)), .int (nI (Pn_118)), .ref q6, .ref q7])), (r1, .inl (c1, 120, .inl S1_107)), (r2, .inl (c2, 124, .inl s2)), (jT, .inr (8, [.ref t0, .int (nI (kt))])), (t0, .inl (cC, 120, .inl gT))]) hP hD hS hA [0, 1, 2, 3, 4] rfl kc_nd_311 rfl
                  have hPc := hCu.1
                  have hDc := hCu.2.1
                  have hFc := hCu.2.2
                  have hKc := hK.sb (tys2 := [(c1, .int), (c2, .int), (cC, .char)]) [0, 1, 2] rfl
                  refine va_calli (va_runV (As := [.int 0]) (rest := []) ⟨hx, hb, hml, hown, hts⟩ (s_sum4x_0 l dC dI jT t0 cC gT kt hkt hgT bt hbt hb8 jR r1 r2 c1 c2 S1_107 s2 Wr_108 fi q6 q7 bd_115 hfi Pn_118 bd_123 bd_124 b6 n6 g6 hn6 b7 n7 g7 hn7 gn6 hz6 gn7 hz7 H_120.size) (cwV 1 hts (kG (List.forall_mem_cons.mpr ⟨(List.mem_cons_of_mem _ (List.mem_append_left _ (List.mem_of_getElem? (i := 32) rfl))), (List.forall_mem_cons.mpr ⟨(List.mem_cons_of_mem _ (List.mem_append_left _ (List.mem_of_getElem? (i := 31) rfl))), (List.forall_mem_cons.mpr ⟨(List.mem_cons_of_mem _ (List.mem_append_left _ (List.mem_of_getElem? (i := 30) rfl))), (List.forall_mem_cons.mpr ⟨(List.mem_cons_of_mem _ (List.mem_append_left _ (List.mem_of_getElem? (i := 0) rfl))), (fun _ h => absurd h List.not_mem_nil)⟩)⟩)⟩)⟩) (kGV _ _ _ _) (kFam (List.mem_cons_of_mem _ (List.mem_append_left _ (List.mem_of_getElem? (i := 29) rfl)))) gw_s_sum4x_0) rfl rfl rfl ⟨rfl, hd_X4_readSum⟩ ⟨(Nat.le_of_ble_eq_true rfl), (Nat.le_of_ble_eq_true rfl)⟩) (kW_V kS2_blind (kS2_give hX hS hFc) (va_recv hKc hPc (ci := 4) (q0 := 0) rfl rfl) hPc hKc hDc) rfl rfl hl.1 rfl (lv_room (Nat.le_of_ble_eq_true rfl)) dX4_readClause_136 ⟨(Nat.le_of_ble_eq_true rfl), (Nat.le_of_ble_eq_true rfl)⟩) hS (fun q _ h => hFc q h) hFc (fun r_125 => kU5 (fun S1_126 Wr_127 Pn_128 xo_129 xl_130 t H_131 locs ht hvm hw hB hz1 hk1 hS => ?_))
                  try dsimp only at hw
                  have hPD : kPD dC dI A [(jR, .inr (4, [.ref jT, .ref r1, .ref r2, .int (nI (Wr_127)), .int (nI (fi)), .int (nI (Pn_128)), .ref q6, .ref q7])), (r1, .inl (c1, 120, .inl S1_126)), (r2, .inl (c2, 124, .inl s2)), (jT, .inr (8, [.ref t0, .int (nI (kt))])), (t0, .inl (cC, 120, .inl gT))] H_131 := kJoinX hP hD [0, 1, 2, 3, 4] rfl hk1 hFc hB.1 ht hB.2.2 rfl [some 0, some 1, some 2, some 3, some 4] rfl rfl
                  have hP := hPD.1
                  have hD := hPD.2
                  have hw_132 := hw
                  refine lv_if_eq (tgt := 157) hx hb dX4_readClause_139 kc_t_139_18 (fun c_133 => ?_) (fun c_133 => ?_)
                  · obtain rfl : xo_129 = false := kBo_f (kZr9 hw_132.1 c_133)
                    have hw_132_k := hw_132.2.1.2.1
                    refine lv_iconst (v := 0) hx hb dX4_readClause_157 kc_i_0 ?_
                    have hP9 := hP
                    have hD9 := hD
                    have hK9 := hK
                    rw [hQ]
                    exact W.zret (v := 0) hx hb hr rfl (fun t ht hW => ⟨⟨0, (S1_126, s2, Wr_127, fi, Pn_128, false, ([]), 0, 0), rfl, ⟨rfl, (by unfold kCla; rw [← hw_5_0, ← hw_5_1]; rw [hj_10, if_pos (by omega), hw_20.2.1, kThC_t]; unfold kCla1; rw [← hw_27_0, ← hw_27_1, if_neg (by omega), hw_90.2.1.1, kThC_t, ← hw_98_0, ← hw_98_1, if_pos (by omega), hw_113.2.1.1, kThC_t]; unfold kCla2; rw [hw_121.2.1, kThC_t, hw_132.2.1.1]; rfl), by omega, by omega, by omega, fun z => absurd z (by decide)⟩,  by rw [ht]; exact hP9, va_K.moved hW.alike hK9, hD9⟩, hS.F ht⟩) hS.2.2 dX4_readClause_158
                  · obtain rfl : xo_129 = true := kBo_t (kNz9 hw_132.1 c_133)
                    obtain ⟨hw_132_W, hw_132_S, hw_132_l, hw_132_p⟩ := hw_132.2.1.2.2 rfl
                    have hw_132_k := hw_132.2.1.2.1
                    refine lv_aload_n hx hb dX4_readClause_142 rfl (lv_at hl 4 rfl) ?_
                    refine lv_iload_n hx hb dX4_readClause_143 rfl (lv_at hl 3 rfl) ?_
                    refine lv_iload_n hx hb dX4_readClause_144 rfl (lv_at hl 2 rfl) ?_
                    refine lv_iload hx hb dX4_readClause_145 (lv_at hl 0 rfl) ?_
                    have bd_134 : Wr_127 ≤ 120 := by omega
                    have bd_135 : Pn_128 ≤ kt := by omega
                    have hCu := kCut (wc := [(jR, .inr (4, [.ref jT, .ref r1, .ref r2, .int (nI (Wr_127)), .int (nI (fi)), .int (nI (Pn_128)), .ref q6, .ref q7])), (r1, .inl (c1, 120, .inl S1_126)), (r2, .inl (c2, 124, .inl s2)), (jT, .inr (8, [.ref t0, .int (nI (kt))])), (t0, .inl (cC, 120, .inl gT))]) hP hD hS hA [0, 1, 2, 3, 4] rfl kc_nd_311 rfl
                    have hPc := hCu.1
                    have hDc := hCu.2.1
                    have hFc := hCu.2.2
                    have hKc := hK.sb (tys2 := [(c1, .int), (c2, .int), (cC, .char)]) [0, 1, 2] rfl
                    refine va_calli (va_runV (As := [.int (nI (j_9)), .int (nI (wr)), .int (nI (Wr_108))]) (rest := []) ⟨hx, hb, hml, hown, hts⟩ (s_keep4x l dC dI jT t0 cC gT kt hkt hgT bt hbt hb8 jR r1 r2 c1 c2 S1_126 s2 Wr_127 fi q6 q7 bd_134 hfi Pn_128 bd_135 j_9 wr Wr_108 hf9 H_131.size) (cwV 3 hts (kG (List.forall_mem_cons.mpr ⟨(List.mem_cons_of_mem _ (List.mem_append_left _ (List.mem_of_getElem? (i := 54) rfl))), (List.forall_mem_cons.mpr ⟨(List.mem_cons_of_mem _ (List.mem_append_left _ (List.mem_of_getElem? (i := 53) rfl))), (List.forall_mem_cons.mpr ⟨(List.mem_cons_of_mem _ (List.mem_append_left _ (List.mem_of_getElem? (i := 52) rfl))), (List.forall_mem_cons.mpr ⟨(List.mem_cons_of_mem _ (List.mem_append_left _ (List.mem_of_getElem? (i := 0) rfl))), (fun _ h => absurd h List.not_mem_nil)⟩)⟩)⟩)⟩) (kGV _ _ _ _) (fun _ h => List.mem_cons_of_mem _ (List.mem_append_right _ (List.mem_append_right _ (List.mem_append_right _ (List.mem_append_right _ (List.mem_append_right _ (List.mem_append_right _ (List.mem_append_right _ (List.mem_append_right _ (List.mem_append_right _ (List.mem_append_right _ (List.mem_append_right _ (List.mem_append_right _ (List.mem_append_right _ (List.mem_append_right _ h))))))))))))))) gw_s_keep4x) rfl rfl rfl ⟨rfl, hd_X4_keepClause⟩ ⟨(Nat.le_of_ble_eq_true rfl), (Nat.le_of_ble_eq_true rfl)⟩) (kW_V kT_blind kT_give (va_recv hKc hPc (ci := 4) (q0 := 0) rfl rfl) hPc hKc hDc) rfl rfl hl.1 rfl (lv_room (Nat.le_of_ble_eq_true rfl)) dX4_readClause_147 ⟨(Nat.le_of_ble_eq_true rfl), (Nat.le_of_ble_eq_true rfl)⟩) hS (fun q _ h => hFc q h) hFc (fun r_136 => kU2 (fun S2_137 Fi_138 t H_139 locs ht hvm hw hB hz1 hk1 hS => ?_))
                    try dsimp only at hw
                    have hPD : kPD dC dI A [(jR, .inr (4, [.ref jT, .ref r1, .ref r2, .int (nI (Wr_127)), .int (nI (Fi_138)), .int (nI (Pn_128)), .ref q6, .ref q7])), (r1, .inl (c1, 120, .inl S1_126)), (r2, .inl (c2, 124, .inl S2_137)), (jT, .inr (8, [.ref t0, .int (nI (kt))])), (t0, .inl (cC, 120, .inl gT))] H_139 := kJoinX hP hD [0, 1, 2, 3, 4] rfl hk1 hFc hB.1 ht hB.2.2 rfl [some 0, some 1, some 2, some 3, some 4] rfl rfl
                    have hP := hPD.1
                    have hD := hPD.2
                    obtain ⟨rfl, hw_140⟩ := hw
                    refine lv_if_eq (tgt := 157) hx hb dX4_readClause_150 kc_t_150_7 (fun c_141 => absurd c_141 (by decide)) (fun c_141 => ?_)
                    refine lv_iconst (v := 1) hx hb dX4_readClause_153 kc_i_1 ?_
                    refine lv_goto (tgt := 158) hx hb dX4_readClause_154 kc_t_154_4 ?_
                    have hP9 := hP
                    have hD9 := hD
                    have hK9 := hK
                    rw [hQ]
                    exact W.zret (v := 1) hx hb hr rfl (fun t ht hW => ⟨⟨1, (S1_126, S2_137, Wr_127, Fi_138, Pn_128, true, (xl_88 ++ xl_111 ++ xl_130), j_9, ((xl_88 ++ xl_111).length)), rfl, ⟨rfl, (by unfold kCla; rw [← hw_5_0, ← hw_5_1]; rw [hj_10, if_pos (by omega), hw_20.2.1, kThC_t]; unfold kCla1; rw [← hw_27_0, ← hw_27_1, if_neg (by omega), hw_90.2.1.1, kThC_t, ← hw_98_0, ← hw_98_1, if_pos (by omega), hw_113.2.1.1, kThC_t]; unfold kCla2; rw [hw_121.2.1, kThC_t, hw_132.2.1.1, kThC_t]), by omega, by omega, by omega, fun _ => ⟨(by first | omega | (simp only [List.length_append]; omega)), (kWrtC (kWrtC hw_90_S hw_90_W hw_113_S) (by first | omega | (simp only [List.length_append]; omega)) hw_132_S), hw_140.1, kKeep hw_140.2 (by first | omega | (simp only [List.length_append]; omega)) (by first | omega | (simp only [List.length_append]; omega)), (by first | omega | (simp only [List.length_append]; omega)), by omega⟩⟩,  by rw [ht]; exact hP9, va_K.moved hW.alike hK9, hD9⟩, hS.F ht⟩) hS.2.2 dX4_readClause_158
              · obtain rfl : xo_110 = false := kBo_f (kZr9 hw_113.1 c_114)
                have hw_113_k := hw_113.2.1.2.1
                refine lv_iconst (v := 0) hx hb dX4_readClause_117 kc_i_0 ?_
                have hP9 := hP
                have hD9 := hD
                have hK9 := hK
                rw [hQ]
                exact W.zret (v := 0) hx hb hr rfl (fun t ht hW => ⟨⟨0, (S1_107, s2, Wr_108, fi, Pn_109, false, ([]), 0, 0), rfl, ⟨rfl, (by unfold kCla; rw [← hw_5_0, ← hw_5_1]; rw [hj_10, if_pos (by omega), hw_20.2.1, kThC_t]; unfold kCla1; rw [← hw_27_0, ← hw_27_1, if_neg (by omega), hw_90.2.1.1, kThC_t, ← hw_98_0, ← hw_98_1, if_pos (by omega), hw_113.2.1.1]; rfl), by omega, by omega, by omega, fun z => absurd z (by decide)⟩,  by rw [ht]; exact hP9, va_K.moved hW.alike hK9, hD9⟩, hS.F ht⟩) hS.2.2 dX4_readClause_118
            · have hcp : ¬ (ch_96 = 61 ∨ ch_96 = 60 ∨ ch_96 = 62) := fun z9 => hw_101.mpr z9 c_102
              refine lv_aload_n hx hb dX4_readClause_92 rfl (lv_at hl 3 rfl) ?_
              refine lv_iload_n hx hb dX4_readClause_93 rfl (lv_at hl 2 rfl) ?_
              refine lv_iload_n hx hb dX4_readClause_94 rfl (lv_at hl 1 rfl) ?_
              refine lv_iload_n hx hb dX4_readClause_95 rfl (lv_at hl 1 rfl) ?_
              have bd_142 : Pn_95 ≤ kt := by omega
              have hCu := kCut (wc := [(jR, .inr (4, [.ref jT, .ref r1, .ref r2, .int (nI (Wr_85)), .int (nI (fi)), .int (nI (Pn_95)), .ref q6, .ref q7])), (r1, .inl (c1, 120, .inl S1_84)), (r2, .inl (c2, 124, .inl s2)), (jT, .inr (8, [.ref t0, .int (nI (kt))])), (t0, .inl (cC, 120, .inl gT))]) hP hD hS hA [0, 1, 2, 3, 4] rfl kc_nd_311 rfl
              have hPc := hCu.1
              have hDc := hCu.2.1
              have hFc := hCu.2.2
              have hKc := hK.sb (tys2 := [(c1, .int), (c2, .int), (cC, .char)]) [0, 1, 2] rfl
              refine va_calli (va_runV (As := [.int (nI (j_9)), .int (nI (wr)), .int (nI (wr))]) (rest := []) ⟨hx, hb, hml, hown, hts⟩ (s_keep4x l dC dI jT t0 cC gT kt hkt hgT bt hbt hb8 jR r1 r2 c1 c2 S1_84 s2 Wr_85 fi q6 q7 bd_92 hfi Pn_95 bd_142 j_9 wr wr hf9 H_97.size) (cwV 3 hts (kG (List.forall_mem_cons.mpr ⟨(List.mem_cons_of_mem _ (List.mem_append_left _ (List.mem_of_getElem? (i := 54) rfl))), (List.forall_mem_cons.mpr ⟨(List.mem_cons_of_mem _ (List.mem_append_left _ (List.mem_of_getElem? (i := 53) rfl))), (List.forall_mem_cons.mpr ⟨(List.mem_cons_of_mem _ (List.mem_append_left _ (List.mem_of_getElem? (i := 52) rfl))), (List.forall_mem_cons.mpr ⟨(List.mem_cons_of_mem _ (List.mem_append_left _ (List.mem_of_getElem? (i := 0) rfl))), (fun _ h => absurd h List.not_mem_nil)⟩)⟩)⟩)⟩) (kGV _ _ _ _) (fun _ h => List.mem_cons_of_mem _ (List.mem_append_right _ (List.mem_append_right _ (List.mem_append_right _ (List.mem_append_right _ (List.mem_append_right _ (List.mem_append_right _ (List.mem_append_right _ (List.mem_append_right _ (List.mem_append_right _ (List.mem_append_right _ (List.mem_append_right _ (List.mem_append_right _ (List.mem_append_right _ (List.mem_append_right _ h))))))))))))))) gw_s_keep4x) rfl rfl rfl ⟨rfl, hd_X4_keepClause⟩ ⟨(Nat.le_of_ble_eq_true rfl), (Nat.le_of_ble_eq_true rfl)⟩) (kW_V kT_blind kT_give (va_recv hKc hPc (ci := 4) (q0 := 0) rfl rfl) hPc hKc hDc) rfl rfl hl.1 rfl (lv_room (Nat.le_of_ble_eq_true rfl)) dX4_readClause_96 ⟨(Nat.le_of_ble_eq_true rfl), (Nat.le_of_ble_eq_true rfl)⟩) hS (fun q _ h => hFc q h) hFc (fun r_143 => kU2 (fun S2_144 Fi_145 t H_146 locs ht hvm hw hB hz1 hk1 hS => ?_))
              try dsimp only at hw
              have hPD : kPD dC dI A [(jR, .inr (4, [.ref jT, .ref r1, .ref r2, .int (nI (Wr_85)), .int (nI (Fi_145)), .int (nI (Pn_95)), .ref q6, .ref q7])), (r1, .inl (c1, 120, .inl S1_84)), (r2, .inl (c2, 124, .inl S2_144)), (jT, .inr (8, [.ref t0, .int (nI (kt))])), (t0, .inl (cC, 120, .inl gT))] H_146 := kJoinX hP hD [0, 1, 2, 3, 4] rfl hk1 hFc hB.1 ht hB.2.2 rfl [some 0, some 1, some 2, some 3, some 4] rfl rfl
              have hP := hPD.1
              have hD := hPD.2
              obtain ⟨rfl, hw_147⟩ := hw
              have hP9 := hP
              have hD9 := hD
              have hK9 := hK
              rw [hQ]
              exact W.zret (v := 1) hx hb hr rfl (fun t ht hW => ⟨⟨1, (S1_84, S2_144, Wr_85, Fi_145, Pn_95, true, (xl_88), j_9, 0), rfl, ⟨rfl, (by unfold kCla; rw [← hw_5_0, ← hw_5_1]; rw [hj_10, if_pos (by omega), hw_20.2.1, kThC_t]; unfold kCla1; rw [← hw_27_0, ← hw_27_1, if_neg (by omega), hw_90.2.1.1, kThC_t, ← hw_98_0, ← hw_98_1, if_neg (by omega)]), by omega, by omega, by omega, fun _ => ⟨(by first | omega | (simp only [List.length_append]; omega)), hw_90_S, hw_147.1, kKeep hw_147.2 (by first | omega | (simp only [List.length_append]; omega)) (by first | omega | (simp only [List.length_append]; omega)), (by first | omega | (simp only [List.length_append]; omega)), by omega⟩⟩,  by rw [ht]; exact hP9, va_K.moved hW.alike hK9, hD9⟩, hS.F ht⟩) hS.2.2 dX4_readClause_99
          · obtain rfl : xo_87 = false := kBo_f (kZr9 hw_90.1 c_91)
            have hw_90_k := hw_90.2.1.2.1
            refine lv_iconst (v := 0) hx hb dX4_readClause_80 kc_i_0 ?_
            have hP9 := hP
            have hD9 := hD
            have hK9 := hK
            rw [hQ]
            exact W.zret (v := 0) hx hb hr rfl (fun t ht hW => ⟨⟨0, (S1_84, s2, Wr_85, fi, Pn_86, false, ([]), 0, 0), rfl, ⟨rfl, (by unfold kCla; rw [← hw_5_0, ← hw_5_1]; rw [hj_10, if_pos (by omega), hw_20.2.1, kThC_t]; unfold kCla1; rw [← hw_27_0, ← hw_27_1, if_neg (by omega), hw_90.2.1.1]; rfl), by omega, by omega, by omega, fun z => absurd z (by decide)⟩,  by rw [ht]; exact hP9, va_K.moved hW.alike hK9, hD9⟩, hS.F ht⟩) hS.2.2 dX4_readClause_81
        · have hn_148 := keq (a := ch_25) (b := 40) bd_72 kc_31_40 c_79
          refine lv_iconst (v := 1) hx hb dX4_readClause_62 kc_i_1 ?_
          refine lv_goto (tgt := 67) hx hb dX4_readClause_63 kc_t_63_4 ?_
          refine lv_istore_n hx hb dX4_readClause_67 rfl hl kc_l_3_5 (kTo [(3, .int 1), (2, .int (nI (wr))), (1, .int (nI (j_9))), (0, .ref jR)]) (fun ls hl => ?_)
          refine lv_iload_n hx hb dX4_readClause_68 rfl (lv_at hl 0 rfl) ?_
          refine lv_if_ne (tgt := 100) hx hb dX4_readClause_69 kc_t_69_31 (fun c_149 => ?_) (fun c_149 => absurd c_149 (by decide))
          refine lv_aload_n hx hb dX4_readClause_100 rfl (lv_at hl 3 rfl) ?_
          refine lv_iconst (v := 0) hx hb dX4_readClause_101 kc_i_0 ?_
          refine lv_iload_n hx hb dX4_readClause_102 rfl (lv_at hl 0 rfl) ?_
          refine lv_if_ne (tgt := 110) hx hb dX4_readClause_103 kc_t_103_7 (fun c_150 => ?_) (fun c_150 => absurd c_150 (by decide))
          refine lv_iconst (v := 0) hx hb dX4_readClause_110 kc_i_0 ?_
          have bd_151 : wr ≤ Pn_24 := by omega
          have hCu := kCut (wc := [(jR, .inr (4, [.ref jT, .ref r1, .ref r2, .int (nI (wr)), .int (nI (fi)), .int (nI (Pn_24)), .ref q6, .ref q7])), (r1, .inl (c1, 120, .inl s1)), (r2, .inl (c2, 124, .inl s2)), (jT, .inr (8, [.ref t0, .int (nI (kt))])), (t0, .inl (cC, 120, .inl gT))]) hP hD hS hA [0, 1, 2, 3, 4] rfl kc_nd_311 rfl
          have hPc := hCu.1
          have hDc := hCu.2.1
          have hFc := hCu.2.2
          have hKc := hK.sb (tys2 := [(c1, .int), (c2, .int), (cC, .char)]) [0, 1, 2] rfl
          refine va_calli (va_runV (As := [.int 0, .int 0]) (rest := []) ⟨hx, hb, hml, hown, hts⟩ (s_cond4x_0_0 l dC dI jT t0 cC gT kt hkt hgT bt hbt hb8 jR r1 r2 c1 c2 s1 s2 wr fi q6 q7 hwr hfi Pn_24 bd_73 bd_151 b6 n6 g6 hn6 b7 n7 g7 hn7 gn6 hz6 gn7 hz7 H_77.size) (cwV 2 hts (kG (List.forall_mem_cons.mpr ⟨(List.mem_cons_of_mem _ (List.mem_append_left _ (List.mem_of_getElem? (i := 49) rfl))), (List.forall_mem_cons.mpr ⟨(List.mem_cons_of_mem _ (List.mem_append_left _ (List.mem_of_getElem? (i := 48) rfl))), (List.forall_mem_cons.mpr ⟨(List.mem_cons_of_mem _ (List.mem_append_left _ (List.mem_of_getElem? (i := 47) rfl))), (List.forall_mem_cons.mpr ⟨(List.mem_cons_of_mem _ (List.mem_append_left _ (List.mem_of_getElem? (i := 0) rfl))), (fun _ h => absurd h List.not_mem_nil)⟩)⟩)⟩)⟩) (kGV _ _ _ _) (kFam (List.mem_cons_of_mem _ (List.mem_append_left _ (List.mem_of_getElem? (i := 46) rfl)))) gw_s_cond4x_0_0) rfl rfl rfl ⟨rfl, hd_X4_readCondition⟩ ⟨(Nat.le_of_ble_eq_true rfl), (Nat.le_of_ble_eq_true rfl)⟩) (kW_V kS2_blind (kS2_give hX hS hFc) (va_recv hKc hPc (ci := 4) (q0 := 0) rfl rfl) hPc hKc hDc) rfl rfl hl.1 rfl (lv_room (Nat.le_of_ble_eq_true rfl)) dX4_readClause_111 ⟨(Nat.le_of_ble_eq_true rfl), (Nat.le_of_ble_eq_true rfl)⟩) hS (fun q _ h => hFc q h) hFc (fun r_152 => kU5 (fun S1_153 Wr_154 Pn_155 xo_156 xl_157 t H_158 locs ht hvm hw hB hz1 hk1 hS => ?_))
          try dsimp only at hw
          have hPD : kPD dC dI A [(jR, .inr (4, [.ref jT, .ref r1, .ref r2, .int (nI (Wr_154)), .int (nI (fi)), .int (nI (Pn_155)), .ref q6, .ref q7])), (r1, .inl (c1, 120, .inl S1_153)), (r2, .inl (c2, 124, .inl s2)), (jT, .inr (8, [.ref t0, .int (nI (kt))])), (t0, .inl (cC, 120, .inl gT))] H_158 := kJoinX hP hD [0, 1, 2, 3, 4] rfl hk1 hFc hB.1 ht hB.2.2 rfl [some 0, some 1, some 2, some 3, some 4] rfl rfl
          have hP := hPD.1
          have hD := hPD.2
          have hw_159 := hw
          refine lv_if_ne (tgt := 119) hx hb dX4_readClause_114 kc_t_114_5 (fun c_160 => ?_) (fun c_160 => ?_)
          · obtain rfl : xo_156 = true := kBo_t (kNz9 hw_159.1 c_160)
            obtain ⟨hw_159_W, hw_159_S, hw_159_l, hw_159_p⟩ := hw_159.2.1.2.2 rfl
            have hw_159_k := hw_159.2.1.2.1
            refine lv_aload_n hx hb dX4_readClause_119 rfl (lv_at hl 3 rfl) ?_
            refine va_get (D := (dC, dI)) (ci := 4) (v := .int (nI (Wr_154))) (C := RX4) (T := TX4) (N := 8) hx hb hts (fun _ h => List.mem_cons_of_mem _ (List.mem_append_right _ (List.mem_append_right _ (List.mem_append_right _ (List.mem_append_left _ h))))) hown hK hP 0 rfl rfl 3 kc_l_3_8 (hts (.fieldLink RX4 18 "NotEnded$Reader" "written" "I") (List.mem_cons_of_mem _ (List.mem_append_left _ (List.mem_of_getElem? (i := 51) rfl)))) (fun _ h9 => h9) rfl dX4_readClause_120 ?_
            refine lv_istore hx hb dX4_readClause_123 hl kc_l_4_5 (kTo [(4, .int (nI (Wr_154))), (3, .int 1), (2, .int (nI (wr))), (1, .int (nI (j_9))), (0, .ref jR)]) (fun ls hl => ?_)
            refine lv_aload_n hx hb dX4_readClause_125 rfl (lv_at hl 4 rfl) ?_
            refine lv_bipush (v := 63) hx hb dX4_readClause_126 kc_b_63 ?_
            have bd_161 : Wr_154 ≤ 120 := by omega
            have bd_162 : Pn_155 ≤ kt := by omega
            have hCu := kCut (wc := [(jR, .inr (4, [.ref jT, .ref r1, .ref r2, .int (nI (Wr_154)), .int (nI (fi)), .int (nI (Pn_155)), .ref q6, .ref q7])), (r1, .inl (c1, 120, .inl S1_153)), (r2, .inl (c2, 124, .inl s2)), (jT, .inr (8, [.ref t0, .int (nI (kt))])), (t0, .inl (cC, 120, .inl gT))]) hP hD hS hA [0, 1, 2, 3, 4] rfl kc_nd_311 rfl
            have hPc := hCu.1
            have hDc := hCu.2.1
            have hFc := hCu.2.2
            have hKc := hK.sb (tys2 := [(c1, .int), (c2, .int), (cC, .char)]) [0, 1, 2] rfl
            refine va_calli (va_runV (As := [.int 63]) (rest := []) ⟨hx, hb, hml, hown, hts⟩ (s_take4_63 l dC dI jT t0 cC gT kt hkt hgT bt hbt hb8 jR r1 r2 c1 c2 S1_153 s2 Wr_154 fi q6 q7 bd_161 hfi Pn_155 bd_162 H_158.size) (cwV 1 hts (kG (List.forall_mem_cons.mpr ⟨(List.mem_cons_of_mem _ (List.mem_append_left _ (List.mem_of_getElem? (i := 45) rfl))), (List.forall_mem_cons.mpr ⟨(List.mem_cons_of_mem _ (List.mem_append_left _ (List.mem_of_getElem? (i := 44) rfl))), (List.forall_mem_cons.mpr ⟨(List.mem_cons_of_mem _ (List.mem_append_left _ (List.mem_of_getElem? (i := 43) rfl))), (List.forall_mem_cons.mpr ⟨(List.mem_cons_of_mem _ (List.mem_append_left _ (List.mem_of_getElem? (i := 0) rfl))), (fun _ h => absurd h List.not_mem_nil)⟩)⟩)⟩)⟩) (kGV _ _ _ _) (fun _ h => List.mem_cons_of_mem _ (List.mem_append_right _ (List.mem_append_right _ (List.mem_append_right _ (List.mem_append_right _ (List.mem_append_right _ (List.mem_append_right _ (List.mem_append_right _ (List.mem_append_right _ (List.mem_append_right _ (List.mem_append_right _ (List.mem_append_right _ (List.mem_append_right _ (List.mem_append_right _ (List.mem_append_left _ h))))))))))))))) gw_s_take4_63) rfl rfl rfl ⟨rfl, hd_X4_take⟩ ⟨(Nat.le_of_ble_eq_true rfl), (Nat.le_of_ble_eq_true rfl)⟩) (kW_V kT_blind kT_give (va_recv hKc hPc (ci := 4) (q0 := 0) rfl rfl) hPc hKc hDc) rfl rfl hl.1 rfl (lv_room (Nat.le_of_ble_eq_true rfl)) dX4_readClause_128 ⟨(Nat.le_of_ble_eq_true rfl), (Nat.le_of_ble_eq_true rfl)⟩) hS (fun q _ h => hFc q h) hFc (fun r_163 => kU2 (fun Pn_164 xo_165 t H_166 locs ht hvm hw hB hz1 hk1 hS => ?_))
            try dsimp only at hw
            have hPD : kPD dC dI A [(jR, .inr (4, [.ref jT, .ref r1, .ref r2, .int (nI (Wr_154)), .int (nI (fi)), .int (nI (Pn_164)), .ref q6, .ref q7])), (r1, .inl (c1, 120, .inl S1_153)), (r2, .inl (c2, 124, .inl s2)), (jT, .inr (8, [.ref t0, .int (nI (kt))])), (t0, .inl (cC, 120, .inl gT))] H_166 := kJoinX hP hD [0, 1, 2, 3, 4] rfl hk1 hFc hB.1 ht hB.2.2 rfl [some 0, some 1, some 2, some 3, some 4] rfl rfl
            have hP := hPD.1
            have hD := hPD.2
            have hw_167 := hw
            refine lv_if_eq (tgt := 157) hx hb dX4_readClause_131 kc_t_131_26 (fun c_168 => ?_) (fun c_168 => ?_)
            · obtain rfl : xo_165 = false := kBo_f (kZr9 hw_167.1 c_168)
              have hw_167_k := hw_167.2.2.2.1
              refine lv_iconst (v := 0) hx hb dX4_readClause_157 kc_i_0 ?_
              have hP9 := hP
              have hD9 := hD
              have hK9 := hK
              rw [hQ]
              exact W.zret (v := 0) hx hb hr rfl (fun t ht hW => ⟨⟨0, (S1_153, s2, Wr_154, fi, Pn_164, false, ([]), 0, 0), rfl, ⟨rfl, (by unfold kCla; rw [← hw_5_0, ← hw_5_1]; rw [hj_10, if_pos (by omega), hw_20.2.1, kThC_t]; unfold kCla1; rw [← hw_27_0, ← hw_27_1, if_pos (by omega), hw_159.2.1.1, kThC_t]; unfold kCla2; rw [hw_167.2.1]; rfl), by omega, by omega, by omega, fun z => absurd z (by decide)⟩,  by rw [ht]; exact hP9, va_K.moved hW.alike hK9, hD9⟩, hS.F ht⟩) hS.2.2 dX4_readClause_158
            · obtain rfl : xo_165 = true := kBo_t (kNz9 hw_167.1 c_168)
              have hw_167_p := hw_167.2.2.2.2 rfl
              have hw_167_k := hw_167.2.2.2.1
              refine lv_aload_n hx hb dX4_readClause_134 rfl (lv_at hl 4 rfl) ?_
              refine lv_iconst (v := 0) hx hb dX4_readClause_135 kc_i_0 ?_
              have bd_169 : Pn_164 ≤ kt := by omega
              have bd_170 : Wr_154 ≤ Pn_164 := by omega
              have hCu := kCut (wc := [(jR, .inr (4, [.ref jT, .ref r1, .ref r2, .int (nI (Wr_154)), .int (nI (fi)), .int (nI (Pn_164)), .ref q6, .ref q7])), (r1, .inl (c1, 120, .inl S1_153)), (r2, .inl (c2, 124, .inl s2)), (jT, .inr (8, [.ref t0, .int (nI (kt))])), (t0, .inl (cC, 120, .inl gT))]) hP hD hS hA [0, 1, 2, 3, 4] rfl kc_nd_311 rfl
              have hPc := hCu.1
              have hDc := hCu.2.1
              have hFc := hCu.2.2
              have hKc := hK.sb (tys2 := [(c1, .int), (c2, .int), (cC, .char)]) [0, 1, 2] rfl
              refine va_calli (va_runV (As := [.int 0]) (rest := []) ⟨hx, hb, hml, hown, hts⟩ (s_sum4x_0 l dC dI jT t0 cC gT kt hkt hgT bt hbt hb8 jR r1 r2 c1 c2 S1_153 s2 Wr_154 fi q6 q7 bd_161 hfi Pn_164 bd_169 bd_170 b6 n6 g6 hn6 b7 n7 g7 hn7 gn6 hz6 gn7 hz7 H_166.size) (cwV 1 hts (kG (List.forall_mem_cons.mpr ⟨(List.mem_cons_of_mem _ (List.mem_append_left _ (List.mem_of_getElem? (i := 32) rfl))), (List.forall_mem_cons.mpr ⟨(List.mem_cons_of_mem _ (List.mem_append_left _ (List.mem_of_getElem? (i := 31) rfl))), (List.forall_mem_cons.mpr ⟨(List.mem_cons_of_mem _ (List.mem_append_left _ (List.mem_of_getElem? (i := 30) rfl))), (List.forall_mem_cons.mpr ⟨(List.mem_cons_of_mem _ (List.mem_append_left _ (List.mem_of_getElem? (i := 0) rfl))), (fun _ h => absurd h List.not_mem_nil)⟩)⟩)⟩)⟩) (kGV _ _ _ _) (kFam (List.mem_cons_of_mem _ (List.mem_append_left _ (List.mem_of_getElem? (i := 29) rfl)))) gw_s_sum4x_0) rfl rfl rfl ⟨rfl, hd_X4_readSum⟩ ⟨(Nat.le_of_ble_eq_true rfl), (Nat.le_of_ble_eq_true rfl)⟩) (kW_V kS2_blind (kS2_give hX hS hFc) (va_recv hKc hPc (ci := 4) (q0 := 0) rfl rfl) hPc hKc hDc) rfl rfl hl.1 rfl (lv_room (Nat.le_of_ble_eq_true rfl)) dX4_readClause_136 ⟨(Nat.le_of_ble_eq_true rfl), (Nat.le_of_ble_eq_true rfl)⟩) hS (fun q _ h => hFc q h) hFc (fun r_171 => kU5 (fun S1_172 Wr_173 Pn_174 xo_175 xl_176 t H_177 locs ht hvm hw hB hz1 hk1 hS => ?_))
              try dsimp only at hw
              have hPD : kPD dC dI A [(jR, .inr (4, [.ref jT, .ref r1, .ref r2, .int (nI (Wr_173)), .int (nI (fi)), .int (nI (Pn_174)), .ref q6, .ref q7])), (r1, .inl (c1, 120, .inl S1_172)), (r2, .inl (c2, 124, .inl s2)), (jT, .inr (8, [.ref t0, .int (nI (kt))])), (t0, .inl (cC, 120, .inl gT))] H_177 := kJoinX hP hD [0, 1, 2, 3, 4] rfl hk1 hFc hB.1 ht hB.2.2 rfl [some 0, some 1, some 2, some 3, some 4] rfl rfl
              have hP := hPD.1
              have hD := hPD.2
              have hw_178 := hw
              refine lv_if_eq (tgt := 157) hx hb dX4_readClause_139 kc_t_139_18 (fun c_179 => ?_) (fun c_179 => ?_)
              · obtain rfl : xo_175 = false := kBo_f (kZr9 hw_178.1 c_179)
                have hw_178_k := hw_178.2.1.2.1
                refine lv_iconst (v := 0) hx hb dX4_readClause_157 kc_i_0 ?_
                have hP9 := hP
                have hD9 := hD
                have hK9 := hK
                rw [hQ]
                exact W.zret (v := 0) hx hb hr rfl (fun t ht hW => ⟨⟨0, (S1_172, s2, Wr_173, fi, Pn_174, false, ([]), 0, 0), rfl, ⟨rfl, (by unfold kCla; rw [← hw_5_0, ← hw_5_1]; rw [hj_10, if_pos (by omega), hw_20.2.1, kThC_t]; unfold kCla1; rw [← hw_27_0, ← hw_27_1, if_pos (by omega), hw_159.2.1.1, kThC_t]; unfold kCla2; rw [hw_167.2.1, kThC_t, hw_178.2.1.1]; rfl), by omega, by omega, by omega, fun z => absurd z (by decide)⟩,  by rw [ht]; exact hP9, va_K.moved hW.alike hK9, hD9⟩, hS.F ht⟩) hS.2.2 dX4_readClause_158
              · obtain rfl : xo_175 = true := kBo_t (kNz9 hw_178.1 c_179)
                obtain ⟨hw_178_W, hw_178_S, hw_178_l, hw_178_p⟩ := hw_178.2.1.2.2 rfl
                have hw_178_k := hw_178.2.1.2.1
                refine lv_aload_n hx hb dX4_readClause_142 rfl (lv_at hl 4 rfl) ?_
                refine lv_iload_n hx hb dX4_readClause_143 rfl (lv_at hl 3 rfl) ?_
                refine lv_iload_n hx hb dX4_readClause_144 rfl (lv_at hl 2 rfl) ?_
                refine lv_iload hx hb dX4_readClause_145 (lv_at hl 0 rfl) ?_
                have bd_180 : Wr_173 ≤ 120 := by omega
                have bd_181 : Pn_174 ≤ kt := by omega
                have hCu := kCut (wc := [(jR, .inr (4, [.ref jT, .ref r1, .ref r2, .int (nI (Wr_173)), .int (nI (fi)), .int (nI (Pn_174)), .ref q6, .ref q7])), (r1, .inl (c1, 120, .inl S1_172)), (r2, .inl (c2, 124, .inl s2)), (jT, .inr (8, [.ref t0, .int (nI (kt))])), (t0, .inl (cC, 120, .inl gT))]) hP hD hS hA [0, 1, 2, 3, 4] rfl kc_nd_311 rfl
                have hPc := hCu.1
                have hDc := hCu.2.1
                have hFc := hCu.2.2
                have hKc := hK.sb (tys2 := [(c1, .int), (c2, .int), (cC, .char)]) [0, 1, 2] rfl
                refine va_calli (va_runV (As := [.int (nI (j_9)), .int (nI (wr)), .int (nI (Wr_154))]) (rest := []) ⟨hx, hb, hml, hown, hts⟩ (s_keep4x l dC dI jT t0 cC gT kt hkt hgT bt hbt hb8 jR r1 r2 c1 c2 S1_172 s2 Wr_173 fi q6 q7 bd_180 hfi Pn_174 bd_181 j_9 wr Wr_154 hf9 H_177.size) (cwV 3 hts (kG (List.forall_mem_cons.mpr ⟨(List.mem_cons_of_mem _ (List.mem_append_left _ (List.mem_of_getElem? (i := 54) rfl))), (List.forall_mem_cons.mpr ⟨(List.mem_cons_of_mem _ (List.mem_append_left _ (List.mem_of_getElem? (i := 53) rfl))), (List.forall_mem_cons.mpr ⟨(List.mem_cons_of_mem _ (List.mem_append_left _ (List.mem_of_getElem? (i := 52) rfl))), (List.forall_mem_cons.mpr ⟨(List.mem_cons_of_mem _ (List.mem_append_left _ (List.mem_of_getElem? (i := 0) rfl))), (fun _ h => absurd h List.not_mem_nil)⟩)⟩)⟩)⟩) (kGV _ _ _ _) (fun _ h => List.mem_cons_of_mem _ (List.mem_append_right _ (List.mem_append_right _ (List.mem_append_right _ (List.mem_append_right _ (List.mem_append_right _ (List.mem_append_right _ (List.mem_append_right _ (List.mem_append_right _ (List.mem_append_right _ (List.mem_append_right _ (List.mem_append_right _ (List.mem_append_right _ (List.mem_append_right _ (List.mem_append_right _ h))))))))))))))) gw_s_keep4x) rfl rfl rfl ⟨rfl, hd_X4_keepClause⟩ ⟨(Nat.le_of_ble_eq_true rfl), (Nat.le_of_ble_eq_true rfl)⟩) (kW_V kT_blind kT_give (va_recv hKc hPc (ci := 4) (q0 := 0) rfl rfl) hPc hKc hDc) rfl rfl hl.1 rfl (lv_room (Nat.le_of_ble_eq_true rfl)) dX4_readClause_147 ⟨(Nat.le_of_ble_eq_true rfl), (Nat.le_of_ble_eq_true rfl)⟩) hS (fun q _ h => hFc q h) hFc (fun r_182 => kU2 (fun S2_183 Fi_184 t H_185 locs ht hvm hw hB hz1 hk1 hS => ?_))
                try dsimp only at hw
                have hPD : kPD dC dI A [(jR, .inr (4, [.ref jT, .ref r1, .ref r2, .int (nI (Wr_173)), .int (nI (Fi_184)), .int (nI (Pn_174)), .ref q6, .ref q7])), (r1, .inl (c1, 120, .inl S1_172)), (r2, .inl (c2, 124, .inl S2_183)), (jT, .inr (8, [.ref t0, .int (nI (kt))])), (t0, .inl (cC, 120, .inl gT))] H_185 := kJoinX hP hD [0, 1, 2, 3, 4] rfl hk1 hFc hB.1 ht hB.2.2 rfl [some 0, some 1, some 2, some 3, some 4] rfl rfl
                have hP := hPD.1
                have hD := hPD.2
                obtain ⟨rfl, hw_186⟩ := hw
                refine lv_if_eq (tgt := 157) hx hb dX4_readClause_150 kc_t_150_7 (fun c_187 => absurd c_187 (by decide)) (fun c_187 => ?_)
                refine lv_iconst (v := 1) hx hb dX4_readClause_153 kc_i_1 ?_
                refine lv_goto (tgt := 158) hx hb dX4_readClause_154 kc_t_154_4 ?_
                have hP9 := hP
                have hD9 := hD
                have hK9 := hK
                rw [hQ]
                exact W.zret (v := 1) hx hb hr rfl (fun t ht hW => ⟨⟨1, (S1_172, S2_183, Wr_173, Fi_184, Pn_174, true, (xl_157 ++ xl_176), j_9, ((xl_157).length)), rfl, ⟨rfl, (by unfold kCla; rw [← hw_5_0, ← hw_5_1]; rw [hj_10, if_pos (by omega), hw_20.2.1, kThC_t]; unfold kCla1; rw [← hw_27_0, ← hw_27_1, if_pos (by omega), hw_159.2.1.1, kThC_t]; unfold kCla2; rw [hw_167.2.1, kThC_t, hw_178.2.1.1, kThC_t]), by omega, by omega, by omega, fun _ => ⟨(by first | omega | (simp only [List.length_append]; omega)), (kWrtC hw_159_S hw_159_W hw_178_S), hw_186.1, kKeep hw_186.2 (by first | omega | (simp only [List.length_append]; omega)) (by first | omega | (simp only [List.length_append]; omega)), (by first | omega | (simp only [List.length_append]; omega)), by omega⟩⟩,  by rw [ht]; exact hP9, va_K.moved hW.alike hK9, hD9⟩, hS.F ht⟩) hS.2.2 dX4_readClause_158
          · obtain rfl : xo_156 = false := kBo_f (kZr9 hw_159.1 c_160)
            have hw_159_k := hw_159.2.1.2.1
            refine lv_iconst (v := 0) hx hb dX4_readClause_117 kc_i_0 ?_
            have hP9 := hP
            have hD9 := hD
            have hK9 := hK
            rw [hQ]
            exact W.zret (v := 0) hx hb hr rfl (fun t ht hW => ⟨⟨0, (S1_153, s2, Wr_154, fi, Pn_155, false, ([]), 0, 0), rfl, ⟨rfl, (by unfold kCla; rw [← hw_5_0, ← hw_5_1]; rw [hj_10, if_pos (by omega), hw_20.2.1, kThC_t]; unfold kCla1; rw [← hw_27_0, ← hw_27_1, if_pos (by omega), hw_159.2.1.1]; rfl), by omega, by omega, by omega, fun z => absurd z (by decide)⟩,  by rw [ht]; exact hP9, va_K.moved hW.alike hK9, hD9⟩, hS.F ht⟩) hS.2.2 dX4_readClause_118
    · obtain rfl : xo_18 = false := kBo_f (kZr9 hw_20.1 c_21)
      have hw_20_k := hw_20.2.2.2.1
      refine lv_iconst (v := 0) hx hb dX4_readClause_37 kc_i_0 ?_
      have hP9 := hP
      have hD9 := hD
      have hK9 := hK
      rw [hQ]
      exact W.zret (v := 0) hx hb hr rfl (fun t ht hW => ⟨⟨0, (s1, s2, wr, fi, Pn_17, false, ([]), 0, 0), rfl, ⟨rfl, (by unfold kCla; rw [← hw_5_0, ← hw_5_1]; rw [hj_10, if_pos (by omega), hw_20.2.1]; rfl), by omega, by omega, by omega, fun z => absurd z (by decide)⟩,  by rw [ht]; exact hP9, va_K.moved hW.alike hK9, hD9⟩, hS.F ht⟩) hS.2.2 dX4_readClause_38
