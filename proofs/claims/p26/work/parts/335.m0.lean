theorem dX10_atom_0 : decode cX10_atom 0 = .ok (.aload_n 0, 1) := kDs0 kf_42 (by decide +kernel)
theorem dX10_atom_1 : decode cX10_atom 1 = .ok (.invokevirtual 160, 3) := kDs2 kf_182 (by decide +kernel)
theorem dX10_atom_4 : decode cX10_atom 4 = .ok (.istore_n 1, 1) := kDs0 kf_60 (by decide +kernel)
theorem dX10_atom_5 : decode cX10_atom 5 = .ok (.aload_n 0, 1) := kDs0 kf_42 (by decide +kernel)
theorem dX10_atom_6 : decode cX10_atom 6 = .ok (.getfield 34, 3) := kDs2 kf_180 (by decide +kernel)
theorem dX10_atom_9 : decode cX10_atom 9 = .ok (.iload_n 1, 1) := kDs0 kf_27 (by decide +kernel)
theorem dX10_atom_10 : decode cX10_atom 10 = .ok (.invokestatic 176, 3) := kDs2 kf_184 (by decide +kernel)
theorem dX10_atom_13 : decode cX10_atom 13 = .ok (.ifCond .eq 20, 3) := kDs4 kf_153 (by decide +kernel)
theorem dX10_atom_33 : decode cX10_atom 33 = .ok (.iload_n 1, 1) := kDs0 kf_27 (by decide +kernel)
theorem dX10_atom_34 : decode cX10_atom 34 = .ok (.bipush 91, 2) := kDs3 kf_16 (by decide +kernel)
theorem dX10_atom_36 : decode cX10_atom 36 = .ok (.if_icmp .ne 40, 3) := kDs4 kf_160 (by decide +kernel)
theorem dX10_atom_76 : decode cX10_atom 76 = .ok (.aload_n 0, 1) := kDs0 kf_42 (by decide +kernel)
theorem dX10_atom_77 : decode cX10_atom 77 = .ok (.invokevirtual 190, 3) := kDs2 kf_182 (by decide +kernel)
theorem dX10_atom_80 : decode cX10_atom 80 = .ok (.ifCond .ne 8, 3) := kDs4 kf_154 (by decide +kernel)
theorem dX10_atom_88 : decode cX10_atom 88 = .ok (.iconst 0, 1) := kDs0 kf_3 (by decide +kernel)
theorem dX10_atom_89 : decode cX10_atom 89 = .ok (.istore_n 2, 1) := kDs0 kf_61 (by decide +kernel)
theorem dX10_atom_90 : decode cX10_atom 90 = .ok (.iconst 0, 1) := kDs0 kf_3 (by decide +kernel)
theorem dX10_atom_91 : decode cX10_atom 91 = .ok (.istore_n 3, 1) := kDs0 kf_62 (by decide +kernel)
theorem dX10_atom_92 : decode cX10_atom 92 = .ok (.aload_n 0, 1) := kDs0 kf_42 (by decide +kernel)
theorem dX10_atom_93 : decode cX10_atom 93 = .ok (.invokevirtual 190, 3) := kDs2 kf_182 (by decide +kernel)
theorem dX10_atom_96 : decode cX10_atom 96 = .ok (.ifCond .eq 62, 3) := kDs4 kf_153 (by decide +kernel)
theorem dX10_atom_158 : decode cX10_atom 158 = .ok (.iload_n 2, 1) := kDs0 kf_28 (by decide +kernel)
theorem dX10_atom_159 : decode cX10_atom 159 = .ok (.ireturn, 1) := kDs0 kf_172 (by decide +kernel)
theorem dX10_atom_99 : decode cX10_atom 99 = .ok (.aload_n 0, 1) := kDs0 kf_42 (by decide +kernel)
theorem dX10_atom_100 : decode cX10_atom 100 = .ok (.getfield 150, 3) := kDs2 kf_180 (by decide +kernel)
theorem dX10_atom_103 : decode cX10_atom 103 = .ok (.iconst (-1), 1) := kDs0 kf_2 (by decide +kernel)
theorem dX10_atom_104 : decode cX10_atom 104 = .ok (.if_icmp .ne 54, 3) := kDs4 kf_160 (by decide +kernel)
theorem dX10_atom_107 : decode cX10_atom 107 = .ok (.iload_n 3, 1) := kDs0 kf_29 (by decide +kernel)
theorem dX10_atom_108 : decode cX10_atom 108 = .ok (.iconst 4, 1) := kDs0 kf_7 (by decide +kernel)
theorem dX10_atom_109 : decode cX10_atom 109 = .ok (.if_icmp .ne 10, 3) := kDs4 kf_160 (by decide +kernel)
theorem dX10_atom_119 : decode cX10_atom 119 = .ok (.bipush 10, 2) := kDs3 kf_16 (by decide +kernel)
theorem dX10_atom_121 : decode cX10_atom 121 = .ok (.iload_n 2, 1) := kDs0 kf_28 (by decide +kernel)
theorem dX10_atom_122 : decode cX10_atom 122 = .ok (.imul, 1) := kDs0 kf_104 (by decide +kernel)
theorem dX10_atom_123 : decode cX10_atom 123 = .ok (.aload_n 0, 1) := kDs0 kf_42 (by decide +kernel)
theorem dX10_atom_124 : decode cX10_atom 124 = .ok (.getfield 23, 3) := kDs2 kf_180 (by decide +kernel)
theorem dX10_atom_127 : decode cX10_atom 127 = .ok (.aload_n 0, 1) := kDs0 kf_42 (by decide +kernel)
theorem dX10_atom_128 : decode cX10_atom 128 = .ok (.getfield 147, 3) := kDs2 kf_180 (by decide +kernel)
theorem dX10_atom_131 : decode cX10_atom 131 = .ok (.aload_n 0, 1) := kDs0 kf_42 (by decide +kernel)
theorem dX10_atom_132 : decode cX10_atom 132 = .ok (.getfield 141, 3) := kDs2 kf_180 (by decide +kernel)
theorem dX10_atom_135 : decode cX10_atom 135 = .ok (.iadd, 1) := kDs0 kf_96 (by decide +kernel)
theorem dX10_atom_136 : decode cX10_atom 136 = .ok (.baload, 1) := kDs0 kf_51 (by decide +kernel)
theorem dX10_atom_137 : decode cX10_atom 137 = .ok (.iadd, 1) := kDs0 kf_96 (by decide +kernel)
theorem dX10_atom_138 : decode cX10_atom 138 = .ok (.bipush 48, 2) := kDs3 kf_16 (by decide +kernel)
theorem dX10_atom_140 : decode cX10_atom 140 = .ok (.isub, 1) := kDs0 kf_100 (by decide +kernel)
theorem dX10_atom_141 : decode cX10_atom 141 = .ok (.istore_n 2, 1) := kDs0 kf_61 (by decide +kernel)
theorem dX10_atom_142 : decode cX10_atom 142 = .ok (.aload_n 0, 1) := kDs0 kf_42 (by decide +kernel)
theorem dX10_atom_143 : decode cX10_atom 143 = .ok (.dup, 1) := kDs0 kf_89 (by decide +kernel)
theorem dX10_atom_144 : decode cX10_atom 144 = .ok (.getfield 141, 3) := kDs2 kf_180 (by decide +kernel)
theorem dX10_atom_147 : decode cX10_atom 147 = .ok (.iconst 1, 1) := kDs0 kf_4 (by decide +kernel)
theorem dX10_atom_148 : decode cX10_atom 148 = .ok (.iadd, 1) := kDs0 kf_96 (by decide +kernel)
theorem dX10_atom_149 : decode cX10_atom 149 = .ok (.putfield 141, 3) := kDs2 kf_181 (by decide +kernel)
theorem dX10_atom_152 : decode cX10_atom 152 = .ok (.iinc 3 1, 3) := kDs5 kf_132 (by decide +kernel)
theorem dX10_atom_155 : decode cX10_atom 155 = .ok (.goto (-63), 3) := kDs4 kf_167 (by decide +kernel)
theorem dX10_atom_112 : decode cX10_atom 112 = .ok (.aload_n 0, 1) := kDs0 kf_42 (by decide +kernel)
theorem dX10_atom_113 : decode cX10_atom 113 = .ok (.invokevirtual 156, 3) := kDs2 kf_182 (by decide +kernel)
theorem dX10_atom_116 : decode cX10_atom 116 = .ok (.pop, 1) := kDs0 kf_87 (by decide +kernel)
theorem dX10_atom_117 : decode cX10_atom 117 = .ok (.iconst 0, 1) := kDs0 kf_3 (by decide +kernel)
theorem dX10_atom_118 : decode cX10_atom 118 = .ok (.ireturn, 1) := kDs0 kf_172 (by decide +kernel)
theorem dX10_atom_83 : decode cX10_atom 83 = .ok (.aload_n 0, 1) := kDs0 kf_42 (by decide +kernel)
theorem dX10_atom_84 : decode cX10_atom 84 = .ok (.invokevirtual 156, 3) := kDs2 kf_182 (by decide +kernel)
theorem dX10_atom_87 : decode cX10_atom 87 = .ok (.pop, 1) := kDs0 kf_87 (by decide +kernel)
theorem dX10_atom_39 : decode cX10_atom 39 = .ok (.aload_n 0, 1) := kDs0 kf_42 (by decide +kernel)
theorem dX10_atom_40 : decode cX10_atom 40 = .ok (.invokevirtual 180, 3) := kDs2 kf_182 (by decide +kernel)
theorem dX10_atom_43 : decode cX10_atom 43 = .ok (.ifCond .ne 5, 3) := kDs4 kf_154 (by decide +kernel)
theorem dX10_atom_46 : decode cX10_atom 46 = .ok (.iconst 0, 1) := kDs0 kf_3 (by decide +kernel)
theorem dX10_atom_47 : decode cX10_atom 47 = .ok (.ireturn, 1) := kDs0 kf_172 (by decide +kernel)
theorem dX10_atom_16 : decode cX10_atom 16 = .ok (.aload_n 0, 1) := kDs0 kf_42 (by decide +kernel)
theorem dX10_atom_17 : decode cX10_atom 17 = .ok (.dup, 1) := kDs0 kf_89 (by decide +kernel)
theorem dX10_atom_18 : decode cX10_atom 18 = .ok (.getfield 141, 3) := kDs2 kf_180 (by decide +kernel)
theorem dX10_atom_21 : decode cX10_atom 21 = .ok (.iconst 1, 1) := kDs0 kf_4 (by decide +kernel)
theorem dX10_atom_22 : decode cX10_atom 22 = .ok (.iadd, 1) := kDs0 kf_96 (by decide +kernel)
theorem dX10_atom_23 : decode cX10_atom 23 = .ok (.putfield 141, 3) := kDs2 kf_181 (by decide +kernel)
theorem dX10_atom_26 : decode cX10_atom 26 = .ok (.aload_n 0, 1) := kDs0 kf_42 (by decide +kernel)
theorem dX10_atom_27 : decode cX10_atom 27 = .ok (.getfield 20, 3) := kDs2 kf_180 (by decide +kernel)
theorem dX10_atom_30 : decode cX10_atom 30 = .ok (.iload_n 1, 1) := kDs0 kf_27 (by decide +kernel)
theorem dX10_atom_31 : decode cX10_atom 31 = .ok (.iaload, 1) := kDs0 kf_46 (by decide +kernel)
theorem dX10_atom_32 : decode cX10_atom 32 = .ok (.ireturn, 1) := kDs0 kf_172 (by decide +kernel)
def w_s_atom10x_6 : List Cond := .code yX10_atom cX10_atom 4 (some .int) :: wf_mq
theorem gw_s_atom10x_6 : (w_s_atom10x_6).all goodWord = true := kFamG rfl gf_mq
theorem hd_X10_atom : yX10_atom.cls ≠ "java/lang/invoke/MethodHandle" ∧ yX10_atom.cls ≠ "java/lang/invoke/VarHandle" ∧ (parseMethodDescriptor yX10_atom.desc).map (fun d => d.parameters.length) = some 0 := by decide +kernel
set_option maxHeartbeats 4000000 in
set_option maxRecDepth 100000 in
theorem s_atom10x_6 (l : Launch) (dC : Nat → ClassId) (dI : Nat → Nat → Nat) (jM : Nat) (v0 : Value) (v1 : Value) (v2 : Value) (v3 : Value) (v6 : Value) (v7 : Value) (v8 : Value) (v14 : Value) (v15 : Value) (v18 : Value) (v19 : Value) (v20 : Value) (v21 : Value) (v22 : Value) (v23 : Value) (v24 : Value) (v25 : Value) (v26 : Value) (v27 : Value) (v28 : Value) (v29 : Value) (v30 : Value) (v31 : Value) (v32 : Value) (v33 : Value) (v34 : Value) (v35 : Value) (v36 : Value) (v37 : Value) (v38 : Value) (v39 : Value) (v40 : Value) (v41 : Value) (v42 : Value) (v43 : Value) (v44 : Value) (v45 : Value) (v46 : Value) (v47 : Value) (v48 : Value) (v49 : Value) (v50 : Value) (v51 : Value) (lt : Nat) (q6 : Nat) (q7 : Nat) (tx : Nat) (cT : ClassId) (nT : Nat) (gT : Nat → Int32) (be : Nat) (en : Nat) (a : Nat) (hbe : be + en ≤ nT) (hnT : nT ≤ 1680) (ha : a ≤ en) (bt : Nat → Nat) (hbr : ∀ j : Nat, j < en → gT (be + j) = kSg (bt j)) (hb8 : ∀ j : Nat, bt j < 256) (hb1 : ∀ j : Nat, j < en → 1 ≤ bt j) (hen9 : en ≤ 120) (cE : ClassId) (gE : Nat → Int32) (b6 : Nat) (n6 : Nat) (g6 : Nat → Int32) (hn6 : n6 ≤ 8) (hg6 : ∀ k : Nat, ∃ v : Nat, v < 128 ∧ g6 k = nI v) (b7 : Nat) (n7 : Nat) (g7 : Nat → Int32) (hn7 : n7 ≤ 8) (hg7 : ∀ k : Nat, ∃ v : Nat, v < 128 ∧ g7 k = nI v) (hz6 : kIx g6 n6 (nI 0) = n6) (hz7 : kIx g7 n7 (nI 0) = n7) (hl7 : ∀ c : Nat, c < 256 → kIx g7 n7 (nI c) < n7 → ¬ c = 91 ∧ ¬ (48 ≤ c ∧ c ≤ 57)) (sz : Nat) : Met l yX10_atom w_s_atom10x_6 ({ frames := 7, cells := 0, slots := 0, locals := 420 }) (kW dC dI [.ref jM] [(jM, .inr (10, [v0, v1, v2, v3, .ref lt, .ref tx, v6, v7, v8, .int (nI (be)), .int (nI (en)), .int (nI (a)), .int (-1), .int 6, v14, v15, .ref q6, .ref q7, v18, v19, v20, v21, v22, v23, v24, v25, v26, v27, v28, v29, v30, v31, v32, v33, v34, v35, v36, v37, v38, v39, v40, v41, v42, v43, v44, v45, v46, v47, v48, v49, v50, v51])), (tx, .inl (cT, nT, .inl gT)), (lt, .inl (cE, 128, .inl gE))] [(cT, .byte), (cE, .int)] (kS2 q6 b6 n6 g6 q7 b7 n7 g7 (va_A [(jM, .inr (10, [v0, v1, v2, v3, .ref lt, .ref tx, v6, v7, v8, .int (nI (be)), .int (nI (en)), .int (nI (a)), .int (-1), .int 6, v14, v15, .ref q6, .ref q7, v18, v19, v20, v21, v22, v23, v24, v25, v26, v27, v28, v29, v30, v31, v32, v33, v34, v35, v36, v37, v38, v39, v40, v41, v42, v43, v44, v45, v46, v47, v48, v49, v50, v51])), (tx, .inl (cT, nT, .inl gT)), (lt, .inl (cE, 128, .inl gE))] sz)) sz) (va_Qi (fun (r : Int32) (u : Nat × Int32 × Int32 × Bool × (List Int32)) => match u with | (a1, xf, xd, xo, xl) => (kPM (kAtomD bt en g7 n7 0 a) en a 6 xo a1 xl xf xd ∧ (xo = true → (∀ j : Nat, j < n7 → kBd (kLt gE g7 j)) → r = kVal (kLt gE g7) xl))) (fun (u : Nat × Int32 × Int32 × Bool × (List Int32)) => match u with | (a1, xf, xd, xo, xl) => fun t : State => kB dC dI [(jM, .inr (10, [v0, v1, v2, v3, .ref lt, .ref tx, v6, v7, v8, .int (nI (be)), .int (nI (en)), .int (nI (a1)), .int xf, .int xd, v14, v15, .ref q6, .ref q7, v18, v19, v20, v21, v22, v23, v24, v25, v26, v27, v28, v29, v30, v31, v32, v33, v34, v35, v36, v37, v38, v39, v40, v41, v42, v43, v44, v45, v46, v47, v48, v49, v50, v51])), (tx, .inl (cT, nT, .inl gT)), (lt, .inl (cE, 128, .inl gE))] [(cT, .byte), (cE, .int)] (va_A [(jM, .inr (10, [v0, v1, v2, v3, .ref lt, .ref tx, v6, v7, v8, .int (nI (be)), .int (nI (en)), .int (nI (a)), .int (-1), .int 6, v14, v15, .ref q6, .ref q7, v18, v19, v20, v21, v22, v23, v24, v25, v26, v27, v28, v29, v30, v31, v32, v33, v34, v35, v36, v37, v38, v39, v40, v41, v42, v43, v44, v45, v46, v47, v48, v49, v50, v51])), (tx, .inl (cT, nT, .inl gT)), (lt, .inl (cE, 128, .inl gE))] sz) t) (va_A [(jM, .inr (10, [v0, v1, v2, v3, .ref lt, .ref tx, v6, v7, v8, .int (nI (be)), .int (nI (en)), .int (nI (a)), .int (-1), .int 6, v14, v15, .ref q6, .ref q7, v18, v19, v20, v21, v22, v23, v24, v25, v26, v27, v28, v29, v30, v31, v32, v33, v34, v35, v36, v37, v38, v39, v40, v41, v42, v43, v44, v45, v46, v47, v48, v49, v50, v51])), (tx, .inl (cT, nT, .inl gT)), (lt, .inl (cE, 128, .inl gE))] sz)) 0 0 (va_A [(jM, .inr (10, [v0, v1, v2, v3, .ref lt, .ref tx, v6, v7, v8, .int (nI (be)), .int (nI (en)), .int (nI (a)), .int (-1), .int 6, v14, v15, .ref q6, .ref q7, v18, v19, v20, v21, v22, v23, v24, v25, v26, v27, v28, v29, v30, v31, v32, v33, v34, v35, v36, v37, v38, v39, v40, v41, v42, v43, v44, v45, v46, v47, v48, v49, v50, v51])), (tx, .inl (cT, nT, .inl gT)), (lt, .inl (cE, 128, .inl gE))] sz) := by
  refine Met.ofW (cc := cX10_atom) (maxL := 4) (ret := (some .int)) (by decide) rfl ?_
  intro p e s m args below meth c s₁ B hml hv
  obtain ⟨rfl, hsz, hP, hK, hD0, hX⟩ := hv
  have hx := B.exec
  have hb := B.bytes
  have hr := B.returns
  have hts := atoms_spec (ws := w_s_atom10x_6) B.pre
  have hown : s.vm.findClass RX10 = some m.cls := findClass_of_methodNamed B.named
  have hlocks := B.notSynchronized
  subst hsz
  have hD := hD0.self (sz := s.heap.size)
  generalize hAe : va_A [(jM, .inr (10, [v0, v1, v2, v3, .ref lt, .ref tx, v6, v7, v8, .int (nI (be)), .int (nI (en)), .int (nI (a)), .int (-1), .int 6, v14, v15, .ref q6, .ref q7, v18, v19, v20, v21, v22, v23, v24, v25, v26, v27, v28, v29, v30, v31, v32, v33, v34, v35, v36, v37, v38, v39, v40, v41, v42, v43, v44, v45, v46, v47, v48, v49, v50, v51])), (tx, .inl (cT, nT, .inl gT)), (lt, .inl (cE, 128, .inl gE))] s.heap.size = A at hD hX ⊢
  have hA : ∀ q : Nat, s.heap.size ≤ q → A q := fun q h => by rw [← hAe]; exact Or.inr h
  have hS : va_S A s.heap s.heap [] := va_S.rf
  have hP : va_P (dC, dI) vwCl [(jM, .inr (10, [v0, v1, v2, v3, .ref lt, .ref tx, v6, v7, v8, .int (nI (be)), .int (nI (en)), .int (nI (a)), .int (-1), .int 6, v14, v15, .ref q6, .ref q7, v18, v19, v20, v21, v22, v23, v24, v25, v26, v27, v28, v29, v30, v31, v32, v33, v34, v35, v36, v37, v38, v39, v40, v41, v42, v43, v44, v45, v46, v47, v48, v49, v50, v51])), (tx, .inl (cT, nT, .inl gT)), (lt, .inl (cE, 128, .inl gE))] s.heap := hP
  have hl := lv_entry ([.ref jM]) (n := 4) (Nat.le_of_ble_eq_true rfl)
  rw [lg_entry_eq]
  generalize (lg_sl ([.ref jM]) ++ List.replicate (4 - (lg_sl ([.ref jM])).length) Slot.unset).toArray = ls at hl ⊢
  have hl : lv_has ls 4 [(0, .ref jM)] := hl
  refine kQ (fun Q hQ => ?_)
  refine lv_aload_n hx hb dX10_atom_0 rfl (lv_at hl 0 rfl) ?_
  have bd_1 : be + en ≤ nT := by omega
  have hCu := kCut (wc := [(jM, .inr (10, [v0, v1, v2, v3, .ref lt, .ref tx, v6, v7, v8, .int (nI (be)), .int (nI (en)), .int (nI (a)), .int (-1), .int 6, v14, v15, .ref q6, .ref q7, v18, v19, v20, v21, v22, v23, v24, v25, v26, v27, v28, v29, v30, v31, v32, v33, v34, v35, v36, v37, v38, v39, v40, v41, v42, v43, v44, v45, v46, v47, v48, v49, v50, v51])), (tx, .inl (cT, nT, .inl gT))]) hP hD hS hA [0, 1] rfl kc_nd_434 rfl
  have hPc := hCu.1
  have hDc := hCu.2.1
  have hFc := hCu.2.2
  have hKc := hK.sb (tys2 := [(cT, .byte)]) [0] rfl
  refine va_calli (va_runV (As := []) (rest := []) ⟨hx, hb, hml, hown, hts⟩ (s_look10x l dC dI jM (v0 : Value) (v1 : Value) (v2 : Value) (v3 : Value) (v6 : Value) (v7 : Value) (v8 : Value) (.int (-1) : Value) (.int 6 : Value) (v14 : Value) (v15 : Value) (v18 : Value) (v19 : Value) (v20 : Value) (v21 : Value) (v22 : Value) (v23 : Value) (v24 : Value) (v25 : Value) (v26 : Value) (v27 : Value) (v28 : Value) (v29 : Value) (v30 : Value) (v31 : Value) (v32 : Value) (v33 : Value) (v34 : Value) (v35 : Value) (v36 : Value) (v37 : Value) (v38 : Value) (v39 : Value) (v40 : Value) (v41 : Value) (v42 : Value) (v43 : Value) (v44 : Value) (v45 : Value) (v46 : Value) (v47 : Value) (v48 : Value) (v49 : Value) (v50 : Value) (v51 : Value) lt q6 q7 tx cT nT gT be en a bd_1 hnT ha bt hbr hb8 hb1 hen9 s.heap.size) (cwV 0 hts (kG (List.forall_mem_cons.mpr ⟨(List.mem_cons_of_mem _ (List.mem_append_left _ (List.mem_of_getElem? (i := 3) rfl))), (List.forall_mem_cons.mpr ⟨(List.mem_cons_of_mem _ (List.mem_append_left _ (List.mem_of_getElem? (i := 2) rfl))), (List.forall_mem_cons.mpr ⟨(List.mem_cons_of_mem _ (List.mem_append_left _ (List.mem_of_getElem? (i := 1) rfl))), (List.forall_mem_cons.mpr ⟨(List.mem_cons_of_mem _ (List.mem_append_left _ (List.mem_of_getElem? (i := 0) rfl))), (fun _ h => absurd h List.not_mem_nil)⟩)⟩)⟩)⟩) (kGV _ _ _ _) (fun _ h => List.mem_cons_of_mem _ (List.mem_append_right _ (List.mem_append_left _ h))) gw_s_look10x) rfl rfl rfl ⟨rfl, hd_X10_look⟩ ⟨(Nat.le_of_ble_eq_true rfl), (Nat.le_of_ble_eq_true rfl)⟩) (kW_V kT_blind kT_give (va_recv hKc hPc (ci := 10) (q0 := 0) rfl rfl) hPc hKc hDc) rfl rfl hl.1 rfl (lv_room (Nat.le_of_ble_eq_true rfl)) dX10_atom_1 ⟨(Nat.le_of_ble_eq_true rfl), (Nat.le_of_ble_eq_true rfl)⟩) hS (fun q _ h => hFc q h) hFc (fun r_2 => kU2 (fun a1_3 ch_4 t H_5 locs ht hvm hw hB hz1 hk1 hS => ?_))
  try dsimp only at hw
  have hPD : kPD dC dI A [(jM, .inr (10, [(v0 : Value), (v1 : Value), (v2 : Value), (v3 : Value), .ref lt, .ref tx, (v6 : Value), (v7 : Value), (v8 : Value), .int (nI (be)), .int (nI (en)), .int (nI (a1_3)), .int (-1), .int 6, (v14 : Value), (v15 : Value), .ref q6, .ref q7, (v18 : Value), (v19 : Value), (v20 : Value), (v21 : Value), (v22 : Value), (v23 : Value), (v24 : Value), (v25 : Value), (v26 : Value), (v27 : Value), (v28 : Value), (v29 : Value), (v30 : Value), (v31 : Value), (v32 : Value), (v33 : Value), (v34 : Value), (v35 : Value), (v36 : Value), (v37 : Value), (v38 : Value), (v39 : Value), (v40 : Value), (v41 : Value), (v42 : Value), (v43 : Value), (v44 : Value), (v45 : Value), (v46 : Value), (v47 : Value), (v48 : Value), (v49 : Value), (v50 : Value), (v51 : Value)])), (tx, .inl (cT, nT, .inl gT)), (lt, .inl (cE, 128, .inl gE))] H_5 := kJoinX hP hD [0, 1] rfl hk1 hFc hB.1 ht hB.2.2 rfl [some 0, some 1, none] rfl rfl
  obtain ⟨hP, hD⟩ := hPD
  have hw_6 := hw
  have hw_6_0 := hw_6.1
  have hw_6_1 := hw_6.2.1
  have hw_6_2 := hw_6.2.2.1
  have hw_6_3 := hw_6.2.2.2.1
  have hw_6_4 := hw_6.2.2.2.2.1
  have hw_6_5 := hw_6.2.2.2.2.2.1
  have hw_6_6 := hw_6.2.2.2.2.2.2.1
  have hw_6_7 := hw_6.2.2.2.2.2.2.2
  clear hw_6
  refine lv_istore_n hx hb dX10_atom_4 rfl hl kc_l_1_4 (kTo [(1, .int r_2), (0, .ref jM)]) (fun ls hl => ?_)
  refine lv_aload_n hx hb dX10_atom_5 rfl (lv_at hl 1 rfl) ?_
  refine va_get (D := (dC, dI)) (ci := 10) (v := .ref q7) (C := RX10) (T := TX10) (N := 52) hx hb hts (fun _ h => List.mem_cons_of_mem _ (List.mem_append_right _ (List.mem_append_right _ (List.mem_append_left _ h)))) hown hK hP 0 rfl rfl 17 kc_l_17_52 (hts (.fieldLink RX10 34 "NotEndedModel" "allowed" "Ljava/lang/String;") (List.mem_cons_of_mem _ (List.mem_append_left _ (List.mem_of_getElem? (i := 4) rfl)))) (fun _ h9 => h9) rfl dX10_atom_6 ?_
  refine lv_iload_n hx hb dX10_atom_9 rfl (lv_at hl 0 rfl) ?_
  have hPc := hP.sb (ws2 := []) [] rfl
  have hKc := hK.sb (tys2 := []) [] rfl
  refine vp_callSi (va_runS (As := [.ref q7, .int r_2]) (rest := []) ⟨hx, hb, hml, hown, hts⟩ (s_among10x l dC dI q7 b7 n7 g7 hn7 A hg7 r_2) (va_cwS 2 hts (kG (List.forall_mem_cons.mpr ⟨(List.mem_cons_of_mem _ (List.mem_append_left _ (List.mem_of_getElem? (i := 6) rfl))), (List.forall_mem_cons.mpr ⟨(List.mem_cons_of_mem _ (List.mem_append_left _ (List.mem_of_getElem? (i := 5) rfl))), (List.forall_mem_cons.mpr ⟨(List.mem_cons_of_mem _ (List.mem_append_left _ (List.mem_of_getElem? (i := 0) rfl))), (fun _ h => absurd h List.not_mem_nil)⟩)⟩)⟩) (kGS _ _ _) (fun _ h => List.mem_cons_of_mem _ (List.mem_append_right _ (List.mem_append_right _ (List.mem_append_right _ (List.mem_append_left _ h))))) gw_s_among10x) rfl rfl rfl hd_X10_isAmong ⟨(Nat.le_of_ble_eq_true rfl), (Nat.le_of_ble_eq_true rfl)⟩) (kR_S kSt_blind (kSt_give hX.2 hS) hPc hKc) rfl rfl hl.1 rfl (lv_room (Nat.le_of_ble_eq_true rfl)) dX10_atom_10 ⟨(Nat.le_of_ble_eq_true rfl), (Nat.le_of_ble_eq_true rfl)⟩).run (fun r_7 hw => ?_)
  have hw_8 := hw
  refine lv_if_eq (tgt := 33) hx hb dX10_atom_13 kc_t_13_20 (fun c_9 => ?_) (fun c_9 => ?_)
  · have ha_10 : ¬ (kIx g7 n7 r_2 < n7) := fun z9 => hw_8.1.mpr z9 c_9
    rw [kIx_lr hg7 hz7 hw_6_0] at ha_10
    refine lv_iload_n hx hb dX10_atom_33 rfl (lv_at hl 0 rfl) ?_
    refine lv_bipush (v := 91) hx hb dX10_atom_34 kc_b_91 ?_
    refine lv_icmp_ne (tgt := 76) hx hb dX10_atom_36 kc_t_36_40 (fun c_11 => ?_) (fun c_11 => ?_)
    · have hk_12 := kLr_n hw_6_0 (by omega) (k := 91) (by decide) c_11
      refine lv_aload_n hx hb dX10_atom_76 rfl (lv_at hl 1 rfl) ?_
      have bd_13 : a1_3 ≤ en := by omega
      have hPc := hP.sb (ws2 := [(jM, .inr (10, [(v0 : Value), (v1 : Value), (v2 : Value), (v3 : Value), .ref lt, .ref tx, (v6 : Value), (v7 : Value), (v8 : Value), .int (nI (be)), .int (nI (en)), .int (nI (a1_3)), .int (-1), .int 6, (v14 : Value), (v15 : Value), .ref q6, .ref q7, (v18 : Value), (v19 : Value), (v20 : Value), (v21 : Value), (v22 : Value), (v23 : Value), (v24 : Value), (v25 : Value), (v26 : Value), (v27 : Value), (v28 : Value), (v29 : Value), (v30 : Value), (v31 : Value), (v32 : Value), (v33 : Value), (v34 : Value), (v35 : Value), (v36 : Value), (v37 : Value), (v38 : Value), (v39 : Value), (v40 : Value), (v41 : Value), (v42 : Value), (v43 : Value), (v44 : Value), (v45 : Value), (v46 : Value), (v47 : Value), (v48 : Value), (v49 : Value), (v50 : Value), (v51 : Value)])), (tx, .inl (cT, nT, .inl gT))]) [0, 1] rfl
      have hKc := hK.sb (tys2 := [(cT, .byte)]) [0] rfl
      refine vp_callSi (va_runV (As := []) (rest := []) ⟨hx, hb, hml, hown, hts⟩ (s_isDigit10x l dC dI jM ((v0 : Value) : Value) ((v1 : Value) : Value) ((v2 : Value) : Value) ((v3 : Value) : Value) ((v6 : Value) : Value) ((v7 : Value) : Value) ((v8 : Value) : Value) (.int (-1) : Value) (.int 6 : Value) ((v14 : Value) : Value) ((v15 : Value) : Value) ((v18 : Value) : Value) ((v19 : Value) : Value) ((v20 : Value) : Value) ((v21 : Value) : Value) ((v22 : Value) : Value) ((v23 : Value) : Value) ((v24 : Value) : Value) ((v25 : Value) : Value) ((v26 : Value) : Value) ((v27 : Value) : Value) ((v28 : Value) : Value) ((v29 : Value) : Value) ((v30 : Value) : Value) ((v31 : Value) : Value) ((v32 : Value) : Value) ((v33 : Value) : Value) ((v34 : Value) : Value) ((v35 : Value) : Value) ((v36 : Value) : Value) ((v37 : Value) : Value) ((v38 : Value) : Value) ((v39 : Value) : Value) ((v40 : Value) : Value) ((v41 : Value) : Value) ((v42 : Value) : Value) ((v43 : Value) : Value) ((v44 : Value) : Value) ((v45 : Value) : Value) ((v46 : Value) : Value) ((v47 : Value) : Value) ((v48 : Value) : Value) ((v49 : Value) : Value) ((v50 : Value) : Value) ((v51 : Value) : Value) lt q6 q7 tx cT nT gT be en a1_3 bd_1 hnT bd_13 bt hbr hb8 hb1 hen9) (cwV 0 hts (kG (List.forall_mem_cons.mpr ⟨(List.mem_cons_of_mem _ (List.mem_append_left _ (List.mem_of_getElem? (i := 9) rfl))), (List.forall_mem_cons.mpr ⟨(List.mem_cons_of_mem _ (List.mem_append_left _ (List.mem_of_getElem? (i := 8) rfl))), (List.forall_mem_cons.mpr ⟨(List.mem_cons_of_mem _ (List.mem_append_left _ (List.mem_of_getElem? (i := 7) rfl))), (List.forall_mem_cons.mpr ⟨(List.mem_cons_of_mem _ (List.mem_append_left _ (List.mem_of_getElem? (i := 0) rfl))), (fun _ h => absurd h List.not_mem_nil)⟩)⟩)⟩)⟩) (kGV _ _ _ _) (fun _ h => List.mem_cons_of_mem _ (List.mem_append_right _ (List.mem_append_right _ (List.mem_append_right _ (List.mem_append_right _ (List.mem_append_left _ h)))))) gw_s_isDigit10x) rfl rfl rfl ⟨rfl, hd_X10_isDigit⟩ ⟨(Nat.le_of_ble_eq_true rfl), (Nat.le_of_ble_eq_true rfl)⟩) (kR_V kT_blind kT_give (va_recv hKc hPc (ci := 10) (q0 := 0) rfl rfl) hPc hKc) rfl rfl hl.1 rfl (lv_room (Nat.le_of_ble_eq_true rfl)) dX10_atom_77 ⟨(Nat.le_of_ble_eq_true rfl), (Nat.le_of_ble_eq_true rfl)⟩).run (fun r_14 hw => ?_)
      have hw_15 := hw
      refine lv_if_ne (tgt := 88) hx hb dX10_atom_80 kc_t_80_8 (fun c_16 => ?_) (fun c_16 => ?_)
      · have hd_17 := hw_15.2.mp c_16
        have hd_17_1 := kAt_lt (b := bt) (n := en) (p := a1_3) (by omega)
        refine lv_iconst (v := 0) hx hb dX10_atom_88 kc_i_0 ?_
        refine lv_istore_n hx hb dX10_atom_89 rfl hl kc_l_2_4 (kTo [(2, .int 0), (1, .int r_2), (0, .ref jM)]) (fun ls hl => ?_)
        refine lv_iconst (v := 0) hx hb dX10_atom_90 kc_i_0 ?_
        refine lv_istore_n hx hb dX10_atom_91 rfl hl kc_l_3_4 (kTo [(3, .int 0), (2, .int 0), (1, .int r_2), (0, .ref jM)]) (fun ls hl => ?_)
        have lp_k_18 : ∀ (n9 : Nat) (i : Nat) (xv : Nat) (xg : Nat) (ivk_18_0 : xg ≤ 4) (ivk_18_1 : i ≤ en) (ivk_18_2 : kNumL bt en (4 - xg) i xv = kNumL bt en 4 a1_3 0) (ivk_18_3 : i = a1_3 + xg) (ivk_18_4 : xv < 10 ^ xg) (H : Heap) (locs : List Loc) (_ : va_P (dC, dI) vwCl [(jM, .inr (10, [(v0 : Value), (v1 : Value), (v2 : Value), (v3 : Value), .ref lt, .ref tx, (v6 : Value), (v7 : Value), (v8 : Value), .int (nI (be)), .int (nI (en)), .int (nI (i)), .int (-1), .int 6, (v14 : Value), (v15 : Value), .ref q6, .ref q7, (v18 : Value), (v19 : Value), (v20 : Value), (v21 : Value), (v22 : Value), (v23 : Value), (v24 : Value), (v25 : Value), (v26 : Value), (v27 : Value), (v28 : Value), (v29 : Value), (v30 : Value), (v31 : Value), (v32 : Value), (v33 : Value), (v34 : Value), (v35 : Value), (v36 : Value), (v37 : Value), (v38 : Value), (v39 : Value), (v40 : Value), (v41 : Value), (v42 : Value), (v43 : Value), (v44 : Value), (v45 : Value), (v46 : Value), (v47 : Value), (v48 : Value), (v49 : Value), (v50 : Value), (v51 : Value)])), (tx, .inl (cT, nT, .inl gT)), (lt, .inl (cE, 128, .inl gE))] H) (_ : va_D A [(jM, .inr (10, [(v0 : Value), (v1 : Value), (v2 : Value), (v3 : Value), .ref lt, .ref tx, (v6 : Value), (v7 : Value), (v8 : Value), .int (nI (be)), .int (nI (en)), .int (nI (i)), .int (-1), .int 6, (v14 : Value), (v15 : Value), .ref q6, .ref q7, (v18 : Value), (v19 : Value), (v20 : Value), (v21 : Value), (v22 : Value), (v23 : Value), (v24 : Value), (v25 : Value), (v26 : Value), (v27 : Value), (v28 : Value), (v29 : Value), (v30 : Value), (v31 : Value), (v32 : Value), (v33 : Value), (v34 : Value), (v35 : Value), (v36 : Value), (v37 : Value), (v38 : Value), (v39 : Value), (v40 : Value), (v41 : Value), (v42 : Value), (v43 : Value), (v44 : Value), (v45 : Value), (v46 : Value), (v47 : Value), (v48 : Value), (v49 : Value), (v50 : Value), (v51 : Value)])), (tx, .inl (cT, nT, .inl gT)), (lt, .inl (cE, 128, .inl gE))]) (_ : va_S A s.heap H locs) (ls : Array Slot) (_ : lv_has ls 4 [(3, .int (nI (xg))), (2, .int (nI (xv))), (1, .int r_2), (0, .ref jM)]) (_ : en - i < n9), W p l e (headSpec w_s_atom10x_6 ({ frames := 7, cells := 0, slots := 0, locals := 420 })).room s m (#[.ref jM] : Array Value) below meth c H locs 0 0 Q (F0 m 92 ls []) := by
          intro n9
          induction n9 with
          | zero => intro i xv xg ivk_18_0 ivk_18_1 ivk_18_2 ivk_18_3 ivk_18_4 H locs hP hD hS ls hl hm9; exact absurd hm9 (Nat.not_lt_zero _)
          | succ n9 ih_k_18 =>
            intro i xv xg ivk_18_0 ivk_18_1 ivk_18_2 ivk_18_3 ivk_18_4 H locs hP hD hS ls hl hm9
            refine lv_aload_n hx hb dX10_atom_92 rfl (lv_at hl 3 rfl) ?_
            have bd_19 : i ≤ en := by omega
            have hPc := hP.sb (ws2 := [(jM, .inr (10, [(v0 : Value), (v1 : Value), (v2 : Value), (v3 : Value), .ref lt, .ref tx, (v6 : Value), (v7 : Value), (v8 : Value), .int (nI (be)), .int (nI (en)), .int (nI (i)), .int (-1), .int 6, (v14 : Value), (v15 : Value), .ref q6, .ref q7, (v18 : Value), (v19 : Value), (v20 : Value), (v21 : Value), (v22 : Value), (v23 : Value), (v24 : Value), (v25 : Value), (v26 : Value), (v27 : Value), (v28 : Value), (v29 : Value), (v30 : Value), (v31 : Value), (v32 : Value), (v33 : Value), (v34 : Value), (v35 : Value), (v36 : Value), (v37 : Value), (v38 : Value), (v39 : Value), (v40 : Value), (v41 : Value), (v42 : Value), (v43 : Value), (v44 : Value), (v45 : Value), (v46 : Value), (v47 : Value), (v48 : Value), (v49 : Value), (v50 : Value), (v51 : Value)])), (tx, .inl (cT, nT, .inl gT))]) [0, 1] rfl
            have hKc := hK.sb (tys2 := [(cT, .byte)]) [0] rfl
            refine vp_callSi (va_runV (As := []) (rest := []) ⟨hx, hb, hml, hown, hts⟩ (s_isDigit10x l dC dI jM ((v0 : Value) : Value) ((v1 : Value) : Value) ((v2 : Value) : Value) ((v3 : Value) : Value) ((v6 : Value) : Value) ((v7 : Value) : Value) ((v8 : Value) : Value) (.int (-1) : Value) (.int 6 : Value) ((v14 : Value) : Value) ((v15 : Value) : Value) ((v18 : Value) : Value) ((v19 : Value) : Value) ((v20 : Value) : Value) ((v21 : Value) : Value) ((v22 : Value) : Value) ((v23 : Value) : Value) ((v24 : Value) : Value) ((v25 : Value) : Value) ((v26 : Value) : Value) ((v27 : Value) : Value) ((v28 : Value) : Value) ((v29 : Value) : Value) ((v30 : Value) : Value) ((v31 : Value) : Value) ((v32 : Value) : Value) ((v33 : Value) : Value) ((v34 : Value) : Value) ((v35 : Value) : Value) ((v36 : Value) : Value) ((v37 : Value) : Value) ((v38 : Value) : Value) ((v39 : Value) : Value) ((v40 : Value) : Value) ((v41 : Value) : Value) ((v42 : Value) : Value) ((v43 : Value) : Value) ((v44 : Value) : Value) ((v45 : Value) : Value) ((v46 : Value) : Value) ((v47 : Value) : Value) ((v48 : Value) : Value) ((v49 : Value) : Value) ((v50 : Value) : Value) ((v51 : Value) : Value) lt q6 q7 tx cT nT gT be en i bd_1 hnT bd_19 bt hbr hb8 hb1 hen9) (cwV 0 hts (kG (List.forall_mem_cons.mpr ⟨(List.mem_cons_of_mem _ (List.mem_append_left _ (List.mem_of_getElem? (i := 9) rfl))), (List.forall_mem_cons.mpr ⟨(List.mem_cons_of_mem _ (List.mem_append_left _ (List.mem_of_getElem? (i := 8) rfl))), (List.forall_mem_cons.mpr ⟨(List.mem_cons_of_mem _ (List.mem_append_left _ (List.mem_of_getElem? (i := 7) rfl))), (List.forall_mem_cons.mpr ⟨(List.mem_cons_of_mem _ (List.mem_append_left _ (List.mem_of_getElem? (i := 0) rfl))), (fun _ h => absurd h List.not_mem_nil)⟩)⟩)⟩)⟩) (kGV _ _ _ _) (fun _ h => List.mem_cons_of_mem _ (List.mem_append_right _ (List.mem_append_right _ (List.mem_append_right _ (List.mem_append_right _ (List.mem_append_left _ h)))))) gw_s_isDigit10x) rfl rfl rfl ⟨rfl, hd_X10_isDigit⟩ ⟨(Nat.le_of_ble_eq_true rfl), (Nat.le_of_ble_eq_true rfl)⟩) (kR_V kT_blind kT_give (va_recv hKc hPc (ci := 10) (q0 := 0) rfl rfl) hPc hKc) rfl rfl hl.1 rfl (lv_room (Nat.le_of_ble_eq_true rfl)) dX10_atom_93 ⟨(Nat.le_of_ble_eq_true rfl), (Nat.le_of_ble_eq_true rfl)⟩).run (fun r_20 hw => ?_)
            have hw_21 := hw
            refine lv_if_eq (tgt := 158) hx hb dX10_atom_96 kc_t_96_62 (fun c_22 => ?_) (fun c_22 => ?_)
            · have hd_23 : ¬ (48 ≤ kAt bt en i ∧ kAt bt en i ≤ 57) := fun z9 => hw_21.2.mpr z9 c_22
              refine lv_iload_n hx hb dX10_atom_158 rfl (lv_at hl 1 rfl) ?_
              have hlt9 : ¬ xg = 0 := by intro z9; have e9 : i = a1_3 := (by omega); rw [e9] at hd_23; exact absurd (show 48 ≤ kAt bt en a1_3 ∧ kAt bt en a1_3 ≤ 57 by omega) hd_23
              have hP9 := hP
              have hD9 := hD
              have hK9 := hK
              rw [hQ]
              exact W.iret (v := nI (xv)) hx hb hr (fun t ht hW => ⟨⟨nI (xv), (i, (-1), 6, true, ([nI (xv)])), rfl, ⟨(kPM_t (A := kAtomD bt en g7 n7 0) rfl (kAtomD_good hz7 0) (by omega) ((kAtomD_z a).trans (by unfold kAtomF; rw [← hw_6_1, ← hw_6_2]; rw [if_neg (by omega), if_pos (kDg_t.mpr (by omega))]; exact kNum_t (by rw [← ivk_18_2]; first | (rw [show 4 - xg = 0 by omega]; rfl) | exact kNumL_n (by assumption)) (by assumption)))), fun _ hbd => (kVal_nn (Nat.lt_of_lt_of_le ivk_18_4 (Nat.pow_le_pow_right (by decide) ivk_18_0 : 10 ^ xg ≤ 10 ^ 4))).symm⟩,  by rw [ht]; exact hP9, va_K.moved hW.alike hK9, hD9⟩, hS.F ht⟩) hS.2.2 dX10_atom_159
            · have hd_24 := hw_21.2.mp c_22
              have hd_24_1 := kAt_lt (b := bt) (n := en) (p := i) (by omega)
              refine lv_aload_n hx hb dX10_atom_99 rfl (lv_at hl 3 rfl) ?_
              refine va_get (D := (dC, dI)) (ci := 10) (v := .int (-1)) (C := RX10) (T := TX10) (N := 52) hx hb hts (fun _ h => List.mem_cons_of_mem _ (List.mem_append_right _ (List.mem_append_right _ (List.mem_append_left _ h)))) hown hK hP 0 rfl rfl 12 kc_l_12_52 (hts (.fieldLink RX10 150 "NotEndedModel" "fault" "I") (List.mem_cons_of_mem _ (List.mem_append_left _ (List.mem_of_getElem? (i := 10) rfl)))) (fun _ h9 => h9) rfl dX10_atom_100 ?_
              refine lv_iconst (v := (-1)) hx hb dX10_atom_103 kc_i_m1 ?_
              refine lv_icmp_ne (tgt := 158) hx hb dX10_atom_104 kc_t_104_54 (fun c_25 => absurd (by decide) c_25) (fun c_25 => ?_)
              refine lv_iload_n hx hb dX10_atom_107 rfl (lv_at hl 0 rfl) ?_
              refine lv_iconst (v := 4) hx hb dX10_atom_108 kc_i_4 ?_
              refine lv_icmp_ne (tgt := 119) hx hb dX10_atom_109 kc_t_109_10 (fun c_26 => ?_) (fun c_26 => ?_)
              · have bd_28 : xg < 2147483648 := by omega
                have hn_27 := kneq (a := xg) (b := 4) bd_28 kc_31_4 c_26
                refine lv_bipush (v := 10) hx hb dX10_atom_119 kc_b_10 ?_
                refine lv_iload_n hx hb dX10_atom_121 rfl (lv_at hl 1 rfl) ?_
                refine lv_imul hx hb dX10_atom_122 ?_
                refine lv_topi (fun y_29 ey_29 => ?_)
                obtain rfl : y_29 = nI ((10) * (xv)) := ey_29.trans (pk_mul _ _)
                refine lv_aload_n hx hb dX10_atom_123 rfl (lv_at hl 3 rfl) ?_
                refine va_get (D := (dC, dI)) (ci := 10) (v := .ref tx) (C := RX10) (T := TX10) (N := 52) hx hb hts (fun _ h => List.mem_cons_of_mem _ (List.mem_append_right _ (List.mem_append_right _ (List.mem_append_left _ h)))) hown hK hP 0 rfl rfl 5 kc_l_5_52 (hts (.fieldLink RX10 23 "NotEndedModel" "text" "[B") (List.mem_cons_of_mem _ (List.mem_append_left _ (List.mem_of_getElem? (i := 11) rfl)))) (fun _ h9 => h9) rfl dX10_atom_124 ?_
                refine lv_aload_n hx hb dX10_atom_127 rfl (lv_at hl 3 rfl) ?_
                refine va_get (D := (dC, dI)) (ci := 10) (v := .int (nI (be))) (C := RX10) (T := TX10) (N := 52) hx hb hts (fun _ h => List.mem_cons_of_mem _ (List.mem_append_right _ (List.mem_append_right _ (List.mem_append_left _ h)))) hown hK hP 0 rfl rfl 9 kc_l_9_52 (hts (.fieldLink RX10 147 "NotEndedModel" "begins" "I") (List.mem_cons_of_mem _ (List.mem_append_left _ (List.mem_of_getElem? (i := 12) rfl)))) (fun _ h9 => h9) rfl dX10_atom_128 ?_
                refine lv_aload_n hx hb dX10_atom_131 rfl (lv_at hl 3 rfl) ?_
                refine va_get (D := (dC, dI)) (ci := 10) (v := .int (nI (i))) (C := RX10) (T := TX10) (N := 52) hx hb hts (fun _ h => List.mem_cons_of_mem _ (List.mem_append_right _ (List.mem_append_right _ (List.mem_append_left _ h)))) hown hK hP 0 rfl rfl 11 kc_l_11_52 (hts (.fieldLink RX10 141 "NotEndedModel" "at" "I") (List.mem_cons_of_mem _ (List.mem_append_left _ (List.mem_of_getElem? (i := 13) rfl)))) (fun _ h9 => h9) rfl dX10_atom_132 ?_
                refine lv_iadd hx hb dX10_atom_135 ?_
                refine lv_topi (fun y_30 ey_30 => ?_)
                obtain rfl : y_30 = nI (be + i) := ey_30.trans (nI_add (be) (i))
                have bd_31 : be + i < nT := by omega
                have bd_32 : nT < 2147483648 := by omega
                refine va_bald hx hb hK hP 1 0 rfl rfl (vp_in_nI (n := be + i) (N := nT) bd_31 bd_32) dX10_atom_136 ?_
                refine lv_topi (fun x_33 ex_33 => ?_)
                obtain rfl : x_33 = nI (bt i) := by rw [ex_33, nI_clamp (n := be + i) (by omega), hbr i (by omega)]; exact kSgD (hb8 i) (by rw [← kAt_in (b := bt) (n := en) (p := i) (by omega)]; omega)
                have hb9 := hb8 i
                have hv9 := kAt_in (b := bt) (n := en) (p := i) (by omega)
                refine lv_iadd hx hb dX10_atom_137 ?_
                refine lv_topi (fun y_34 ey_34 => ?_)
                obtain rfl : y_34 = nI ((10) * (xv) + bt i) := ey_34.trans (nI_add ((10) * (xv)) (bt i))
                refine lv_bipush (v := 48) hx hb dX10_atom_138 kc_b_48 ?_
                refine lv_isub hx hb dX10_atom_140 ?_
                refine lv_topi (fun y_35 ey_35 => ?_)
                obtain rfl : y_35 = nI ((10) * (xv) + bt i - 48) := ey_35.trans (pk_sub (a := (10) * (xv) + bt i) (b := 48) (by omega))
                refine lv_istore_n hx hb dX10_atom_141 rfl hl kc_l_2_4 (kTo [(2, .int (nI ((10) * (xv) + bt i - 48))), (3, .int (nI (xg))), (1, .int r_2), (0, .ref jM)]) (fun ls hl => ?_)
                refine lv_aload_n hx hb dX10_atom_142 rfl (lv_at hl 3 rfl) ?_
                refine lv_dup hx hb dX10_atom_143 rfl ?_
                refine va_get (D := (dC, dI)) (ci := 10) (v := .int (nI (i))) (C := RX10) (T := TX10) (N := 52) hx hb hts (fun _ h => List.mem_cons_of_mem _ (List.mem_append_right _ (List.mem_append_right _ (List.mem_append_left _ h)))) hown hK hP 0 rfl rfl 11 kc_l_11_52 (hts (.fieldLink RX10 141 "NotEndedModel" "at" "I") (List.mem_cons_of_mem _ (List.mem_append_left _ (List.mem_of_getElem? (i := 13) rfl)))) (fun _ h9 => h9) rfl dX10_atom_144 ?_
                refine lv_iconst (v := 1) hx hb dX10_atom_147 kc_i_1 ?_
                refine lv_iadd hx hb dX10_atom_148 ?_
                refine lv_topi (fun y_36 ey_36 => ?_)
                obtain rfl : y_36 = nI (i + 1) := ey_36.trans (nI_add (i) (1))
                refine va_put (D := (dC, dI)) (ci := 10) (v := .int (nI (i + 1))) (ty := tyX10 11) (C := RX10) (T := TX10) (N := 52) hx hb hts (fun _ h => List.mem_cons_of_mem _ (List.mem_append_right _ (List.mem_append_right _ (List.mem_append_left _ h)))) tyX10 tyX10_ok nmX10 hown hK hP hD hS 0 rfl rfl 11 kc_l_11_52 (hts (.fieldLink RX10 141 "NotEndedModel" "at" "I") (List.mem_cons_of_mem _ (List.mem_append_left _ (List.mem_of_getElem? (i := 13) rfl)))) (fun _ h9 => h9) rfl (tyX10_ok 11 kc_l_11_52) rfl rfl (Nat.le_of_ble_eq_true rfl) dX10_atom_149 (fun H locs hP hD hS => ?_)
                have hPD : kPD dC dI A [(jM, .inr (10, [(v0 : Value), (v1 : Value), (v2 : Value), (v3 : Value), .ref lt, .ref tx, (v6 : Value), (v7 : Value), (v8 : Value), .int (nI (be)), .int (nI (en)), .int (nI (i + 1)), .int (-1), .int 6, (v14 : Value), (v15 : Value), .ref q6, .ref q7, (v18 : Value), (v19 : Value), (v20 : Value), (v21 : Value), (v22 : Value), (v23 : Value), (v24 : Value), (v25 : Value), (v26 : Value), (v27 : Value), (v28 : Value), (v29 : Value), (v30 : Value), (v31 : Value), (v32 : Value), (v33 : Value), (v34 : Value), (v35 : Value), (v36 : Value), (v37 : Value), (v38 : Value), (v39 : Value), (v40 : Value), (v41 : Value), (v42 : Value), (v43 : Value), (v44 : Value), (v45 : Value), (v46 : Value), (v47 : Value), (v48 : Value), (v49 : Value), (v50 : Value), (v51 : Value)])), (tx, .inl (cT, nT, .inl gT)), (lt, .inl (cE, 128, .inl gE))] H := ⟨hP, hD⟩
                obtain ⟨hP, hD⟩ := hPD
                refine lv_iinc (v := nI (xg + 1)) hx hb dX10_atom_152 hl (k := 1) rfl (kInc _ 1) kc_l_3_4 (kTo [(3, .int (nI (xg + 1))), (2, .int (nI ((10) * (xv) + bt i - 48))), (1, .int r_2), (0, .ref jM)]) (fun ls hl => ?_)
                refine lv_goto (tgt := 92) hx hb dX10_atom_155 kc_t_155_m63 ?_
                exact ih_k_18 (i + 1) ((10) * (xv) + bt i - 48) (xg + 1) (by omega) (by omega) (by rw [← ivk_18_2, show 4 - xg = (4 - (xg + 1)) + 1 by omega, kNumL_s (by assumption)]; congr 1; omega) (by omega) (by have h10 := Nat.pow_succ 10 xg; rw [show xg.succ = xg + 1 from rfl] at h10; omega) _ _ hP hD hS ls (lv_sub hl [0, 1, 2, 3] rfl) (by omega)
              · have bd_38 : xg < 2147483648 := by omega
                have hn_37 := keq (a := xg) (b := 4) bd_38 kc_31_4 c_26
                refine lv_aload_n hx hb dX10_atom_112 rfl (lv_at hl 3 rfl) ?_
                have bd_39 : en ≤ 1680 := by omega
                have hCu := kCut (wc := [(jM, .inr (10, [(v0 : Value), (v1 : Value), (v2 : Value), (v3 : Value), .ref lt, .ref tx, (v6 : Value), (v7 : Value), (v8 : Value), .int (nI (be)), .int (nI (en)), .int (nI (i)), .int (-1), .int 6, (v14 : Value), (v15 : Value), .ref q6, .ref q7, (v18 : Value), (v19 : Value), (v20 : Value), (v21 : Value), (v22 : Value), (v23 : Value), (v24 : Value), (v25 : Value), (v26 : Value), (v27 : Value), (v28 : Value), (v29 : Value), (v30 : Value), (v31 : Value), (v32 : Value), (v33 : Value), (v34 : Value), (v35 : Value), (v36 : Value), (v37 : Value), (v38 : Value), (v39 : Value), (v40 : Value), (v41 : Value), (v42 : Value), (v43 : Value), (v44 : Value), (v45 : Value), (v46 : Value), (v47 : Value), (v48 : Value), (v49 : Value), (v50 : Value), (v51 : Value)]))]) hP hD hS hA [0] rfl kc_nd_603 rfl
                have hPc := hCu.1
                have hDc := hCu.2.1
                have hFc := hCu.2.2
                have hKc := hK.sb (tys2 := []) [] rfl
                refine va_calli (va_runV (As := []) (rest := []) ⟨hx, hb, hml, hown, hts⟩ (s_fails10x l dC dI jM ((v0 : Value) : Value) ((v1 : Value) : Value) ((v2 : Value) : Value) ((v3 : Value) : Value) ((v6 : Value) : Value) ((v7 : Value) : Value) ((v8 : Value) : Value) (.int 6 : Value) ((v14 : Value) : Value) ((v15 : Value) : Value) ((v18 : Value) : Value) ((v19 : Value) : Value) ((v20 : Value) : Value) ((v21 : Value) : Value) ((v22 : Value) : Value) ((v23 : Value) : Value) ((v24 : Value) : Value) ((v25 : Value) : Value) ((v26 : Value) : Value) ((v27 : Value) : Value) ((v28 : Value) : Value) ((v29 : Value) : Value) ((v30 : Value) : Value) ((v31 : Value) : Value) ((v32 : Value) : Value) ((v33 : Value) : Value) ((v34 : Value) : Value) ((v35 : Value) : Value) ((v36 : Value) : Value) ((v37 : Value) : Value) ((v38 : Value) : Value) ((v39 : Value) : Value) ((v40 : Value) : Value) ((v41 : Value) : Value) ((v42 : Value) : Value) ((v43 : Value) : Value) ((v44 : Value) : Value) ((v45 : Value) : Value) ((v46 : Value) : Value) ((v47 : Value) : Value) ((v48 : Value) : Value) ((v49 : Value) : Value) ((v50 : Value) : Value) ((v51 : Value) : Value) lt q6 q7 tx be en i bd_19 bd_39 H.size) (cwV 0 hts (kG (List.forall_mem_cons.mpr ⟨(List.mem_cons_of_mem _ (List.mem_append_left _ (List.mem_of_getElem? (i := 16) rfl))), (List.forall_mem_cons.mpr ⟨(List.mem_cons_of_mem _ (List.mem_append_left _ (List.mem_of_getElem? (i := 15) rfl))), (List.forall_mem_cons.mpr ⟨(List.mem_cons_of_mem _ (List.mem_append_left _ (List.mem_of_getElem? (i := 14) rfl))), (List.forall_mem_cons.mpr ⟨(List.mem_cons_of_mem _ (List.mem_append_left _ (List.mem_of_getElem? (i := 0) rfl))), (fun _ h => absurd h List.not_mem_nil)⟩)⟩)⟩)⟩) (kGV _ _ _ _) (fun _ h => List.mem_cons_of_mem _ (List.mem_append_right _ (List.mem_append_right _ (List.mem_append_right _ (List.mem_append_right _ (List.mem_append_right _ (List.mem_append_left _ h))))))) gw_s_fails10x) rfl rfl rfl ⟨rfl, hd_X10_fails⟩ ⟨(Nat.le_of_ble_eq_true rfl), (Nat.le_of_ble_eq_true rfl)⟩) (kW_V kT_blind kT_give (va_recv hKc hPc (ci := 10) (q0 := 0) rfl rfl) hPc hKc hDc) rfl rfl hl.1 rfl (lv_room (Nat.le_of_ble_eq_true rfl)) dX10_atom_113 ⟨(Nat.le_of_ble_eq_true rfl), (Nat.le_of_ble_eq_true rfl)⟩) hS (fun q _ h => hFc q h) hFc (fun r_40 _ t H_41 locs ht hvm hw hB hz1 hk1 hS => ?_)
                try dsimp only at hw
                have hPD : kPD dC dI A [(jM, .inr (10, [((v0 : Value) : Value), ((v1 : Value) : Value), ((v2 : Value) : Value), ((v3 : Value) : Value), .ref lt, .ref tx, ((v6 : Value) : Value), ((v7 : Value) : Value), ((v8 : Value) : Value), .int (nI (be)), .int (nI (en)), .int (nI (i)), .int (nI (i)), .int 6, ((v14 : Value) : Value), ((v15 : Value) : Value), .ref q6, .ref q7, ((v18 : Value) : Value), ((v19 : Value) : Value), ((v20 : Value) : Value), ((v21 : Value) : Value), ((v22 : Value) : Value), ((v23 : Value) : Value), ((v24 : Value) : Value), ((v25 : Value) : Value), ((v26 : Value) : Value), ((v27 : Value) : Value), ((v28 : Value) : Value), ((v29 : Value) : Value), ((v30 : Value) : Value), ((v31 : Value) : Value), ((v32 : Value) : Value), ((v33 : Value) : Value), ((v34 : Value) : Value), ((v35 : Value) : Value), ((v36 : Value) : Value), ((v37 : Value) : Value), ((v38 : Value) : Value), ((v39 : Value) : Value), ((v40 : Value) : Value), ((v41 : Value) : Value), ((v42 : Value) : Value), ((v43 : Value) : Value), ((v44 : Value) : Value), ((v45 : Value) : Value), ((v46 : Value) : Value), ((v47 : Value) : Value), ((v48 : Value) : Value), ((v49 : Value) : Value), ((v50 : Value) : Value), ((v51 : Value) : Value)])), (tx, .inl (cT, nT, .inl gT)), (lt, .inl (cE, 128, .inl gE))] H_41 := kJoinX hP hD [0] rfl hk1 hFc hB.1 ht hB.2.2 rfl [some 0, none, none] rfl rfl
                obtain ⟨hP, hD⟩ := hPD
                obtain rfl : r_40 = 0 := hw
                refine lv_pop hx hb dX10_atom_116 rfl ?_
                refine lv_iconst (v := 0) hx hb dX10_atom_117 kc_i_0 ?_
                have hP9 := hP
                have hD9 := hD
                have hK9 := hK
                rw [hQ]
                exact W.iret (v := 0) hx hb hr (fun t ht hW => ⟨⟨0, (i, (nI (i)), 6, false, []), rfl, ⟨(kPM_f ((kAtomD_z a).trans (by unfold kAtomF; rw [← hw_6_1, ← hw_6_2]; rw [if_neg (by omega), if_pos (kDg_t.mpr (by omega))]; exact kNum_f (by rw [← ivk_18_2]; first | (rw [show 4 - xg = 0 by omega]; rfl) | exact kNumL_n (by assumption)) (by assumption))) (by omega)), fun z9 => absurd z9 (by decide)⟩,  by rw [ht]; exact hP9, va_K.moved hW.alike hK9, hD9⟩, hS.F ht⟩) hS.2.2 dX10_atom_118
        exact lp_k_18 (en - a1_3 + 1) a1_3 0 0 (by omega) (by omega) rfl (by omega) (by decide) _ _ hP hD hS ls (lv_sub hl [0, 1, 2, 3] rfl) (by omega)
      · have hd_42 : ¬ (48 ≤ kAt bt en a1_3 ∧ kAt bt en a1_3 ≤ 57) := fun z9 => hw_15.2.mpr z9 c_16
        refine lv_aload_n hx hb dX10_atom_83 rfl (lv_at hl 1 rfl) ?_
        have bd_43 : en ≤ 1680 := by omega
        have hCu := kCut (wc := [(jM, .inr (10, [(v0 : Value), (v1 : Value), (v2 : Value), (v3 : Value), .ref lt, .ref tx, (v6 : Value), (v7 : Value), (v8 : Value), .int (nI (be)), .int (nI (en)), .int (nI (a1_3)), .int (-1), .int 6, (v14 : Value), (v15 : Value), .ref q6, .ref q7, (v18 : Value), (v19 : Value), (v20 : Value), (v21 : Value), (v22 : Value), (v23 : Value), (v24 : Value), (v25 : Value), (v26 : Value), (v27 : Value), (v28 : Value), (v29 : Value), (v30 : Value), (v31 : Value), (v32 : Value), (v33 : Value), (v34 : Value), (v35 : Value), (v36 : Value), (v37 : Value), (v38 : Value), (v39 : Value), (v40 : Value), (v41 : Value), (v42 : Value), (v43 : Value), (v44 : Value), (v45 : Value), (v46 : Value), (v47 : Value), (v48 : Value), (v49 : Value), (v50 : Value), (v51 : Value)]))]) hP hD hS hA [0] rfl kc_nd_603 rfl
        have hPc := hCu.1
        have hDc := hCu.2.1
        have hFc := hCu.2.2
        have hKc := hK.sb (tys2 := []) [] rfl
        refine va_calli (va_runV (As := []) (rest := []) ⟨hx, hb, hml, hown, hts⟩ (s_fails10x l dC dI jM ((v0 : Value) : Value) ((v1 : Value) : Value) ((v2 : Value) : Value) ((v3 : Value) : Value) ((v6 : Value) : Value) ((v7 : Value) : Value) ((v8 : Value) : Value) (.int 6 : Value) ((v14 : Value) : Value) ((v15 : Value) : Value) ((v18 : Value) : Value) ((v19 : Value) : Value) ((v20 : Value) : Value) ((v21 : Value) : Value) ((v22 : Value) : Value) ((v23 : Value) : Value) ((v24 : Value) : Value) ((v25 : Value) : Value) ((v26 : Value) : Value) ((v27 : Value) : Value) ((v28 : Value) : Value) ((v29 : Value) : Value) ((v30 : Value) : Value) ((v31 : Value) : Value) ((v32 : Value) : Value) ((v33 : Value) : Value) ((v34 : Value) : Value) ((v35 : Value) : Value) ((v36 : Value) : Value) ((v37 : Value) : Value) ((v38 : Value) : Value) ((v39 : Value) : Value) ((v40 : Value) : Value) ((v41 : Value) : Value) ((v42 : Value) : Value) ((v43 : Value) : Value) ((v44 : Value) : Value) ((v45 : Value) : Value) ((v46 : Value) : Value) ((v47 : Value) : Value) ((v48 : Value) : Value) ((v49 : Value) : Value) ((v50 : Value) : Value) ((v51 : Value) : Value) lt q6 q7 tx be en a1_3 bd_13 bd_43 H_5.size) (cwV 0 hts (kG (List.forall_mem_cons.mpr ⟨(List.mem_cons_of_mem _ (List.mem_append_left _ (List.mem_of_getElem? (i := 16) rfl))), (List.forall_mem_cons.mpr ⟨(List.mem_cons_of_mem _ (List.mem_append_left _ (List.mem_of_getElem? (i := 15) rfl))), (List.forall_mem_cons.mpr ⟨(List.mem_cons_of_mem _ (List.mem_append_left _ (List.mem_of_getElem? (i := 14) rfl))), (List.forall_mem_cons.mpr ⟨(List.mem_cons_of_mem _ (List.mem_append_left _ (List.mem_of_getElem? (i := 0) rfl))), (fun _ h => absurd h List.not_mem_nil)⟩)⟩)⟩)⟩) (kGV _ _ _ _) (fun _ h => List.mem_cons_of_mem _ (List.mem_append_right _ (List.mem_append_right _ (List.mem_append_right _ (List.mem_append_right _ (List.mem_append_right _ (List.mem_append_left _ h))))))) gw_s_fails10x) rfl rfl rfl ⟨rfl, hd_X10_fails⟩ ⟨(Nat.le_of_ble_eq_true rfl), (Nat.le_of_ble_eq_true rfl)⟩) (kW_V kT_blind kT_give (va_recv hKc hPc (ci := 10) (q0 := 0) rfl rfl) hPc hKc hDc) rfl rfl hl.1 rfl (lv_room (Nat.le_of_ble_eq_true rfl)) dX10_atom_84 ⟨(Nat.le_of_ble_eq_true rfl), (Nat.le_of_ble_eq_true rfl)⟩) hS (fun q _ h => hFc q h) hFc (fun r_44 _ t H_45 locs ht hvm hw hB hz1 hk1 hS => ?_)
        try dsimp only at hw
        have hPD : kPD dC dI A [(jM, .inr (10, [((v0 : Value) : Value), ((v1 : Value) : Value), ((v2 : Value) : Value), ((v3 : Value) : Value), .ref lt, .ref tx, ((v6 : Value) : Value), ((v7 : Value) : Value), ((v8 : Value) : Value), .int (nI (be)), .int (nI (en)), .int (nI (a1_3)), .int (nI (a1_3)), .int 6, ((v14 : Value) : Value), ((v15 : Value) : Value), .ref q6, .ref q7, ((v18 : Value) : Value), ((v19 : Value) : Value), ((v20 : Value) : Value), ((v21 : Value) : Value), ((v22 : Value) : Value), ((v23 : Value) : Value), ((v24 : Value) : Value), ((v25 : Value) : Value), ((v26 : Value) : Value), ((v27 : Value) : Value), ((v28 : Value) : Value), ((v29 : Value) : Value), ((v30 : Value) : Value), ((v31 : Value) : Value), ((v32 : Value) : Value), ((v33 : Value) : Value), ((v34 : Value) : Value), ((v35 : Value) : Value), ((v36 : Value) : Value), ((v37 : Value) : Value), ((v38 : Value) : Value), ((v39 : Value) : Value), ((v40 : Value) : Value), ((v41 : Value) : Value), ((v42 : Value) : Value), ((v43 : Value) : Value), ((v44 : Value) : Value), ((v45 : Value) : Value), ((v46 : Value) : Value), ((v47 : Value) : Value), ((v48 : Value) : Value), ((v49 : Value) : Value), ((v50 : Value) : Value), ((v51 : Value) : Value)])), (tx, .inl (cT, nT, .inl gT)), (lt, .inl (cE, 128, .inl gE))] H_45 := kJoinX hP hD [0] rfl hk1 hFc hB.1 ht hB.2.2 rfl [some 0, none, none] rfl rfl
        obtain ⟨hP, hD⟩ := hPD
        obtain rfl : r_44 = 0 := hw
        refine lv_pop hx hb dX10_atom_87 rfl ?_
        refine lv_iconst (v := 0) hx hb dX10_atom_88 kc_i_0 ?_
        refine lv_istore_n hx hb dX10_atom_89 rfl hl kc_l_2_4 (kTo [(2, .int 0), (1, .int r_2), (0, .ref jM)]) (fun ls hl => ?_)
        refine lv_iconst (v := 0) hx hb dX10_atom_90 kc_i_0 ?_
        refine lv_istore_n hx hb dX10_atom_91 rfl hl kc_l_3_4 (kTo [(3, .int 0), (2, .int 0), (1, .int r_2), (0, .ref jM)]) (fun ls hl => ?_)
        refine lv_aload_n hx hb dX10_atom_92 rfl (lv_at hl 3 rfl) ?_
        have hPc := hP.sb (ws2 := [(jM, .inr (10, [((v0 : Value) : Value), ((v1 : Value) : Value), ((v2 : Value) : Value), ((v3 : Value) : Value), .ref lt, .ref tx, ((v6 : Value) : Value), ((v7 : Value) : Value), ((v8 : Value) : Value), .int (nI (be)), .int (nI (en)), .int (nI (a1_3)), .int (nI (a1_3)), .int 6, ((v14 : Value) : Value), ((v15 : Value) : Value), .ref q6, .ref q7, ((v18 : Value) : Value), ((v19 : Value) : Value), ((v20 : Value) : Value), ((v21 : Value) : Value), ((v22 : Value) : Value), ((v23 : Value) : Value), ((v24 : Value) : Value), ((v25 : Value) : Value), ((v26 : Value) : Value), ((v27 : Value) : Value), ((v28 : Value) : Value), ((v29 : Value) : Value), ((v30 : Value) : Value), ((v31 : Value) : Value), ((v32 : Value) : Value), ((v33 : Value) : Value), ((v34 : Value) : Value), ((v35 : Value) : Value), ((v36 : Value) : Value), ((v37 : Value) : Value), ((v38 : Value) : Value), ((v39 : Value) : Value), ((v40 : Value) : Value), ((v41 : Value) : Value), ((v42 : Value) : Value), ((v43 : Value) : Value), ((v44 : Value) : Value), ((v45 : Value) : Value), ((v46 : Value) : Value), ((v47 : Value) : Value), ((v48 : Value) : Value), ((v49 : Value) : Value), ((v50 : Value) : Value), ((v51 : Value) : Value)])), (tx, .inl (cT, nT, .inl gT))]) [0, 1] rfl
        have hKc := hK.sb (tys2 := [(cT, .byte)]) [0] rfl
        refine vp_callSi (va_runV (As := []) (rest := []) ⟨hx, hb, hml, hown, hts⟩ (s_isDigit10x l dC dI jM (((v0 : Value) : Value) : Value) (((v1 : Value) : Value) : Value) (((v2 : Value) : Value) : Value) (((v3 : Value) : Value) : Value) (((v6 : Value) : Value) : Value) (((v7 : Value) : Value) : Value) (((v8 : Value) : Value) : Value) (.int (nI (a1_3)) : Value) (.int 6 : Value) (((v14 : Value) : Value) : Value) (((v15 : Value) : Value) : Value) (((v18 : Value) : Value) : Value) (((v19 : Value) : Value) : Value) (((v20 : Value) : Value) : Value) (((v21 : Value) : Value) : Value) (((v22 : Value) : Value) : Value) (((v23 : Value) : Value) : Value) (((v24 : Value) : Value) : Value) (((v25 : Value) : Value) : Value) (((v26 : Value) : Value) : Value) (((v27 : Value) : Value) : Value) (((v28 : Value) : Value) : Value) (((v29 : Value) : Value) : Value) (((v30 : Value) : Value) : Value) (((v31 : Value) : Value) : Value) (((v32 : Value) : Value) : Value) (((v33 : Value) : Value) : Value) (((v34 : Value) : Value) : Value) (((v35 : Value) : Value) : Value) (((v36 : Value) : Value) : Value) (((v37 : Value) : Value) : Value) (((v38 : Value) : Value) : Value) (((v39 : Value) : Value) : Value) (((v40 : Value) : Value) : Value) (((v41 : Value) : Value) : Value) (((v42 : Value) : Value) : Value) (((v43 : Value) : Value) : Value) (((v44 : Value) : Value) : Value) (((v45 : Value) : Value) : Value) (((v46 : Value) : Value) : Value) (((v47 : Value) : Value) : Value) (((v48 : Value) : Value) : Value) (((v49 : Value) : Value) : Value) (((v50 : Value) : Value) : Value) (((v51 : Value) : Value) : Value) lt q6 q7 tx cT nT gT be en a1_3 bd_1 hnT bd_13 bt hbr hb8 hb1 hen9) (cwV 0 hts (kG (List.forall_mem_cons.mpr ⟨(List.mem_cons_of_mem _ (List.mem_append_left _ (List.mem_of_getElem? (i := 9) rfl))), (List.forall_mem_cons.mpr ⟨(List.mem_cons_of_mem _ (List.mem_append_left _ (List.mem_of_getElem? (i := 8) rfl))), (List.forall_mem_cons.mpr ⟨(List.mem_cons_of_mem _ (List.mem_append_left _ (List.mem_of_getElem? (i := 7) rfl))), (List.forall_mem_cons.mpr ⟨(List.mem_cons_of_mem _ (List.mem_append_left _ (List.mem_of_getElem? (i := 0) rfl))), (fun _ h => absurd h List.not_mem_nil)⟩)⟩)⟩)⟩) (kGV _ _ _ _) (fun _ h => List.mem_cons_of_mem _ (List.mem_append_right _ (List.mem_append_right _ (List.mem_append_right _ (List.mem_append_right _ (List.mem_append_left _ h)))))) gw_s_isDigit10x) rfl rfl rfl ⟨rfl, hd_X10_isDigit⟩ ⟨(Nat.le_of_ble_eq_true rfl), (Nat.le_of_ble_eq_true rfl)⟩) (kR_V kT_blind kT_give (va_recv hKc hPc (ci := 10) (q0 := 0) rfl rfl) hPc hKc) rfl rfl hl.1 rfl (lv_room (Nat.le_of_ble_eq_true rfl)) dX10_atom_93 ⟨(Nat.le_of_ble_eq_true rfl), (Nat.le_of_ble_eq_true rfl)⟩).run (fun r_46 hw => ?_)
        have hw_47 := hw
        obtain rfl : r_46 = 0 := by rcases hw_47.1 with z9 | z9; exact z9; exact absurd (hw_47.2.mp (by rw [z9]; decide)) hd_42
        refine lv_if_eq (tgt := 158) hx hb dX10_atom_96 kc_t_96_62 (fun c_48 => ?_) (fun c_48 => absurd (by decide) c_48)
        refine lv_iload_n hx hb dX10_atom_158 rfl (lv_at hl 1 rfl) ?_
        have hP9 := hP
        have hD9 := hD
        have hK9 := hK
        rw [hQ]
        exact W.iret (v := 0) hx hb hr (fun t ht hW => ⟨⟨0, (a1_3, (nI (a1_3)), 6, false, []), rfl, ⟨(kPM_f ((kAtomD_z a).trans (by unfold kAtomF; rw [← hw_6_1, ← hw_6_2]; rw [if_neg (by omega), if_neg (fun z9 => by have := kDg_t.mp z9; omega), if_neg ha_10])) (by omega)), fun z9 => absurd z9 (by decide)⟩,  by rw [ht]; exact hP9, va_K.moved hW.alike hK9, hD9⟩, hS.F ht⟩) hS.2.2 dX10_atom_159
    · have hk_49 := kLr_e hw_6_0 (by omega) (k := 91) (by decide) c_11
      refine lv_aload_n hx hb dX10_atom_39 rfl (lv_at hl 1 rfl) ?_
      have bd_50 : a1_3 ≤ en := by omega
      have bd_51 : en ≤ 1680 := by omega
      have hCu := kCut (wc := [(jM, .inr (10, [(v0 : Value), (v1 : Value), (v2 : Value), (v3 : Value), .ref lt, .ref tx, (v6 : Value), (v7 : Value), (v8 : Value), .int (nI (be)), .int (nI (en)), .int (nI (a1_3)), .int (-1), .int 6, (v14 : Value), (v15 : Value), .ref q6, .ref q7, (v18 : Value), (v19 : Value), (v20 : Value), (v21 : Value), (v22 : Value), (v23 : Value), (v24 : Value), (v25 : Value), (v26 : Value), (v27 : Value), (v28 : Value), (v29 : Value), (v30 : Value), (v31 : Value), (v32 : Value), (v33 : Value), (v34 : Value), (v35 : Value), (v36 : Value), (v37 : Value), (v38 : Value), (v39 : Value), (v40 : Value), (v41 : Value), (v42 : Value), (v43 : Value), (v44 : Value), (v45 : Value), (v46 : Value), (v47 : Value), (v48 : Value), (v49 : Value), (v50 : Value), (v51 : Value)]))]) hP hD hS hA [0] rfl kc_nd_603 rfl
      have hPc := hCu.1
      have hDc := hCu.2.1
      have hFc := hCu.2.2
      have hKc := hK.sb (tys2 := []) [] rfl
      refine va_calli (va_runV (As := []) (rest := []) ⟨hx, hb, hml, hown, hts⟩ (s_goesIn10x_6 l dC dI jM ((v0 : Value) : Value) ((v1 : Value) : Value) ((v2 : Value) : Value) ((v3 : Value) : Value) ((v6 : Value) : Value) ((v7 : Value) : Value) ((v8 : Value) : Value) ((v14 : Value) : Value) ((v15 : Value) : Value) ((v18 : Value) : Value) ((v19 : Value) : Value) ((v20 : Value) : Value) ((v21 : Value) : Value) ((v22 : Value) : Value) ((v23 : Value) : Value) ((v24 : Value) : Value) ((v25 : Value) : Value) ((v26 : Value) : Value) ((v27 : Value) : Value) ((v28 : Value) : Value) ((v29 : Value) : Value) ((v30 : Value) : Value) ((v31 : Value) : Value) ((v32 : Value) : Value) ((v33 : Value) : Value) ((v34 : Value) : Value) ((v35 : Value) : Value) ((v36 : Value) : Value) ((v37 : Value) : Value) ((v38 : Value) : Value) ((v39 : Value) : Value) ((v40 : Value) : Value) ((v41 : Value) : Value) ((v42 : Value) : Value) ((v43 : Value) : Value) ((v44 : Value) : Value) ((v45 : Value) : Value) ((v46 : Value) : Value) ((v47 : Value) : Value) ((v48 : Value) : Value) ((v49 : Value) : Value) ((v50 : Value) : Value) ((v51 : Value) : Value) lt q6 q7 tx be en a1_3 bd_50 bd_51 H_5.size) (cwV 0 hts (kG (List.forall_mem_cons.mpr ⟨(List.mem_cons_of_mem _ (List.mem_append_left _ (List.mem_of_getElem? (i := 19) rfl))), (List.forall_mem_cons.mpr ⟨(List.mem_cons_of_mem _ (List.mem_append_left _ (List.mem_of_getElem? (i := 18) rfl))), (List.forall_mem_cons.mpr ⟨(List.mem_cons_of_mem _ (List.mem_append_left _ (List.mem_of_getElem? (i := 17) rfl))), (List.forall_mem_cons.mpr ⟨(List.mem_cons_of_mem _ (List.mem_append_left _ (List.mem_of_getElem? (i := 0) rfl))), (fun _ h => absurd h List.not_mem_nil)⟩)⟩)⟩)⟩) (kGV _ _ _ _) (fun _ h => List.mem_cons_of_mem _ (List.mem_append_right _ (List.mem_append_right _ (List.mem_append_right _ (List.mem_append_right _ (List.mem_append_right _ (List.mem_append_right _ (List.mem_append_left _ h)))))))) gw_s_goesIn10x_6) rfl rfl rfl ⟨rfl, hd_X10_goesIn⟩ ⟨(Nat.le_of_ble_eq_true rfl), (Nat.le_of_ble_eq_true rfl)⟩) (kW_V kT_blind kT_give (va_recv hKc hPc (ci := 10) (q0 := 0) rfl rfl) hPc hKc hDc) rfl rfl hl.1 rfl (lv_room (Nat.le_of_ble_eq_true rfl)) dX10_atom_40 ⟨(Nat.le_of_ble_eq_true rfl), (Nat.le_of_ble_eq_true rfl)⟩) hS (fun q _ h => hFc q h) hFc (fun r_52 _ t H_53 locs ht hvm hw hB hz1 hk1 hS => ?_)
      try dsimp only at hw
      have hPD : kPD dC dI A [(jM, .inr (10, [((v0 : Value) : Value), ((v1 : Value) : Value), ((v2 : Value) : Value), ((v3 : Value) : Value), .ref lt, .ref tx, ((v6 : Value) : Value), ((v7 : Value) : Value), ((v8 : Value) : Value), .int (nI (be)), .int (nI (en)), .int (nI (a1_3)), .int (nI (a1_3)), .int 6, ((v14 : Value) : Value), ((v15 : Value) : Value), .ref q6, .ref q7, ((v18 : Value) : Value), ((v19 : Value) : Value), ((v20 : Value) : Value), ((v21 : Value) : Value), ((v22 : Value) : Value), ((v23 : Value) : Value), ((v24 : Value) : Value), ((v25 : Value) : Value), ((v26 : Value) : Value), ((v27 : Value) : Value), ((v28 : Value) : Value), ((v29 : Value) : Value), ((v30 : Value) : Value), ((v31 : Value) : Value), ((v32 : Value) : Value), ((v33 : Value) : Value), ((v34 : Value) : Value), ((v35 : Value) : Value), ((v36 : Value) : Value), ((v37 : Value) : Value), ((v38 : Value) : Value), ((v39 : Value) : Value), ((v40 : Value) : Value), ((v41 : Value) : Value), ((v42 : Value) : Value), ((v43 : Value) : Value), ((v44 : Value) : Value), ((v45 : Value) : Value), ((v46 : Value) : Value), ((v47 : Value) : Value), ((v48 : Value) : Value), ((v49 : Value) : Value), ((v50 : Value) : Value), ((v51 : Value) : Value)])), (tx, .inl (cT, nT, .inl gT)), (lt, .inl (cE, 128, .inl gE))] H_53 := kJoinX hP hD [0] rfl hk1 hFc hB.1 ht hB.2.2 rfl [some 0, none, none] rfl rfl
      obtain ⟨hP, hD⟩ := hPD
      obtain rfl : r_52 = 0 := hw
      refine lv_if_ne (tgt := 48) hx hb dX10_atom_43 kc_t_43_5 (fun c_54 => absurd (by decide) c_54) (fun c_54 => ?_)
      refine lv_iconst (v := 0) hx hb dX10_atom_46 kc_i_0 ?_
      have hP9 := hP
      have hD9 := hD
      have hK9 := hK
      rw [hQ]
      exact W.iret (v := 0) hx hb hr (fun t ht hW => ⟨⟨0, (a1_3, (nI (a1_3)), 6, false, []), rfl, ⟨(kPM_f ((kAtomD_z a).trans (by unfold kAtomF; rw [← hw_6_1, ← hw_6_2]; rw [if_pos (by omega)]; rfl)) (by omega)), fun z9 => absurd z9 (by decide)⟩,  by rw [ht]; exact hP9, va_K.moved hW.alike hK9, hD9⟩, hS.F ht⟩) hS.2.2 dX10_atom_47
  · have ha_55 := hw_8.1.mp c_9
    rw [kIx_lr hg7 hz7 hw_6_0] at ha_55
    obtain ⟨j9, hj9, e9⟩ := hw_8.2 c_9
    obtain ⟨ha_55_r, ha_55_8⟩ := kLr_j hw_6_0 (by omega) hj9 e9
    clear e9 hj9 j9
    refine lv_aload_n hx hb dX10_atom_16 rfl (lv_at hl 1 rfl) ?_
    refine lv_dup hx hb dX10_atom_17 rfl ?_
    refine va_get (D := (dC, dI)) (ci := 10) (v := .int (nI (a1_3))) (C := RX10) (T := TX10) (N := 52) hx hb hts (fun _ h => List.mem_cons_of_mem _ (List.mem_append_right _ (List.mem_append_right _ (List.mem_append_left _ h)))) hown hK hP 0 rfl rfl 11 kc_l_11_52 (hts (.fieldLink RX10 141 "NotEndedModel" "at" "I") (List.mem_cons_of_mem _ (List.mem_append_left _ (List.mem_of_getElem? (i := 13) rfl)))) (fun _ h9 => h9) rfl dX10_atom_18 ?_
    refine lv_iconst (v := 1) hx hb dX10_atom_21 kc_i_1 ?_
    refine lv_iadd hx hb dX10_atom_22 ?_
    refine lv_topi (fun y_56 ey_56 => ?_)
    obtain rfl : y_56 = nI (a1_3 + 1) := ey_56.trans (nI_add (a1_3) (1))
    refine va_put (D := (dC, dI)) (ci := 10) (v := .int (nI (a1_3 + 1))) (ty := tyX10 11) (C := RX10) (T := TX10) (N := 52) hx hb hts (fun _ h => List.mem_cons_of_mem _ (List.mem_append_right _ (List.mem_append_right _ (List.mem_append_left _ h)))) tyX10 tyX10_ok nmX10 hown hK hP hD hS 0 rfl rfl 11 kc_l_11_52 (hts (.fieldLink RX10 141 "NotEndedModel" "at" "I") (List.mem_cons_of_mem _ (List.mem_append_left _ (List.mem_of_getElem? (i := 13) rfl)))) (fun _ h9 => h9) rfl (tyX10_ok 11 kc_l_11_52) rfl rfl (Nat.le_of_ble_eq_true rfl) dX10_atom_23 (fun H locs hP hD hS => ?_)
    have hPD : kPD dC dI A [(jM, .inr (10, [(v0 : Value), (v1 : Value), (v2 : Value), (v3 : Value), .ref lt, .ref tx, (v6 : Value), (v7 : Value), (v8 : Value), .int (nI (be)), .int (nI (en)), .int (nI (a1_3 + 1)), .int (-1), .int 6, (v14 : Value), (v15 : Value), .ref q6, .ref q7, (v18 : Value), (v19 : Value), (v20 : Value), (v21 : Value), (v22 : Value), (v23 : Value), (v24 : Value), (v25 : Value), (v26 : Value), (v27 : Value), (v28 : Value), (v29 : Value), (v30 : Value), (v31 : Value), (v32 : Value), (v33 : Value), (v34 : Value), (v35 : Value), (v36 : Value), (v37 : Value), (v38 : Value), (v39 : Value), (v40 : Value), (v41 : Value), (v42 : Value), (v43 : Value), (v44 : Value), (v45 : Value), (v46 : Value), (v47 : Value), (v48 : Value), (v49 : Value), (v50 : Value), (v51 : Value)])), (tx, .inl (cT, nT, .inl gT)), (lt, .inl (cE, 128, .inl gE))] H := ⟨hP, hD⟩
    obtain ⟨hP, hD⟩ := hPD
    subst ha_55_r
    have hlt9 : a1_3 < en := by rcases (show ch_4 = 0 ∨ a1_3 < en by assumption) with z | z; (exfalso; rw [z, hz7] at ha_55; omega); exact z
    refine lv_aload_n hx hb dX10_atom_26 rfl (lv_at hl 1 rfl) ?_
    refine va_get (D := (dC, dI)) (ci := 10) (v := .ref lt) (C := RX10) (T := TX10) (N := 52) hx hb hts (fun _ h => List.mem_cons_of_mem _ (List.mem_append_right _ (List.mem_append_right _ (List.mem_append_left _ h)))) hown hK hP 0 rfl rfl 4 kc_l_4_52 (hts (.fieldLink RX10 20 "NotEndedModel" "letters" "[I") (List.mem_cons_of_mem _ (List.mem_append_left _ (List.mem_of_getElem? (i := 20) rfl)))) (fun _ h9 => h9) rfl dX10_atom_27 ?_
    refine lv_iload_n hx hb dX10_atom_30 rfl (lv_at hl 0 rfl) ?_
    have bd_57 : ch_4 < 128 := by omega
    refine va_iald hx hb hK hP 2 1 rfl rfl (vp_in_nI (n := ch_4) (N := 128) bd_57 kc_31_128) dX10_atom_31 ?_
    refine lv_topi (fun x_58 ex_58 => ?_)
    have hP9 := hP
    have hD9 := hD
    have hK9 := hK
    rw [hQ]
    exact W.iret (v := x_58) hx hb hr (fun t ht hW => ⟨⟨x_58, ((a1_3 + 1), (-1), 6, true, ([nI (10000 + kIx g7 n7 (nI (ch_4)))])), rfl, ⟨(kPM_t (A := kAtomD bt en g7 n7 0) rfl (kAtomD_good hz7 0) (by omega) ((kAtomD_z a).trans (by unfold kAtomF; rw [← hw_6_1, ← hw_6_2]; rw [if_neg (hl7 _ (by omega) ha_55).1, if_neg (fun z9 => (hl7 _ (by omega) ha_55).2 (kDg_t.mp z9)), if_pos ha_55]))), fun _ hbd => (by rw [ex_58, nI_clamp (n := ch_4) (by omega)]; exact (kVal_let ha_55 hn7 (by omega)).symm)⟩,  by rw [ht]; exact hP9, va_K.moved hW.alike hK9, hD9⟩, hS.F ht⟩) hS.2.2 dX10_atom_32

theorem dX10_term_0 : decode cX10_term 0 = .ok (.aload_n 0, 1) := kDs0 kf_42 (by decide +kernel)
theorem dX10_term_1 : decode cX10_term 1 = .ok (.invokevirtual 193, 3) := kDs2 kf_182 (by decide +kernel)
theorem dX10_term_4 : decode cX10_term 4 = .ok (.istore_n 1, 1) := kDs0 kf_60 (by decide +kernel)
theorem dX10_term_5 : decode cX10_term 5 = .ok (.aload_n 0, 1) := kDs0 kf_42 (by decide +kernel)
theorem dX10_term_6 : decode cX10_term 6 = .ok (.getfield 150, 3) := kDs2 kf_180 (by decide +kernel)
theorem dX10_term_9 : decode cX10_term 9 = .ok (.iconst (-1), 1) := kDs0 kf_2 (by decide +kernel)
theorem dX10_term_10 : decode cX10_term 10 = .ok (.if_icmp .ne 84, 3) := kDs4 kf_160 (by decide +kernel)
theorem dX10_term_13 : decode cX10_term 13 = .ok (.aload_n 0, 1) := kDs0 kf_42 (by decide +kernel)
theorem dX10_term_14 : decode cX10_term 14 = .ok (.invokevirtual 160, 3) := kDs2 kf_182 (by decide +kernel)
theorem dX10_term_17 : decode cX10_term 17 = .ok (.bipush 42, 2) := kDs3 kf_16 (by decide +kernel)
theorem dX10_term_19 : decode cX10_term 19 = .ok (.if_icmp .eq 12, 3) := kDs4 kf_159 (by decide +kernel)
theorem dX10_term_31 : decode cX10_term 31 = .ok (.aload_n 0, 1) := kDs0 kf_42 (by decide +kernel)
theorem dX10_term_32 : decode cX10_term 32 = .ok (.invokevirtual 160, 3) := kDs2 kf_182 (by decide +kernel)
theorem dX10_term_35 : decode cX10_term 35 = .ok (.bipush 42, 2) := kDs3 kf_16 (by decide +kernel)
theorem dX10_term_37 : decode cX10_term 37 = .ok (.if_icmp .ne 7, 3) := kDs4 kf_160 (by decide +kernel)
theorem dX10_term_40 : decode cX10_term 40 = .ok (.iconst 1, 1) := kDs0 kf_4 (by decide +kernel)
theorem dX10_term_41 : decode cX10_term 41 = .ok (.goto 4, 3) := kDs4 kf_167 (by decide +kernel)
theorem dX10_term_45 : decode cX10_term 45 = .ok (.istore_n 2, 1) := kDs0 kf_61 (by decide +kernel)
theorem dX10_term_46 : decode cX10_term 46 = .ok (.aload_n 0, 1) := kDs0 kf_42 (by decide +kernel)
theorem dX10_term_47 : decode cX10_term 47 = .ok (.dup, 1) := kDs0 kf_89 (by decide +kernel)
theorem dX10_term_48 : decode cX10_term 48 = .ok (.getfield 141, 3) := kDs2 kf_180 (by decide +kernel)
theorem dX10_term_51 : decode cX10_term 51 = .ok (.iconst 1, 1) := kDs0 kf_4 (by decide +kernel)
theorem dX10_term_52 : decode cX10_term 52 = .ok (.iadd, 1) := kDs0 kf_96 (by decide +kernel)
theorem dX10_term_53 : decode cX10_term 53 = .ok (.putfield 141, 3) := kDs2 kf_181 (by decide +kernel)
theorem dX10_term_56 : decode cX10_term 56 = .ok (.aload_n 0, 1) := kDs0 kf_42 (by decide +kernel)
theorem dX10_term_57 : decode cX10_term 57 = .ok (.invokevirtual 193, 3) := kDs2 kf_182 (by decide +kernel)
theorem dX10_term_60 : decode cX10_term 60 = .ok (.i2l, 1) := kDs0 kf_133 (by decide +kernel)
theorem dX10_term_61 : decode cX10_term 61 = .ok (.lstore_n 3, 1) := kDs0 kf_66 (by decide +kernel)
theorem dX10_term_62 : decode cX10_term 62 = .ok (.iload_n 2, 1) := kDs0 kf_28 (by decide +kernel)
theorem dX10_term_63 : decode cX10_term 63 = .ok (.ifCond .eq 10, 3) := kDs4 kf_153 (by decide +kernel)
theorem dX10_term_66 : decode cX10_term 66 = .ok (.iload_n 1, 1) := kDs0 kf_27 (by decide +kernel)
theorem dX10_term_67 : decode cX10_term 67 = .ok (.i2l, 1) := kDs0 kf_133 (by decide +kernel)
theorem dX10_term_68 : decode cX10_term 68 = .ok (.lload_n 3, 1) := kDs0 kf_33 (by decide +kernel)
theorem dX10_term_69 : decode cX10_term 69 = .ok (.lmul, 1) := kDs0 kf_105 (by decide +kernel)
theorem dX10_term_70 : decode cX10_term 70 = .ok (.goto 17, 3) := kDs4 kf_167 (by decide +kernel)
theorem dX10_term_87 : decode cX10_term 87 = .ok (.invokestatic 196, 3) := kDs2 kf_184 (by decide +kernel)
theorem dX10_term_90 : decode cX10_term 90 = .ok (.istore_n 1, 1) := kDs0 kf_60 (by decide +kernel)
theorem dX10_term_91 : decode cX10_term 91 = .ok (.goto (-86), 3) := kDs4 kf_167 (by decide +kernel)
theorem dX10_term_94 : decode cX10_term 94 = .ok (.iload_n 1, 1) := kDs0 kf_27 (by decide +kernel)
theorem dX10_term_95 : decode cX10_term 95 = .ok (.ireturn, 1) := kDs0 kf_172 (by decide +kernel)
theorem dX10_term_22 : decode cX10_term 22 = .ok (.aload_n 0, 1) := kDs0 kf_42 (by decide +kernel)
theorem dX10_term_23 : decode cX10_term 23 = .ok (.invokevirtual 160, 3) := kDs2 kf_182 (by decide +kernel)
theorem dX10_term_26 : decode cX10_term 26 = .ok (.bipush 47, 2) := kDs3 kf_16 (by decide +kernel)
theorem dX10_term_28 : decode cX10_term 28 = .ok (.if_icmp .ne 66, 3) := kDs4 kf_160 (by decide +kernel)
theorem dX10_term_44 : decode cX10_term 44 = .ok (.iconst 0, 1) := kDs0 kf_3 (by decide +kernel)
theorem dX10_term_73 : decode cX10_term 73 = .ok (.lload_n 3, 1) := kDs0 kf_33 (by decide +kernel)
theorem dX10_term_74 : decode cX10_term 74 = .ok (.lconst 0, 1) := kDs0 kf_9 (by decide +kernel)
theorem dX10_term_75 : decode cX10_term 75 = .ok (.lcmp, 1) := kDs0 kf_148 (by decide +kernel)
theorem dX10_term_76 : decode cX10_term 76 = .ok (.ifCond .ne 7, 3) := kDs4 kf_154 (by decide +kernel)
theorem dX10_term_83 : decode cX10_term 83 = .ok (.iload_n 1, 1) := kDs0 kf_27 (by decide +kernel)
theorem dX10_term_84 : decode cX10_term 84 = .ok (.i2l, 1) := kDs0 kf_133 (by decide +kernel)
theorem dX10_term_85 : decode cX10_term 85 = .ok (.lload_n 3, 1) := kDs0 kf_33 (by decide +kernel)
theorem dX10_term_86 : decode cX10_term 86 = .ok (.ldiv, 1) := kDs0 kf_109 (by decide +kernel)
theorem dX10_term_79 : decode cX10_term 79 = .ok (.lconst 0, 1) := kDs0 kf_9 (by decide +kernel)
theorem dX10_term_80 : decode cX10_term 80 = .ok (.goto 7, 3) := kDs4 kf_167 (by decide +kernel)
def w_s_term10x_6 : List Cond := .code yX10_term cX10_term 5 (some .int) :: wf_mq
theorem gw_s_term10x_6 : (w_s_term10x_6).all goodWord = true := kFamG rfl gf_mq
theorem hd_X10_term : yX10_term.cls ≠ "java/lang/invoke/MethodHandle" ∧ yX10_term.cls ≠ "java/lang/invoke/VarHandle" ∧ (parseMethodDescriptor yX10_term.desc).map (fun d => d.parameters.length) = some 0 := by decide +kernel
set_option maxHeartbeats 4000000 in
set_option maxRecDepth 100000 in
theorem s_term10x_6 (l : Launch) (dC : Nat → ClassId) (dI : Nat → Nat → Nat) (jM : Nat) (v0 : Value) (v1 : Value) (v2 : Value) (v3 : Value) (v6 : Value) (v7 : Value) (v8 : Value) (v14 : Value) (v15 : Value) (v18 : Value) (v19 : Value) (v20 : Value) (v21 : Value) (v22 : Value) (v23 : Value) (v24 : Value) (v25 : Value) (v26 : Value) (v27 : Value) (v28 : Value) (v29 : Value) (v30 : Value) (v31 : Value) (v32 : Value) (v33 : Value) (v34 : Value) (v35 : Value) (v36 : Value) (v37 : Value) (v38 : Value) (v39 : Value) (v40 : Value) (v41 : Value) (v42 : Value) (v43 : Value) (v44 : Value) (v45 : Value) (v46 : Value) (v47 : Value) (v48 : Value) (v49 : Value) (v50 : Value) (v51 : Value) (lt : Nat) (q6 : Nat) (q7 : Nat) (tx : Nat) (cT : ClassId) (nT : Nat) (gT : Nat → Int32) (be : Nat) (en : Nat) (a : Nat) (hbe : be + en ≤ nT) (hnT : nT ≤ 1680) (ha : a ≤ en) (bt : Nat → Nat) (hbr : ∀ j : Nat, j < en → gT (be + j) = kSg (bt j)) (hb8 : ∀ j : Nat, bt j < 256) (hb1 : ∀ j : Nat, j < en → 1 ≤ bt j) (hen9 : en ≤ 120) (cE : ClassId) (gE : Nat → Int32) (b6 : Nat) (n6 : Nat) (g6 : Nat → Int32) (hn6 : n6 ≤ 8) (hg6 : ∀ k : Nat, ∃ v : Nat, v < 128 ∧ g6 k = nI v) (b7 : Nat) (n7 : Nat) (g7 : Nat → Int32) (hn7 : n7 ≤ 8) (hg7 : ∀ k : Nat, ∃ v : Nat, v < 128 ∧ g7 k = nI v) (hz6 : kIx g6 n6 (nI 0) = n6) (hz7 : kIx g7 n7 (nI 0) = n7) (hl7 : ∀ c : Nat, c < 256 → kIx g7 n7 (nI c) < n7 → ¬ c = 91 ∧ ¬ (48 ≤ c ∧ c ≤ 57)) (sz : Nat) : Met l yX10_term w_s_term10x_6 ({ frames := 8, cells := 0, slots := 0, locals := 480 }) (kW dC dI [.ref jM] [(jM, .inr (10, [v0, v1, v2, v3, .ref lt, .ref tx, v6, v7, v8, .int (nI (be)), .int (nI (en)), .int (nI (a)), .int (-1), .int 6, v14, v15, .ref q6, .ref q7, v18, v19, v20, v21, v22, v23, v24, v25, v26, v27, v28, v29, v30, v31, v32, v33, v34, v35, v36, v37, v38, v39, v40, v41, v42, v43, v44, v45, v46, v47, v48, v49, v50, v51])), (tx, .inl (cT, nT, .inl gT)), (lt, .inl (cE, 128, .inl gE))] [(cT, .byte), (cE, .int)] (kS2 q6 b6 n6 g6 q7 b7 n7 g7 (va_A [(jM, .inr (10, [v0, v1, v2, v3, .ref lt, .ref tx, v6, v7, v8, .int (nI (be)), .int (nI (en)), .int (nI (a)), .int (-1), .int 6, v14, v15, .ref q6, .ref q7, v18, v19, v20, v21, v22, v23, v24, v25, v26, v27, v28, v29, v30, v31, v32, v33, v34, v35, v36, v37, v38, v39, v40, v41, v42, v43, v44, v45, v46, v47, v48, v49, v50, v51])), (tx, .inl (cT, nT, .inl gT)), (lt, .inl (cE, 128, .inl gE))] sz)) sz) (va_Qi (fun (r : Int32) (u : Nat × Int32 × Int32 × Bool × (List Int32)) => match u with | (a1, xf, xd, xo, xl) => (kPM (kTermD bt en g7 n7 0 a) en a 6 xo a1 xl xf xd ∧ (xo = true → (∀ j : Nat, j < n7 → kBd (kLt gE g7 j)) → r = kVal (kLt gE g7) xl))) (fun (u : Nat × Int32 × Int32 × Bool × (List Int32)) => match u with | (a1, xf, xd, xo, xl) => fun t : State => kB dC dI [(jM, .inr (10, [v0, v1, v2, v3, .ref lt, .ref tx, v6, v7, v8, .int (nI (be)), .int (nI (en)), .int (nI (a1)), .int xf, .int xd, v14, v15, .ref q6, .ref q7, v18, v19, v20, v21, v22, v23, v24, v25, v26, v27, v28, v29, v30, v31, v32, v33, v34, v35, v36, v37, v38, v39, v40, v41, v42, v43, v44, v45, v46, v47, v48, v49, v50, v51])), (tx, .inl (cT, nT, .inl gT)), (lt, .inl (cE, 128, .inl gE))] [(cT, .byte), (cE, .int)] (va_A [(jM, .inr (10, [v0, v1, v2, v3, .ref lt, .ref tx, v6, v7, v8, .int (nI (be)), .int (nI (en)), .int (nI (a)), .int (-1), .int 6, v14, v15, .ref q6, .ref q7, v18, v19, v20, v21, v22, v23, v24, v25, v26, v27, v28, v29, v30, v31, v32, v33, v34, v35, v36, v37, v38, v39, v40, v41, v42, v43, v44, v45, v46, v47, v48, v49, v50, v51])), (tx, .inl (cT, nT, .inl gT)), (lt, .inl (cE, 128, .inl gE))] sz) t) (va_A [(jM, .inr (10, [v0, v1, v2, v3, .ref lt, .ref tx, v6, v7, v8, .int (nI (be)), .int (nI (en)), .int (nI (a)), .int (-1), .int 6, v14, v15, .ref q6, .ref q7, v18, v19, v20, v21, v22, v23, v24, v25, v26, v27, v28, v29, v30, v31, v32, v33, v34, v35, v36, v37, v38, v39, v40, v41, v42, v43, v44, v45, v46, v47, v48, v49, v50, v51])), (tx, .inl (cT, nT, .inl gT)), (lt, .inl (cE, 128, .inl gE))] sz)) 0 0 (va_A [(jM, .inr (10, [v0, v1, v2, v3, .ref lt, .ref tx, v6, v7, v8, .int (nI (be)), .int (nI (en)), .int (nI (a)), .int (-1), .int 6, v14, v15, .ref q6, .ref q7, v18, v19, v20, v21, v22, v23, v24, v25, v26, v27, v28, v29, v30, v31, v32, v33, v34, v35, v36, v37, v38, v39, v40, v41, v42, v43, v44, v45, v46, v47, v48, v49, v50, v51])), (tx, .inl (cT, nT, .inl gT)), (lt, .inl (cE, 128, .inl gE))] sz) := by
  refine Met.ofW (cc := cX10_term) (maxL := 5) (ret := (some .int)) (by decide) rfl ?_
  intro p e s m args below meth c s₁ B hml hv
  obtain ⟨rfl, hsz, hP, hK, hD0, hX⟩ := hv
  have hx := B.exec
  have hb := B.bytes
  have hr := B.returns
  have hts := atoms_spec (ws := w_s_term10x_6) B.pre
  have hown : s.vm.findClass RX10 = some m.cls := findClass_of_methodNamed B.named
  have hlocks := B.notSynchronized
  subst hsz
  have hD := hD0.self (sz := s.heap.size)
  generalize hAe : va_A [(jM, .inr (10, [v0, v1, v2, v3, .ref lt, .ref tx, v6, v7, v8, .int (nI (be)), .int (nI (en)), .int (nI (a)), .int (-1), .int 6, v14, v15, .ref q6, .ref q7, v18, v19, v20, v21, v22, v23, v24, v25, v26, v27, v28, v29, v30, v31, v32, v33, v34, v35, v36, v37, v38, v39, v40, v41, v42, v43, v44, v45, v46, v47, v48, v49, v50, v51])), (tx, .inl (cT, nT, .inl gT)), (lt, .inl (cE, 128, .inl gE))] s.heap.size = A at hD hX ⊢
  have hA : ∀ q : Nat, s.heap.size ≤ q → A q := fun q h => by rw [← hAe]; exact Or.inr h
  have hS : va_S A s.heap s.heap [] := va_S.rf
  have hP : va_P (dC, dI) vwCl [(jM, .inr (10, [v0, v1, v2, v3, .ref lt, .ref tx, v6, v7, v8, .int (nI (be)), .int (nI (en)), .int (nI (a)), .int (-1), .int 6, v14, v15, .ref q6, .ref q7, v18, v19, v20, v21, v22, v23, v24, v25, v26, v27, v28, v29, v30, v31, v32, v33, v34, v35, v36, v37, v38, v39, v40, v41, v42, v43, v44, v45, v46, v47, v48, v49, v50, v51])), (tx, .inl (cT, nT, .inl gT)), (lt, .inl (cE, 128, .inl gE))] s.heap := hP
  have hl := lv_entry ([.ref jM]) (n := 5) (Nat.le_of_ble_eq_true rfl)
  rw [lg_entry_eq]
  generalize (lg_sl ([.ref jM]) ++ List.replicate (5 - (lg_sl ([.ref jM])).length) Slot.unset).toArray = ls at hl ⊢
  have hl : lv_has ls 5 [(0, .ref jM)] := hl
  refine kQ (fun Q hQ => ?_)
  refine lv_aload_n hx hb dX10_term_0 rfl (lv_at hl 0 rfl) ?_
  have bd_1 : be + en ≤ nT := by omega
  have hCu := kCut (wc := [(jM, .inr (10, [v0, v1, v2, v3, .ref lt, .ref tx, v6, v7, v8, .int (nI (be)), .int (nI (en)), .int (nI (a)), .int (-1), .int 6, v14, v15, .ref q6, .ref q7, v18, v19, v20, v21, v22, v23, v24, v25, v26, v27, v28, v29, v30, v31, v32, v33, v34, v35, v36, v37, v38, v39, v40, v41, v42, v43, v44, v45, v46, v47, v48, v49, v50, v51])), (tx, .inl (cT, nT, .inl gT)), (lt, .inl (cE, 128, .inl gE))]) hP hD hS hA [0, 1, 2] rfl kc_nd_138 rfl
  have hPc := hCu.1
  have hDc := hCu.2.1
  have hFc := hCu.2.2
  have hKc := hK.sb (tys2 := [(cT, .byte), (cE, .int)]) [0, 1] rfl
  refine va_calli (va_runV (As := []) (rest := []) ⟨hx, hb, hml, hown, hts⟩ (s_atom10x_6 l dC dI jM (v0 : Value) (v1 : Value) (v2 : Value) (v3 : Value) (v6 : Value) (v7 : Value) (v8 : Value) (v14 : Value) (v15 : Value) (v18 : Value) (v19 : Value) (v20 : Value) (v21 : Value) (v22 : Value) (v23 : Value) (v24 : Value) (v25 : Value) (v26 : Value) (v27 : Value) (v28 : Value) (v29 : Value) (v30 : Value) (v31 : Value) (v32 : Value) (v33 : Value) (v34 : Value) (v35 : Value) (v36 : Value) (v37 : Value) (v38 : Value) (v39 : Value) (v40 : Value) (v41 : Value) (v42 : Value) (v43 : Value) (v44 : Value) (v45 : Value) (v46 : Value) (v47 : Value) (v48 : Value) (v49 : Value) (v50 : Value) (v51 : Value) lt q6 q7 tx cT nT gT be en a bd_1 hnT ha bt hbr hb8 hb1 hen9 cE gE b6 n6 g6 hn6 hg6 b7 n7 g7 hn7 hg7 hz6 hz7 hl7 s.heap.size) (cwV 0 hts (kG (List.forall_mem_cons.mpr ⟨(List.mem_cons_of_mem _ (List.mem_append_left _ (List.mem_of_getElem? (i := 24) rfl))), (List.forall_mem_cons.mpr ⟨(List.mem_cons_of_mem _ (List.mem_append_left _ (List.mem_of_getElem? (i := 23) rfl))), (List.forall_mem_cons.mpr ⟨(List.mem_cons_of_mem _ (List.mem_append_left _ (List.mem_of_getElem? (i := 22) rfl))), (List.forall_mem_cons.mpr ⟨(List.mem_cons_of_mem _ (List.mem_append_left _ (List.mem_of_getElem? (i := 0) rfl))), (fun _ h => absurd h List.not_mem_nil)⟩)⟩)⟩)⟩) (kGV _ _ _ _) (kFam (List.mem_cons_of_mem _ (List.mem_append_left _ (List.mem_of_getElem? (i := 21) rfl)))) gw_s_atom10x_6) rfl rfl rfl ⟨rfl, hd_X10_atom⟩ ⟨(Nat.le_of_ble_eq_true rfl), (Nat.le_of_ble_eq_true rfl)⟩) (kW_V kS2_blind (kS2_give hX hS hFc) (va_recv hKc hPc (ci := 10) (q0 := 0) rfl rfl) hPc hKc hDc) rfl rfl hl.1 rfl (lv_room (Nat.le_of_ble_eq_true rfl)) dX10_term_1 ⟨(Nat.le_of_ble_eq_true rfl), (Nat.le_of_ble_eq_true rfl)⟩) hS (fun q _ h => hFc q h) hFc (fun r_2 => kU5 (fun a1_3 xf_4 xd_5 xo_6 xl_7 t H_8 locs ht hvm hw hB hz1 hk1 hS => ?_))
  try dsimp only at hw
  have hPD : kPD dC dI A [(jM, .inr (10, [(v0 : Value), (v1 : Value), (v2 : Value), (v3 : Value), .ref lt, .ref tx, (v6 : Value), (v7 : Value), (v8 : Value), .int (nI (be)), .int (nI (en)), .int (nI (a1_3)), .int xf_4, .int xd_5, (v14 : Value), (v15 : Value), .ref q6, .ref q7, (v18 : Value), (v19 : Value), (v20 : Value), (v21 : Value), (v22 : Value), (v23 : Value), (v24 : Value), (v25 : Value), (v26 : Value), (v27 : Value), (v28 : Value), (v29 : Value), (v30 : Value), (v31 : Value), (v32 : Value), (v33 : Value), (v34 : Value), (v35 : Value), (v36 : Value), (v37 : Value), (v38 : Value), (v39 : Value), (v40 : Value), (v41 : Value), (v42 : Value), (v43 : Value), (v44 : Value), (v45 : Value), (v46 : Value), (v47 : Value), (v48 : Value), (v49 : Value), (v50 : Value), (v51 : Value)])), (tx, .inl (cT, nT, .inl gT)), (lt, .inl (cE, 128, .inl gE))] H_8 := kJoinX hP hD [0, 1, 2] rfl hk1 hFc hB.1 ht hB.2.2 rfl [some 0, some 1, some 2] rfl rfl
  obtain ⟨hP, hD⟩ := hPD
  have hw_9 := hw
  have hw_9_w := hw_9.2
  replace hw_9 := hw_9.1
  have hw_9_k := hw_9.2.1
  rcases Bool.eq_false_or_eq_true xo_6 with e9 | e9
  · subst e9
    have hw_9_v := hw_9_w rfl
    obtain ⟨hw_9_f, hw_9_d, hw_9_l, hw_9_p⟩ := hw_9.2.2.1 rfl
    subst hw_9_f
    subst hw_9_d
    refine lv_istore_n hx hb dX10_term_4 rfl hl kc_l_1_5 (kTo [(1, .int r_2), (0, .ref jM)]) (fun ls hl => ?_)
    have lp_k_10 : ∀ (n9 : Nat) (i : Nat) (xb : Int32) (xl : List Int32) (xc : Nat) (ivk_10_0 : (a < i ∧ i ≤ en)) (ivk_10_1 : xc < i) (ivk_10_2 : kLoop bt en 42 47 (kAtomD bt en g7 n7 0) (120 - xc) i xl = kTermD bt en g7 n7 0 a) (ivk_10_3 : ((∀ j : Nat, j < n7 → kBd (kLt gE g7 j)) → xb = kVal (kLt gE g7) xl)) (ivk_10_4 : kHn n7 2 xl) (H : Heap) (locs : List Loc) (_ : va_P (dC, dI) vwCl [(jM, .inr (10, [(v0 : Value), (v1 : Value), (v2 : Value), (v3 : Value), .ref lt, .ref tx, (v6 : Value), (v7 : Value), (v8 : Value), .int (nI (be)), .int (nI (en)), .int (nI (i)), .int (-1), .int 6, (v14 : Value), (v15 : Value), .ref q6, .ref q7, (v18 : Value), (v19 : Value), (v20 : Value), (v21 : Value), (v22 : Value), (v23 : Value), (v24 : Value), (v25 : Value), (v26 : Value), (v27 : Value), (v28 : Value), (v29 : Value), (v30 : Value), (v31 : Value), (v32 : Value), (v33 : Value), (v34 : Value), (v35 : Value), (v36 : Value), (v37 : Value), (v38 : Value), (v39 : Value), (v40 : Value), (v41 : Value), (v42 : Value), (v43 : Value), (v44 : Value), (v45 : Value), (v46 : Value), (v47 : Value), (v48 : Value), (v49 : Value), (v50 : Value), (v51 : Value)])), (tx, .inl (cT, nT, .inl gT)), (lt, .inl (cE, 128, .inl gE))] H) (_ : va_D A [(jM, .inr (10, [(v0 : Value), (v1 : Value), (v2 : Value), (v3 : Value), .ref lt, .ref tx, (v6 : Value), (v7 : Value), (v8 : Value), .int (nI (be)), .int (nI (en)), .int (nI (i)), .int (-1), .int 6, (v14 : Value), (v15 : Value), .ref q6, .ref q7, (v18 : Value), (v19 : Value), (v20 : Value), (v21 : Value), (v22 : Value), (v23 : Value), (v24 : Value), (v25 : Value), (v26 : Value), (v27 : Value), (v28 : Value), (v29 : Value), (v30 : Value), (v31 : Value), (v32 : Value), (v33 : Value), (v34 : Value), (v35 : Value), (v36 : Value), (v37 : Value), (v38 : Value), (v39 : Value), (v40 : Value), (v41 : Value), (v42 : Value), (v43 : Value), (v44 : Value), (v45 : Value), (v46 : Value), (v47 : Value), (v48 : Value), (v49 : Value), (v50 : Value), (v51 : Value)])), (tx, .inl (cT, nT, .inl gT)), (lt, .inl (cE, 128, .inl gE))]) (_ : va_S A s.heap H locs) (ls : Array Slot) (_ : lv_has ls 5 [(1, .int xb), (0, .ref jM)]) (_ : en - i < n9), W p l e (headSpec w_s_term10x_6 ({ frames := 8, cells := 0, slots := 0, locals := 480 })).room s m (#[.ref jM] : Array Value) below meth c H locs 0 0 Q (F0 m 5 ls []) := by
      intro n9
      induction n9 with
      | zero => intro i xb xl xc ivk_10_0 ivk_10_1 ivk_10_2 ivk_10_3 ivk_10_4 H locs hP hD hS ls hl hm9; exact absurd hm9 (Nat.not_lt_zero _)
      | succ n9 ih_k_10 =>
        intro i xb xl xc ivk_10_0 ivk_10_1 ivk_10_2 ivk_10_3 ivk_10_4 H locs hP hD hS ls hl hm9
        refine lv_aload_n hx hb dX10_term_5 rfl (lv_at hl 1 rfl) ?_
        refine va_get (D := (dC, dI)) (ci := 10) (v := .int (-1)) (C := RX10) (T := TX10) (N := 52) hx hb hts (fun _ h => List.mem_cons_of_mem _ (List.mem_append_right _ (List.mem_append_right _ (List.mem_append_left _ h)))) hown hK hP 0 rfl rfl 12 kc_l_12_52 (hts (.fieldLink RX10 150 "NotEndedModel" "fault" "I") (List.mem_cons_of_mem _ (List.mem_append_left _ (List.mem_of_getElem? (i := 10) rfl)))) (fun _ h9 => h9) rfl dX10_term_6 ?_
        refine lv_iconst (v := (-1)) hx hb dX10_term_9 kc_i_m1 ?_
        refine lv_icmp_ne (tgt := 94) hx hb dX10_term_10 kc_t_10_84 (fun c_11 => absurd (by decide) c_11) (fun c_11 => ?_)
        refine lv_aload_n hx hb dX10_term_13 rfl (lv_at hl 1 rfl) ?_
        have bd_12 : i ≤ en := by omega
        have hCu := kCut (wc := [(jM, .inr (10, [(v0 : Value), (v1 : Value), (v2 : Value), (v3 : Value), .ref lt, .ref tx, (v6 : Value), (v7 : Value), (v8 : Value), .int (nI (be)), .int (nI (en)), .int (nI (i)), .int (-1), .int 6, (v14 : Value), (v15 : Value), .ref q6, .ref q7, (v18 : Value), (v19 : Value), (v20 : Value), (v21 : Value), (v22 : Value), (v23 : Value), (v24 : Value), (v25 : Value), (v26 : Value), (v27 : Value), (v28 : Value), (v29 : Value), (v30 : Value), (v31 : Value), (v32 : Value), (v33 : Value), (v34 : Value), (v35 : Value), (v36 : Value), (v37 : Value), (v38 : Value), (v39 : Value), (v40 : Value), (v41 : Value), (v42 : Value), (v43 : Value), (v44 : Value), (v45 : Value), (v46 : Value), (v47 : Value), (v48 : Value), (v49 : Value), (v50 : Value), (v51 : Value)])), (tx, .inl (cT, nT, .inl gT))]) hP hD hS hA [0, 1] rfl kc_nd_434 rfl
        have hPc := hCu.1
        have hDc := hCu.2.1
        have hFc := hCu.2.2
        have hKc := hK.sb (tys2 := [(cT, .byte)]) [0] rfl
        refine va_calli (va_runV (As := []) (rest := []) ⟨hx, hb, hml, hown, hts⟩ (s_look10x l dC dI jM ((v0 : Value) : Value) ((v1 : Value) : Value) ((v2 : Value) : Value) ((v3 : Value) : Value) ((v6 : Value) : Value) ((v7 : Value) : Value) ((v8 : Value) : Value) (.int (-1) : Value) (.int 6 : Value) ((v14 : Value) : Value) ((v15 : Value) : Value) ((v18 : Value) : Value) ((v19 : Value) : Value) ((v20 : Value) : Value) ((v21 : Value) : Value) ((v22 : Value) : Value) ((v23 : Value) : Value) ((v24 : Value) : Value) ((v25 : Value) : Value) ((v26 : Value) : Value) ((v27 : Value) : Value) ((v28 : Value) : Value) ((v29 : Value) : Value) ((v30 : Value) : Value) ((v31 : Value) : Value) ((v32 : Value) : Value) ((v33 : Value) : Value) ((v34 : Value) : Value) ((v35 : Value) : Value) ((v36 : Value) : Value) ((v37 : Value) : Value) ((v38 : Value) : Value) ((v39 : Value) : Value) ((v40 : Value) : Value) ((v41 : Value) : Value) ((v42 : Value) : Value) ((v43 : Value) : Value) ((v44 : Value) : Value) ((v45 : Value) : Value) ((v46 : Value) : Value) ((v47 : Value) : Value) ((v48 : Value) : Value) ((v49 : Value) : Value) ((v50 : Value) : Value) ((v51 : Value) : Value) lt q6 q7 tx cT nT gT be en i bd_1 hnT bd_12 bt hbr hb8 hb1 hen9 H.size) (cwV 0 hts (kG (List.forall_mem_cons.mpr ⟨(List.mem_cons_of_mem _ (List.mem_append_left _ (List.mem_of_getElem? (i := 3) rfl))), (List.forall_mem_cons.mpr ⟨(List.mem_cons_of_mem _ (List.mem_append_left _ (List.mem_of_getElem? (i := 2) rfl))), (List.forall_mem_cons.mpr ⟨(List.mem_cons_of_mem _ (List.mem_append_left _ (List.mem_of_getElem? (i := 1) rfl))), (List.forall_mem_cons.mpr ⟨(List.mem_cons_of_mem _ (List.mem_append_left _ (List.mem_of_getElem? (i := 0) rfl))), (fun _ h => absurd h List.not_mem_nil)⟩)⟩)⟩)⟩) (kGV _ _ _ _) (fun _ h => List.mem_cons_of_mem _ (List.mem_append_right _ (List.mem_append_left _ h))) gw_s_look10x) rfl rfl rfl ⟨rfl, hd_X10_look⟩ ⟨(Nat.le_of_ble_eq_true rfl), (Nat.le_of_ble_eq_true rfl)⟩) (kW_V kT_blind kT_give (va_recv hKc hPc (ci := 10) (q0 := 0) rfl rfl) hPc hKc hDc) rfl rfl hl.1 rfl (lv_room (Nat.le_of_ble_eq_true rfl)) dX10_term_14 ⟨(Nat.le_of_ble_eq_true rfl), (Nat.le_of_ble_eq_true rfl)⟩) hS (fun q _ h => hFc q h) hFc (fun r_13 => kU2 (fun a1_14 ch_15 t H_16 locs ht hvm hw hB hz1 hk1 hS => ?_))
        try dsimp only at hw
        have hPD : kPD dC dI A [(jM, .inr (10, [((v0 : Value) : Value), ((v1 : Value) : Value), ((v2 : Value) : Value), ((v3 : Value) : Value), .ref lt, .ref tx, ((v6 : Value) : Value), ((v7 : Value) : Value), ((v8 : Value) : Value), .int (nI (be)), .int (nI (en)), .int (nI (a1_14)), .int (-1), .int 6, ((v14 : Value) : Value), ((v15 : Value) : Value), .ref q6, .ref q7, ((v18 : Value) : Value), ((v19 : Value) : Value), ((v20 : Value) : Value), ((v21 : Value) : Value), ((v22 : Value) : Value), ((v23 : Value) : Value), ((v24 : Value) : Value), ((v25 : Value) : Value), ((v26 : Value) : Value), ((v27 : Value) : Value), ((v28 : Value) : Value), ((v29 : Value) : Value), ((v30 : Value) : Value), ((v31 : Value) : Value), ((v32 : Value) : Value), ((v33 : Value) : Value), ((v34 : Value) : Value), ((v35 : Value) : Value), ((v36 : Value) : Value), ((v37 : Value) : Value), ((v38 : Value) : Value), ((v39 : Value) : Value), ((v40 : Value) : Value), ((v41 : Value) : Value), ((v42 : Value) : Value), ((v43 : Value) : Value), ((v44 : Value) : Value), ((v45 : Value) : Value), ((v46 : Value) : Value), ((v47 : Value) : Value), ((v48 : Value) : Value), ((v49 : Value) : Value), ((v50 : Value) : Value), ((v51 : Value) : Value)])), (tx, .inl (cT, nT, .inl gT)), (lt, .inl (cE, 128, .inl gE))] H_16 := kJoinX hP hD [0, 1] rfl hk1 hFc hB.1 ht hB.2.2 rfl [some 0, some 1, none] rfl rfl
        obtain ⟨hP, hD⟩ := hPD
        have hw_17 := hw
        have hw_17_0 := hw_17.1
        have hw_17_1 := hw_17.2.1
        have hw_17_2 := hw_17.2.2.1
        have hw_17_3 := hw_17.2.2.2.1
        have hw_17_4 := hw_17.2.2.2.2.1
        have hw_17_5 := hw_17.2.2.2.2.2.1
        have hw_17_6 := hw_17.2.2.2.2.2.2.1
        have hw_17_7 := hw_17.2.2.2.2.2.2.2
        clear hw_17
        refine lv_bipush (v := 42) hx hb dX10_term_17 kc_b_42 ?_
        refine lv_icmp_eq (tgt := 31) hx hb dX10_term_19 kc_t_19_12 (fun c_18 => ?_) (fun c_18 => ?_)
        · have hk_19 := kLr_e hw_17_0 (by omega) (k := 42) (by decide) c_18
          refine lv_aload_n hx hb dX10_term_31 rfl (lv_at hl 1 rfl) ?_
          have bd_20 : a1_14 ≤ en := by omega
          have hCu := kCut (wc := [(jM, .inr (10, [((v0 : Value) : Value), ((v1 : Value) : Value), ((v2 : Value) : Value), ((v3 : Value) : Value), .ref lt, .ref tx, ((v6 : Value) : Value), ((v7 : Value) : Value), ((v8 : Value) : Value), .int (nI (be)), .int (nI (en)), .int (nI (a1_14)), .int (-1), .int 6, ((v14 : Value) : Value), ((v15 : Value) : Value), .ref q6, .ref q7, ((v18 : Value) : Value), ((v19 : Value) : Value), ((v20 : Value) : Value), ((v21 : Value) : Value), ((v22 : Value) : Value), ((v23 : Value) : Value), ((v24 : Value) : Value), ((v25 : Value) : Value), ((v26 : Value) : Value), ((v27 : Value) : Value), ((v28 : Value) : Value), ((v29 : Value) : Value), ((v30 : Value) : Value), ((v31 : Value) : Value), ((v32 : Value) : Value), ((v33 : Value) : Value), ((v34 : Value) : Value), ((v35 : Value) : Value), ((v36 : Value) : Value), ((v37 : Value) : Value), ((v38 : Value) : Value), ((v39 : Value) : Value), ((v40 : Value) : Value), ((v41 : Value) : Value), ((v42 : Value) : Value), ((v43 : Value) : Value), ((v44 : Value) : Value), ((v45 : Value) : Value), ((v46 : Value) : Value), ((v47 : Value) : Value), ((v48 : Value) : Value), ((v49 : Value) : Value), ((v50 : Value) : Value), ((v51 : Value) : Value)])), (tx, .inl (cT, nT, .inl gT))]) hP hD hS hA [0, 1] rfl kc_nd_434 rfl
          have hPc := hCu.1
          have hDc := hCu.2.1
          have hFc := hCu.2.2
          have hKc := hK.sb (tys2 := [(cT, .byte)]) [0] rfl
          refine va_calli (va_runV (As := []) (rest := []) ⟨hx, hb, hml, hown, hts⟩ (s_look10x l dC dI jM (((v0 : Value) : Value) : Value) (((v1 : Value) : Value) : Value) (((v2 : Value) : Value) : Value) (((v3 : Value) : Value) : Value) (((v6 : Value) : Value) : Value) (((v7 : Value) : Value) : Value) (((v8 : Value) : Value) : Value) (.int (-1) : Value) (.int 6 : Value) (((v14 : Value) : Value) : Value) (((v15 : Value) : Value) : Value) (((v18 : Value) : Value) : Value) (((v19 : Value) : Value) : Value) (((v20 : Value) : Value) : Value) (((v21 : Value) : Value) : Value) (((v22 : Value) : Value) : Value) (((v23 : Value) : Value) : Value) (((v24 : Value) : Value) : Value) (((v25 : Value) : Value) : Value) (((v26 : Value) : Value) : Value) (((v27 : Value) : Value) : Value) (((v28 : Value) : Value) : Value) (((v29 : Value) : Value) : Value) (((v30 : Value) : Value) : Value) (((v31 : Value) : Value) : Value) (((v32 : Value) : Value) : Value) (((v33 : Value) : Value) : Value) (((v34 : Value) : Value) : Value) (((v35 : Value) : Value) : Value) (((v36 : Value) : Value) : Value) (((v37 : Value) : Value) : Value) (((v38 : Value) : Value) : Value) (((v39 : Value) : Value) : Value) (((v40 : Value) : Value) : Value) (((v41 : Value) : Value) : Value) (((v42 : Value) : Value) : Value) (((v43 : Value) : Value) : Value) (((v44 : Value) : Value) : Value) (((v45 : Value) : Value) : Value) (((v46 : Value) : Value) : Value) (((v47 : Value) : Value) : Value) (((v48 : Value) : Value) : Value) (((v49 : Value) : Value) : Value) (((v50 : Value) : Value) : Value) (((v51 : Value) : Value) : Value) lt q6 q7 tx cT nT gT be en a1_14 bd_1 hnT bd_20 bt hbr hb8 hb1 hen9 H_16.size) (cwV 0 hts (kG (List.forall_mem_cons.mpr ⟨(List.mem_cons_of_mem _ (List.mem_append_left _ (List.mem_of_getElem? (i := 3) rfl))), (List.forall_mem_cons.mpr ⟨(List.mem_cons_of_mem _ (List.mem_append_left _ (List.mem_of_getElem? (i := 2) rfl))), (List.forall_mem_cons.mpr ⟨(List.mem_cons_of_mem _ (List.mem_append_left _ (List.mem_of_getElem? (i := 1) rfl))), (List.forall_mem_cons.mpr ⟨(List.mem_cons_of_mem _ (List.mem_append_left _ (List.mem_of_getElem? (i := 0) rfl))), (fun _ h => absurd h List.not_mem_nil)⟩)⟩)⟩)⟩) (kGV _ _ _ _) (fun _ h => List.mem_cons_of_mem _ (List.mem_append_right _ (List.mem_append_left _ h))) gw_s_look10x) rfl rfl rfl ⟨rfl, hd_X10_look⟩ ⟨(Nat.le_of_ble_eq_true rfl), (Nat.le_of_ble_eq_true rfl)⟩) (kW_V kT_blind kT_give (va_recv hKc hPc (ci := 10) (q0 := 0) rfl rfl) hPc hKc hDc) rfl rfl hl.1 rfl (lv_room (Nat.le_of_ble_eq_true rfl)) dX10_term_32 ⟨(Nat.le_of_ble_eq_true rfl), (Nat.le_of_ble_eq_true rfl)⟩) hS (fun q _ h => hFc q h) hFc (fun r_21 => kU2 (fun a1_22 ch_23 t H_24 locs ht hvm hw hB hz1 hk1 hS => ?_))
          try dsimp only at hw
          have hPD : kPD dC dI A [(jM, .inr (10, [(((v0 : Value) : Value) : Value), (((v1 : Value) : Value) : Value), (((v2 : Value) : Value) : Value), (((v3 : Value) : Value) : Value), .ref lt, .ref tx, (((v6 : Value) : Value) : Value), (((v7 : Value) : Value) : Value), (((v8 : Value) : Value) : Value), .int (nI (be)), .int (nI (en)), .int (nI (a1_22)), .int (-1), .int 6, (((v14 : Value) : Value) : Value), (((v15 : Value) : Value) : Value), .ref q6, .ref q7, (((v18 : Value) : Value) : Value), (((v19 : Value) : Value) : Value), (((v20 : Value) : Value) : Value), (((v21 : Value) : Value) : Value), (((v22 : Value) : Value) : Value), (((v23 : Value) : Value) : Value), (((v24 : Value) : Value) : Value), (((v25 : Value) : Value) : Value), (((v26 : Value) : Value) : Value), (((v27 : Value) : Value) : Value), (((v28 : Value) : Value) : Value), (((v29 : Value) : Value) : Value), (((v30 : Value) : Value) : Value), (((v31 : Value) : Value) : Value), (((v32 : Value) : Value) : Value), (((v33 : Value) : Value) : Value), (((v34 : Value) : Value) : Value), (((v35 : Value) : Value) : Value), (((v36 : Value) : Value) : Value), (((v37 : Value) : Value) : Value), (((v38 : Value) : Value) : Value), (((v39 : Value) : Value) : Value), (((v40 : Value) : Value) : Value), (((v41 : Value) : Value) : Value), (((v42 : Value) : Value) : Value), (((v43 : Value) : Value) : Value), (((v44 : Value) : Value) : Value), (((v45 : Value) : Value) : Value), (((v46 : Value) : Value) : Value), (((v47 : Value) : Value) : Value), (((v48 : Value) : Value) : Value), (((v49 : Value) : Value) : Value), (((v50 : Value) : Value) : Value), (((v51 : Value) : Value) : Value)])), (tx, .inl (cT, nT, .inl gT)), (lt, .inl (cE, 128, .inl gE))] H_24 := kJoinX hP hD [0, 1] rfl hk1 hFc hB.1 ht hB.2.2 rfl [some 0, some 1, none] rfl rfl
          obtain ⟨hP, hD⟩ := hPD
          have hw_25 := hw
          have hw_25_0 := hw_25.1
          have hw_25_1 := hw_25.2.1
          have hw_25_2 := hw_25.2.2.1
          have hw_25_3 := hw_25.2.2.2.1
          have hw_25_4 := hw_25.2.2.2.2.1
          have hw_25_5 := hw_25.2.2.2.2.2.1
          have hw_25_6 := hw_25.2.2.2.2.2.2.1
          have hw_25_7 := hw_25.2.2.2.2.2.2.2
          clear hw_25
          have e9 : a1_14 = a1_22 := by rw [hw_25_2, hw_17_2]; exact (kSp_sp (by omega)).symm
          have e8 : ch_15 = ch_23 := by rw [hw_25_1, hw_17_1, hw_17_2]; exact (kLk_sp (by omega)).symm
          have e7 : r_13 = r_21 := by rw [hw_17_0, hw_25_0, e8]
          subst e7
          subst e9
          subst e8
          refine lv_bipush (v := 42) hx hb dX10_term_35 kc_b_42 ?_
          refine lv_icmp_ne (tgt := 44) hx hb dX10_term_37 kc_t_37_7 (fun c_26 => absurd c_18 c_26) (fun c_26 => ?_)
          refine lv_iconst (v := 1) hx hb dX10_term_40 kc_i_1 ?_
          refine lv_goto (tgt := 45) hx hb dX10_term_41 kc_t_41_4 ?_
          refine lv_istore_n hx hb dX10_term_45 rfl hl kc_l_2_5 (kTo [(2, .int 1), (1, .int xb), (0, .ref jM)]) (fun ls hl => ?_)
          refine lv_aload_n hx hb dX10_term_46 rfl (lv_at hl 2 rfl) ?_
          refine lv_dup hx hb dX10_term_47 rfl ?_
          refine va_get (D := (dC, dI)) (ci := 10) (v := .int (nI (a1_14))) (C := RX10) (T := TX10) (N := 52) hx hb hts (fun _ h => List.mem_cons_of_mem _ (List.mem_append_right _ (List.mem_append_right _ (List.mem_append_left _ h)))) hown hK hP 0 rfl rfl 11 kc_l_11_52 (hts (.fieldLink RX10 141 "NotEndedModel" "at" "I") (List.mem_cons_of_mem _ (List.mem_append_left _ (List.mem_of_getElem? (i := 13) rfl)))) (fun _ h9 => h9) rfl dX10_term_48 ?_
          refine lv_iconst (v := 1) hx hb dX10_term_51 kc_i_1 ?_
          refine lv_iadd hx hb dX10_term_52 ?_
          refine lv_topi (fun y_27 ey_27 => ?_)
          obtain rfl : y_27 = nI (a1_14 + 1) := ey_27.trans (nI_add (a1_14) (1))
          refine va_put (D := (dC, dI)) (ci := 10) (v := .int (nI (a1_14 + 1))) (ty := tyX10 11) (C := RX10) (T := TX10) (N := 52) hx hb hts (fun _ h => List.mem_cons_of_mem _ (List.mem_append_right _ (List.mem_append_right _ (List.mem_append_left _ h)))) tyX10 tyX10_ok nmX10 hown hK hP hD hS 0 rfl rfl 11 kc_l_11_52 (hts (.fieldLink RX10 141 "NotEndedModel" "at" "I") (List.mem_cons_of_mem _ (List.mem_append_left _ (List.mem_of_getElem? (i := 13) rfl)))) (fun _ h9 => h9) rfl (tyX10_ok 11 kc_l_11_52) rfl rfl (Nat.le_of_ble_eq_true rfl) dX10_term_53 (fun H locs hP hD hS => ?_)
          have hPD : kPD dC dI A [(jM, .inr (10, [(((v0 : Value) : Value) : Value), (((v1 : Value) : Value) : Value), (((v2 : Value) : Value) : Value), (((v3 : Value) : Value) : Value), .ref lt, .ref tx, (((v6 : Value) : Value) : Value), (((v7 : Value) : Value) : Value), (((v8 : Value) : Value) : Value), .int (nI (be)), .int (nI (en)), .int (nI (a1_14 + 1)), .int (-1), .int 6, (((v14 : Value) : Value) : Value), (((v15 : Value) : Value) : Value), .ref q6, .ref q7, (((v18 : Value) : Value) : Value), (((v19 : Value) : Value) : Value), (((v20 : Value) : Value) : Value), (((v21 : Value) : Value) : Value), (((v22 : Value) : Value) : Value), (((v23 : Value) : Value) : Value), (((v24 : Value) : Value) : Value), (((v25 : Value) : Value) : Value), (((v26 : Value) : Value) : Value), (((v27 : Value) : Value) : Value), (((v28 : Value) : Value) : Value), (((v29 : Value) : Value) : Value), (((v30 : Value) : Value) : Value), (((v31 : Value) : Value) : Value), (((v32 : Value) : Value) : Value), (((v33 : Value) : Value) : Value), (((v34 : Value) : Value) : Value), (((v35 : Value) : Value) : Value), (((v36 : Value) : Value) : Value), (((v37 : Value) : Value) : Value), (((v38 : Value) : Value) : Value), (((v39 : Value) : Value) : Value), (((v40 : Value) : Value) : Value), (((v41 : Value) : Value) : Value), (((v42 : Value) : Value) : Value), (((v43 : Value) : Value) : Value), (((v44 : Value) : Value) : Value), (((v45 : Value) : Value) : Value), (((v46 : Value) : Value) : Value), (((v47 : Value) : Value) : Value), (((v48 : Value) : Value) : Value), (((v49 : Value) : Value) : Value), (((v50 : Value) : Value) : Value), (((v51 : Value) : Value) : Value)])), (tx, .inl (cT, nT, .inl gT)), (lt, .inl (cE, 128, .inl gE))] H := ⟨hP, hD⟩
          obtain ⟨hP, hD⟩ := hPD
          refine lv_aload_n hx hb dX10_term_56 rfl (lv_at hl 2 rfl) ?_
          have bd_28 : (a1_14 + 1) ≤ en := by omega
          have hCu := kCut (wc := [(jM, .inr (10, [(((v0 : Value) : Value) : Value), (((v1 : Value) : Value) : Value), (((v2 : Value) : Value) : Value), (((v3 : Value) : Value) : Value), .ref lt, .ref tx, (((v6 : Value) : Value) : Value), (((v7 : Value) : Value) : Value), (((v8 : Value) : Value) : Value), .int (nI (be)), .int (nI (en)), .int (nI (a1_14 + 1)), .int (-1), .int 6, (((v14 : Value) : Value) : Value), (((v15 : Value) : Value) : Value), .ref q6, .ref q7, (((v18 : Value) : Value) : Value), (((v19 : Value) : Value) : Value), (((v20 : Value) : Value) : Value), (((v21 : Value) : Value) : Value), (((v22 : Value) : Value) : Value), (((v23 : Value) : Value) : Value), (((v24 : Value) : Value) : Value), (((v25 : Value) : Value) : Value), (((v26 : Value) : Value) : Value), (((v27 : Value) : Value) : Value), (((v28 : Value) : Value) : Value), (((v29 : Value) : Value) : Value), (((v30 : Value) : Value) : Value), (((v31 : Value) : Value) : Value), (((v32 : Value) : Value) : Value), (((v33 : Value) : Value) : Value), (((v34 : Value) : Value) : Value), (((v35 : Value) : Value) : Value), (((v36 : Value) : Value) : Value), (((v37 : Value) : Value) : Value), (((v38 : Value) : Value) : Value), (((v39 : Value) : Value) : Value), (((v40 : Value) : Value) : Value), (((v41 : Value) : Value) : Value), (((v42 : Value) : Value) : Value), (((v43 : Value) : Value) : Value), (((v44 : Value) : Value) : Value), (((v45 : Value) : Value) : Value), (((v46 : Value) : Value) : Value), (((v47 : Value) : Value) : Value), (((v48 : Value) : Value) : Value), (((v49 : Value) : Value) : Value), (((v50 : Value) : Value) : Value), (((v51 : Value) : Value) : Value)])), (tx, .inl (cT, nT, .inl gT)), (lt, .inl (cE, 128, .inl gE))]) hP hD hS hA [0, 1, 2] rfl kc_nd_138 rfl
          have hPc := hCu.1
          have hDc := hCu.2.1
          have hFc := hCu.2.2
          have hKc := hK.sb (tys2 := [(cT, .byte), (cE, .int)]) [0, 1] rfl
          refine va_calli (va_runV (As := []) (rest := []) ⟨hx, hb, hml, hown, hts⟩ (s_atom10x_6 l dC dI jM ((((v0 : Value) : Value) : Value) : Value) ((((v1 : Value) : Value) : Value) : Value) ((((v2 : Value) : Value) : Value) : Value) ((((v3 : Value) : Value) : Value) : Value) ((((v6 : Value) : Value) : Value) : Value) ((((v7 : Value) : Value) : Value) : Value) ((((v8 : Value) : Value) : Value) : Value) ((((v14 : Value) : Value) : Value) : Value) ((((v15 : Value) : Value) : Value) : Value) ((((v18 : Value) : Value) : Value) : Value) ((((v19 : Value) : Value) : Value) : Value) ((((v20 : Value) : Value) : Value) : Value) ((((v21 : Value) : Value) : Value) : Value) ((((v22 : Value) : Value) : Value) : Value) ((((v23 : Value) : Value) : Value) : Value) ((((v24 : Value) : Value) : Value) : Value) ((((v25 : Value) : Value) : Value) : Value) ((((v26 : Value) : Value) : Value) : Value) ((((v27 : Value) : Value) : Value) : Value) ((((v28 : Value) : Value) : Value) : Value) ((((v29 : Value) : Value) : Value) : Value) ((((v30 : Value) : Value) : Value) : Value) ((((v31 : Value) : Value) : Value) : Value) ((((v32 : Value) : Value) : Value) : Value) ((((v33 : Value) : Value) : Value) : Value) ((((v34 : Value) : Value) : Value) : Value) ((((v35 : Value) : Value) : Value) : Value) ((((v36 : Value) : Value) : Value) : Value) ((((v37 : Value) : Value) : Value) : Value) ((((v38 : Value) : Value) : Value) : Value) ((((v39 : Value) : Value) : Value) : Value) ((((v40 : Value) : Value) : Value) : Value) ((((v41 : Value) : Value) : Value) : Value) ((((v42 : Value) : Value) : Value) : Value) ((((v43 : Value) : Value) : Value) : Value) ((((v44 : Value) : Value) : Value) : Value) ((((v45 : Value) : Value) : Value) : Value) ((((v46 : Value) : Value) : Value) : Value) ((((v47 : Value) : Value) : Value) : Value) ((((v48 : Value) : Value) : Value) : Value) ((((v49 : Value) : Value) : Value) : Value) ((((v50 : Value) : Value) : Value) : Value) ((((v51 : Value) : Value) : Value) : Value) lt q6 q7 tx cT nT gT be en (a1_14 + 1) bd_1 hnT bd_28 bt hbr hb8 hb1 hen9 cE gE b6 n6 g6 hn6 hg6 b7 n7 g7 hn7 hg7 hz6 hz7 hl7 H.size) (cwV 0 hts (kG (List.forall_mem_cons.mpr ⟨(List.mem_cons_of_mem _ (List.mem_append_left _ (List.mem_of_getElem? (i := 24) rfl))), (List.forall_mem_cons.mpr ⟨(List.mem_cons_of_mem _ (List.mem_append_left _ (List.mem_of_getElem? (i := 23) rfl))), (List.forall_mem_cons.mpr ⟨(List.mem_cons_of_mem _ (List.mem_append_left _ (List.mem_of_getElem? (i := 22) rfl))), (List.forall_mem_cons.mpr ⟨(List.mem_cons_of_mem _ (List.mem_append_left _ (List.mem_of_getElem? (i := 0) rfl))), (fun _ h => absurd h List.not_mem_nil)⟩)⟩)⟩)⟩) (kGV _ _ _ _) (kFam (List.mem_cons_of_mem _ (List.mem_append_left _ (List.mem_of_getElem? (i := 21) rfl)))) gw_s_atom10x_6) rfl rfl rfl ⟨rfl, hd_X10_atom⟩ ⟨(Nat.le_of_ble_eq_true rfl), (Nat.le_of_ble_eq_true rfl)⟩) (kW_V kS2_blind (kS2_give hX hS hFc) (va_recv hKc hPc (ci := 10) (q0 := 0) rfl rfl) hPc hKc hDc) rfl rfl hl.1 rfl (lv_room (Nat.le_of_ble_eq_true rfl)) dX10_term_57 ⟨(Nat.le_of_ble_eq_true rfl), (Nat.le_of_ble_eq_true rfl)⟩) hS (fun q _ h => hFc q h) hFc (fun r_29 => kU5 (fun a1_30 xf_31 xd_32 xo_33 xl_34 t H_35 locs ht hvm hw hB hz1 hk1 hS => ?_))
          try dsimp only at hw
          have hPD : kPD dC dI A [(jM, .inr (10, [((((v0 : Value) : Value) : Value) : Value), ((((v1 : Value) : Value) : Value) : Value), ((((v2 : Value) : Value) : Value) : Value), ((((v3 : Value) : Value) : Value) : Value), .ref lt, .ref tx, ((((v6 : Value) : Value) : Value) : Value), ((((v7 : Value) : Value) : Value) : Value), ((((v8 : Value) : Value) : Value) : Value), .int (nI (be)), .int (nI (en)), .int (nI (a1_30)), .int xf_31, .int xd_32, ((((v14 : Value) : Value) : Value) : Value), ((((v15 : Value) : Value) : Value) : Value), .ref q6, .ref q7, ((((v18 : Value) : Value) : Value) : Value), ((((v19 : Value) : Value) : Value) : Value), ((((v20 : Value) : Value) : Value) : Value), ((((v21 : Value) : Value) : Value) : Value), ((((v22 : Value) : Value) : Value) : Value), ((((v23 : Value) : Value) : Value) : Value), ((((v24 : Value) : Value) : Value) : Value), ((((v25 : Value) : Value) : Value) : Value), ((((v26 : Value) : Value) : Value) : Value), ((((v27 : Value) : Value) : Value) : Value), ((((v28 : Value) : Value) : Value) : Value), ((((v29 : Value) : Value) : Value) : Value), ((((v30 : Value) : Value) : Value) : Value), ((((v31 : Value) : Value) : Value) : Value), ((((v32 : Value) : Value) : Value) : Value), ((((v33 : Value) : Value) : Value) : Value), ((((v34 : Value) : Value) : Value) : Value), ((((v35 : Value) : Value) : Value) : Value), ((((v36 : Value) : Value) : Value) : Value), ((((v37 : Value) : Value) : Value) : Value), ((((v38 : Value) : Value) : Value) : Value), ((((v39 : Value) : Value) : Value) : Value), ((((v40 : Value) : Value) : Value) : Value), ((((v41 : Value) : Value) : Value) : Value), ((((v42 : Value) : Value) : Value) : Value), ((((v43 : Value) : Value) : Value) : Value), ((((v44 : Value) : Value) : Value) : Value), ((((v45 : Value) : Value) : Value) : Value), ((((v46 : Value) : Value) : Value) : Value), ((((v47 : Value) : Value) : Value) : Value), ((((v48 : Value) : Value) : Value) : Value), ((((v49 : Value) : Value) : Value) : Value), ((((v50 : Value) : Value) : Value) : Value), ((((v51 : Value) : Value) : Value) : Value)])), (tx, .inl (cT, nT, .inl gT)), (lt, .inl (cE, 128, .inl gE))] H_35 := kJoinX hP hD [0, 1, 2] rfl hk1 hFc hB.1 ht hB.2.2 rfl [some 0, some 1, some 2] rfl rfl
          obtain ⟨hP, hD⟩ := hPD
          have hw_36 := hw
          have hw_36_w := hw_36.2
          replace hw_36 := hw_36.1
          have hw_36_k := hw_36.2.1
          rcases Bool.eq_false_or_eq_true xo_33 with e9 | e9
          · subst e9
            have hw_36_v := hw_36_w rfl
            obtain ⟨hw_36_f, hw_36_d, hw_36_l, hw_36_p⟩ := hw_36.2.2.1 rfl
            subst hw_36_f
            subst hw_36_d
            obtain ⟨z_37, ez_37⟩ : ∃ z : Int64, z = Int32.toInt64 r_29 := ⟨_, rfl⟩
            refine lv_i2l (v := z_37) hx hb dX10_term_60 ez_37.symm ?_
            refine lv_lstore_n hx hb dX10_term_61 rfl hl kc_l_4_5 (kTo [(3, .long z_37), (2, .int 1), (1, .int xb), (0, .ref jM)]) (fun ls hl => ?_)
            refine lv_iload_n hx hb dX10_term_62 rfl (lv_at hl 1 rfl) ?_
            refine lv_if_eq (tgt := 73) hx hb dX10_term_63 kc_t_63_10 (fun c_38 => absurd c_38 (by decide)) (fun c_38 => ?_)
            refine lv_iload_n hx hb dX10_term_66 rfl (lv_at hl 2 rfl) ?_
            obtain ⟨z_39, ez_39⟩ : ∃ z : Int64, z = Int32.toInt64 xb := ⟨_, rfl⟩
            refine lv_i2l (v := z_39) hx hb dX10_term_67 ez_39.symm ?_
            refine lv_lload_n hx hb dX10_term_68 rfl (lv_at hl 0 rfl) ?_
            refine lv_lmul hx hb dX10_term_69 ?_
            refine lv_topl (fun z_40 ez_40 => ?_)
            refine lv_goto (tgt := 87) hx hb dX10_term_70 kc_t_70_17 ?_
            have hPc := hP.sb (ws2 := []) [] rfl
            have hKc := hK.sb (tys2 := []) [] rfl
            refine vp_callSi (va_runS (As := [.long z_40]) (rest := []) ⟨hx, hb, hml, hown, hts⟩ (s_within10x l dC dI z_40) (va_cwS 1 hts (kG (List.forall_mem_cons.mpr ⟨(List.mem_cons_of_mem _ (List.mem_append_left _ (List.mem_of_getElem? (i := 26) rfl))), (List.forall_mem_cons.mpr ⟨(List.mem_cons_of_mem _ (List.mem_append_left _ (List.mem_of_getElem? (i := 25) rfl))), (List.forall_mem_cons.mpr ⟨(List.mem_cons_of_mem _ (List.mem_append_left _ (List.mem_of_getElem? (i := 0) rfl))), (fun _ h => absurd h List.not_mem_nil)⟩)⟩)⟩) (kGS _ _ _) (fun _ h => List.mem_cons_of_mem _ (List.mem_append_right _ (List.mem_append_right _ (List.mem_append_right _ (List.mem_append_right _ (List.mem_append_right _ (List.mem_append_right _ (List.mem_append_right _ (List.mem_append_left _ h))))))))) gw_s_within10x) rfl rfl rfl hd_X10_within ⟨(Nat.le_of_ble_eq_true rfl), (Nat.le_of_ble_eq_true rfl)⟩) (kR_S kT_blind kT_give hPc hKc) rfl rfl hl.1 rfl (lv_room (Nat.le_of_ble_eq_true rfl)) dX10_term_87 ⟨(Nat.le_of_ble_eq_true rfl), (Nat.le_of_ble_eq_true rfl)⟩).run (fun r_41 hw => ?_)
            have hw_42 := hw
            refine lv_istore_n hx hb dX10_term_90 rfl hl kc_l_1_5 (kTo [(1, .int r_41), (3, .long z_37), (2, .int 1), (0, .ref jM)]) (fun ls hl => ?_)
            refine lv_goto (tgt := 5) hx hb dX10_term_91 kc_t_91_m86 ?_
            exact ih_k_10 a1_30 r_41 (xl ++ xl_34 ++ [nI (20000 + ch_15)]) (xc + 1) (by omega) (by omega) (by have e9 := kLoop_t (b := bt) (n := en) (c1 := 42) (c2 := 47) (a := kAtomD bt en g7 n7 0) (f := 120 - (xc + 1)) (p := i) (l := xl) (by rw [← hw_17_1]; omega) (by rw [← hw_17_2]; exact hw_36.1); rw [← hw_17_1] at e9; rw [← e9, show (120 - (xc + 1)) + 1 = 120 - xc by omega]; exact ivk_10_2) (fun hbd => by rw [kValN ivk_10_4 (kAtomD_w hn7 0 _ _ _ hw_36.1) (by omega) (by omega), ← ivk_10_3 hbd, ← hw_36_v hbd]; rw [show ch_15 = 42 by omega]; rw [hw_42, ez_40, ez_39, ez_37]; exact kRf42 _ _) (kHn_bin ivk_10_4 (kAtomD_w hn7 0 _ _ _ hw_36.1) (by omega) (by omega)) _ _ hP hD hS ls (lv_sub hl [0, 3] rfl) (by omega)
          · subst e9
            obtain ⟨hw_36_f, hw_36_n⟩ := hw_36.2.2.2 rfl
            subst hw_36_f
            subst hw_36_n
            obtain ⟨z_43, ez_43⟩ : ∃ z : Int64, z = Int32.toInt64 r_29 := ⟨_, rfl⟩
            refine lv_i2l (v := z_43) hx hb dX10_term_60 ez_43.symm ?_
            refine lv_lstore_n hx hb dX10_term_61 rfl hl kc_l_4_5 (kTo [(3, .long z_43), (2, .int 1), (1, .int xb), (0, .ref jM)]) (fun ls hl => ?_)
            refine lv_iload_n hx hb dX10_term_62 rfl (lv_at hl 1 rfl) ?_
            refine lv_if_eq (tgt := 73) hx hb dX10_term_63 kc_t_63_10 (fun c_44 => absurd c_44 (by decide)) (fun c_44 => ?_)
            refine lv_iload_n hx hb dX10_term_66 rfl (lv_at hl 2 rfl) ?_
            obtain ⟨z_45, ez_45⟩ : ∃ z : Int64, z = Int32.toInt64 xb := ⟨_, rfl⟩
            refine lv_i2l (v := z_45) hx hb dX10_term_67 ez_45.symm ?_
            refine lv_lload_n hx hb dX10_term_68 rfl (lv_at hl 0 rfl) ?_
            refine lv_lmul hx hb dX10_term_69 ?_
            refine lv_topl (fun z_46 ez_46 => ?_)
            refine lv_goto (tgt := 87) hx hb dX10_term_70 kc_t_70_17 ?_
            have hPc := hP.sb (ws2 := []) [] rfl
            have hKc := hK.sb (tys2 := []) [] rfl
            refine vp_callSi (va_runS (As := [.long z_46]) (rest := []) ⟨hx, hb, hml, hown, hts⟩ (s_within10x l dC dI z_46) (va_cwS 1 hts (kG (List.forall_mem_cons.mpr ⟨(List.mem_cons_of_mem _ (List.mem_append_left _ (List.mem_of_getElem? (i := 26) rfl))), (List.forall_mem_cons.mpr ⟨(List.mem_cons_of_mem _ (List.mem_append_left _ (List.mem_of_getElem? (i := 25) rfl))), (List.forall_mem_cons.mpr ⟨(List.mem_cons_of_mem _ (List.mem_append_left _ (List.mem_of_getElem? (i := 0) rfl))), (fun _ h => absurd h List.not_mem_nil)⟩)⟩)⟩) (kGS _ _ _) (fun _ h => List.mem_cons_of_mem _ (List.mem_append_right _ (List.mem_append_right _ (List.mem_append_right _ (List.mem_append_right _ (List.mem_append_right _ (List.mem_append_right _ (List.mem_append_right _ (List.mem_append_left _ h))))))))) gw_s_within10x) rfl rfl rfl hd_X10_within ⟨(Nat.le_of_ble_eq_true rfl), (Nat.le_of_ble_eq_true rfl)⟩) (kR_S kT_blind kT_give hPc hKc) rfl rfl hl.1 rfl (lv_room (Nat.le_of_ble_eq_true rfl)) dX10_term_87 ⟨(Nat.le_of_ble_eq_true rfl), (Nat.le_of_ble_eq_true rfl)⟩).run (fun r_47 hw => ?_)
            have hw_48 := hw
            refine lv_istore_n hx hb dX10_term_90 rfl hl kc_l_1_5 (kTo [(1, .int r_47), (3, .long z_43), (2, .int 1), (0, .ref jM)]) (fun ls hl => ?_)
            refine lv_goto (tgt := 5) hx hb dX10_term_91 kc_t_91_m86 ?_
            refine lv_aload_n hx hb dX10_term_5 rfl (lv_at hl 3 rfl) ?_
            refine va_get (D := (dC, dI)) (ci := 10) (v := .int (nI (a1_30))) (C := RX10) (T := TX10) (N := 52) hx hb hts (fun _ h => List.mem_cons_of_mem _ (List.mem_append_right _ (List.mem_append_right _ (List.mem_append_left _ h)))) hown hK hP 0 rfl rfl 12 kc_l_12_52 (hts (.fieldLink RX10 150 "NotEndedModel" "fault" "I") (List.mem_cons_of_mem _ (List.mem_append_left _ (List.mem_of_getElem? (i := 10) rfl)))) (fun _ h9 => h9) rfl dX10_term_6 ?_
            refine lv_iconst (v := (-1)) hx hb dX10_term_9 kc_i_m1 ?_
            refine lv_icmp_ne (tgt := 94) hx hb dX10_term_10 kc_t_10_84 (fun c_49 => ?_) (fun c_49 => absurd c_49 (kNeM (n := a1_30) (by omega)))
            refine lv_iload_n hx hb dX10_term_94 rfl (lv_at hl 0 rfl) ?_
            have hP9 := hP
            have hD9 := hD
            have hK9 := hK
            rw [hQ]
            exact W.iret (v := r_47) hx hb hr (fun t ht hW => ⟨⟨r_47, (a1_30, (nI (a1_30)), xd_32, false, []), rfl, ⟨(kPM_f (by rw [← ivk_10_2, show 120 - xc = (119 - xc) + 1 by omega]; exact kLoop_f (by rw [← hw_17_1]; omega) (by rw [← hw_17_2]; exact hw_36.1)) (by omega)), fun z9 => absurd z9 (by decide)⟩,  by rw [ht]; exact hP9, va_K.moved hW.alike hK9, hD9⟩, hS.F ht⟩) hS.2.2 dX10_term_95
        · have hk_50 := kLr_n hw_17_0 (by omega) (k := 42) (by decide) c_18
          refine lv_aload_n hx hb dX10_term_22 rfl (lv_at hl 1 rfl) ?_
          have bd_51 : a1_14 ≤ en := by omega
          have hCu := kCut (wc := [(jM, .inr (10, [((v0 : Value) : Value), ((v1 : Value) : Value), ((v2 : Value) : Value), ((v3 : Value) : Value), .ref lt, .ref tx, ((v6 : Value) : Value), ((v7 : Value) : Value), ((v8 : Value) : Value), .int (nI (be)), .int (nI (en)), .int (nI (a1_14)), .int (-1), .int 6, ((v14 : Value) : Value), ((v15 : Value) : Value), .ref q6, .ref q7, ((v18 : Value) : Value), ((v19 : Value) : Value), ((v20 : Value) : Value), ((v21 : Value) : Value), ((v22 : Value) : Value), ((v23 : Value) : Value), ((v24 : Value) : Value), ((v25 : Value) : Value), ((v26 : Value) : Value), ((v27 : Value) : Value), ((v28 : Value) : Value), ((v29 : Value) : Value), ((v30 : Value) : Value), ((v31 : Value) : Value), ((v32 : Value) : Value), ((v33 : Value) : Value), ((v34 : Value) : Value), ((v35 : Value) : Value), ((v36 : Value) : Value), ((v37 : Value) : Value), ((v38 : Value) : Value), ((v39 : Value) : Value), ((v40 : Value) : Value), ((v41 : Value) : Value), ((v42 : Value) : Value), ((v43 : Value) : Value), ((v44 : Value) : Value), ((v45 : Value) : Value), ((v46 : Value) : Value), ((v47 : Value) : Value), ((v48 : Value) : Value), ((v49 : Value) : Value), ((v50 : Value) : Value), ((v51 : Value) : Value)])), (tx, .inl (cT, nT, .inl gT))]) hP hD hS hA [0, 1] rfl kc_nd_434 rfl
          have hPc := hCu.1
          have hDc := hCu.2.1
          have hFc := hCu.2.2
          have hKc := hK.sb (tys2 := [(cT, .byte)]) [0] rfl
          refine va_calli (va_runV (As := []) (rest := []) ⟨hx, hb, hml, hown, hts⟩ (s_look10x l dC dI jM (((v0 : Value) : Value) : Value) (((v1 : Value) : Value) : Value) (((v2 : Value) : Value) : Value) (((v3 : Value) : Value) : Value) (((v6 : Value) : Value) : Value) (((v7 : Value) : Value) : Value) (((v8 : Value) : Value) : Value) (.int (-1) : Value) (.int 6 : Value) (((v14 : Value) : Value) : Value) (((v15 : Value) : Value) : Value) (((v18 : Value) : Value) : Value) (((v19 : Value) : Value) : Value) (((v20 : Value) : Value) : Value) (((v21 : Value) : Value) : Value) (((v22 : Value) : Value) : Value) (((v23 : Value) : Value) : Value) (((v24 : Value) : Value) : Value) (((v25 : Value) : Value) : Value) (((v26 : Value) : Value) : Value) (((v27 : Value) : Value) : Value) (((v28 : Value) : Value) : Value) (((v29 : Value) : Value) : Value) (((v30 : Value) : Value) : Value) (((v31 : Value) : Value) : Value) (((v32 : Value) : Value) : Value) (((v33 : Value) : Value) : Value) (((v34 : Value) : Value) : Value) (((v35 : Value) : Value) : Value) (((v36 : Value) : Value) : Value) (((v37 : Value) : Value) : Value) (((v38 : Value) : Value) : Value) (((v39 : Value) : Value) : Value) (((v40 : Value) : Value) : Value) (((v41 : Value) : Value) : Value) (((v42 : Value) : Value) : Value) (((v43 : Value) : Value) : Value) (((v44 : Value) : Value) : Value) (((v45 : Value) : Value) : Value) (((v46 : Value) : Value) : Value) (((v47 : Value) : Value) : Value) (((v48 : Value) : Value) : Value) (((v49 : Value) : Value) : Value) (((v50 : Value) : Value) : Value) (((v51 : Value) : Value) : Value) lt q6 q7 tx cT nT gT be en a1_14 bd_1 hnT bd_51 bt hbr hb8 hb1 hen9 H_16.size) (cwV 0 hts (kG (List.forall_mem_cons.mpr ⟨(List.mem_cons_of_mem _ (List.mem_append_left _ (List.mem_of_getElem? (i := 3) rfl))), (List.forall_mem_cons.mpr ⟨(List.mem_cons_of_mem _ (List.mem_append_left _ (List.mem_of_getElem? (i := 2) rfl))), (List.forall_mem_cons.mpr ⟨(List.mem_cons_of_mem _ (List.mem_append_left _ (List.mem_of_getElem? (i := 1) rfl))), (List.forall_mem_cons.mpr ⟨(List.mem_cons_of_mem _ (List.mem_append_left _ (List.mem_of_getElem? (i := 0) rfl))), (fun _ h => absurd h List.not_mem_nil)⟩)⟩)⟩)⟩) (kGV _ _ _ _) (fun _ h => List.mem_cons_of_mem _ (List.mem_append_right _ (List.mem_append_left _ h))) gw_s_look10x) rfl rfl rfl ⟨rfl, hd_X10_look⟩ ⟨(Nat.le_of_ble_eq_true rfl), (Nat.le_of_ble_eq_true rfl)⟩) (kW_V kT_blind kT_give (va_recv hKc hPc (ci := 10) (q0 := 0) rfl rfl) hPc hKc hDc) rfl rfl hl.1 rfl (lv_room (Nat.le_of_ble_eq_true rfl)) dX10_term_23 ⟨(Nat.le_of_ble_eq_true rfl), (Nat.le_of_ble_eq_true rfl)⟩) hS (fun q _ h => hFc q h) hFc (fun r_52 => kU2 (fun a1_53 ch_54 t H_55 locs ht hvm hw hB hz1 hk1 hS => ?_))
          try dsimp only at hw
          have hPD : kPD dC dI A [(jM, .inr (10, [(((v0 : Value) : Value) : Value), (((v1 : Value) : Value) : Value), (((v2 : Value) : Value) : Value), (((v3 : Value) : Value) : Value), .ref lt, .ref tx, (((v6 : Value) : Value) : Value), (((v7 : Value) : Value) : Value), (((v8 : Value) : Value) : Value), .int (nI (be)), .int (nI (en)), .int (nI (a1_53)), .int (-1), .int 6, (((v14 : Value) : Value) : Value), (((v15 : Value) : Value) : Value), .ref q6, .ref q7, (((v18 : Value) : Value) : Value), (((v19 : Value) : Value) : Value), (((v20 : Value) : Value) : Value), (((v21 : Value) : Value) : Value), (((v22 : Value) : Value) : Value), (((v23 : Value) : Value) : Value), (((v24 : Value) : Value) : Value), (((v25 : Value) : Value) : Value), (((v26 : Value) : Value) : Value), (((v27 : Value) : Value) : Value), (((v28 : Value) : Value) : Value), (((v29 : Value) : Value) : Value), (((v30 : Value) : Value) : Value), (((v31 : Value) : Value) : Value), (((v32 : Value) : Value) : Value), (((v33 : Value) : Value) : Value), (((v34 : Value) : Value) : Value), (((v35 : Value) : Value) : Value), (((v36 : Value) : Value) : Value), (((v37 : Value) : Value) : Value), (((v38 : Value) : Value) : Value), (((v39 : Value) : Value) : Value), (((v40 : Value) : Value) : Value), (((v41 : Value) : Value) : Value), (((v42 : Value) : Value) : Value), (((v43 : Value) : Value) : Value), (((v44 : Value) : Value) : Value), (((v45 : Value) : Value) : Value), (((v46 : Value) : Value) : Value), (((v47 : Value) : Value) : Value), (((v48 : Value) : Value) : Value), (((v49 : Value) : Value) : Value), (((v50 : Value) : Value) : Value), (((v51 : Value) : Value) : Value)])), (tx, .inl (cT, nT, .inl gT)), (lt, .inl (cE, 128, .inl gE))] H_55 := kJoinX hP hD [0, 1] rfl hk1 hFc hB.1 ht hB.2.2 rfl [some 0, some 1, none] rfl rfl
          obtain ⟨hP, hD⟩ := hPD
          have hw_56 := hw
          have hw_56_0 := hw_56.1
          have hw_56_1 := hw_56.2.1
          have hw_56_2 := hw_56.2.2.1
          have hw_56_3 := hw_56.2.2.2.1
          have hw_56_4 := hw_56.2.2.2.2.1
          have hw_56_5 := hw_56.2.2.2.2.2.1
          have hw_56_6 := hw_56.2.2.2.2.2.2.1
          have hw_56_7 := hw_56.2.2.2.2.2.2.2
          clear hw_56
          have e9 : a1_14 = a1_53 := by rw [hw_56_2, hw_17_2]; exact (kSp_sp (by omega)).symm
          have e8 : ch_15 = ch_54 := by rw [hw_56_1, hw_17_1, hw_17_2]; exact (kLk_sp (by omega)).symm
          have e7 : r_13 = r_52 := by rw [hw_17_0, hw_56_0, e8]
          subst e7
          subst e9
          subst e8
          refine lv_bipush (v := 47) hx hb dX10_term_26 kc_b_47 ?_
          refine lv_icmp_ne (tgt := 94) hx hb dX10_term_28 kc_t_28_66 (fun c_57 => ?_) (fun c_57 => ?_)
          · have hk_58 := kLr_n hw_17_0 (by omega) (k := 47) (by decide) c_57
            refine lv_iload_n hx hb dX10_term_94 rfl (lv_at hl 0 rfl) ?_
            have hP9 := hP
            have hD9 := hD
            have hK9 := hK
            rw [hQ]
            exact W.iret (v := xb) hx hb hr (fun t ht hW => ⟨⟨xb, (a1_14, (-1), 6, true, xl), rfl, ⟨(kPM_t (A := kTermD bt en g7 n7 0) rfl (kTermD_good hz7 0) (by omega) (by rw [← ivk_10_2, show 120 - xc = (119 - xc) + 1 by omega, kLoop_e (by rw [← hw_17_1]; omega), ← hw_17_2])), fun _ hbd => (ivk_10_3 hbd)⟩,  by rw [ht]; exact hP9, va_K.moved hW.alike hK9, hD9⟩, hS.F ht⟩) hS.2.2 dX10_term_95
          · have hk_59 := kLr_e hw_17_0 (by omega) (k := 47) (by decide) c_57
            refine lv_aload_n hx hb dX10_term_31 rfl (lv_at hl 1 rfl) ?_
            have hCu := kCut (wc := [(jM, .inr (10, [(((v0 : Value) : Value) : Value), (((v1 : Value) : Value) : Value), (((v2 : Value) : Value) : Value), (((v3 : Value) : Value) : Value), .ref lt, .ref tx, (((v6 : Value) : Value) : Value), (((v7 : Value) : Value) : Value), (((v8 : Value) : Value) : Value), .int (nI (be)), .int (nI (en)), .int (nI (a1_14)), .int (-1), .int 6, (((v14 : Value) : Value) : Value), (((v15 : Value) : Value) : Value), .ref q6, .ref q7, (((v18 : Value) : Value) : Value), (((v19 : Value) : Value) : Value), (((v20 : Value) : Value) : Value), (((v21 : Value) : Value) : Value), (((v22 : Value) : Value) : Value), (((v23 : Value) : Value) : Value), (((v24 : Value) : Value) : Value), (((v25 : Value) : Value) : Value), (((v26 : Value) : Value) : Value), (((v27 : Value) : Value) : Value), (((v28 : Value) : Value) : Value), (((v29 : Value) : Value) : Value), (((v30 : Value) : Value) : Value), (((v31 : Value) : Value) : Value), (((v32 : Value) : Value) : Value), (((v33 : Value) : Value) : Value), (((v34 : Value) : Value) : Value), (((v35 : Value) : Value) : Value), (((v36 : Value) : Value) : Value), (((v37 : Value) : Value) : Value), (((v38 : Value) : Value) : Value), (((v39 : Value) : Value) : Value), (((v40 : Value) : Value) : Value), (((v41 : Value) : Value) : Value), (((v42 : Value) : Value) : Value), (((v43 : Value) : Value) : Value), (((v44 : Value) : Value) : Value), (((v45 : Value) : Value) : Value), (((v46 : Value) : Value) : Value), (((v47 : Value) : Value) : Value), (((v48 : Value) : Value) : Value), (((v49 : Value) : Value) : Value), (((v50 : Value) : Value) : Value), (((v51 : Value) : Value) : Value)])), (tx, .inl (cT, nT, .inl gT))]) hP hD hS hA [0, 1] rfl kc_nd_434 rfl
            have hPc := hCu.1
            have hDc := hCu.2.1
            have hFc := hCu.2.2
            have hKc := hK.sb (tys2 := [(cT, .byte)]) [0] rfl
            refine va_calli (va_runV (As := []) (rest := []) ⟨hx, hb, hml, hown, hts⟩ (s_look10x l dC dI jM ((((v0 : Value) : Value) : Value) : Value) ((((v1 : Value) : Value) : Value) : Value) ((((v2 : Value) : Value) : Value) : Value) ((((v3 : Value) : Value) : Value) : Value) ((((v6 : Value) : Value) : Value) : Value) ((((v7 : Value) : Value) : Value) : Value) ((((v8 : Value) : Value) : Value) : Value) (.int (-1) : Value) (.int 6 : Value) ((((v14 : Value) : Value) : Value) : Value) ((((v15 : Value) : Value) : Value) : Value) ((((v18 : Value) : Value) : Value) : Value) ((((v19 : Value) : Value) : Value) : Value) ((((v20 : Value) : Value) : Value) : Value) ((((v21 : Value) : Value) : Value) : Value) ((((v22 : Value) : Value) : Value) : Value) ((((v23 : Value) : Value) : Value) : Value) ((((v24 : Value) : Value) : Value) : Value) ((((v25 : Value) : Value) : Value) : Value) ((((v26 : Value) : Value) : Value) : Value) ((((v27 : Value) : Value) : Value) : Value) ((((v28 : Value) : Value) : Value) : Value) ((((v29 : Value) : Value) : Value) : Value) ((((v30 : Value) : Value) : Value) : Value) ((((v31 : Value) : Value) : Value) : Value) ((((v32 : Value) : Value) : Value) : Value) ((((v33 : Value) : Value) : Value) : Value) ((((v34 : Value) : Value) : Value) : Value) ((((v35 : Value) : Value) : Value) : Value) ((((v36 : Value) : Value) : Value) : Value) ((((v37 : Value) : Value) : Value) : Value) ((((v38 : Value) : Value) : Value) : Value) ((((v39 : Value) : Value) : Value) : Value) ((((v40 : Value) : Value) : Value) : Value) ((((v41 : Value) : Value) : Value) : Value) ((((v42 : Value) : Value) : Value) : Value) ((((v43 : Value) : Value) : Value) : Value) ((((v44 : Value) : Value) : Value) : Value) ((((v45 : Value) : Value) : Value) : Value) ((((v46 : Value) : Value) : Value) : Value) ((((v47 : Value) : Value) : Value) : Value) ((((v48 : Value) : Value) : Value) : Value) ((((v49 : Value) : Value) : Value) : Value) ((((v50 : Value) : Value) : Value) : Value) ((((v51 : Value) : Value) : Value) : Value) lt q6 q7 tx cT nT gT be en a1_14 bd_1 hnT bd_51 bt hbr hb8 hb1 hen9 H_55.size) (cwV 0 hts (kG (List.forall_mem_cons.mpr ⟨(List.mem_cons_of_mem _ (List.mem_append_left _ (List.mem_of_getElem? (i := 3) rfl))), (List.forall_mem_cons.mpr ⟨(List.mem_cons_of_mem _ (List.mem_append_left _ (List.mem_of_getElem? (i := 2) rfl))), (List.forall_mem_cons.mpr ⟨(List.mem_cons_of_mem _ (List.mem_append_left _ (List.mem_of_getElem? (i := 1) rfl))), (List.forall_mem_cons.mpr ⟨(List.mem_cons_of_mem _ (List.mem_append_left _ (List.mem_of_getElem? (i := 0) rfl))), (fun _ h => absurd h List.not_mem_nil)⟩)⟩)⟩)⟩) (kGV _ _ _ _) (fun _ h => List.mem_cons_of_mem _ (List.mem_append_right _ (List.mem_append_left _ h))) gw_s_look10x) rfl rfl rfl ⟨rfl, hd_X10_look⟩ ⟨(Nat.le_of_ble_eq_true rfl), (Nat.le_of_ble_eq_true rfl)⟩) (kW_V kT_blind kT_give (va_recv hKc hPc (ci := 10) (q0 := 0) rfl rfl) hPc hKc hDc) rfl rfl hl.1 rfl (lv_room (Nat.le_of_ble_eq_true rfl)) dX10_term_32 ⟨(Nat.le_of_ble_eq_true rfl), (Nat.le_of_ble_eq_true rfl)⟩) hS (fun q _ h => hFc q h) hFc (fun r_60 => kU2 (fun a1_61 ch_62 t H_63 locs ht hvm hw hB hz1 hk1 hS => ?_))
            try dsimp only at hw
            have hPD : kPD dC dI A [(jM, .inr (10, [((((v0 : Value) : Value) : Value) : Value), ((((v1 : Value) : Value) : Value) : Value), ((((v2 : Value) : Value) : Value) : Value), ((((v3 : Value) : Value) : Value) : Value), .ref lt, .ref tx, ((((v6 : Value) : Value) : Value) : Value), ((((v7 : Value) : Value) : Value) : Value), ((((v8 : Value) : Value) : Value) : Value), .int (nI (be)), .int (nI (en)), .int (nI (a1_61)), .int (-1), .int 6, ((((v14 : Value) : Value) : Value) : Value), ((((v15 : Value) : Value) : Value) : Value), .ref q6, .ref q7, ((((v18 : Value) : Value) : Value) : Value), ((((v19 : Value) : Value) : Value) : Value), ((((v20 : Value) : Value) : Value) : Value), ((((v21 : Value) : Value) : Value) : Value), ((((v22 : Value) : Value) : Value) : Value), ((((v23 : Value) : Value) : Value) : Value), ((((v24 : Value) : Value) : Value) : Value), ((((v25 : Value) : Value) : Value) : Value), ((((v26 : Value) : Value) : Value) : Value), ((((v27 : Value) : Value) : Value) : Value), ((((v28 : Value) : Value) : Value) : Value), ((((v29 : Value) : Value) : Value) : Value), ((((v30 : Value) : Value) : Value) : Value), ((((v31 : Value) : Value) : Value) : Value), ((((v32 : Value) : Value) : Value) : Value), ((((v33 : Value) : Value) : Value) : Value), ((((v34 : Value) : Value) : Value) : Value), ((((v35 : Value) : Value) : Value) : Value), ((((v36 : Value) : Value) : Value) : Value), ((((v37 : Value) : Value) : Value) : Value), ((((v38 : Value) : Value) : Value) : Value), ((((v39 : Value) : Value) : Value) : Value), ((((v40 : Value) : Value) : Value) : Value), ((((v41 : Value) : Value) : Value) : Value), ((((v42 : Value) : Value) : Value) : Value), ((((v43 : Value) : Value) : Value) : Value), ((((v44 : Value) : Value) : Value) : Value), ((((v45 : Value) : Value) : Value) : Value), ((((v46 : Value) : Value) : Value) : Value), ((((v47 : Value) : Value) : Value) : Value), ((((v48 : Value) : Value) : Value) : Value), ((((v49 : Value) : Value) : Value) : Value), ((((v50 : Value) : Value) : Value) : Value), ((((v51 : Value) : Value) : Value) : Value)])), (tx, .inl (cT, nT, .inl gT)), (lt, .inl (cE, 128, .inl gE))] H_63 := kJoinX hP hD [0, 1] rfl hk1 hFc hB.1 ht hB.2.2 rfl [some 0, some 1, none] rfl rfl
            obtain ⟨hP, hD⟩ := hPD
            have hw_64 := hw
            have hw_64_0 := hw_64.1
            have hw_64_1 := hw_64.2.1
            have hw_64_2 := hw_64.2.2.1
            have hw_64_3 := hw_64.2.2.2.1
            have hw_64_4 := hw_64.2.2.2.2.1
            have hw_64_5 := hw_64.2.2.2.2.2.1
            have hw_64_6 := hw_64.2.2.2.2.2.2.1
            have hw_64_7 := hw_64.2.2.2.2.2.2.2
            clear hw_64
            have e9 : a1_14 = a1_61 := by rw [hw_64_2, hw_17_2]; exact (kSp_sp (by omega)).symm
            have e8 : ch_15 = ch_62 := by rw [hw_64_1, hw_17_1, hw_17_2]; exact (kLk_sp (by omega)).symm
            have e7 : r_13 = r_60 := by rw [hw_17_0, hw_64_0, e8]
            subst e7
            subst e9
            subst e8
            refine lv_bipush (v := 42) hx hb dX10_term_35 kc_b_42 ?_
            refine lv_icmp_ne (tgt := 44) hx hb dX10_term_37 kc_t_37_7 (fun c_65 => ?_) (fun c_65 => absurd c_65 c_18)
            refine lv_iconst (v := 0) hx hb dX10_term_44 kc_i_0 ?_
            refine lv_istore_n hx hb dX10_term_45 rfl hl kc_l_2_5 (kTo [(2, .int 0), (1, .int xb), (0, .ref jM)]) (fun ls hl => ?_)
            refine lv_aload_n hx hb dX10_term_46 rfl (lv_at hl 2 rfl) ?_
            refine lv_dup hx hb dX10_term_47 rfl ?_
            refine va_get (D := (dC, dI)) (ci := 10) (v := .int (nI (a1_14))) (C := RX10) (T := TX10) (N := 52) hx hb hts (fun _ h => List.mem_cons_of_mem _ (List.mem_append_right _ (List.mem_append_right _ (List.mem_append_left _ h)))) hown hK hP 0 rfl rfl 11 kc_l_11_52 (hts (.fieldLink RX10 141 "NotEndedModel" "at" "I") (List.mem_cons_of_mem _ (List.mem_append_left _ (List.mem_of_getElem? (i := 13) rfl)))) (fun _ h9 => h9) rfl dX10_term_48 ?_
            refine lv_iconst (v := 1) hx hb dX10_term_51 kc_i_1 ?_
            refine lv_iadd hx hb dX10_term_52 ?_
            refine lv_topi (fun y_66 ey_66 => ?_)
            obtain rfl : y_66 = nI (a1_14 + 1) := ey_66.trans (nI_add (a1_14) (1))
            refine va_put (D := (dC, dI)) (ci := 10) (v := .int (nI (a1_14 + 1))) (ty := tyX10 11) (C := RX10) (T := TX10) (N := 52) hx hb hts (fun _ h => List.mem_cons_of_mem _ (List.mem_append_right _ (List.mem_append_right _ (List.mem_append_left _ h)))) tyX10 tyX10_ok nmX10 hown hK hP hD hS 0 rfl rfl 11 kc_l_11_52 (hts (.fieldLink RX10 141 "NotEndedModel" "at" "I") (List.mem_cons_of_mem _ (List.mem_append_left _ (List.mem_of_getElem? (i := 13) rfl)))) (fun _ h9 => h9) rfl (tyX10_ok 11 kc_l_11_52) rfl rfl (Nat.le_of_ble_eq_true rfl) dX10_term_53 (fun H locs hP hD hS => ?_)
            have hPD : kPD dC dI A [(jM, .inr (10, [((((v0 : Value) : Value) : Value) : Value), ((((v1 : Value) : Value) : Value) : Value), ((((v2 : Value) : Value) : Value) : Value), ((((v3 : Value) : Value) : Value) : Value), .ref lt, .ref tx, ((((v6 : Value) : Value) : Value) : Value), ((((v7 : Value) : Value) : Value) : Value), ((((v8 : Value) : Value) : Value) : Value), .int (nI (be)), .int (nI (en)), .int (nI (a1_14 + 1)), .int (-1), .int 6, ((((v14 : Value) : Value) : Value) : Value), ((((v15 : Value) : Value) : Value) : Value), .ref q6, .ref q7, ((((v18 : Value) : Value) : Value) : Value), ((((v19 : Value) : Value) : Value) : Value), ((((v20 : Value) : Value) : Value) : Value), ((((v21 : Value) : Value) : Value) : Value), ((((v22 : Value) : Value) : Value) : Value), ((((v23 : Value) : Value) : Value) : Value), ((((v24 : Value) : Value) : Value) : Value), ((((v25 : Value) : Value) : Value) : Value), ((((v26 : Value) : Value) : Value) : Value), ((((v27 : Value) : Value) : Value) : Value), ((((v28 : Value) : Value) : Value) : Value), ((((v29 : Value) : Value) : Value) : Value), ((((v30 : Value) : Value) : Value) : Value), ((((v31 : Value) : Value) : Value) : Value), ((((v32 : Value) : Value) : Value) : Value), ((((v33 : Value) : Value) : Value) : Value), ((((v34 : Value) : Value) : Value) : Value), ((((v35 : Value) : Value) : Value) : Value), ((((v36 : Value) : Value) : Value) : Value), ((((v37 : Value) : Value) : Value) : Value), ((((v38 : Value) : Value) : Value) : Value), ((((v39 : Value) : Value) : Value) : Value), ((((v40 : Value) : Value) : Value) : Value), ((((v41 : Value) : Value) : Value) : Value), ((((v42 : Value) : Value) : Value) : Value), ((((v43 : Value) : Value) : Value) : Value), ((((v44 : Value) : Value) : Value) : Value), ((((v45 : Value) : Value) : Value) : Value), ((((v46 : Value) : Value) : Value) : Value), ((((v47 : Value) : Value) : Value) : Value), ((((v48 : Value) : Value) : Value) : Value), ((((v49 : Value) : Value) : Value) : Value), ((((v50 : Value) : Value) : Value) : Value), ((((v51 : Value) : Value) : Value) : Value)])), (tx, .inl (cT, nT, .inl gT)), (lt, .inl (cE, 128, .inl gE))] H := ⟨hP, hD⟩
            obtain ⟨hP, hD⟩ := hPD
            refine lv_aload_n hx hb dX10_term_56 rfl (lv_at hl 2 rfl) ?_
            have bd_67 : (a1_14 + 1) ≤ en := by omega
            have hCu := kCut (wc := [(jM, .inr (10, [((((v0 : Value) : Value) : Value) : Value), ((((v1 : Value) : Value) : Value) : Value), ((((v2 : Value) : Value) : Value) : Value), ((((v3 : Value) : Value) : Value) : Value), .ref lt, .ref tx, ((((v6 : Value) : Value) : Value) : Value), ((((v7 : Value) : Value) : Value) : Value), ((((v8 : Value) : Value) : Value) : Value), .int (nI (be)), .int (nI (en)), .int (nI (a1_14 + 1)), .int (-1), .int 6, ((((v14 : Value) : Value) : Value) : Value), ((((v15 : Value) : Value) : Value) : Value), .ref q6, .ref q7, ((((v18 : Value) : Value) : Value) : Value), ((((v19 : Value) : Value) : Value) : Value), ((((v20 : Value) : Value) : Value) : Value), ((((v21 : Value) : Value) : Value) : Value), ((((v22 : Value) : Value) : Value) : Value), ((((v23 : Value) : Value) : Value) : Value), ((((v24 : Value) : Value) : Value) : Value), ((((v25 : Value) : Value) : Value) : Value), ((((v26 : Value) : Value) : Value) : Value), ((((v27 : Value) : Value) : Value) : Value), ((((v28 : Value) : Value) : Value) : Value), ((((v29 : Value) : Value) : Value) : Value), ((((v30 : Value) : Value) : Value) : Value), ((((v31 : Value) : Value) : Value) : Value), ((((v32 : Value) : Value) : Value) : Value), ((((v33 : Value) : Value) : Value) : Value), ((((v34 : Value) : Value) : Value) : Value), ((((v35 : Value) : Value) : Value) : Value), ((((v36 : Value) : Value) : Value) : Value), ((((v37 : Value) : Value) : Value) : Value), ((((v38 : Value) : Value) : Value) : Value), ((((v39 : Value) : Value) : Value) : Value), ((((v40 : Value) : Value) : Value) : Value), ((((v41 : Value) : Value) : Value) : Value), ((((v42 : Value) : Value) : Value) : Value), ((((v43 : Value) : Value) : Value) : Value), ((((v44 : Value) : Value) : Value) : Value), ((((v45 : Value) : Value) : Value) : Value), ((((v46 : Value) : Value) : Value) : Value), ((((v47 : Value) : Value) : Value) : Value), ((((v48 : Value) : Value) : Value) : Value), ((((v49 : Value) : Value) : Value) : Value), ((((v50 : Value) : Value) : Value) : Value), ((((v51 : Value) : Value) : Value) : Value)])), (tx, .inl (cT, nT, .inl gT)), (lt, .inl (cE, 128, .inl gE))]) hP hD hS hA [0, 1, 2] rfl kc_nd_138 rfl
            have hPc := hCu.1
            have hDc := hCu.2.1
            have hFc := hCu.2.2
            have hKc := hK.sb (tys2 := [(cT, .byte), (cE, .int)]) [0, 1] rfl
            refine va_calli (va_runV (As := []) (rest := []) ⟨hx, hb, hml, hown, hts⟩ (s_atom10x_6 l dC dI jM (((((v0 : Value) : Value) : Value) : Value) : Value) (((((v1 : Value) : Value) : Value) : Value) : Value) (((((v2 : Value) : Value) : Value) : Value) : Value) (((((v3 : Value) : Value) : Value) : Value) : Value) (((((v6 : Value) : Value) : Value) : Value) : Value) (((((v7 : Value) : Value) : Value) : Value) : Value) (((((v8 : Value) : Value) : Value) : Value) : Value) (((((v14 : Value) : Value) : Value) : Value) : Value) (((((v15 : Value) : Value) : Value) : Value) : Value) (((((v18 : Value) : Value) : Value) : Value) : Value) (((((v19 : Value) : Value) : Value) : Value) : Value) (((((v20 : Value) : Value) : Value) : Value) : Value) (((((v21 : Value) : Value) : Value) : Value) : Value) (((((v22 : Value) : Value) : Value) : Value) : Value) (((((v23 : Value) : Value) : Value) : Value) : Value) (((((v24 : Value) : Value) : Value) : Value) : Value) (((((v25 : Value) : Value) : Value) : Value) : Value) (((((v26 : Value) : Value) : Value) : Value) : Value) (((((v27 : Value) : Value) : Value) : Value) : Value) (((((v28 : Value) : Value) : Value) : Value) : Value) (((((v29 : Value) : Value) : Value) : Value) : Value) (((((v30 : Value) : Value) : Value) : Value) : Value) (((((v31 : Value) : Value) : Value) : Value) : Value) (((((v32 : Value) : Value) : Value) : Value) : Value) (((((v33 : Value) : Value) : Value) : Value) : Value) (((((v34 : Value) : Value) : Value) : Value) : Value) (((((v35 : Value) : Value) : Value) : Value) : Value) (((((v36 : Value) : Value) : Value) : Value) : Value) (((((v37 : Value) : Value) : Value) : Value) : Value) (((((v38 : Value) : Value) : Value) : Value) : Value) (((((v39 : Value) : Value) : Value) : Value) : Value) (((((v40 : Value) : Value) : Value) : Value) : Value) (((((v41 : Value) : Value) : Value) : Value) : Value) (((((v42 : Value) : Value) : Value) : Value) : Value) (((((v43 : Value) : Value) : Value) : Value) : Value) (((((v44 : Value) : Value) : Value) : Value) : Value) (((((v45 : Value) : Value) : Value) : Value) : Value) (((((v46 : Value) : Value) : Value) : Value) : Value) (((((v47 : Value) : Value) : Value) : Value) : Value) (((((v48 : Value) : Value) : Value) : Value) : Value) (((((v49 : Value) : Value) : Value) : Value) : Value) (((((v50 : Value) : Value) : Value) : Value) : Value) (((((v51 : Value) : Value) : Value) : Value) : Value) lt q6 q7 tx cT nT gT be en (a1_14 + 1) bd_1 hnT bd_67 bt hbr hb8 hb1 hen9 cE gE b6 n6 g6 hn6 hg6 b7 n7 g7 hn7 hg7 hz6 hz7 hl7 H.size) (cwV 0 hts (kG (List.forall_mem_cons.mpr ⟨(List.mem_cons_of_mem _ (List.mem_append_left _ (List.mem_of_getElem? (i := 24) rfl))), (List.forall_mem_cons.mpr ⟨(List.mem_cons_of_mem _ (List.mem_append_left _ (List.mem_of_getElem? (i := 23) rfl))), (List.forall_mem_cons.mpr ⟨(List.mem_cons_of_mem _ (List.mem_append_left _ (List.mem_of_getElem? (i := 22) rfl))), (List.forall_mem_cons.mpr ⟨(List.mem_cons_of_mem _ (List.mem_append_left _ (List.mem_of_getElem? (i := 0) rfl))), (fun _ h => absurd h List.not_mem_nil)⟩)⟩)⟩)⟩) (kGV _ _ _ _) (kFam (List.mem_cons_of_mem _ (List.mem_append_left _ (List.mem_of_getElem? (i := 21) rfl)))) gw_s_atom10x_6) rfl rfl rfl ⟨rfl, hd_X10_atom⟩ ⟨(Nat.le_of_ble_eq_true rfl), (Nat.le_of_ble_eq_true rfl)⟩) (kW_V kS2_blind (kS2_give hX hS hFc) (va_recv hKc hPc (ci := 10) (q0 := 0) rfl rfl) hPc hKc hDc) rfl rfl hl.1 rfl (lv_room (Nat.le_of_ble_eq_true rfl)) dX10_term_57 ⟨(Nat.le_of_ble_eq_true rfl), (Nat.le_of_ble_eq_true rfl)⟩) hS (fun q _ h => hFc q h) hFc (fun r_68 => kU5 (fun a1_69 xf_70 xd_71 xo_72 xl_73 t H_74 locs ht hvm hw hB hz1 hk1 hS => ?_))
            try dsimp only at hw
            have hPD : kPD dC dI A [(jM, .inr (10, [(((((v0 : Value) : Value) : Value) : Value) : Value), (((((v1 : Value) : Value) : Value) : Value) : Value), (((((v2 : Value) : Value) : Value) : Value) : Value), (((((v3 : Value) : Value) : Value) : Value) : Value), .ref lt, .ref tx, (((((v6 : Value) : Value) : Value) : Value) : Value), (((((v7 : Value) : Value) : Value) : Value) : Value), (((((v8 : Value) : Value) : Value) : Value) : Value), .int (nI (be)), .int (nI (en)), .int (nI (a1_69)), .int xf_70, .int xd_71, (((((v14 : Value) : Value) : Value) : Value) : Value), (((((v15 : Value) : Value) : Value) : Value) : Value), .ref q6, .ref q7, (((((v18 : Value) : Value) : Value) : Value) : Value), (((((v19 : Value) : Value) : Value) : Value) : Value), (((((v20 : Value) : Value) : Value) : Value) : Value), (((((v21 : Value) : Value) : Value) : Value) : Value), (((((v22 : Value) : Value) : Value) : Value) : Value), (((((v23 : Value) : Value) : Value) : Value) : Value), (((((v24 : Value) : Value) : Value) : Value) : Value), (((((v25 : Value) : Value) : Value) : Value) : Value), (((((v26 : Value) : Value) : Value) : Value) : Value), (((((v27 : Value) : Value) : Value) : Value) : Value), (((((v28 : Value) : Value) : Value) : Value) : Value), (((((v29 : Value) : Value) : Value) : Value) : Value), (((((v30 : Value) : Value) : Value) : Value) : Value), (((((v31 : Value) : Value) : Value) : Value) : Value), (((((v32 : Value) : Value) : Value) : Value) : Value), (((((v33 : Value) : Value) : Value) : Value) : Value), (((((v34 : Value) : Value) : Value) : Value) : Value), (((((v35 : Value) : Value) : Value) : Value) : Value), (((((v36 : Value) : Value) : Value) : Value) : Value), (((((v37 : Value) : Value) : Value) : Value) : Value), (((((v38 : Value) : Value) : Value) : Value) : Value), (((((v39 : Value) : Value) : Value) : Value) : Value), (((((v40 : Value) : Value) : Value) : Value) : Value), (((((v41 : Value) : Value) : Value) : Value) : Value), (((((v42 : Value) : Value) : Value) : Value) : Value), (((((v43 : Value) : Value) : Value) : Value) : Value), (((((v44 : Value) : Value) : Value) : Value) : Value), (((((v45 : Value) : Value) : Value) : Value) : Value), (((((v46 : Value) : Value) : Value) : Value) : Value), (((((v47 : Value) : Value) : Value) : Value) : Value), (((((v48 : Value) : Value) : Value) : Value) : Value), (((((v49 : Value) : Value) : Value) : Value) : Value), (((((v50 : Value) : Value) : Value) : Value) : Value), (((((v51 : Value) : Value) : Value) : Value) : Value)])), (tx, .inl (cT, nT, .inl gT)), (lt, .inl (cE, 128, .inl gE))] H_74 := kJoinX hP hD [0, 1, 2] rfl hk1 hFc hB.1 ht hB.2.2 rfl [some 0, some 1, some 2] rfl rfl
            obtain ⟨hP, hD⟩ := hPD
            have hw_75 := hw
            have hw_75_w := hw_75.2
            replace hw_75 := hw_75.1
            have hw_75_k := hw_75.2.1
            rcases Bool.eq_false_or_eq_true xo_72 with e9 | e9
            · subst e9
              have hw_75_v := hw_75_w rfl
              obtain ⟨hw_75_f, hw_75_d, hw_75_l, hw_75_p⟩ := hw_75.2.2.1 rfl
              subst hw_75_f
              subst hw_75_d
              obtain ⟨z_76, ez_76⟩ : ∃ z : Int64, z = Int32.toInt64 r_68 := ⟨_, rfl⟩
              refine lv_i2l (v := z_76) hx hb dX10_term_60 ez_76.symm ?_
              refine lv_lstore_n hx hb dX10_term_61 rfl hl kc_l_4_5 (kTo [(3, .long z_76), (2, .int 0), (1, .int xb), (0, .ref jM)]) (fun ls hl => ?_)
              refine lv_iload_n hx hb dX10_term_62 rfl (lv_at hl 1 rfl) ?_
              refine lv_if_eq (tgt := 73) hx hb dX10_term_63 kc_t_63_10 (fun c_77 => ?_) (fun c_77 => absurd (by decide) c_77)
              refine lv_lload_n hx hb dX10_term_73 rfl (lv_at hl 0 rfl) ?_
              refine lv_lconst (v := 0) hx hb dX10_term_74 (by decide) ?_
              refine W.lcmp hx hb dX10_term_75 ?_
              refine lv_topi (fun x_78 ex_78 => ?_)
              refine lv_if_ne (tgt := 83) hx hb dX10_term_76 kc_t_76_7 (fun c_79 => ?_) (fun c_79 => ?_)
              · refine lv_iload_n hx hb dX10_term_83 rfl (lv_at hl 2 rfl) ?_
                obtain ⟨z_80, ez_80⟩ : ∃ z : Int64, z = Int32.toInt64 xb := ⟨_, rfl⟩
                refine lv_i2l (v := z_80) hx hb dX10_term_84 ez_80.symm ?_
                refine lv_lload_n hx hb dX10_term_85 rfl (lv_at hl 0 rfl) ?_
                refine lv_ldiv hx hb dX10_term_86 (kLne ex_78 c_79) ?_
                refine lv_topl (fun z_81 ez_81 => ?_)
                have hPc := hP.sb (ws2 := []) [] rfl
                have hKc := hK.sb (tys2 := []) [] rfl
                refine vp_callSi (va_runS (As := [.long z_81]) (rest := []) ⟨hx, hb, hml, hown, hts⟩ (s_within10x l dC dI z_81) (va_cwS 1 hts (kG (List.forall_mem_cons.mpr ⟨(List.mem_cons_of_mem _ (List.mem_append_left _ (List.mem_of_getElem? (i := 26) rfl))), (List.forall_mem_cons.mpr ⟨(List.mem_cons_of_mem _ (List.mem_append_left _ (List.mem_of_getElem? (i := 25) rfl))), (List.forall_mem_cons.mpr ⟨(List.mem_cons_of_mem _ (List.mem_append_left _ (List.mem_of_getElem? (i := 0) rfl))), (fun _ h => absurd h List.not_mem_nil)⟩)⟩)⟩) (kGS _ _ _) (fun _ h => List.mem_cons_of_mem _ (List.mem_append_right _ (List.mem_append_right _ (List.mem_append_right _ (List.mem_append_right _ (List.mem_append_right _ (List.mem_append_right _ (List.mem_append_right _ (List.mem_append_left _ h))))))))) gw_s_within10x) rfl rfl rfl hd_X10_within ⟨(Nat.le_of_ble_eq_true rfl), (Nat.le_of_ble_eq_true rfl)⟩) (kR_S kT_blind kT_give hPc hKc) rfl rfl hl.1 rfl (lv_room (Nat.le_of_ble_eq_true rfl)) dX10_term_87 ⟨(Nat.le_of_ble_eq_true rfl), (Nat.le_of_ble_eq_true rfl)⟩).run (fun r_82 hw => ?_)
                have hw_83 := hw
                refine lv_istore_n hx hb dX10_term_90 rfl hl kc_l_1_5 (kTo [(1, .int r_82), (3, .long z_76), (2, .int 0), (0, .ref jM)]) (fun ls hl => ?_)
                refine lv_goto (tgt := 5) hx hb dX10_term_91 kc_t_91_m86 ?_
                exact ih_k_10 a1_69 r_82 (xl ++ xl_73 ++ [nI (20000 + ch_15)]) (xc + 1) (by omega) (by omega) (by have e9 := kLoop_t (b := bt) (n := en) (c1 := 42) (c2 := 47) (a := kAtomD bt en g7 n7 0) (f := 120 - (xc + 1)) (p := i) (l := xl) (by rw [← hw_17_1]; omega) (by rw [← hw_17_2]; exact hw_75.1); rw [← hw_17_1] at e9; rw [← e9, show (120 - (xc + 1)) + 1 = 120 - xc by omega]; exact ivk_10_2) (fun hbd => by rw [kValN ivk_10_4 (kAtomD_w hn7 0 _ _ _ hw_75.1) (by omega) (by omega), ← ivk_10_3 hbd, ← hw_75_v hbd]; rw [show ch_15 = 47 by omega]; rw [hw_83, ez_81, ez_80, ez_76]; have z9 := kLne ex_78 c_79; rw [ez_76] at z9; have z8 := kValBd hbd ivk_10_4; rw [← ivk_10_3 hbd] at z8; exact kRf47 z8 z9) (kHn_bin ivk_10_4 (kAtomD_w hn7 0 _ _ _ hw_75.1) (by omega) (by omega)) _ _ hP hD hS ls (lv_sub hl [0, 3] rfl) (by omega)
              · refine lv_lconst (v := 0) hx hb dX10_term_79 (by decide) ?_
                refine lv_goto (tgt := 87) hx hb dX10_term_80 kc_t_80_7 ?_
                have hPc := hP.sb (ws2 := []) [] rfl
                have hKc := hK.sb (tys2 := []) [] rfl
                refine vp_callSi (va_runS (As := [.long 0]) (rest := []) ⟨hx, hb, hml, hown, hts⟩ (s_within10x l dC dI 0) (va_cwS 1 hts (kG (List.forall_mem_cons.mpr ⟨(List.mem_cons_of_mem _ (List.mem_append_left _ (List.mem_of_getElem? (i := 26) rfl))), (List.forall_mem_cons.mpr ⟨(List.mem_cons_of_mem _ (List.mem_append_left _ (List.mem_of_getElem? (i := 25) rfl))), (List.forall_mem_cons.mpr ⟨(List.mem_cons_of_mem _ (List.mem_append_left _ (List.mem_of_getElem? (i := 0) rfl))), (fun _ h => absurd h List.not_mem_nil)⟩)⟩)⟩) (kGS _ _ _) (fun _ h => List.mem_cons_of_mem _ (List.mem_append_right _ (List.mem_append_right _ (List.mem_append_right _ (List.mem_append_right _ (List.mem_append_right _ (List.mem_append_right _ (List.mem_append_right _ (List.mem_append_left _ h))))))))) gw_s_within10x) rfl rfl rfl hd_X10_within ⟨(Nat.le_of_ble_eq_true rfl), (Nat.le_of_ble_eq_true rfl)⟩) (kR_S kT_blind kT_give hPc hKc) rfl rfl hl.1 rfl (lv_room (Nat.le_of_ble_eq_true rfl)) dX10_term_87 ⟨(Nat.le_of_ble_eq_true rfl), (Nat.le_of_ble_eq_true rfl)⟩).run (fun r_84 hw => ?_)
                have hw_85 := hw
                refine lv_istore_n hx hb dX10_term_90 rfl hl kc_l_1_5 (kTo [(1, .int r_84), (3, .long z_76), (2, .int 0), (0, .ref jM)]) (fun ls hl => ?_)
                refine lv_goto (tgt := 5) hx hb dX10_term_91 kc_t_91_m86 ?_
                exact ih_k_10 a1_69 r_84 (xl ++ xl_73 ++ [nI (20000 + ch_15)]) (xc + 1) (by omega) (by omega) (by have e9 := kLoop_t (b := bt) (n := en) (c1 := 42) (c2 := 47) (a := kAtomD bt en g7 n7 0) (f := 120 - (xc + 1)) (p := i) (l := xl) (by rw [← hw_17_1]; omega) (by rw [← hw_17_2]; exact hw_75.1); rw [← hw_17_1] at e9; rw [← e9, show (120 - (xc + 1)) + 1 = 120 - xc by omega]; exact ivk_10_2) (fun hbd => by rw [kValN ivk_10_4 (kAtomD_w hn7 0 _ _ _ hw_75.1) (by omega) (by omega), ← ivk_10_3 hbd, ← hw_75_v hbd]; rw [show ch_15 = 47 by omega]; rw [hw_85]; have z9 := kLeq ex_78 c_79; rw [ez_76] at z9; exact kRf47z z9) (kHn_bin ivk_10_4 (kAtomD_w hn7 0 _ _ _ hw_75.1) (by omega) (by omega)) _ _ hP hD hS ls (lv_sub hl [0, 3] rfl) (by omega)
            · subst e9
              obtain ⟨hw_75_f, hw_75_n⟩ := hw_75.2.2.2 rfl
              subst hw_75_f
              subst hw_75_n
              obtain ⟨z_86, ez_86⟩ : ∃ z : Int64, z = Int32.toInt64 r_68 := ⟨_, rfl⟩
              refine lv_i2l (v := z_86) hx hb dX10_term_60 ez_86.symm ?_
              refine lv_lstore_n hx hb dX10_term_61 rfl hl kc_l_4_5 (kTo [(3, .long z_86), (2, .int 0), (1, .int xb), (0, .ref jM)]) (fun ls hl => ?_)
              refine lv_iload_n hx hb dX10_term_62 rfl (lv_at hl 1 rfl) ?_
              refine lv_if_eq (tgt := 73) hx hb dX10_term_63 kc_t_63_10 (fun c_87 => ?_) (fun c_87 => absurd (by decide) c_87)
              refine lv_lload_n hx hb dX10_term_73 rfl (lv_at hl 0 rfl) ?_
              refine lv_lconst (v := 0) hx hb dX10_term_74 (by decide) ?_
              refine W.lcmp hx hb dX10_term_75 ?_
              refine lv_topi (fun x_88 ex_88 => ?_)
              refine lv_if_ne (tgt := 83) hx hb dX10_term_76 kc_t_76_7 (fun c_89 => ?_) (fun c_89 => ?_)
              · refine lv_iload_n hx hb dX10_term_83 rfl (lv_at hl 2 rfl) ?_
                obtain ⟨z_90, ez_90⟩ : ∃ z : Int64, z = Int32.toInt64 xb := ⟨_, rfl⟩
                refine lv_i2l (v := z_90) hx hb dX10_term_84 ez_90.symm ?_
                refine lv_lload_n hx hb dX10_term_85 rfl (lv_at hl 0 rfl) ?_
                refine lv_ldiv hx hb dX10_term_86 (kLne ex_88 c_89) ?_
                refine lv_topl (fun z_91 ez_91 => ?_)
                have hPc := hP.sb (ws2 := []) [] rfl
                have hKc := hK.sb (tys2 := []) [] rfl
                refine vp_callSi (va_runS (As := [.long z_91]) (rest := []) ⟨hx, hb, hml, hown, hts⟩ (s_within10x l dC dI z_91) (va_cwS 1 hts (kG (List.forall_mem_cons.mpr ⟨(List.mem_cons_of_mem _ (List.mem_append_left _ (List.mem_of_getElem? (i := 26) rfl))), (List.forall_mem_cons.mpr ⟨(List.mem_cons_of_mem _ (List.mem_append_left _ (List.mem_of_getElem? (i := 25) rfl))), (List.forall_mem_cons.mpr ⟨(List.mem_cons_of_mem _ (List.mem_append_left _ (List.mem_of_getElem? (i := 0) rfl))), (fun _ h => absurd h List.not_mem_nil)⟩)⟩)⟩) (kGS _ _ _) (fun _ h => List.mem_cons_of_mem _ (List.mem_append_right _ (List.mem_append_right _ (List.mem_append_right _ (List.mem_append_right _ (List.mem_append_right _ (List.mem_append_right _ (List.mem_append_right _ (List.mem_append_left _ h))))))))) gw_s_within10x) rfl rfl rfl hd_X10_within ⟨(Nat.le_of_ble_eq_true rfl), (Nat.le_of_ble_eq_true rfl)⟩) (kR_S kT_blind kT_give hPc hKc) rfl rfl hl.1 rfl (lv_room (Nat.le_of_ble_eq_true rfl)) dX10_term_87 ⟨(Nat.le_of_ble_eq_true rfl), (Nat.le_of_ble_eq_true rfl)⟩).run (fun r_92 hw => ?_)
                have hw_93 := hw
                refine lv_istore_n hx hb dX10_term_90 rfl hl kc_l_1_5 (kTo [(1, .int r_92), (3, .long z_86), (2, .int 0), (0, .ref jM)]) (fun ls hl => ?_)
                refine lv_goto (tgt := 5) hx hb dX10_term_91 kc_t_91_m86 ?_
                refine lv_aload_n hx hb dX10_term_5 rfl (lv_at hl 3 rfl) ?_
                refine va_get (D := (dC, dI)) (ci := 10) (v := .int (nI (a1_69))) (C := RX10) (T := TX10) (N := 52) hx hb hts (fun _ h => List.mem_cons_of_mem _ (List.mem_append_right _ (List.mem_append_right _ (List.mem_append_left _ h)))) hown hK hP 0 rfl rfl 12 kc_l_12_52 (hts (.fieldLink RX10 150 "NotEndedModel" "fault" "I") (List.mem_cons_of_mem _ (List.mem_append_left _ (List.mem_of_getElem? (i := 10) rfl)))) (fun _ h9 => h9) rfl dX10_term_6 ?_
                refine lv_iconst (v := (-1)) hx hb dX10_term_9 kc_i_m1 ?_
                refine lv_icmp_ne (tgt := 94) hx hb dX10_term_10 kc_t_10_84 (fun c_94 => ?_) (fun c_94 => absurd c_94 (kNeM (n := a1_69) (by omega)))
                refine lv_iload_n hx hb dX10_term_94 rfl (lv_at hl 0 rfl) ?_
                have hP9 := hP
                have hD9 := hD
                have hK9 := hK
                rw [hQ]
                exact W.iret (v := r_92) hx hb hr (fun t ht hW => ⟨⟨r_92, (a1_69, (nI (a1_69)), xd_71, false, []), rfl, ⟨(kPM_f (by rw [← ivk_10_2, show 120 - xc = (119 - xc) + 1 by omega]; exact kLoop_f (by rw [← hw_17_1]; omega) (by rw [← hw_17_2]; exact hw_75.1)) (by omega)), fun z9 => absurd z9 (by decide)⟩,  by rw [ht]; exact hP9, va_K.moved hW.alike hK9, hD9⟩, hS.F ht⟩) hS.2.2 dX10_term_95
              · refine lv_lconst (v := 0) hx hb dX10_term_79 (by decide) ?_
                refine lv_goto (tgt := 87) hx hb dX10_term_80 kc_t_80_7 ?_
                have hPc := hP.sb (ws2 := []) [] rfl
                have hKc := hK.sb (tys2 := []) [] rfl
                refine vp_callSi (va_runS (As := [.long 0]) (rest := []) ⟨hx, hb, hml, hown, hts⟩ (s_within10x l dC dI 0) (va_cwS 1 hts (kG (List.forall_mem_cons.mpr ⟨(List.mem_cons_of_mem _ (List.mem_append_left _ (List.mem_of_getElem? (i := 26) rfl))), (List.forall_mem_cons.mpr ⟨(List.mem_cons_of_mem _ (List.mem_append_left _ (List.mem_of_getElem? (i := 25) rfl))), (List.forall_mem_cons.mpr ⟨(List.mem_cons_of_mem _ (List.mem_append_left _ (List.mem_of_getElem? (i := 0) rfl))), (fun _ h => absurd h List.not_mem_nil)⟩)⟩)⟩) (kGS _ _ _) (fun _ h => List.mem_cons_of_mem _ (List.mem_append_right _ (List.mem_append_right _ (List.mem_append_right _ (List.mem_append_right _ (List.mem_append_right _ (List.mem_append_right _ (List.mem_append_right _ (List.mem_append_left _ h))))))))) gw_s_within10x) rfl rfl rfl hd_X10_within ⟨(Nat.le_of_ble_eq_true rfl), (Nat.le_of_ble_eq_true rfl)⟩) (kR_S kT_blind kT_give hPc hKc) rfl rfl hl.1 rfl (lv_room (Nat.le_of_ble_eq_true rfl)) dX10_term_87 ⟨(Nat.le_of_ble_eq_true rfl), (Nat.le_of_ble_eq_true rfl)⟩).run (fun r_95 hw => ?_)
                have hw_96 := hw
                refine lv_istore_n hx hb dX10_term_90 rfl hl kc_l_1_5 (kTo [(1, .int r_95), (3, .long z_86), (2, .int 0), (0, .ref jM)]) (fun ls hl => ?_)
                refine lv_goto (tgt := 5) hx hb dX10_term_91 kc_t_91_m86 ?_
                refine lv_aload_n hx hb dX10_term_5 rfl (lv_at hl 3 rfl) ?_
                refine va_get (D := (dC, dI)) (ci := 10) (v := .int (nI (a1_69))) (C := RX10) (T := TX10) (N := 52) hx hb hts (fun _ h => List.mem_cons_of_mem _ (List.mem_append_right _ (List.mem_append_right _ (List.mem_append_left _ h)))) hown hK hP 0 rfl rfl 12 kc_l_12_52 (hts (.fieldLink RX10 150 "NotEndedModel" "fault" "I") (List.mem_cons_of_mem _ (List.mem_append_left _ (List.mem_of_getElem? (i := 10) rfl)))) (fun _ h9 => h9) rfl dX10_term_6 ?_
                refine lv_iconst (v := (-1)) hx hb dX10_term_9 kc_i_m1 ?_
                refine lv_icmp_ne (tgt := 94) hx hb dX10_term_10 kc_t_10_84 (fun c_97 => ?_) (fun c_97 => absurd c_97 (kNeM (n := a1_69) (by omega)))
                refine lv_iload_n hx hb dX10_term_94 rfl (lv_at hl 0 rfl) ?_
                have hP9 := hP
                have hD9 := hD
                have hK9 := hK
                rw [hQ]
                exact W.iret (v := r_95) hx hb hr (fun t ht hW => ⟨⟨r_95, (a1_69, (nI (a1_69)), xd_71, false, []), rfl, ⟨(kPM_f (by rw [← ivk_10_2, show 120 - xc = (119 - xc) + 1 by omega]; exact kLoop_f (by rw [← hw_17_1]; omega) (by rw [← hw_17_2]; exact hw_75.1)) (by omega)), fun z9 => absurd z9 (by decide)⟩,  by rw [ht]; exact hP9, va_K.moved hW.alike hK9, hD9⟩, hS.F ht⟩) hS.2.2 dX10_term_95
    exact lp_k_10 (en - a1_3 + 1) a1_3 r_2 xl_7 0 (by omega) (by omega) (kMany_t hw_9.1).symm hw_9_v (kHn_le (kAtomD_w hn7 0 _ _ _ hw_9.1) (by omega)) _ _ hP hD hS ls (lv_sub hl [0, 1] rfl) (by omega)
  · subst e9
    obtain ⟨hw_9_f, hw_9_n⟩ := hw_9.2.2.2 rfl
    subst hw_9_f
    subst hw_9_n
    refine lv_istore_n hx hb dX10_term_4 rfl hl kc_l_1_5 (kTo [(1, .int r_2), (0, .ref jM)]) (fun ls hl => ?_)
    refine lv_aload_n hx hb dX10_term_5 rfl (lv_at hl 1 rfl) ?_
    refine va_get (D := (dC, dI)) (ci := 10) (v := .int (nI (a1_3))) (C := RX10) (T := TX10) (N := 52) hx hb hts (fun _ h => List.mem_cons_of_mem _ (List.mem_append_right _ (List.mem_append_right _ (List.mem_append_left _ h)))) hown hK hP 0 rfl rfl 12 kc_l_12_52 (hts (.fieldLink RX10 150 "NotEndedModel" "fault" "I") (List.mem_cons_of_mem _ (List.mem_append_left _ (List.mem_of_getElem? (i := 10) rfl)))) (fun _ h9 => h9) rfl dX10_term_6 ?_
    refine lv_iconst (v := (-1)) hx hb dX10_term_9 kc_i_m1 ?_
    refine lv_icmp_ne (tgt := 94) hx hb dX10_term_10 kc_t_10_84 (fun c_98 => ?_) (fun c_98 => absurd c_98 (kNeM (n := a1_3) (by omega)))
    refine lv_iload_n hx hb dX10_term_94 rfl (lv_at hl 0 rfl) ?_
    have hP9 := hP
    have hD9 := hD
    have hK9 := hK
    rw [hQ]
    exact W.iret (v := r_2) hx hb hr (fun t ht hW => ⟨⟨r_2, (a1_3, (nI (a1_3)), xd_5, false, []), rfl, ⟨(kPM_f (kMany_f hw_9.1) (by omega)), fun z9 => absurd z9 (by decide)⟩,  by rw [ht]; exact hP9, va_K.moved hW.alike hK9, hD9⟩, hS.F ht⟩) hS.2.2 dX10_term_95

theorem dX10_sum_0 : decode cX10_sum 0 = .ok (.aload_n 0, 1) := kDs0 kf_42 (by decide +kernel)
theorem dX10_sum_1 : decode cX10_sum 1 = .ok (.invokevirtual 200, 3) := kDs2 kf_182 (by decide +kernel)
theorem dX10_sum_4 : decode cX10_sum 4 = .ok (.istore_n 1, 1) := kDs0 kf_60 (by decide +kernel)
theorem dX10_sum_5 : decode cX10_sum 5 = .ok (.aload_n 0, 1) := kDs0 kf_42 (by decide +kernel)
theorem dX10_sum_6 : decode cX10_sum 6 = .ok (.getfield 150, 3) := kDs2 kf_180 (by decide +kernel)
theorem dX10_sum_9 : decode cX10_sum 9 = .ok (.iconst (-1), 1) := kDs0 kf_2 (by decide +kernel)
theorem dX10_sum_10 : decode cX10_sum 10 = .ok (.if_icmp .ne 74, 3) := kDs4 kf_160 (by decide +kernel)
theorem dX10_sum_13 : decode cX10_sum 13 = .ok (.aload_n 0, 1) := kDs0 kf_42 (by decide +kernel)
theorem dX10_sum_14 : decode cX10_sum 14 = .ok (.invokevirtual 160, 3) := kDs2 kf_182 (by decide +kernel)
theorem dX10_sum_17 : decode cX10_sum 17 = .ok (.bipush 43, 2) := kDs3 kf_16 (by decide +kernel)
theorem dX10_sum_19 : decode cX10_sum 19 = .ok (.if_icmp .eq 12, 3) := kDs4 kf_159 (by decide +kernel)
theorem dX10_sum_31 : decode cX10_sum 31 = .ok (.aload_n 0, 1) := kDs0 kf_42 (by decide +kernel)
theorem dX10_sum_32 : decode cX10_sum 32 = .ok (.invokevirtual 160, 3) := kDs2 kf_182 (by decide +kernel)
theorem dX10_sum_35 : decode cX10_sum 35 = .ok (.bipush 43, 2) := kDs3 kf_16 (by decide +kernel)
theorem dX10_sum_37 : decode cX10_sum 37 = .ok (.if_icmp .ne 7, 3) := kDs4 kf_160 (by decide +kernel)
theorem dX10_sum_40 : decode cX10_sum 40 = .ok (.iconst 1, 1) := kDs0 kf_4 (by decide +kernel)
theorem dX10_sum_41 : decode cX10_sum 41 = .ok (.goto 4, 3) := kDs4 kf_167 (by decide +kernel)
theorem dX10_sum_45 : decode cX10_sum 45 = .ok (.istore_n 2, 1) := kDs0 kf_61 (by decide +kernel)
theorem dX10_sum_46 : decode cX10_sum 46 = .ok (.aload_n 0, 1) := kDs0 kf_42 (by decide +kernel)
theorem dX10_sum_47 : decode cX10_sum 47 = .ok (.dup, 1) := kDs0 kf_89 (by decide +kernel)
theorem dX10_sum_48 : decode cX10_sum 48 = .ok (.getfield 141, 3) := kDs2 kf_180 (by decide +kernel)
theorem dX10_sum_51 : decode cX10_sum 51 = .ok (.iconst 1, 1) := kDs0 kf_4 (by decide +kernel)
theorem dX10_sum_52 : decode cX10_sum 52 = .ok (.iadd, 1) := kDs0 kf_96 (by decide +kernel)
theorem dX10_sum_53 : decode cX10_sum 53 = .ok (.putfield 141, 3) := kDs2 kf_181 (by decide +kernel)
theorem dX10_sum_56 : decode cX10_sum 56 = .ok (.aload_n 0, 1) := kDs0 kf_42 (by decide +kernel)
theorem dX10_sum_57 : decode cX10_sum 57 = .ok (.invokevirtual 200, 3) := kDs2 kf_182 (by decide +kernel)
theorem dX10_sum_60 : decode cX10_sum 60 = .ok (.i2l, 1) := kDs0 kf_133 (by decide +kernel)
theorem dX10_sum_61 : decode cX10_sum 61 = .ok (.lstore_n 3, 1) := kDs0 kf_66 (by decide +kernel)
theorem dX10_sum_62 : decode cX10_sum 62 = .ok (.iload_n 2, 1) := kDs0 kf_28 (by decide +kernel)
theorem dX10_sum_63 : decode cX10_sum 63 = .ok (.ifCond .eq 10, 3) := kDs4 kf_153 (by decide +kernel)
theorem dX10_sum_66 : decode cX10_sum 66 = .ok (.iload_n 1, 1) := kDs0 kf_27 (by decide +kernel)
theorem dX10_sum_67 : decode cX10_sum 67 = .ok (.i2l, 1) := kDs0 kf_133 (by decide +kernel)
theorem dX10_sum_68 : decode cX10_sum 68 = .ok (.lload_n 3, 1) := kDs0 kf_33 (by decide +kernel)
theorem dX10_sum_69 : decode cX10_sum 69 = .ok (.ladd, 1) := kDs0 kf_97 (by decide +kernel)
theorem dX10_sum_70 : decode cX10_sum 70 = .ok (.goto 7, 3) := kDs4 kf_167 (by decide +kernel)
theorem dX10_sum_77 : decode cX10_sum 77 = .ok (.invokestatic 196, 3) := kDs2 kf_184 (by decide +kernel)
theorem dX10_sum_80 : decode cX10_sum 80 = .ok (.istore_n 1, 1) := kDs0 kf_60 (by decide +kernel)
theorem dX10_sum_81 : decode cX10_sum 81 = .ok (.goto (-76), 3) := kDs4 kf_167 (by decide +kernel)
theorem dX10_sum_84 : decode cX10_sum 84 = .ok (.iload_n 1, 1) := kDs0 kf_27 (by decide +kernel)
theorem dX10_sum_85 : decode cX10_sum 85 = .ok (.ireturn, 1) := kDs0 kf_172 (by decide +kernel)
theorem dX10_sum_22 : decode cX10_sum 22 = .ok (.aload_n 0, 1) := kDs0 kf_42 (by decide +kernel)
theorem dX10_sum_23 : decode cX10_sum 23 = .ok (.invokevirtual 160, 3) := kDs2 kf_182 (by decide +kernel)
theorem dX10_sum_26 : decode cX10_sum 26 = .ok (.bipush 45, 2) := kDs3 kf_16 (by decide +kernel)
theorem dX10_sum_28 : decode cX10_sum 28 = .ok (.if_icmp .ne 56, 3) := kDs4 kf_160 (by decide +kernel)
theorem dX10_sum_44 : decode cX10_sum 44 = .ok (.iconst 0, 1) := kDs0 kf_3 (by decide +kernel)
theorem dX10_sum_73 : decode cX10_sum 73 = .ok (.iload_n 1, 1) := kDs0 kf_27 (by decide +kernel)
theorem dX10_sum_74 : decode cX10_sum 74 = .ok (.i2l, 1) := kDs0 kf_133 (by decide +kernel)
theorem dX10_sum_75 : decode cX10_sum 75 = .ok (.lload_n 3, 1) := kDs0 kf_33 (by decide +kernel)
theorem dX10_sum_76 : decode cX10_sum 76 = .ok (.lsub, 1) := kDs0 kf_101 (by decide +kernel)
def w_s_sum10x_6 : List Cond := .code yX10_sum cX10_sum 5 (some .int) :: wf_mq
theorem gw_s_sum10x_6 : (w_s_sum10x_6).all goodWord = true := kFamG rfl gf_mq
theorem hd_X10_sum : yX10_sum.cls ≠ "java/lang/invoke/MethodHandle" ∧ yX10_sum.cls ≠ "java/lang/invoke/VarHandle" ∧ (parseMethodDescriptor yX10_sum.desc).map (fun d => d.parameters.length) = some 0 := by decide +kernel
set_option maxHeartbeats 4000000 in
set_option maxRecDepth 100000 in
theorem s_sum10x_6 (l : Launch) (dC : Nat → ClassId) (dI : Nat → Nat → Nat) (jM : Nat) (v0 : Value) (v1 : Value) (v2 : Value) (v3 : Value) (v6 : Value) (v7 : Value) (v8 : Value) (v14 : Value) (v15 : Value) (v18 : Value) (v19 : Value) (v20 : Value) (v21 : Value) (v22 : Value) (v23 : Value) (v24 : Value) (v25 : Value) (v26 : Value) (v27 : Value) (v28 : Value) (v29 : Value) (v30 : Value) (v31 : Value) (v32 : Value) (v33 : Value) (v34 : Value) (v35 : Value) (v36 : Value) (v37 : Value) (v38 : Value) (v39 : Value) (v40 : Value) (v41 : Value) (v42 : Value) (v43 : Value) (v44 : Value) (v45 : Value) (v46 : Value) (v47 : Value) (v48 : Value) (v49 : Value) (v50 : Value) (v51 : Value) (lt : Nat) (q6 : Nat) (q7 : Nat) (tx : Nat) (cT : ClassId) (nT : Nat) (gT : Nat → Int32) (be : Nat) (en : Nat) (a : Nat) (hbe : be + en ≤ nT) (hnT : nT ≤ 1680) (ha : a ≤ en) (bt : Nat → Nat) (hbr : ∀ j : Nat, j < en → gT (be + j) = kSg (bt j)) (hb8 : ∀ j : Nat, bt j < 256) (hb1 : ∀ j : Nat, j < en → 1 ≤ bt j) (hen9 : en ≤ 120) (cE : ClassId) (gE : Nat → Int32) (b6 : Nat) (n6 : Nat) (g6 : Nat → Int32) (hn6 : n6 ≤ 8) (hg6 : ∀ k : Nat, ∃ v : Nat, v < 128 ∧ g6 k = nI v) (b7 : Nat) (n7 : Nat) (g7 : Nat → Int32) (hn7 : n7 ≤ 8) (hg7 : ∀ k : Nat, ∃ v : Nat, v < 128 ∧ g7 k = nI v) (hz6 : kIx g6 n6 (nI 0) = n6) (hz7 : kIx g7 n7 (nI 0) = n7) (hl7 : ∀ c : Nat, c < 256 → kIx g7 n7 (nI c) < n7 → ¬ c = 91 ∧ ¬ (48 ≤ c ∧ c ≤ 57)) (sz : Nat) : Met l yX10_sum w_s_sum10x_6 ({ frames := 9, cells := 0, slots := 0, locals := 540 }) (kW dC dI [.ref jM] [(jM, .inr (10, [v0, v1, v2, v3, .ref lt, .ref tx, v6, v7, v8, .int (nI (be)), .int (nI (en)), .int (nI (a)), .int (-1), .int 6, v14, v15, .ref q6, .ref q7, v18, v19, v20, v21, v22, v23, v24, v25, v26, v27, v28, v29, v30, v31, v32, v33, v34, v35, v36, v37, v38, v39, v40, v41, v42, v43, v44, v45, v46, v47, v48, v49, v50, v51])), (tx, .inl (cT, nT, .inl gT)), (lt, .inl (cE, 128, .inl gE))] [(cT, .byte), (cE, .int)] (kS2 q6 b6 n6 g6 q7 b7 n7 g7 (va_A [(jM, .inr (10, [v0, v1, v2, v3, .ref lt, .ref tx, v6, v7, v8, .int (nI (be)), .int (nI (en)), .int (nI (a)), .int (-1), .int 6, v14, v15, .ref q6, .ref q7, v18, v19, v20, v21, v22, v23, v24, v25, v26, v27, v28, v29, v30, v31, v32, v33, v34, v35, v36, v37, v38, v39, v40, v41, v42, v43, v44, v45, v46, v47, v48, v49, v50, v51])), (tx, .inl (cT, nT, .inl gT)), (lt, .inl (cE, 128, .inl gE))] sz)) sz) (va_Qi (fun (r : Int32) (u : Nat × Int32 × Int32 × Bool × (List Int32)) => match u with | (a1, xf, xd, xo, xl) => (kPM (kSumD bt en g7 n7 0 a) en a 6 xo a1 xl xf xd ∧ (xo = true → (∀ j : Nat, j < n7 → kBd (kLt gE g7 j)) → r = kVal (kLt gE g7) xl))) (fun (u : Nat × Int32 × Int32 × Bool × (List Int32)) => match u with | (a1, xf, xd, xo, xl) => fun t : State => kB dC dI [(jM, .inr (10, [v0, v1, v2, v3, .ref lt, .ref tx, v6, v7, v8, .int (nI (be)), .int (nI (en)), .int (nI (a1)), .int xf, .int xd, v14, v15, .ref q6, .ref q7, v18, v19, v20, v21, v22, v23, v24, v25, v26, v27, v28, v29, v30, v31, v32, v33, v34, v35, v36, v37, v38, v39, v40, v41, v42, v43, v44, v45, v46, v47, v48, v49, v50, v51])), (tx, .inl (cT, nT, .inl gT)), (lt, .inl (cE, 128, .inl gE))] [(cT, .byte), (cE, .int)] (va_A [(jM, .inr (10, [v0, v1, v2, v3, .ref lt, .ref tx, v6, v7, v8, .int (nI (be)), .int (nI (en)), .int (nI (a)), .int (-1), .int 6, v14, v15, .ref q6, .ref q7, v18, v19, v20, v21, v22, v23, v24, v25, v26, v27, v28, v29, v30, v31, v32, v33, v34, v35, v36, v37, v38, v39, v40, v41, v42, v43, v44, v45, v46, v47, v48, v49, v50, v51])), (tx, .inl (cT, nT, .inl gT)), (lt, .inl (cE, 128, .inl gE))] sz) t) (va_A [(jM, .inr (10, [v0, v1, v2, v3, .ref lt, .ref tx, v6, v7, v8, .int (nI (be)), .int (nI (en)), .int (nI (a)), .int (-1), .int 6, v14, v15, .ref q6, .ref q7, v18, v19, v20, v21, v22, v23, v24, v25, v26, v27, v28, v29, v30, v31, v32, v33, v34, v35, v36, v37, v38, v39, v40, v41, v42, v43, v44, v45, v46, v47, v48, v49, v50, v51])), (tx, .inl (cT, nT, .inl gT)), (lt, .inl (cE, 128, .inl gE))] sz)) 0 0 (va_A [(jM, .inr (10, [v0, v1, v2, v3, .ref lt, .ref tx, v6, v7, v8, .int (nI (be)), .int (nI (en)), .int (nI (a)), .int (-1), .int 6, v14, v15, .ref q6, .ref q7, v18, v19, v20, v21, v22, v23, v24, v25, v26, v27, v28, v29, v30, v31, v32, v33, v34, v35, v36, v37, v38, v39, v40, v41, v42, v43, v44, v45, v46, v47, v48, v49, v50, v51])), (tx, .inl (cT, nT, .inl gT)), (lt, .inl (cE, 128, .inl gE))] sz) := by
  refine Met.ofW (cc := cX10_sum) (maxL := 5) (ret := (some .int)) (by decide) rfl ?_
  intro p e s m args below meth c s₁ B hml hv
  obtain ⟨rfl, hsz, hP, hK, hD0, hX⟩ := hv
  have hx := B.exec
  have hb := B.bytes
  have hr := B.returns
  have hts := atoms_spec (ws := w_s_sum10x_6) B.pre
  have hown : s.vm.findClass RX10 = some m.cls := findClass_of_methodNamed B.named
  have hlocks := B.notSynchronized
  subst hsz
  have hD := hD0.self (sz := s.heap.size)
  generalize hAe : va_A [(jM, .inr (10, [v0, v1, v2, v3, .ref lt, .ref tx, v6, v7, v8, .int (nI (be)), .int (nI (en)), .int (nI (a)), .int (-1), .int 6, v14, v15, .ref q6, .ref q7, v18, v19, v20, v21, v22, v23, v24, v25, v26, v27, v28, v29, v30, v31, v32, v33, v34, v35, v36, v37, v38, v39, v40, v41, v42, v43, v44, v45, v46, v47, v48, v49, v50, v51])), (tx, .inl (cT, nT, .inl gT)), (lt, .inl (cE, 128, .inl gE))] s.heap.size = A at hD hX ⊢
  have hA : ∀ q : Nat, s.heap.size ≤ q → A q := fun q h => by rw [← hAe]; exact Or.inr h
  have hS : va_S A s.heap s.heap [] := va_S.rf
  have hP : va_P (dC, dI) vwCl [(jM, .inr (10, [v0, v1, v2, v3, .ref lt, .ref tx, v6, v7, v8, .int (nI (be)), .int (nI (en)), .int (nI (a)), .int (-1), .int 6, v14, v15, .ref q6, .ref q7, v18, v19, v20, v21, v22, v23, v24, v25, v26, v27, v28, v29, v30, v31, v32, v33, v34, v35, v36, v37, v38, v39, v40, v41, v42, v43, v44, v45, v46, v47, v48, v49, v50, v51])), (tx, .inl (cT, nT, .inl gT)), (lt, .inl (cE, 128, .inl gE))] s.heap := hP
  have hl := lv_entry ([.ref jM]) (n := 5) (Nat.le_of_ble_eq_true rfl)
  rw [lg_entry_eq]
  generalize (lg_sl ([.ref jM]) ++ List.replicate (5 - (lg_sl ([.ref jM])).length) Slot.unset).toArray = ls at hl ⊢
  have hl : lv_has ls 5 [(0, .ref jM)] := hl
  refine kQ (fun Q hQ => ?_)
  refine lv_aload_n hx hb dX10_sum_0 rfl (lv_at hl 0 rfl) ?_
  have bd_1 : be + en ≤ nT := by omega
  have hCu := kCut (wc := [(jM, .inr (10, [v0, v1, v2, v3, .ref lt, .ref tx, v6, v7, v8, .int (nI (be)), .int (nI (en)), .int (nI (a)), .int (-1), .int 6, v14, v15, .ref q6, .ref q7, v18, v19, v20, v21, v22, v23, v24, v25, v26, v27, v28, v29, v30, v31, v32, v33, v34, v35, v36, v37, v38, v39, v40, v41, v42, v43, v44, v45, v46, v47, v48, v49, v50, v51])), (tx, .inl (cT, nT, .inl gT)), (lt, .inl (cE, 128, .inl gE))]) hP hD hS hA [0, 1, 2] rfl kc_nd_138 rfl
  have hPc := hCu.1
  have hDc := hCu.2.1
  have hFc := hCu.2.2
  have hKc := hK.sb (tys2 := [(cT, .byte), (cE, .int)]) [0, 1] rfl
  refine va_calli (va_runV (As := []) (rest := []) ⟨hx, hb, hml, hown, hts⟩ (s_term10x_6 l dC dI jM (v0 : Value) (v1 : Value) (v2 : Value) (v3 : Value) (v6 : Value) (v7 : Value) (v8 : Value) (v14 : Value) (v15 : Value) (v18 : Value) (v19 : Value) (v20 : Value) (v21 : Value) (v22 : Value) (v23 : Value) (v24 : Value) (v25 : Value) (v26 : Value) (v27 : Value) (v28 : Value) (v29 : Value) (v30 : Value) (v31 : Value) (v32 : Value) (v33 : Value) (v34 : Value) (v35 : Value) (v36 : Value) (v37 : Value) (v38 : Value) (v39 : Value) (v40 : Value) (v41 : Value) (v42 : Value) (v43 : Value) (v44 : Value) (v45 : Value) (v46 : Value) (v47 : Value) (v48 : Value) (v49 : Value) (v50 : Value) (v51 : Value) lt q6 q7 tx cT nT gT be en a bd_1 hnT ha bt hbr hb8 hb1 hen9 cE gE b6 n6 g6 hn6 hg6 b7 n7 g7 hn7 hg7 hz6 hz7 hl7 s.heap.size) (cwV 0 hts (kG (List.forall_mem_cons.mpr ⟨(List.mem_cons_of_mem _ (List.mem_append_left _ (List.mem_of_getElem? (i := 30) rfl))), (List.forall_mem_cons.mpr ⟨(List.mem_cons_of_mem _ (List.mem_append_left _ (List.mem_of_getElem? (i := 29) rfl))), (List.forall_mem_cons.mpr ⟨(List.mem_cons_of_mem _ (List.mem_append_left _ (List.mem_of_getElem? (i := 28) rfl))), (List.forall_mem_cons.mpr ⟨(List.mem_cons_of_mem _ (List.mem_append_left _ (List.mem_of_getElem? (i := 0) rfl))), (fun _ h => absurd h List.not_mem_nil)⟩)⟩)⟩)⟩) (kGV _ _ _ _) (kFam (List.mem_cons_of_mem _ (List.mem_append_left _ (List.mem_of_getElem? (i := 27) rfl)))) gw_s_term10x_6) rfl rfl rfl ⟨rfl, hd_X10_term⟩ ⟨(Nat.le_of_ble_eq_true rfl), (Nat.le_of_ble_eq_true rfl)⟩) (kW_V kS2_blind (kS2_give hX hS hFc) (va_recv hKc hPc (ci := 10) (q0 := 0) rfl rfl) hPc hKc hDc) rfl rfl hl.1 rfl (lv_room (Nat.le_of_ble_eq_true rfl)) dX10_sum_1 ⟨(Nat.le_of_ble_eq_true rfl), (Nat.le_of_ble_eq_true rfl)⟩) hS (fun q _ h => hFc q h) hFc (fun r_2 => kU5 (fun a1_3 xf_4 xd_5 xo_6 xl_7 t H_8 locs ht hvm hw hB hz1 hk1 hS => ?_))
  try dsimp only at hw
  have hPD : kPD dC dI A [(jM, .inr (10, [(v0 : Value), (v1 : Value), (v2 : Value), (v3 : Value), .ref lt, .ref tx, (v6 : Value), (v7 : Value), (v8 : Value), .int (nI (be)), .int (nI (en)), .int (nI (a1_3)), .int xf_4, .int xd_5, (v14 : Value), (v15 : Value), .ref q6, .ref q7, (v18 : Value), (v19 : Value), (v20 : Value), (v21 : Value), (v22 : Value), (v23 : Value), (v24 : Value), (v25 : Value), (v26 : Value), (v27 : Value), (v28 : Value), (v29 : Value), (v30 : Value), (v31 : Value), (v32 : Value), (v33 : Value), (v34 : Value), (v35 : Value), (v36 : Value), (v37 : Value), (v38 : Value), (v39 : Value), (v40 : Value), (v41 : Value), (v42 : Value), (v43 : Value), (v44 : Value), (v45 : Value), (v46 : Value), (v47 : Value), (v48 : Value), (v49 : Value), (v50 : Value), (v51 : Value)])), (tx, .inl (cT, nT, .inl gT)), (lt, .inl (cE, 128, .inl gE))] H_8 := kJoinX hP hD [0, 1, 2] rfl hk1 hFc hB.1 ht hB.2.2 rfl [some 0, some 1, some 2] rfl rfl
  obtain ⟨hP, hD⟩ := hPD
  have hw_9 := hw
  have hw_9_w := hw_9.2
  replace hw_9 := hw_9.1
  have hw_9_k := hw_9.2.1
  rcases Bool.eq_false_or_eq_true xo_6 with e9 | e9
  · subst e9
    have hw_9_v := hw_9_w rfl
    obtain ⟨hw_9_f, hw_9_d, hw_9_l, hw_9_p⟩ := hw_9.2.2.1 rfl
    subst hw_9_f
    subst hw_9_d
    refine lv_istore_n hx hb dX10_sum_4 rfl hl kc_l_1_5 (kTo [(1, .int r_2), (0, .ref jM)]) (fun ls hl => ?_)
    have lp_k_10 : ∀ (n9 : Nat) (i : Nat) (xb : Int32) (xl : List Int32) (xc : Nat) (ivk_10_0 : (a < i ∧ i ≤ en)) (ivk_10_1 : xc < i) (ivk_10_2 : kLoop bt en 43 45 (kTermD bt en g7 n7 0) (120 - xc) i xl = kSumD bt en g7 n7 0 a) (ivk_10_3 : ((∀ j : Nat, j < n7 → kBd (kLt gE g7 j)) → xb = kVal (kLt gE g7) xl)) (ivk_10_4 : kHn n7 3 xl) (H : Heap) (locs : List Loc) (_ : va_P (dC, dI) vwCl [(jM, .inr (10, [(v0 : Value), (v1 : Value), (v2 : Value), (v3 : Value), .ref lt, .ref tx, (v6 : Value), (v7 : Value), (v8 : Value), .int (nI (be)), .int (nI (en)), .int (nI (i)), .int (-1), .int 6, (v14 : Value), (v15 : Value), .ref q6, .ref q7, (v18 : Value), (v19 : Value), (v20 : Value), (v21 : Value), (v22 : Value), (v23 : Value), (v24 : Value), (v25 : Value), (v26 : Value), (v27 : Value), (v28 : Value), (v29 : Value), (v30 : Value), (v31 : Value), (v32 : Value), (v33 : Value), (v34 : Value), (v35 : Value), (v36 : Value), (v37 : Value), (v38 : Value), (v39 : Value), (v40 : Value), (v41 : Value), (v42 : Value), (v43 : Value), (v44 : Value), (v45 : Value), (v46 : Value), (v47 : Value), (v48 : Value), (v49 : Value), (v50 : Value), (v51 : Value)])), (tx, .inl (cT, nT, .inl gT)), (lt, .inl (cE, 128, .inl gE))] H) (_ : va_D A [(jM, .inr (10, [(v0 : Value), (v1 : Value), (v2 : Value), (v3 : Value), .ref lt, .ref tx, (v6 : Value), (v7 : Value), (v8 : Value), .int (nI (be)), .int (nI (en)), .int (nI (i)), .int (-1), .int 6, (v14 : Value), (v15 : Value), .ref q6, .ref q7, (v18 : Value), (v19 : Value), (v20 : Value), (v21 : Value), (v22 : Value), (v23 : Value), (v24 : Value), (v25 : Value), (v26 : Value), (v27 : Value), (v28 : Value), (v29 : Value), (v30 : Value), (v31 : Value), (v32 : Value), (v33 : Value), (v34 : Value), (v35 : Value), (v36 : Value), (v37 : Value), (v38 : Value), (v39 : Value), (v40 : Value), (v41 : Value), (v42 : Value), (v43 : Value), (v44 : Value), (v45 : Value), (v46 : Value), (v47 : Value), (v48 : Value), (v49 : Value), (v50 : Value), (v51 : Value)])), (tx, .inl (cT, nT, .inl gT)), (lt, .inl (cE, 128, .inl gE))]) (_ : va_S A s.heap H locs) (ls : Array Slot) (_ : lv_has ls 5 [(1, .int xb), (0, .ref jM)]) (_ : en - i < n9), W p l e (headSpec w_s_sum10x_6 ({ frames := 9, cells := 0, slots := 0, locals := 540 })).room s m (#[.ref jM] : Array Value) below meth c H locs 0 0 Q (F0 m 5 ls []) := by
      intro n9
      induction n9 with
      | zero => intro i xb xl xc ivk_10_0 ivk_10_1 ivk_10_2 ivk_10_3 ivk_10_4 H locs hP hD hS ls hl hm9; exact absurd hm9 (Nat.not_lt_zero _)
      | succ n9 ih_k_10 =>
        intro i xb xl xc ivk_10_0 ivk_10_1 ivk_10_2 ivk_10_3 ivk_10_4 H locs hP hD hS ls hl hm9
        refine lv_aload_n hx hb dX10_sum_5 rfl (lv_at hl 1 rfl) ?_
        refine va_get (D := (dC, dI)) (ci := 10) (v := .int (-1)) (C := RX10) (T := TX10) (N := 52) hx hb hts (fun _ h => List.mem_cons_of_mem _ (List.mem_append_right _ (List.mem_append_right _ (List.mem_append_left _ h)))) hown hK hP 0 rfl rfl 12 kc_l_12_52 (hts (.fieldLink RX10 150 "NotEndedModel" "fault" "I") (List.mem_cons_of_mem _ (List.mem_append_left _ (List.mem_of_getElem? (i := 10) rfl)))) (fun _ h9 => h9) rfl dX10_sum_6 ?_
        refine lv_iconst (v := (-1)) hx hb dX10_sum_9 kc_i_m1 ?_
        refine lv_icmp_ne (tgt := 84) hx hb dX10_sum_10 kc_t_10_74 (fun c_11 => absurd (by decide) c_11) (fun c_11 => ?_)
        refine lv_aload_n hx hb dX10_sum_13 rfl (lv_at hl 1 rfl) ?_
        have bd_12 : i ≤ en := by omega
        have hCu := kCut (wc := [(jM, .inr (10, [(v0 : Value), (v1 : Value), (v2 : Value), (v3 : Value), .ref lt, .ref tx, (v6 : Value), (v7 : Value), (v8 : Value), .int (nI (be)), .int (nI (en)), .int (nI (i)), .int (-1), .int 6, (v14 : Value), (v15 : Value), .ref q6, .ref q7, (v18 : Value), (v19 : Value), (v20 : Value), (v21 : Value), (v22 : Value), (v23 : Value), (v24 : Value), (v25 : Value), (v26 : Value), (v27 : Value), (v28 : Value), (v29 : Value), (v30 : Value), (v31 : Value), (v32 : Value), (v33 : Value), (v34 : Value), (v35 : Value), (v36 : Value), (v37 : Value), (v38 : Value), (v39 : Value), (v40 : Value), (v41 : Value), (v42 : Value), (v43 : Value), (v44 : Value), (v45 : Value), (v46 : Value), (v47 : Value), (v48 : Value), (v49 : Value), (v50 : Value), (v51 : Value)])), (tx, .inl (cT, nT, .inl gT))]) hP hD hS hA [0, 1] rfl kc_nd_434 rfl
        have hPc := hCu.1
        have hDc := hCu.2.1
        have hFc := hCu.2.2
        have hKc := hK.sb (tys2 := [(cT, .byte)]) [0] rfl
        refine va_calli (va_runV (As := []) (rest := []) ⟨hx, hb, hml, hown, hts⟩ (s_look10x l dC dI jM ((v0 : Value) : Value) ((v1 : Value) : Value) ((v2 : Value) : Value) ((v3 : Value) : Value) ((v6 : Value) : Value) ((v7 : Value) : Value) ((v8 : Value) : Value) (.int (-1) : Value) (.int 6 : Value) ((v14 : Value) : Value) ((v15 : Value) : Value) ((v18 : Value) : Value) ((v19 : Value) : Value) ((v20 : Value) : Value) ((v21 : Value) : Value) ((v22 : Value) : Value) ((v23 : Value) : Value) ((v24 : Value) : Value) ((v25 : Value) : Value) ((v26 : Value) : Value) ((v27 : Value) : Value) ((v28 : Value) : Value) ((v29 : Value) : Value) ((v30 : Value) : Value) ((v31 : Value) : Value) ((v32 : Value) : Value) ((v33 : Value) : Value) ((v34 : Value) : Value) ((v35 : Value) : Value) ((v36 : Value) : Value) ((v37 : Value) : Value) ((v38 : Value) : Value) ((v39 : Value) : Value) ((v40 : Value) : Value) ((v41 : Value) : Value) ((v42 : Value) : Value) ((v43 : Value) : Value) ((v44 : Value) : Value) ((v45 : Value) : Value) ((v46 : Value) : Value) ((v47 : Value) : Value) ((v48 : Value) : Value) ((v49 : Value) : Value) ((v50 : Value) : Value) ((v51 : Value) : Value) lt q6 q7 tx cT nT gT be en i bd_1 hnT bd_12 bt hbr hb8 hb1 hen9 H.size) (cwV 0 hts (kG (List.forall_mem_cons.mpr ⟨(List.mem_cons_of_mem _ (List.mem_append_left _ (List.mem_of_getElem? (i := 3) rfl))), (List.forall_mem_cons.mpr ⟨(List.mem_cons_of_mem _ (List.mem_append_left _ (List.mem_of_getElem? (i := 2) rfl))), (List.forall_mem_cons.mpr ⟨(List.mem_cons_of_mem _ (List.mem_append_left _ (List.mem_of_getElem? (i := 1) rfl))), (List.forall_mem_cons.mpr ⟨(List.mem_cons_of_mem _ (List.mem_append_left _ (List.mem_of_getElem? (i := 0) rfl))), (fun _ h => absurd h List.not_mem_nil)⟩)⟩)⟩)⟩) (kGV _ _ _ _) (fun _ h => List.mem_cons_of_mem _ (List.mem_append_right _ (List.mem_append_left _ h))) gw_s_look10x) rfl rfl rfl ⟨rfl, hd_X10_look⟩ ⟨(Nat.le_of_ble_eq_true rfl), (Nat.le_of_ble_eq_true rfl)⟩) (kW_V kT_blind kT_give (va_recv hKc hPc (ci := 10) (q0 := 0) rfl rfl) hPc hKc hDc) rfl rfl hl.1 rfl (lv_room (Nat.le_of_ble_eq_true rfl)) dX10_sum_14 ⟨(Nat.le_of_ble_eq_true rfl), (Nat.le_of_ble_eq_true rfl)⟩) hS (fun q _ h => hFc q h) hFc (fun r_13 => kU2 (fun a1_14 ch_15 t H_16 locs ht hvm hw hB hz1 hk1 hS => ?_))
        try dsimp only at hw
        have hPD : kPD dC dI A [(jM, .inr (10, [((v0 : Value) : Value), ((v1 : Value) : Value), ((v2 : Value) : Value), ((v3 : Value) : Value), .ref lt, .ref tx, ((v6 : Value) : Value), ((v7 : Value) : Value), ((v8 : Value) : Value), .int (nI (be)), .int (nI (en)), .int (nI (a1_14)), .int (-1), .int 6, ((v14 : Value) : Value), ((v15 : Value) : Value), .ref q6, .ref q7, ((v18 : Value) : Value), ((v19 : Value) : Value), ((v20 : Value) : Value), ((v21 : Value) : Value), ((v22 : Value) : Value), ((v23 : Value) : Value), ((v24 : Value) : Value), ((v25 : Value) : Value), ((v26 : Value) : Value), ((v27 : Value) : Value), ((v28 : Value) : Value), ((v29 : Value) : Value), ((v30 : Value) : Value), ((v31 : Value) : Value), ((v32 : Value) : Value), ((v33 : Value) : Value), ((v34 : Value) : Value), ((v35 : Value) : Value), ((v36 : Value) : Value), ((v37 : Value) : Value), ((v38 : Value) : Value), ((v39 : Value) : Value), ((v40 : Value) : Value), ((v41 : Value) : Value), ((v42 : Value) : Value), ((v43 : Value) : Value), ((v44 : Value) : Value), ((v45 : Value) : Value), ((v46 : Value) : Value), ((v47 : Value) : Value), ((v48 : Value) : Value), ((v49 : Value) : Value), ((v50 : Value) : Value), ((v51 : Value) : Value)])), (tx, .inl (cT, nT, .inl gT)), (lt, .inl (cE, 128, .inl gE))] H_16 := kJoinX hP hD [0, 1] rfl hk1 hFc hB.1 ht hB.2.2 rfl [some 0, some 1, none] rfl rfl
        obtain ⟨hP, hD⟩ := hPD
        have hw_17 := hw
        have hw_17_0 := hw_17.1
        have hw_17_1 := hw_17.2.1
        have hw_17_2 := hw_17.2.2.1
        have hw_17_3 := hw_17.2.2.2.1
        have hw_17_4 := hw_17.2.2.2.2.1
        have hw_17_5 := hw_17.2.2.2.2.2.1
        have hw_17_6 := hw_17.2.2.2.2.2.2.1
        have hw_17_7 := hw_17.2.2.2.2.2.2.2
        clear hw_17
        refine lv_bipush (v := 43) hx hb dX10_sum_17 kc_b_43 ?_
        refine lv_icmp_eq (tgt := 31) hx hb dX10_sum_19 kc_t_19_12 (fun c_18 => ?_) (fun c_18 => ?_)
        · have hk_19 := kLr_e hw_17_0 (by omega) (k := 43) (by decide) c_18
          refine lv_aload_n hx hb dX10_sum_31 rfl (lv_at hl 1 rfl) ?_
          have bd_20 : a1_14 ≤ en := by omega
          have hCu := kCut (wc := [(jM, .inr (10, [((v0 : Value) : Value), ((v1 : Value) : Value), ((v2 : Value) : Value), ((v3 : Value) : Value), .ref lt, .ref tx, ((v6 : Value) : Value), ((v7 : Value) : Value), ((v8 : Value) : Value), .int (nI (be)), .int (nI (en)), .int (nI (a1_14)), .int (-1), .int 6, ((v14 : Value) : Value), ((v15 : Value) : Value), .ref q6, .ref q7, ((v18 : Value) : Value), ((v19 : Value) : Value), ((v20 : Value) : Value), ((v21 : Value) : Value), ((v22 : Value) : Value), ((v23 : Value) : Value), ((v24 : Value) : Value), ((v25 : Value) : Value), ((v26 : Value) : Value), ((v27 : Value) : Value), ((v28 : Value) : Value), ((v29 : Value) : Value), ((v30 : Value) : Value), ((v31 : Value) : Value), ((v32 : Value) : Value), ((v33 : Value) : Value), ((v34 : Value) : Value), ((v35 : Value) : Value), ((v36 : Value) : Value), ((v37 : Value) : Value), ((v38 : Value) : Value), ((v39 : Value) : Value), ((v40 : Value) : Value), ((v41 : Value) : Value), ((v42 : Value) : Value), ((v43 : Value) : Value), ((v44 : Value) : Value), ((v45 : Value) : Value), ((v46 : Value) : Value), ((v47 : Value) : Value), ((v48 : Value) : Value), ((v49 : Value) : Value), ((v50 : Value) : Value), ((v51 : Value) : Value)])), (tx, .inl (cT, nT, .inl gT))]) hP hD hS hA [0, 1] rfl kc_nd_434 rfl
          have hPc := hCu.1
          have hDc := hCu.2.1
          have hFc := hCu.2.2
          have hKc := hK.sb (tys2 := [(cT, .byte)]) [0] rfl
          refine va_calli (va_runV (As := []) (rest := []) ⟨hx, hb, hml, hown, hts⟩ (s_look10x l dC dI jM (((v0 : Value) : Value) : Value) (((v1 : Value) : Value) : Value) (((v2 : Value) : Value) : Value) (((v3 : Value) : Value) : Value) (((v6 : Value) : Value) : Value) (((v7 : Value) : Value) : Value) (((v8 : Value) : Value) : Value) (.int (-1) : Value) (.int 6 : Value) (((v14 : Value) : Value) : Value) (((v15 : Value) : Value) : Value) (((v18 : Value) : Value) : Value) (((v19 : Value) : Value) : Value) (((v20 : Value) : Value) : Value) (((v21 : Value) : Value) : Value) (((v22 : Value) : Value) : Value) (((v23 : Value) : Value) : Value) (((v24 : Value) : Value) : Value) (((v25 : Value) : Value) : Value) (((v26 : Value) : Value) : Value) (((v27 : Value) : Value) : Value) (((v28 : Value) : Value) : Value) (((v29 : Value) : Value) : Value) (((v30 : Value) : Value) : Value) (((v31 : Value) : Value) : Value) (((v32 : Value) : Value) : Value) (((v33 : Value) : Value) : Value) (((v34 : Value) : Value) : Value) (((v35 : Value) : Value) : Value) (((v36 : Value) : Value) : Value) (((v37 : Value) : Value) : Value) (((v38 : Value) : Value) : Value) (((v39 : Value) : Value) : Value) (((v40 : Value) : Value) : Value) (((v41 : Value) : Value) : Value) (((v42 : Value) : Value) : Value) (((v43 : Value) : Value) : Value) (((v44 : Value) : Value) : Value) (((v45 : Value) : Value) : Value) (((v46 : Value) : Value) : Value) (((v47 : Value) : Value) : Value) (((v48 : Value) : Value) : Value) (((v49 : Value) : Value) : Value) (((v50 : Value) : Value) : Value) (((v51 : Value) : Value) : Value) lt q6 q7 tx cT nT gT be en a1_14 bd_1 hnT bd_20 bt hbr hb8 hb1 hen9 H_16.size) (cwV 0 hts (kG (List.forall_mem_cons.mpr ⟨(List.mem_cons_of_mem _ (List.mem_append_left _ (List.mem_of_getElem? (i := 3) rfl))), (List.forall_mem_cons.mpr ⟨(List.mem_cons_of_mem _ (List.mem_append_left _ (List.mem_of_getElem? (i := 2) rfl))), (List.forall_mem_cons.mpr ⟨(List.mem_cons_of_mem _ (List.mem_append_left _ (List.mem_of_getElem? (i := 1) rfl))), (List.forall_mem_cons.mpr ⟨(List.mem_cons_of_mem _ (List.mem_append_left _ (List.mem_of_getElem? (i := 0) rfl))), (fun _ h => absurd h List.not_mem_nil)⟩)⟩)⟩)⟩) (kGV _ _ _ _) (fun _ h => List.mem_cons_of_mem _ (List.mem_append_right _ (List.mem_append_left _ h))) gw_s_look10x) rfl rfl rfl ⟨rfl, hd_X10_look⟩ ⟨(Nat.le_of_ble_eq_true rfl), (Nat.le_of_ble_eq_true rfl)⟩) (kW_V kT_blind kT_give (va_recv hKc hPc (ci := 10) (q0 := 0) rfl rfl) hPc hKc hDc) rfl rfl hl.1 rfl (lv_room (Nat.le_of_ble_eq_true rfl)) dX10_sum_32 ⟨(Nat.le_of_ble_eq_true rfl), (Nat.le_of_ble_eq_true rfl)⟩) hS (fun q _ h => hFc q h) hFc (fun r_21 => kU2 (fun a1_22 ch_23 t H_24 locs ht hvm hw hB hz1 hk1 hS => ?_))
          try dsimp only at hw
          have hPD : kPD dC dI A [(jM, .inr (10, [(((v0 : Value) : Value) : Value), (((v1 : Value) : Value) : Value), (((v2 : Value) : Value) : Value), (((v3 : Value) : Value) : Value), .ref lt, .ref tx, (((v6 : Value) : Value) : Value), (((v7 : Value) : Value) : Value), (((v8 : Value) : Value) : Value), .int (nI (be)), .int (nI (en)), .int (nI (a1_22)), .int (-1), .int 6, (((v14 : Value) : Value) : Value), (((v15 : Value) : Value) : Value), .ref q6, .ref q7, (((v18 : Value) : Value) : Value), (((v19 : Value) : Value) : Value), (((v20 : Value) : Value) : Value), (((v21 : Value) : Value) : Value), (((v22 : Value) : Value) : Value), (((v23 : Value) : Value) : Value), (((v24 : Value) : Value) : Value), (((v25 : Value) : Value) : Value), (((v26 : Value) : Value) : Value), (((v27 : Value) : Value) : Value), (((v28 : Value) : Value) : Value), (((v29 : Value) : Value) : Value), (((v30 : Value) : Value) : Value), (((v31 : Value) : Value) : Value), (((v32 : Value) : Value) : Value), (((v33 : Value) : Value) : Value), (((v34 : Value) : Value) : Value), (((v35 : Value) : Value) : Value), (((v36 : Value) : Value) : Value), (((v37 : Value) : Value) : Value), (((v38 : Value) : Value) : Value), (((v39 : Value) : Value) : Value), (((v40 : Value) : Value) : Value), (((v41 : Value) : Value) : Value), (((v42 : Value) : Value) : Value), (((v43 : Value) : Value) : Value), (((v44 : Value) : Value) : Value), (((v45 : Value) : Value) : Value), (((v46 : Value) : Value) : Value), (((v47 : Value) : Value) : Value), (((v48 : Value) : Value) : Value), (((v49 : Value) : Value) : Value), (((v50 : Value) : Value) : Value), (((v51 : Value) : Value) : Value)])), (tx, .inl (cT, nT, .inl gT)), (lt, .inl (cE, 128, .inl gE))] H_24 := kJoinX hP hD [0, 1] rfl hk1 hFc hB.1 ht hB.2.2 rfl [some 0, some 1, none] rfl rfl
          obtain ⟨hP, hD⟩ := hPD
          have hw_25 := hw
          have hw_25_0 := hw_25.1
          have hw_25_1 := hw_25.2.1
          have hw_25_2 := hw_25.2.2.1
          have hw_25_3 := hw_25.2.2.2.1
          have hw_25_4 := hw_25.2.2.2.2.1
          have hw_25_5 := hw_25.2.2.2.2.2.1
          have hw_25_6 := hw_25.2.2.2.2.2.2.1
          have hw_25_7 := hw_25.2.2.2.2.2.2.2
          clear hw_25
          have e9 : a1_14 = a1_22 := by rw [hw_25_2, hw_17_2]; exact (kSp_sp (by omega)).symm
          have e8 : ch_15 = ch_23 := by rw [hw_25_1, hw_17_1, hw_17_2]; exact (kLk_sp (by omega)).symm
          have e7 : r_13 = r_21 := by rw [hw_17_0, hw_25_0, e8]
          subst e7
          subst e9
          subst e8
          refine lv_bipush (v := 43) hx hb dX10_sum_35 kc_b_43 ?_
          refine lv_icmp_ne (tgt := 44) hx hb dX10_sum_37 kc_t_37_7 (fun c_26 => absurd c_18 c_26) (fun c_26 => ?_)
          refine lv_iconst (v := 1) hx hb dX10_sum_40 kc_i_1 ?_
          refine lv_goto (tgt := 45) hx hb dX10_sum_41 kc_t_41_4 ?_
          refine lv_istore_n hx hb dX10_sum_45 rfl hl kc_l_2_5 (kTo [(2, .int 1), (1, .int xb), (0, .ref jM)]) (fun ls hl => ?_)
          refine lv_aload_n hx hb dX10_sum_46 rfl (lv_at hl 2 rfl) ?_
          refine lv_dup hx hb dX10_sum_47 rfl ?_
          refine va_get (D := (dC, dI)) (ci := 10) (v := .int (nI (a1_14))) (C := RX10) (T := TX10) (N := 52) hx hb hts (fun _ h => List.mem_cons_of_mem _ (List.mem_append_right _ (List.mem_append_right _ (List.mem_append_left _ h)))) hown hK hP 0 rfl rfl 11 kc_l_11_52 (hts (.fieldLink RX10 141 "NotEndedModel" "at" "I") (List.mem_cons_of_mem _ (List.mem_append_left _ (List.mem_of_getElem? (i := 13) rfl)))) (fun _ h9 => h9) rfl dX10_sum_48 ?_
          refine lv_iconst (v := 1) hx hb dX10_sum_51 kc_i_1 ?_
          refine lv_iadd hx hb dX10_sum_52 ?_
          refine lv_topi (fun y_27 ey_27 => ?_)
          obtain rfl : y_27 = nI (a1_14 + 1) := ey_27.trans (nI_add (a1_14) (1))
          refine va_put (D := (dC, dI)) (ci := 10) (v := .int (nI (a1_14 + 1))) (ty := tyX10 11) (C := RX10) (T := TX10) (N := 52) hx hb hts (fun _ h => List.mem_cons_of_mem _ (List.mem_append_right _ (List.mem_append_right _ (List.mem_append_left _ h)))) tyX10 tyX10_ok nmX10 hown hK hP hD hS 0 rfl rfl 11 kc_l_11_52 (hts (.fieldLink RX10 141 "NotEndedModel" "at" "I") (List.mem_cons_of_mem _ (List.mem_append_left _ (List.mem_of_getElem? (i := 13) rfl)))) (fun _ h9 => h9) rfl (tyX10_ok 11 kc_l_11_52) rfl rfl (Nat.le_of_ble_eq_true rfl) dX10_sum_53 (fun H locs hP hD hS => ?_)
          have hPD : kPD dC dI A [(jM, .inr (10, [(((v0 : Value) : Value) : Value), (((v1 : Value) : Value) : Value), (((v2 : Value) : Value) : Value), (((v3 : Value) : Value) : Value), .ref lt, .ref tx, (((v6 : Value) : Value) : Value), (((v7 : Value) : Value) : Value), (((v8 : Value) : Value) : Value), .int (nI (be)), .int (nI (en)), .int (nI (a1_14 + 1)), .int (-1), .int 6, (((v14 : Value) : Value) : Value), (((v15 : Value) : Value) : Value), .ref q6, .ref q7, (((v18 : Value) : Value) : Value), (((v19 : Value) : Value) : Value), (((v20 : Value) : Value) : Value), (((v21 : Value) : Value) : Value), (((v22 : Value) : Value) : Value), (((v23 : Value) : Value) : Value), (((v24 : Value) : Value) : Value), (((v25 : Value) : Value) : Value), (((v26 : Value) : Value) : Value), (((v27 : Value) : Value) : Value), (((v28 : Value) : Value) : Value), (((v29 : Value) : Value) : Value), (((v30 : Value) : Value) : Value), (((v31 : Value) : Value) : Value), (((v32 : Value) : Value) : Value), (((v33 : Value) : Value) : Value), (((v34 : Value) : Value) : Value), (((v35 : Value) : Value) : Value), (((v36 : Value) : Value) : Value), (((v37 : Value) : Value) : Value), (((v38 : Value) : Value) : Value), (((v39 : Value) : Value) : Value), (((v40 : Value) : Value) : Value), (((v41 : Value) : Value) : Value), (((v42 : Value) : Value) : Value), (((v43 : Value) : Value) : Value), (((v44 : Value) : Value) : Value), (((v45 : Value) : Value) : Value), (((v46 : Value) : Value) : Value), (((v47 : Value) : Value) : Value), (((v48 : Value) : Value) : Value), (((v49 : Value) : Value) : Value), (((v50 : Value) : Value) : Value), (((v51 : Value) : Value) : Value)])), (tx, .inl (cT, nT, .inl gT)), (lt, .inl (cE, 128, .inl gE))] H := ⟨hP, hD⟩
          obtain ⟨hP, hD⟩ := hPD
          refine lv_aload_n hx hb dX10_sum_56 rfl (lv_at hl 2 rfl) ?_
          have bd_28 : (a1_14 + 1) ≤ en := by omega
          have hCu := kCut (wc := [(jM, .inr (10, [(((v0 : Value) : Value) : Value), (((v1 : Value) : Value) : Value), (((v2 : Value) : Value) : Value), (((v3 : Value) : Value) : Value), .ref lt, .ref tx, (((v6 : Value) : Value) : Value), (((v7 : Value) : Value) : Value), (((v8 : Value) : Value) : Value), .int (nI (be)), .int (nI (en)), .int (nI (a1_14 + 1)), .int (-1), .int 6, (((v14 : Value) : Value) : Value), (((v15 : Value) : Value) : Value), .ref q6, .ref q7, (((v18 : Value) : Value) : Value), (((v19 : Value) : Value) : Value), (((v20 : Value) : Value) : Value), (((v21 : Value) : Value) : Value), (((v22 : Value) : Value) : Value), (((v23 : Value) : Value) : Value), (((v24 : Value) : Value) : Value), (((v25 : Value) : Value) : Value), (((v26 : Value) : Value) : Value), (((v27 : Value) : Value) : Value), (((v28 : Value) : Value) : Value), (((v29 : Value) : Value) : Value), (((v30 : Value) : Value) : Value), (((v31 : Value) : Value) : Value), (((v32 : Value) : Value) : Value), (((v33 : Value) : Value) : Value), (((v34 : Value) : Value) : Value), (((v35 : Value) : Value) : Value), (((v36 : Value) : Value) : Value), (((v37 : Value) : Value) : Value), (((v38 : Value) : Value) : Value), (((v39 : Value) : Value) : Value), (((v40 : Value) : Value) : Value), (((v41 : Value) : Value) : Value), (((v42 : Value) : Value) : Value), (((v43 : Value) : Value) : Value), (((v44 : Value) : Value) : Value), (((v45 : Value) : Value) : Value), (((v46 : Value) : Value) : Value), (((v47 : Value) : Value) : Value), (((v48 : Value) : Value) : Value), (((v49 : Value) : Value) : Value), (((v50 : Value) : Value) : Value), (((v51 : Value) : Value) : Value)])), (tx, .inl (cT, nT, .inl gT)), (lt, .inl (cE, 128, .inl gE))]) hP hD hS hA [0, 1, 2] rfl kc_nd_138 rfl
          have hPc := hCu.1
          have hDc := hCu.2.1
          have hFc := hCu.2.2
          have hKc := hK.sb (tys2 := [(cT, .byte), (cE, .int)]) [0, 1] rfl
          refine va_calli (va_runV (As := []) (rest := []) ⟨hx, hb, hml, hown, hts⟩ (s_term10x_6 l dC dI jM ((((v0 : Value) : Value) : Value) : Value) ((((v1 : Value) : Value) : Value) : Value) ((((v2 : Value) : Value) : Value) : Value) ((((v3 : Value) : Value) : Value) : Value) ((((v6 : Value) : Value) : Value) : Value) ((((v7 : Value) : Value) : Value) : Value) ((((v8 : Value) : Value) : Value) : Value) ((((v14 : Value) : Value) : Value) : Value) ((((v15 : Value) : Value) : Value) : Value) ((((v18 : Value) : Value) : Value) : Value) ((((v19 : Value) : Value) : Value) : Value) ((((v20 : Value) : Value) : Value) : Value) ((((v21 : Value) : Value) : Value) : Value) ((((v22 : Value) : Value) : Value) : Value) ((((v23 : Value) : Value) : Value) : Value) ((((v24 : Value) : Value) : Value) : Value) ((((v25 : Value) : Value) : Value) : Value) ((((v26 : Value) : Value) : Value) : Value) ((((v27 : Value) : Value) : Value) : Value) ((((v28 : Value) : Value) : Value) : Value) ((((v29 : Value) : Value) : Value) : Value) ((((v30 : Value) : Value) : Value) : Value) ((((v31 : Value) : Value) : Value) : Value) ((((v32 : Value) : Value) : Value) : Value) ((((v33 : Value) : Value) : Value) : Value) ((((v34 : Value) : Value) : Value) : Value) ((((v35 : Value) : Value) : Value) : Value) ((((v36 : Value) : Value) : Value) : Value) ((((v37 : Value) : Value) : Value) : Value) ((((v38 : Value) : Value) : Value) : Value) ((((v39 : Value) : Value) : Value) : Value) ((((v40 : Value) : Value) : Value) : Value) ((((v41 : Value) : Value) : Value) : Value) ((((v42 : Value) : Value) : Value) : Value) ((((v43 : Value) : Value) : Value) : Value) ((((v44 : Value) : Value) : Value) : Value) ((((v45 : Value) : Value) : Value) : Value) ((((v46 : Value) : Value) : Value) : Value) ((((v47 : Value) : Value) : Value) : Value) ((((v48 : Value) : Value) : Value) : Value) ((((v49 : Value) : Value) : Value) : Value) ((((v50 : Value) : Value) : Value) : Value) ((((v51 : Value) : Value) : Value) : Value) lt q6 q7 tx cT nT gT be en (a1_14 + 1) bd_1 hnT bd_28 bt hbr hb8 hb1 hen9 cE gE b6 n6 g6 hn6 hg6 b7 n7 g7 hn7 hg7 hz6 hz7 hl7 H.size) (cwV 0 hts (kG (List.forall_mem_cons.mpr ⟨(List.mem_cons_of_mem _ (List.mem_append_left _ (List.mem_of_getElem? (i := 30) rfl))), (List.forall_mem_cons.mpr ⟨(List.mem_cons_of_mem _ (List.mem_append_left _ (List.mem_of_getElem? (i := 29) rfl))), (List.forall_mem_cons.mpr ⟨(List.mem_cons_of_mem _ (List.mem_append_left _ (List.mem_of_getElem? (i := 28) rfl))), (List.forall_mem_cons.mpr ⟨(List.mem_cons_of_mem _ (List.mem_append_left _ (List.mem_of_getElem? (i := 0) rfl))), (fun _ h => absurd h List.not_mem_nil)⟩)⟩)⟩)⟩) (kGV _ _ _ _) (kFam (List.mem_cons_of_mem _ (List.mem_append_left _ (List.mem_of_getElem? (i := 27) rfl)))) gw_s_term10x_6) rfl rfl rfl ⟨rfl, hd_X10_term⟩ ⟨(Nat.le_of_ble_eq_true rfl), (Nat.le_of_ble_eq_true rfl)⟩) (kW_V kS2_blind (kS2_give hX hS hFc) (va_recv hKc hPc (ci := 10) (q0 := 0) rfl rfl) hPc hKc hDc) rfl rfl hl.1 rfl (lv_room (Nat.le_of_ble_eq_true rfl)) dX10_sum_57 ⟨(Nat.le_of_ble_eq_true rfl), (Nat.le_of_ble_eq_true rfl)⟩) hS (fun q _ h => hFc q h) hFc (fun r_29 => kU5 (fun a1_30 xf_31 xd_32 xo_33 xl_34 t H_35 locs ht hvm hw hB hz1 hk1 hS => ?_))
          try dsimp only at hw
          have hPD : kPD dC dI A [(jM, .inr (10, [((((v0 : Value) : Value) : Value) : Value), ((((v1 : Value) : Value) : Value) : Value), ((((v2 : Value) : Value) : Value) : Value), ((((v3 : Value) : Value) : Value) : Value), .ref lt, .ref tx, ((((v6 : Value) : Value) : Value) : Value), ((((v7 : Value) : Value) : Value) : Value), ((((v8 : Value) : Value) : Value) : Value), .int (nI (be)), .int (nI (en)), .int (nI (a1_30)), .int xf_31, .int xd_32, ((((v14 : Value) : Value) : Value) : Value), ((((v15 : Value) : Value) : Value) : Value), .ref q6, .ref q7, ((((v18 : Value) : Value) : Value) : Value), ((((v19 : Value) : Value) : Value) : Value), ((((v20 : Value) : Value) : Value) : Value), ((((v21 : Value) : Value) : Value) : Value), ((((v22 : Value) : Value) : Value) : Value), ((((v23 : Value) : Value) : Value) : Value), ((((v24 : Value) : Value) : Value) : Value), ((((v25 : Value) : Value) : Value) : Value), ((((v26 : Value) : Value) : Value) : Value), ((((v27 : Value) : Value) : Value) : Value), ((((v28 : Value) : Value) : Value) : Value), ((((v29 : Value) : Value) : Value) : Value), ((((v30 : Value) : Value) : Value) : Value), ((((v31 : Value) : Value) : Value) : Value), ((((v32 : Value) : Value) : Value) : Value), ((((v33 : Value) : Value) : Value) : Value), ((((v34 : Value) : Value) : Value) : Value), ((((v35 : Value) : Value) : Value) : Value), ((((v36 : Value) : Value) : Value) : Value), ((((v37 : Value) : Value) : Value) : Value), ((((v38 : Value) : Value) : Value) : Value), ((((v39 : Value) : Value) : Value) : Value), ((((v40 : Value) : Value) : Value) : Value), ((((v41 : Value) : Value) : Value) : Value), ((((v42 : Value) : Value) : Value) : Value), ((((v43 : Value) : Value) : Value) : Value), ((((v44 : Value) : Value) : Value) : Value), ((((v45 : Value) : Value) : Value) : Value), ((((v46 : Value) : Value) : Value) : Value), ((((v47 : Value) : Value) : Value) : Value), ((((v48 : Value) : Value) : Value) : Value), ((((v49 : Value) : Value) : Value) : Value), ((((v50 : Value) : Value) : Value) : Value), ((((v51 : Value) : Value) : Value) : Value)])), (tx, .inl (cT, nT, .inl gT)), (lt, .inl (cE, 128, .inl gE))] H_35 := kJoinX hP hD [0, 1, 2] rfl hk1 hFc hB.1 ht hB.2.2 rfl [some 0, some 1, some 2] rfl rfl
          obtain ⟨hP, hD⟩ := hPD
          have hw_36 := hw
          have hw_36_w := hw_36.2
          replace hw_36 := hw_36.1
          have hw_36_k := hw_36.2.1
          rcases Bool.eq_false_or_eq_true xo_33 with e9 | e9
          · subst e9
            have hw_36_v := hw_36_w rfl
            obtain ⟨hw_36_f, hw_36_d, hw_36_l, hw_36_p⟩ := hw_36.2.2.1 rfl
            subst hw_36_f
            subst hw_36_d
            obtain ⟨z_37, ez_37⟩ : ∃ z : Int64, z = Int32.toInt64 r_29 := ⟨_, rfl⟩
            refine lv_i2l (v := z_37) hx hb dX10_sum_60 ez_37.symm ?_
            refine lv_lstore_n hx hb dX10_sum_61 rfl hl kc_l_4_5 (kTo [(3, .long z_37), (2, .int 1), (1, .int xb), (0, .ref jM)]) (fun ls hl => ?_)
            refine lv_iload_n hx hb dX10_sum_62 rfl (lv_at hl 1 rfl) ?_
            refine lv_if_eq (tgt := 73) hx hb dX10_sum_63 kc_t_63_10 (fun c_38 => absurd c_38 (by decide)) (fun c_38 => ?_)
            refine lv_iload_n hx hb dX10_sum_66 rfl (lv_at hl 2 rfl) ?_
            obtain ⟨z_39, ez_39⟩ : ∃ z : Int64, z = Int32.toInt64 xb := ⟨_, rfl⟩
            refine lv_i2l (v := z_39) hx hb dX10_sum_67 ez_39.symm ?_
            refine lv_lload_n hx hb dX10_sum_68 rfl (lv_at hl 0 rfl) ?_
            refine lv_ladd hx hb dX10_sum_69 ?_
            refine lv_topl (fun z_40 ez_40 => ?_)
            refine lv_goto (tgt := 77) hx hb dX10_sum_70 kc_t_70_7 ?_
            have hPc := hP.sb (ws2 := []) [] rfl
            have hKc := hK.sb (tys2 := []) [] rfl
            refine vp_callSi (va_runS (As := [.long z_40]) (rest := []) ⟨hx, hb, hml, hown, hts⟩ (s_within10x l dC dI z_40) (va_cwS 1 hts (kG (List.forall_mem_cons.mpr ⟨(List.mem_cons_of_mem _ (List.mem_append_left _ (List.mem_of_getElem? (i := 26) rfl))), (List.forall_mem_cons.mpr ⟨(List.mem_cons_of_mem _ (List.mem_append_left _ (List.mem_of_getElem? (i := 25) rfl))), (List.forall_mem_cons.mpr ⟨(List.mem_cons_of_mem _ (List.mem_append_left _ (List.mem_of_getElem? (i := 0) rfl))), (fun _ h => absurd h List.not_mem_nil)⟩)⟩)⟩) (kGS _ _ _) (fun _ h => List.mem_cons_of_mem _ (List.mem_append_right _ (List.mem_append_right _ (List.mem_append_right _ (List.mem_append_right _ (List.mem_append_right _ (List.mem_append_right _ (List.mem_append_right _ (List.mem_append_left _ h))))))))) gw_s_within10x) rfl rfl rfl hd_X10_within ⟨(Nat.le_of_ble_eq_true rfl), (Nat.le_of_ble_eq_true rfl)⟩) (kR_S kT_blind kT_give hPc hKc) rfl rfl hl.1 rfl (lv_room (Nat.le_of_ble_eq_true rfl)) dX10_sum_77 ⟨(Nat.le_of_ble_eq_true rfl), (Nat.le_of_ble_eq_true rfl)⟩).run (fun r_41 hw => ?_)
            have hw_42 := hw
            refine lv_istore_n hx hb dX10_sum_80 rfl hl kc_l_1_5 (kTo [(1, .int r_41), (3, .long z_37), (2, .int 1), (0, .ref jM)]) (fun ls hl => ?_)
            refine lv_goto (tgt := 5) hx hb dX10_sum_81 kc_t_81_m76 ?_
            exact ih_k_10 a1_30 r_41 (xl ++ xl_34 ++ [nI (20000 + ch_15)]) (xc + 1) (by omega) (by omega) (by have e9 := kLoop_t (b := bt) (n := en) (c1 := 43) (c2 := 45) (a := kTermD bt en g7 n7 0) (f := 120 - (xc + 1)) (p := i) (l := xl) (by rw [← hw_17_1]; omega) (by rw [← hw_17_2]; exact hw_36.1); rw [← hw_17_1] at e9; rw [← e9, show (120 - (xc + 1)) + 1 = 120 - xc by omega]; exact ivk_10_2) (fun hbd => by rw [kValN ivk_10_4 (kTermD_w hn7 0 _ _ _ hw_36.1) (by omega) (by omega), ← ivk_10_3 hbd, ← hw_36_v hbd]; rw [show ch_15 = 43 by omega]; rw [hw_42, ez_40, ez_39, ez_37]; exact kRf43 _ _) (kHn_bin ivk_10_4 (kTermD_w hn7 0 _ _ _ hw_36.1) (by omega) (by omega)) _ _ hP hD hS ls (lv_sub hl [0, 3] rfl) (by omega)
          · subst e9
            obtain ⟨hw_36_f, hw_36_n⟩ := hw_36.2.2.2 rfl
            subst hw_36_f
            subst hw_36_n
            obtain ⟨z_43, ez_43⟩ : ∃ z : Int64, z = Int32.toInt64 r_29 := ⟨_, rfl⟩
            refine lv_i2l (v := z_43) hx hb dX10_sum_60 ez_43.symm ?_
            refine lv_lstore_n hx hb dX10_sum_61 rfl hl kc_l_4_5 (kTo [(3, .long z_43), (2, .int 1), (1, .int xb), (0, .ref jM)]) (fun ls hl => ?_)
            refine lv_iload_n hx hb dX10_sum_62 rfl (lv_at hl 1 rfl) ?_
            refine lv_if_eq (tgt := 73) hx hb dX10_sum_63 kc_t_63_10 (fun c_44 => absurd c_44 (by decide)) (fun c_44 => ?_)
            refine lv_iload_n hx hb dX10_sum_66 rfl (lv_at hl 2 rfl) ?_
            obtain ⟨z_45, ez_45⟩ : ∃ z : Int64, z = Int32.toInt64 xb := ⟨_, rfl⟩
            refine lv_i2l (v := z_45) hx hb dX10_sum_67 ez_45.symm ?_
            refine lv_lload_n hx hb dX10_sum_68 rfl (lv_at hl 0 rfl) ?_
            refine lv_ladd hx hb dX10_sum_69 ?_
            refine lv_topl (fun z_46 ez_46 => ?_)
            refine lv_goto (tgt := 77) hx hb dX10_sum_70 kc_t_70_7 ?_
            have hPc := hP.sb (ws2 := []) [] rfl
            have hKc := hK.sb (tys2 := []) [] rfl
            refine vp_callSi (va_runS (As := [.long z_46]) (rest := []) ⟨hx, hb, hml, hown, hts⟩ (s_within10x l dC dI z_46) (va_cwS 1 hts (kG (List.forall_mem_cons.mpr ⟨(List.mem_cons_of_mem _ (List.mem_append_left _ (List.mem_of_getElem? (i := 26) rfl))), (List.forall_mem_cons.mpr ⟨(List.mem_cons_of_mem _ (List.mem_append_left _ (List.mem_of_getElem? (i := 25) rfl))), (List.forall_mem_cons.mpr ⟨(List.mem_cons_of_mem _ (List.mem_append_left _ (List.mem_of_getElem? (i := 0) rfl))), (fun _ h => absurd h List.not_mem_nil)⟩)⟩)⟩) (kGS _ _ _) (fun _ h => List.mem_cons_of_mem _ (List.mem_append_right _ (List.mem_append_right _ (List.mem_append_right _ (List.mem_append_right _ (List.mem_append_right _ (List.mem_append_right _ (List.mem_append_right _ (List.mem_append_left _ h))))))))) gw_s_within10x) rfl rfl rfl hd_X10_within ⟨(Nat.le_of_ble_eq_true rfl), (Nat.le_of_ble_eq_true rfl)⟩) (kR_S kT_blind kT_give hPc hKc) rfl rfl hl.1 rfl (lv_room (Nat.le_of_ble_eq_true rfl)) dX10_sum_77 ⟨(Nat.le_of_ble_eq_true rfl), (Nat.le_of_ble_eq_true rfl)⟩).run (fun r_47 hw => ?_)
            have hw_48 := hw
            refine lv_istore_n hx hb dX10_sum_80 rfl hl kc_l_1_5 (kTo [(1, .int r_47), (3, .long z_43), (2, .int 1), (0, .ref jM)]) (fun ls hl => ?_)
            refine lv_goto (tgt := 5) hx hb dX10_sum_81 kc_t_81_m76 ?_
            refine lv_aload_n hx hb dX10_sum_5 rfl (lv_at hl 3 rfl) ?_
            refine va_get (D := (dC, dI)) (ci := 10) (v := .int (nI (a1_30))) (C := RX10) (T := TX10) (N := 52) hx hb hts (fun _ h => List.mem_cons_of_mem _ (List.mem_append_right _ (List.mem_append_right _ (List.mem_append_left _ h)))) hown hK hP 0 rfl rfl 12 kc_l_12_52 (hts (.fieldLink RX10 150 "NotEndedModel" "fault" "I") (List.mem_cons_of_mem _ (List.mem_append_left _ (List.mem_of_getElem? (i := 10) rfl)))) (fun _ h9 => h9) rfl dX10_sum_6 ?_
            refine lv_iconst (v := (-1)) hx hb dX10_sum_9 kc_i_m1 ?_
            refine lv_icmp_ne (tgt := 84) hx hb dX10_sum_10 kc_t_10_74 (fun c_49 => ?_) (fun c_49 => absurd c_49 (kNeM (n := a1_30) (by omega)))
            refine lv_iload_n hx hb dX10_sum_84 rfl (lv_at hl 0 rfl) ?_
            have hP9 := hP
            have hD9 := hD
            have hK9 := hK
            rw [hQ]
            exact W.iret (v := r_47) hx hb hr (fun t ht hW => ⟨⟨r_47, (a1_30, (nI (a1_30)), xd_32, false, []), rfl, ⟨(kPM_f (by rw [← ivk_10_2, show 120 - xc = (119 - xc) + 1 by omega]; exact kLoop_f (by rw [← hw_17_1]; omega) (by rw [← hw_17_2]; exact hw_36.1)) (by omega)), fun z9 => absurd z9 (by decide)⟩,  by rw [ht]; exact hP9, va_K.moved hW.alike hK9, hD9⟩, hS.F ht⟩) hS.2.2 dX10_sum_85
        · have hk_50 := kLr_n hw_17_0 (by omega) (k := 43) (by decide) c_18
          refine lv_aload_n hx hb dX10_sum_22 rfl (lv_at hl 1 rfl) ?_
          have bd_51 : a1_14 ≤ en := by omega
          have hCu := kCut (wc := [(jM, .inr (10, [((v0 : Value) : Value), ((v1 : Value) : Value), ((v2 : Value) : Value), ((v3 : Value) : Value), .ref lt, .ref tx, ((v6 : Value) : Value), ((v7 : Value) : Value), ((v8 : Value) : Value), .int (nI (be)), .int (nI (en)), .int (nI (a1_14)), .int (-1), .int 6, ((v14 : Value) : Value), ((v15 : Value) : Value), .ref q6, .ref q7, ((v18 : Value) : Value), ((v19 : Value) : Value), ((v20 : Value) : Value), ((v21 : Value) : Value), ((v22 : Value) : Value), ((v23 : Value) : Value), ((v24 : Value) : Value), ((v25 : Value) : Value), ((v26 : Value) : Value), ((v27 : Value) : Value), ((v28 : Value) : Value), ((v29 : Value) : Value), ((v30 : Value) : Value), ((v31 : Value) : Value), ((v32 : Value) : Value), ((v33 : Value) : Value), ((v34 : Value) : Value), ((v35 : Value) : Value), ((v36 : Value) : Value), ((v37 : Value) : Value), ((v38 : Value) : Value), ((v39 : Value) : Value), ((v40 : Value) : Value), ((v41 : Value) : Value), ((v42 : Value) : Value), ((v43 : Value) : Value), ((v44 : Value) : Value), ((v45 : Value) : Value), ((v46 : Value) : Value), ((v47 : Value) : Value), ((v48 : Value) : Value), ((v49 : Value) : Value), ((v50 : Value) : Value), ((v51 : Value) : Value)])), (tx, .inl (cT, nT, .inl gT))]) hP hD hS hA [0, 1] rfl kc_nd_434 rfl
          have hPc := hCu.1
          have hDc := hCu.2.1
          have hFc := hCu.2.2
          have hKc := hK.sb (tys2 := [(cT, .byte)]) [0] rfl
          refine va_calli (va_runV (As := []) (rest := []) ⟨hx, hb, hml, hown, hts⟩ (s_look10x l dC dI jM (((v0 : Value) : Value) : Value) (((v1 : Value) : Value) : Value) (((v2 : Value) : Value) : Value) (((v3 : Value) : Value) : Value) (((v6 : Value) : Value) : Value) (((v7 : Value) : Value) : Value) (((v8 : Value) : Value) : Value) (.int (-1) : Value) (.int 6 : Value) (((v14 : Value) : Value) : Value) (((v15 : Value) : Value) : Value) (((v18 : Value) : Value) : Value) (((v19 : Value) : Value) : Value) (((v20 : Value) : Value) : Value) (((v21 : Value) : Value) : Value) (((v22 : Value) : Value) : Value) (((v23 : Value) : Value) : Value) (((v24 : Value) : Value) : Value) (((v25 : Value) : Value) : Value) (((v26 : Value) : Value) : Value) (((v27 : Value) : Value) : Value) (((v28 : Value) : Value) : Value) (((v29 : Value) : Value) : Value) (((v30 : Value) : Value) : Value) (((v31 : Value) : Value) : Value) (((v32 : Value) : Value) : Value) (((v33 : Value) : Value) : Value) (((v34 : Value) : Value) : Value) (((v35 : Value) : Value) : Value) (((v36 : Value) : Value) : Value) (((v37 : Value) : Value) : Value) (((v38 : Value) : Value) : Value) (((v39 : Value) : Value) : Value) (((v40 : Value) : Value) : Value) (((v41 : Value) : Value) : Value) (((v42 : Value) : Value) : Value) (((v43 : Value) : Value) : Value) (((v44 : Value) : Value) : Value) (((v45 : Value) : Value) : Value) (((v46 : Value) : Value) : Value) (((v47 : Value) : Value) : Value) (((v48 : Value) : Value) : Value) (((v49 : Value) : Value) : Value) (((v50 : Value) : Value) : Value) (((v51 : Value) : Value) : Value) lt q6 q7 tx cT nT gT be en a1_14 bd_1 hnT bd_51 bt hbr hb8 hb1 hen9 H_16.size) (cwV 0 hts (kG (List.forall_mem_cons.mpr ⟨(List.mem_cons_of_mem _ (List.mem_append_left _ (List.mem_of_getElem? (i := 3) rfl))), (List.forall_mem_cons.mpr ⟨(List.mem_cons_of_mem _ (List.mem_append_left _ (List.mem_of_getElem? (i := 2) rfl))), (List.forall_mem_cons.mpr ⟨(List.mem_cons_of_mem _ (List.mem_append_left _ (List.mem_of_getElem? (i := 1) rfl))), (List.forall_mem_cons.mpr ⟨(List.mem_cons_of_mem _ (List.mem_append_left _ (List.mem_of_getElem? (i := 0) rfl))), (fun _ h => absurd h List.not_mem_nil)⟩)⟩)⟩)⟩) (kGV _ _ _ _) (fun _ h => List.mem_cons_of_mem _ (List.mem_append_right _ (List.mem_append_left _ h))) gw_s_look10x) rfl rfl rfl ⟨rfl, hd_X10_look⟩ ⟨(Nat.le_of_ble_eq_true rfl), (Nat.le_of_ble_eq_true rfl)⟩) (kW_V kT_blind kT_give (va_recv hKc hPc (ci := 10) (q0 := 0) rfl rfl) hPc hKc hDc) rfl rfl hl.1 rfl (lv_room (Nat.le_of_ble_eq_true rfl)) dX10_sum_23 ⟨(Nat.le_of_ble_eq_true rfl), (Nat.le_of_ble_eq_true rfl)⟩) hS (fun q _ h => hFc q h) hFc (fun r_52 => kU2 (fun a1_53 ch_54 t H_55 locs ht hvm hw hB hz1 hk1 hS => ?_))
          try dsimp only at hw
          have hPD : kPD dC dI A [(jM, .inr (10, [(((v0 : Value) : Value) : Value), (((v1 : Value) : Value) : Value), (((v2 : Value) : Value) : Value), (((v3 : Value) : Value) : Value), .ref lt, .ref tx, (((v6 : Value) : Value) : Value), (((v7 : Value) : Value) : Value), (((v8 : Value) : Value) : Value), .int (nI (be)), .int (nI (en)), .int (nI (a1_53)), .int (-1), .int 6, (((v14 : Value) : Value) : Value), (((v15 : Value) : Value) : Value), .ref q6, .ref q7, (((v18 : Value) : Value) : Value), (((v19 : Value) : Value) : Value), (((v20 : Value) : Value) : Value), (((v21 : Value) : Value) : Value), (((v22 : Value) : Value) : Value), (((v23 : Value) : Value) : Value), (((v24 : Value) : Value) : Value), (((v25 : Value) : Value) : Value), (((v26 : Value) : Value) : Value), (((v27 : Value) : Value) : Value), (((v28 : Value) : Value) : Value), (((v29 : Value) : Value) : Value), (((v30 : Value) : Value) : Value), (((v31 : Value) : Value) : Value), (((v32 : Value) : Value) : Value), (((v33 : Value) : Value) : Value), (((v34 : Value) : Value) : Value), (((v35 : Value) : Value) : Value), (((v36 : Value) : Value) : Value), (((v37 : Value) : Value) : Value), (((v38 : Value) : Value) : Value), (((v39 : Value) : Value) : Value), (((v40 : Value) : Value) : Value), (((v41 : Value) : Value) : Value), (((v42 : Value) : Value) : Value), (((v43 : Value) : Value) : Value), (((v44 : Value) : Value) : Value), (((v45 : Value) : Value) : Value), (((v46 : Value) : Value) : Value), (((v47 : Value) : Value) : Value), (((v48 : Value) : Value) : Value), (((v49 : Value) : Value) : Value), (((v50 : Value) : Value) : Value), (((v51 : Value) : Value) : Value)])), (tx, .inl (cT, nT, .inl gT)), (lt, .inl (cE, 128, .inl gE))] H_55 := kJoinX hP hD [0, 1] rfl hk1 hFc hB.1 ht hB.2.2 rfl [some 0, some 1, none] rfl rfl
          obtain ⟨hP, hD⟩ := hPD
          have hw_56 := hw
          have hw_56_0 := hw_56.1
          have hw_56_1 := hw_56.2.1
          have hw_56_2 := hw_56.2.2.1
          have hw_56_3 := hw_56.2.2.2.1
          have hw_56_4 := hw_56.2.2.2.2.1
          have hw_56_5 := hw_56.2.2.2.2.2.1
          have hw_56_6 := hw_56.2.2.2.2.2.2.1
          have hw_56_7 := hw_56.2.2.2.2.2.2.2
          clear hw_56
          have e9 : a1_14 = a1_53 := by rw [hw_56_2, hw_17_2]; exact (kSp_sp (by omega)).symm
          have e8 : ch_15 = ch_54 := by rw [hw_56_1, hw_17_1, hw_17_2]; exact (kLk_sp (by omega)).symm
          have e7 : r_13 = r_52 := by rw [hw_17_0, hw_56_0, e8]
          subst e7
          subst e9
          subst e8
          refine lv_bipush (v := 45) hx hb dX10_sum_26 kc_b_45 ?_
          refine lv_icmp_ne (tgt := 84) hx hb dX10_sum_28 kc_t_28_56 (fun c_57 => ?_) (fun c_57 => ?_)
          · have hk_58 := kLr_n hw_17_0 (by omega) (k := 45) (by decide) c_57
            refine lv_iload_n hx hb dX10_sum_84 rfl (lv_at hl 0 rfl) ?_
            have hP9 := hP
            have hD9 := hD
            have hK9 := hK
            rw [hQ]
            exact W.iret (v := xb) hx hb hr (fun t ht hW => ⟨⟨xb, (a1_14, (-1), 6, true, xl), rfl, ⟨(kPM_t (A := kSumD bt en g7 n7 0) rfl (kSumD_good hz7 0) (by omega) (by rw [← ivk_10_2, show 120 - xc = (119 - xc) + 1 by omega, kLoop_e (by rw [← hw_17_1]; omega), ← hw_17_2])), fun _ hbd => (ivk_10_3 hbd)⟩,  by rw [ht]; exact hP9, va_K.moved hW.alike hK9, hD9⟩, hS.F ht⟩) hS.2.2 dX10_sum_85
          · have hk_59 := kLr_e hw_17_0 (by omega) (k := 45) (by decide) c_57
            refine lv_aload_n hx hb dX10_sum_31 rfl (lv_at hl 1 rfl) ?_
            have hCu := kCut (wc := [(jM, .inr (10, [(((v0 : Value) : Value) : Value), (((v1 : Value) : Value) : Value), (((v2 : Value) : Value) : Value), (((v3 : Value) : Value) : Value), .ref lt, .ref tx, (((v6 : Value) : Value) : Value), (((v7 : Value) : Value) : Value), (((v8 : Value) : Value) : Value), .int (nI (be)), .int (nI (en)), .int (nI (a1_14)), .int (-1), .int 6, (((v14 : Value) : Value) : Value), (((v15 : Value) : Value) : Value), .ref q6, .ref q7, (((v18 : Value) : Value) : Value), (((v19 : Value) : Value) : Value), (((v20 : Value) : Value) : Value), (((v21 : Value) : Value) : Value), (((v22 : Value) : Value) : Value), (((v23 : Value) : Value) : Value), (((v24 : Value) : Value) : Value), (((v25 : Value) : Value) : Value), (((v26 : Value) : Value) : Value), (((v27 : Value) : Value) : Value), (((v28 : Value) : Value) : Value), (((v29 : Value) : Value) : Value), (((v30 : Value) : Value) : Value), (((v31 : Value) : Value) : Value), (((v32 : Value) : Value) : Value), (((v33 : Value) : Value) : Value), (((v34 : Value) : Value) : Value), (((v35 : Value) : Value) : Value), (((v36 : Value) : Value) : Value), (((v37 : Value) : Value) : Value), (((v38 : Value) : Value) : Value), (((v39 : Value) : Value) : Value), (((v40 : Value) : Value) : Value), (((v41 : Value) : Value) : Value), (((v42 : Value) : Value) : Value), (((v43 : Value) : Value) : Value), (((v44 : Value) : Value) : Value), (((v45 : Value) : Value) : Value), (((v46 : Value) : Value) : Value), (((v47 : Value) : Value) : Value), (((v48 : Value) : Value) : Value), (((v49 : Value) : Value) : Value), (((v50 : Value) : Value) : Value), (((v51 : Value) : Value) : Value)])), (tx, .inl (cT, nT, .inl gT))]) hP hD hS hA [0, 1] rfl kc_nd_434 rfl
            have hPc := hCu.1
            have hDc := hCu.2.1
            have hFc := hCu.2.2
            have hKc := hK.sb (tys2 := [(cT, .byte)]) [0] rfl
            refine va_calli (va_runV (As := []) (rest := []) ⟨hx, hb, hml, hown, hts⟩ (s_look10x l dC dI jM ((((v0 : Value) : Value) : Value) : Value) ((((v1 : Value) : Value) : Value) : Value) ((((v2 : Value) : Value) : Value) : Value) ((((v3 : Value) : Value) : Value) : Value) ((((v6 : Value) : Value) : Value) : Value) ((((v7 : Value) : Value) : Value) : Value) ((((v8 : Value) : Value) : Value) : Value) (.int (-1) : Value) (.int 6 : Value) ((((v14 : Value) : Value) : Value) : Value) ((((v15 : Value) : Value) : Value) : Value) ((((v18 : Value) : Value) : Value) : Value) ((((v19 : Value) : Value) : Value) : Value) ((((v20 : Value) : Value) : Value) : Value) ((((v21 : Value) : Value) : Value) : Value) ((((v22 : Value) : Value) : Value) : Value) ((((v23 : Value) : Value) : Value) : Value) ((((v24 : Value) : Value) : Value) : Value) ((((v25 : Value) : Value) : Value) : Value) ((((v26 : Value) : Value) : Value) : Value) ((((v27 : Value) : Value) : Value) : Value) ((((v28 : Value) : Value) : Value) : Value) ((((v29 : Value) : Value) : Value) : Value) ((((v30 : Value) : Value) : Value) : Value) ((((v31 : Value) : Value) : Value) : Value) ((((v32 : Value) : Value) : Value) : Value) ((((v33 : Value) : Value) : Value) : Value) ((((v34 : Value) : Value) : Value) : Value) ((((v35 : Value) : Value) : Value) : Value) ((((v36 : Value) : Value) : Value) : Value) ((((v37 : Value) : Value) : Value) : Value) ((((v38 : Value) : Value) : Value) : Value) ((((v39 : Value) : Value) : Value) : Value) ((((v40 : Value) : Value) : Value) : Value) ((((v41 : Value) : Value) : Value) : Value) ((((v42 : Value) : Value) : Value) : Value) ((((v43 : Value) : Value) : Value) : Value) ((((v44 : Value) : Value) : Value) : Value) ((((v45 : Value) : Value) : Value) : Value) ((((v46 : Value) : Value) : Value) : Value) ((((v47 : Value) : Value) : Value) : Value) ((((v48 : Value) : Value) : Value) : Value) ((((v49 : Value) : Value) : Value) : Value) ((((v50 : Value) : Value) : Value) : Value) ((((v51 : Value) : Value) : Value) : Value) lt q6 q7 tx cT nT gT be en a1_14 bd_1 hnT bd_51 bt hbr hb8 hb1 hen9 H_55.size) (cwV 0 hts (kG (List.forall_mem_cons.mpr ⟨(List.mem_cons_of_mem _ (List.mem_append_left _ (List.mem_of_getElem? (i := 3) rfl))), (List.forall_mem_cons.mpr ⟨(List.mem_cons_of_mem _ (List.mem_append_left _ (List.mem_of_getElem? (i := 2) rfl))), (List.forall_mem_cons.mpr ⟨(List.mem_cons_of_mem _ (List.mem_append_left _ (List.mem_of_getElem? (i := 1) rfl))), (List.forall_mem_cons.mpr ⟨(List.mem_cons_of_mem _ (List.mem_append_left _ (List.mem_of_getElem? (i := 0) rfl))), (fun _ h => absurd h List.not_mem_nil)⟩)⟩)⟩)⟩) (kGV _ _ _ _) (fun _ h => List.mem_cons_of_mem _ (List.mem_append_right _ (List.mem_append_left _ h))) gw_s_look10x) rfl rfl rfl ⟨rfl, hd_X10_look⟩ ⟨(Nat.le_of_ble_eq_true rfl), (Nat.le_of_ble_eq_true rfl)⟩) (kW_V kT_blind kT_give (va_recv hKc hPc (ci := 10) (q0 := 0) rfl rfl) hPc hKc hDc) rfl rfl hl.1 rfl (lv_room (Nat.le_of_ble_eq_true rfl)) dX10_sum_32 ⟨(Nat.le_of_ble_eq_true rfl), (Nat.le_of_ble_eq_true rfl)⟩) hS (fun q _ h => hFc q h) hFc (fun r_60 => kU2 (fun a1_61 ch_62 t H_63 locs ht hvm hw hB hz1 hk1 hS => ?_))
            try dsimp only at hw
            have hPD : kPD dC dI A [(jM, .inr (10, [((((v0 : Value) : Value) : Value) : Value), ((((v1 : Value) : Value) : Value) : Value), ((((v2 : Value) : Value) : Value) : Value), ((((v3 : Value) : Value) : Value) : Value), .ref lt, .ref tx, ((((v6 : Value) : Value) : Value) : Value), ((((v7 : Value) : Value) : Value) : Value), ((((v8 : Value) : Value) : Value) : Value), .int (nI (be)), .int (nI (en)), .int (nI (a1_61)), .int (-1), .int 6, ((((v14 : Value) : Value) : Value) : Value), ((((v15 : Value) : Value) : Value) : Value), .ref q6, .ref q7, ((((v18 : Value) : Value) : Value) : Value), ((((v19 : Value) : Value) : Value) : Value), ((((v20 : Value) : Value) : Value) : Value), ((((v21 : Value) : Value) : Value) : Value), ((((v22 : Value) : Value) : Value) : Value), ((((v23 : Value) : Value) : Value) : Value), ((((v24 : Value) : Value) : Value) : Value), ((((v25 : Value) : Value) : Value) : Value), ((((v26 : Value) : Value) : Value) : Value), ((((v27 : Value) : Value) : Value) : Value), ((((v28 : Value) : Value) : Value) : Value), ((((v29 : Value) : Value) : Value) : Value), ((((v30 : Value) : Value) : Value) : Value), ((((v31 : Value) : Value) : Value) : Value), ((((v32 : Value) : Value) : Value) : Value), ((((v33 : Value) : Value) : Value) : Value), ((((v34 : Value) : Value) : Value) : Value), ((((v35 : Value) : Value) : Value) : Value), ((((v36 : Value) : Value) : Value) : Value), ((((v37 : Value) : Value) : Value) : Value), ((((v38 : Value) : Value) : Value) : Value), ((((v39 : Value) : Value) : Value) : Value), ((((v40 : Value) : Value) : Value) : Value), ((((v41 : Value) : Value) : Value) : Value), ((((v42 : Value) : Value) : Value) : Value), ((((v43 : Value) : Value) : Value) : Value), ((((v44 : Value) : Value) : Value) : Value), ((((v45 : Value) : Value) : Value) : Value), ((((v46 : Value) : Value) : Value) : Value), ((((v47 : Value) : Value) : Value) : Value), ((((v48 : Value) : Value) : Value) : Value), ((((v49 : Value) : Value) : Value) : Value), ((((v50 : Value) : Value) : Value) : Value), ((((v51 : Value) : Value) : Value) : Value)])), (tx, .inl (cT, nT, .inl gT)), (lt, .inl (cE, 128, .inl gE))] H_63 := kJoinX hP hD [0, 1] rfl hk1 hFc hB.1 ht hB.2.2 rfl [some 0, some 1, none] rfl rfl
            obtain ⟨hP, hD⟩ := hPD
            have hw_64 := hw
            have hw_64_0 := hw_64.1
            have hw_64_1 := hw_64.2.1
            have hw_64_2 := hw_64.2.2.1
            have hw_64_3 := hw_64.2.2.2.1
            have hw_64_4 := hw_64.2.2.2.2.1
            have hw_64_5 := hw_64.2.2.2.2.2.1
            have hw_64_6 := hw_64.2.2.2.2.2.2.1
            have hw_64_7 := hw_64.2.2.2.2.2.2.2
            clear hw_64
            have e9 : a1_14 = a1_61 := by rw [hw_64_2, hw_17_2]; exact (kSp_sp (by omega)).symm
            have e8 : ch_15 = ch_62 := by rw [hw_64_1, hw_17_1, hw_17_2]; exact (kLk_sp (by omega)).symm
            have e7 : r_13 = r_60 := by rw [hw_17_0, hw_64_0, e8]
            subst e7
            subst e9
            subst e8
            refine lv_bipush (v := 43) hx hb dX10_sum_35 kc_b_43 ?_
            refine lv_icmp_ne (tgt := 44) hx hb dX10_sum_37 kc_t_37_7 (fun c_65 => ?_) (fun c_65 => absurd c_65 c_18)
            refine lv_iconst (v := 0) hx hb dX10_sum_44 kc_i_0 ?_
            refine lv_istore_n hx hb dX10_sum_45 rfl hl kc_l_2_5 (kTo [(2, .int 0), (1, .int xb), (0, .ref jM)]) (fun ls hl => ?_)
            refine lv_aload_n hx hb dX10_sum_46 rfl (lv_at hl 2 rfl) ?_
            refine lv_dup hx hb dX10_sum_47 rfl ?_
            refine va_get (D := (dC, dI)) (ci := 10) (v := .int (nI (a1_14))) (C := RX10) (T := TX10) (N := 52) hx hb hts (fun _ h => List.mem_cons_of_mem _ (List.mem_append_right _ (List.mem_append_right _ (List.mem_append_left _ h)))) hown hK hP 0 rfl rfl 11 kc_l_11_52 (hts (.fieldLink RX10 141 "NotEndedModel" "at" "I") (List.mem_cons_of_mem _ (List.mem_append_left _ (List.mem_of_getElem? (i := 13) rfl)))) (fun _ h9 => h9) rfl dX10_sum_48 ?_
            refine lv_iconst (v := 1) hx hb dX10_sum_51 kc_i_1 ?_
            refine lv_iadd hx hb dX10_sum_52 ?_
            refine lv_topi (fun y_66 ey_66 => ?_)
            obtain rfl : y_66 = nI (a1_14 + 1) := ey_66.trans (nI_add (a1_14) (1))
            refine va_put (D := (dC, dI)) (ci := 10) (v := .int (nI (a1_14 + 1))) (ty := tyX10 11) (C := RX10) (T := TX10) (N := 52) hx hb hts (fun _ h => List.mem_cons_of_mem _ (List.mem_append_right _ (List.mem_append_right _ (List.mem_append_left _ h)))) tyX10 tyX10_ok nmX10 hown hK hP hD hS 0 rfl rfl 11 kc_l_11_52 (hts (.fieldLink RX10 141 "NotEndedModel" "at" "I") (List.mem_cons_of_mem _ (List.mem_append_left _ (List.mem_of_getElem? (i := 13) rfl)))) (fun _ h9 => h9) rfl (tyX10_ok 11 kc_l_11_52) rfl rfl (Nat.le_of_ble_eq_true rfl) dX10_sum_53 (fun H locs hP hD hS => ?_)
            have hPD : kPD dC dI A [(jM, .inr (10, [((((v0 : Value) : Value) : Value) : Value), ((((v1 : Value) : Value) : Value) : Value), ((((v2 : Value) : Value) : Value) : Value), ((((v3 : Value) : Value) : Value) : Value), .ref lt, .ref tx, ((((v6 : Value) : Value) : Value) : Value), ((((v7 : Value) : Value) : Value) : Value), ((((v8 : Value) : Value) : Value) : Value), .int (nI (be)), .int (nI (en)), .int (nI (a1_14 + 1)), .int (-1), .int 6, ((((v14 : Value) : Value) : Value) : Value), ((((v15 : Value) : Value) : Value) : Value), .ref q6, .ref q7, ((((v18 : Value) : Value) : Value) : Value), ((((v19 : Value) : Value) : Value) : Value), ((((v20 : Value) : Value) : Value) : Value), ((((v21 : Value) : Value) : Value) : Value), ((((v22 : Value) : Value) : Value) : Value), ((((v23 : Value) : Value) : Value) : Value), ((((v24 : Value) : Value) : Value) : Value), ((((v25 : Value) : Value) : Value) : Value), ((((v26 : Value) : Value) : Value) : Value), ((((v27 : Value) : Value) : Value) : Value), ((((v28 : Value) : Value) : Value) : Value), ((((v29 : Value) : Value) : Value) : Value), ((((v30 : Value) : Value) : Value) : Value), ((((v31 : Value) : Value) : Value) : Value), ((((v32 : Value) : Value) : Value) : Value), ((((v33 : Value) : Value) : Value) : Value), ((((v34 : Value) : Value) : Value) : Value), ((((v35 : Value) : Value) : Value) : Value), ((((v36 : Value) : Value) : Value) : Value), ((((v37 : Value) : Value) : Value) : Value), ((((v38 : Value) : Value) : Value) : Value), ((((v39 : Value) : Value) : Value) : Value), ((((v40 : Value) : Value) : Value) : Value), ((((v41 : Value) : Value) : Value) : Value), ((((v42 : Value) : Value) : Value) : Value), ((((v43 : Value) : Value) : Value) : Value), ((((v44 : Value) : Value) : Value) : Value), ((((v45 : Value) : Value) : Value) : Value), ((((v46 : Value) : Value) : Value) : Value), ((((v47 : Value) : Value) : Value) : Value), ((((v48 : Value) : Value) : Value) : Value), ((((v49 : Value) : Value) : Value) : Value), ((((v50 : Value) : Value) : Value) : Value), ((((v51 : Value) : Value) : Value) : Value)])), (tx, .inl (cT, nT, .inl gT)), (lt, .inl (cE, 128, .inl gE))] H := ⟨hP, hD⟩
            obtain ⟨hP, hD⟩ := hPD
            refine lv_aload_n hx hb dX10_sum_56 rfl (lv_at hl 2 rfl) ?_
            have bd_67 : (a1_14 + 1) ≤ en := by omega
            have hCu := kCut (wc := [(jM, .inr (10, [((((v0 : Value) : Value) : Value) : Value), ((((v1 : Value) : Value) : Value) : Value), ((((v2 : Value) : Value) : Value) : Value), ((((v3 : Value) : Value) : Value) : Value), .ref lt, .ref tx, ((((v6 : Value) : Value) : Value) : Value), ((((v7 : Value) : Value) : Value) : Value), ((((v8 : Value) : Value) : Value) : Value), .int (nI (be)), .int (nI (en)), .int (nI (a1_14 + 1)), .int (-1), .int 6, ((((v14 : Value) : Value) : Value) : Value), ((((v15 : Value) : Value) : Value) : Value), .ref q6, .ref q7, ((((v18 : Value) : Value) : Value) : Value), ((((v19 : Value) : Value) : Value) : Value), ((((v20 : Value) : Value) : Value) : Value), ((((v21 : Value) : Value) : Value) : Value), ((((v22 : Value) : Value) : Value) : Value), ((((v23 : Value) : Value) : Value) : Value), ((((v24 : Value) : Value) : Value) : Value), ((((v25 : Value) : Value) : Value) : Value), ((((v26 : Value) : Value) : Value) : Value), ((((v27 : Value) : Value) : Value) : Value), ((((v28 : Value) : Value) : Value) : Value), ((((v29 : Value) : Value) : Value) : Value), ((((v30 : Value) : Value) : Value) : Value), ((((v31 : Value) : Value) : Value) : Value), ((((v32 : Value) : Value) : Value) : Value), ((((v33 : Value) : Value) : Value) : Value), ((((v34 : Value) : Value) : Value) : Value), ((((v35 : Value) : Value) : Value) : Value), ((((v36 : Value) : Value) : Value) : Value), ((((v37 : Value) : Value) : Value) : Value), ((((v38 : Value) : Value) : Value) : Value), ((((v39 : Value) : Value) : Value) : Value), ((((v40 : Value) : Value) : Value) : Value), ((((v41 : Value) : Value) : Value) : Value), ((((v42 : Value) : Value) : Value) : Value), ((((v43 : Value) : Value) : Value) : Value), ((((v44 : Value) : Value) : Value) : Value), ((((v45 : Value) : Value) : Value) : Value), ((((v46 : Value) : Value) : Value) : Value), ((((v47 : Value) : Value) : Value) : Value), ((((v48 : Value) : Value) : Value) : Value), ((((v49 : Value) : Value) : Value) : Value), ((((v50 : Value) : Value) : Value) : Value), ((((v51 : Value) : Value) : Value) : Value)])), (tx, .inl (cT, nT, .inl gT)), (lt, .inl (cE, 128, .inl gE))]) hP hD hS hA [0, 1, 2] rfl kc_nd_138 rfl
            have hPc := hCu.1
            have hDc := hCu.2.1
            have hFc := hCu.2.2
            have hKc := hK.sb (tys2 := [(cT, .byte), (cE, .int)]) [0, 1] rfl
            refine va_calli (va_runV (As := []) (rest := []) ⟨hx, hb, hml, hown, hts⟩ (s_term10x_6 l dC dI jM (((((v0 : Value) : Value) : Value) : Value) : Value) (((((v1 : Value) : Value) : Value) : Value) : Value) (((((v2 : Value) : Value) : Value) : Value) : Value) (((((v3 : Value) : Value) : Value) : Value) : Value) (((((v6 : Value) : Value) : Value) : Value) : Value) (((((v7 : Value) : Value) : Value) : Value) : Value) (((((v8 : Value) : Value) : Value) : Value) : Value) (((((v14 : Value) : Value) : Value) : Value) : Value) (((((v15 : Value) : Value) : Value) : Value) : Value) (((((v18 : Value) : Value) : Value) : Value) : Value) (((((v19 : Value) : Value) : Value) : Value) : Value) (((((v20 : Value) : Value) : Value) : Value) : Value) (((((v21 : Value) : Value) : Value) : Value) : Value) (((((v22 : Value) : Value) : Value) : Value) : Value) (((((v23 : Value) : Value) : Value) : Value) : Value) (((((v24 : Value) : Value) : Value) : Value) : Value) (((((v25 : Value) : Value) : Value) : Value) : Value) (((((v26 : Value) : Value) : Value) : Value) : Value) (((((v27 : Value) : Value) : Value) : Value) : Value) (((((v28 : Value) : Value) : Value) : Value) : Value) (((((v29 : Value) : Value) : Value) : Value) : Value) (((((v30 : Value) : Value) : Value) : Value) : Value) (((((v31 : Value) : Value) : Value) : Value) : Value) (((((v32 : Value) : Value) : Value) : Value) : Value) (((((v33 : Value) : Value) : Value) : Value) : Value) (((((v34 : Value) : Value) : Value) : Value) : Value) (((((v35 : Value) : Value) : Value) : Value) : Value) (((((v36 : Value) : Value) : Value) : Value) : Value) (((((v37 : Value) : Value) : Value) : Value) : Value) (((((v38 : Value) : Value) : Value) : Value) : Value) (((((v39 : Value) : Value) : Value) : Value) : Value) (((((v40 : Value) : Value) : Value) : Value) : Value) (((((v41 : Value) : Value) : Value) : Value) : Value) (((((v42 : Value) : Value) : Value) : Value) : Value) (((((v43 : Value) : Value) : Value) : Value) : Value) (((((v44 : Value) : Value) : Value) : Value) : Value) (((((v45 : Value) : Value) : Value) : Value) : Value) (((((v46 : Value) : Value) : Value) : Value) : Value) (((((v47 : Value) : Value) : Value) : Value) : Value) (((((v48 : Value) : Value) : Value) : Value) : Value) (((((v49 : Value) : Value) : Value) : Value) : Value) (((((v50 : Value) : Value) : Value) : Value) : Value) (((((v51 : Value) : Value) : Value) : Value) : Value) lt q6 q7 tx cT nT gT be en (a1_14 + 1) bd_1 hnT bd_67 bt hbr hb8 hb1 hen9 cE gE b6 n6 g6 hn6 hg6 b7 n7 g7 hn7 hg7 hz6 hz7 hl7 H.size) (cwV 0 hts (kG (List.forall_mem_cons.mpr ⟨(List.mem_cons_of_mem _ (List.mem_append_left _ (List.mem_of_getElem? (i := 30) rfl))), (List.forall_mem_cons.mpr ⟨(List.mem_cons_of_mem _ (List.mem_append_left _ (List.mem_of_getElem? (i := 29) rfl))), (List.forall_mem_cons.mpr ⟨(List.mem_cons_of_mem _ (List.mem_append_left _ (List.mem_of_getElem? (i := 28) rfl))), (List.forall_mem_cons.mpr ⟨(List.mem_cons_of_mem _ (List.mem_append_left _ (List.mem_of_getElem? (i := 0) rfl))), (fun _ h => absurd h List.not_mem_nil)⟩)⟩)⟩)⟩) (kGV _ _ _ _) (kFam (List.mem_cons_of_mem _ (List.mem_append_left _ (List.mem_of_getElem? (i := 27) rfl)))) gw_s_term10x_6) rfl rfl rfl ⟨rfl, hd_X10_term⟩ ⟨(Nat.le_of_ble_eq_true rfl), (Nat.le_of_ble_eq_true rfl)⟩) (kW_V kS2_blind (kS2_give hX hS hFc) (va_recv hKc hPc (ci := 10) (q0 := 0) rfl rfl) hPc hKc hDc) rfl rfl hl.1 rfl (lv_room (Nat.le_of_ble_eq_true rfl)) dX10_sum_57 ⟨(Nat.le_of_ble_eq_true rfl), (Nat.le_of_ble_eq_true rfl)⟩) hS (fun q _ h => hFc q h) hFc (fun r_68 => kU5 (fun a1_69 xf_70 xd_71 xo_72 xl_73 t H_74 locs ht hvm hw hB hz1 hk1 hS => ?_))
            try dsimp only at hw
            have hPD : kPD dC dI A [(jM, .inr (10, [(((((v0 : Value) : Value) : Value) : Value) : Value), (((((v1 : Value) : Value) : Value) : Value) : Value), (((((v2 : Value) : Value) : Value) : Value) : Value), (((((v3 : Value) : Value) : Value) : Value) : Value), .ref lt, .ref tx, (((((v6 : Value) : Value) : Value) : Value) : Value), (((((v7 : Value) : Value) : Value) : Value) : Value), (((((v8 : Value) : Value) : Value) : Value) : Value), .int (nI (be)), .int (nI (en)), .int (nI (a1_69)), .int xf_70, .int xd_71, (((((v14 : Value) : Value) : Value) : Value) : Value), (((((v15 : Value) : Value) : Value) : Value) : Value), .ref q6, .ref q7, (((((v18 : Value) : Value) : Value) : Value) : Value), (((((v19 : Value) : Value) : Value) : Value) : Value), (((((v20 : Value) : Value) : Value) : Value) : Value), (((((v21 : Value) : Value) : Value) : Value) : Value), (((((v22 : Value) : Value) : Value) : Value) : Value), (((((v23 : Value) : Value) : Value) : Value) : Value), (((((v24 : Value) : Value) : Value) : Value) : Value), (((((v25 : Value) : Value) : Value) : Value) : Value), (((((v26 : Value) : Value) : Value) : Value) : Value), (((((v27 : Value) : Value) : Value) : Value) : Value), (((((v28 : Value) : Value) : Value) : Value) : Value), (((((v29 : Value) : Value) : Value) : Value) : Value), (((((v30 : Value) : Value) : Value) : Value) : Value), (((((v31 : Value) : Value) : Value) : Value) : Value), (((((v32 : Value) : Value) : Value) : Value) : Value), (((((v33 : Value) : Value) : Value) : Value) : Value), (((((v34 : Value) : Value) : Value) : Value) : Value), (((((v35 : Value) : Value) : Value) : Value) : Value), (((((v36 : Value) : Value) : Value) : Value) : Value), (((((v37 : Value) : Value) : Value) : Value) : Value), (((((v38 : Value) : Value) : Value) : Value) : Value), (((((v39 : Value) : Value) : Value) : Value) : Value), (((((v40 : Value) : Value) : Value) : Value) : Value), (((((v41 : Value) : Value) : Value) : Value) : Value), (((((v42 : Value) : Value) : Value) : Value) : Value), (((((v43 : Value) : Value) : Value) : Value) : Value), (((((v44 : Value) : Value) : Value) : Value) : Value), (((((v45 : Value) : Value) : Value) : Value) : Value), (((((v46 : Value) : Value) : Value) : Value) : Value), (((((v47 : Value) : Value) : Value) : Value) : Value), (((((v48 : Value) : Value) : Value) : Value) : Value), (((((v49 : Value) : Value) : Value) : Value) : Value), (((((v50 : Value) : Value) : Value) : Value) : Value), (((((v51 : Value) : Value) : Value) : Value) : Value)])), (tx, .inl (cT, nT, .inl gT)), (lt, .inl (cE, 128, .inl gE))] H_74 := kJoinX hP hD [0, 1, 2] rfl hk1 hFc hB.1 ht hB.2.2 rfl [some 0, some 1, some 2] rfl rfl
            obtain ⟨hP, hD⟩ := hPD
            have hw_75 := hw
            have hw_75_w := hw_75.2
            replace hw_75 := hw_75.1
            have hw_75_k := hw_75.2.1
            rcases Bool.eq_false_or_eq_true xo_72 with e9 | e9
            · subst e9
              have hw_75_v := hw_75_w rfl
              obtain ⟨hw_75_f, hw_75_d, hw_75_l, hw_75_p⟩ := hw_75.2.2.1 rfl
              subst hw_75_f
              subst hw_75_d
              obtain ⟨z_76, ez_76⟩ : ∃ z : Int64, z = Int32.toInt64 r_68 := ⟨_, rfl⟩
              refine lv_i2l (v := z_76) hx hb dX10_sum_60 ez_76.symm ?_
              refine lv_lstore_n hx hb dX10_sum_61 rfl hl kc_l_4_5 (kTo [(3, .long z_76), (2, .int 0), (1, .int xb), (0, .ref jM)]) (fun ls hl => ?_)
              refine lv_iload_n hx hb dX10_sum_62 rfl (lv_at hl 1 rfl) ?_
              refine lv_if_eq (tgt := 73) hx hb dX10_sum_63 kc_t_63_10 (fun c_77 => ?_) (fun c_77 => absurd (by decide) c_77)
              refine lv_iload_n hx hb dX10_sum_73 rfl (lv_at hl 2 rfl) ?_
              obtain ⟨z_78, ez_78⟩ : ∃ z : Int64, z = Int32.toInt64 xb := ⟨_, rfl⟩
              refine lv_i2l (v := z_78) hx hb dX10_sum_74 ez_78.symm ?_
              refine lv_lload_n hx hb dX10_sum_75 rfl (lv_at hl 0 rfl) ?_
              refine lv_lsub hx hb dX10_sum_76 ?_
              refine lv_topl (fun z_79 ez_79 => ?_)
              have hPc := hP.sb (ws2 := []) [] rfl
              have hKc := hK.sb (tys2 := []) [] rfl
              refine vp_callSi (va_runS (As := [.long z_79]) (rest := []) ⟨hx, hb, hml, hown, hts⟩ (s_within10x l dC dI z_79) (va_cwS 1 hts (kG (List.forall_mem_cons.mpr ⟨(List.mem_cons_of_mem _ (List.mem_append_left _ (List.mem_of_getElem? (i := 26) rfl))), (List.forall_mem_cons.mpr ⟨(List.mem_cons_of_mem _ (List.mem_append_left _ (List.mem_of_getElem? (i := 25) rfl))), (List.forall_mem_cons.mpr ⟨(List.mem_cons_of_mem _ (List.mem_append_left _ (List.mem_of_getElem? (i := 0) rfl))), (fun _ h => absurd h List.not_mem_nil)⟩)⟩)⟩) (kGS _ _ _) (fun _ h => List.mem_cons_of_mem _ (List.mem_append_right _ (List.mem_append_right _ (List.mem_append_right _ (List.mem_append_right _ (List.mem_append_right _ (List.mem_append_right _ (List.mem_append_right _ (List.mem_append_left _ h))))))))) gw_s_within10x) rfl rfl rfl hd_X10_within ⟨(Nat.le_of_ble_eq_true rfl), (Nat.le_of_ble_eq_true rfl)⟩) (kR_S kT_blind kT_give hPc hKc) rfl rfl hl.1 rfl (lv_room (Nat.le_of_ble_eq_true rfl)) dX10_sum_77 ⟨(Nat.le_of_ble_eq_true rfl), (Nat.le_of_ble_eq_true rfl)⟩).run (fun r_80 hw => ?_)
              have hw_81 := hw
              refine lv_istore_n hx hb dX10_sum_80 rfl hl kc_l_1_5 (kTo [(1, .int r_80), (3, .long z_76), (2, .int 0), (0, .ref jM)]) (fun ls hl => ?_)
              refine lv_goto (tgt := 5) hx hb dX10_sum_81 kc_t_81_m76 ?_
              exact ih_k_10 a1_69 r_80 (xl ++ xl_73 ++ [nI (20000 + ch_15)]) (xc + 1) (by omega) (by omega) (by have e9 := kLoop_t (b := bt) (n := en) (c1 := 43) (c2 := 45) (a := kTermD bt en g7 n7 0) (f := 120 - (xc + 1)) (p := i) (l := xl) (by rw [← hw_17_1]; omega) (by rw [← hw_17_2]; exact hw_75.1); rw [← hw_17_1] at e9; rw [← e9, show (120 - (xc + 1)) + 1 = 120 - xc by omega]; exact ivk_10_2) (fun hbd => by rw [kValN ivk_10_4 (kTermD_w hn7 0 _ _ _ hw_75.1) (by omega) (by omega), ← ivk_10_3 hbd, ← hw_75_v hbd]; rw [show ch_15 = 45 by omega]; rw [hw_81, ez_79, ez_78, ez_76]; exact kRf45 _ _) (kHn_bin ivk_10_4 (kTermD_w hn7 0 _ _ _ hw_75.1) (by omega) (by omega)) _ _ hP hD hS ls (lv_sub hl [0, 3] rfl) (by omega)
            · subst e9
              obtain ⟨hw_75_f, hw_75_n⟩ := hw_75.2.2.2 rfl
              subst hw_75_f
              subst hw_75_n
              obtain ⟨z_82, ez_82⟩ : ∃ z : Int64, z = Int32.toInt64 r_68 := ⟨_, rfl⟩
              refine lv_i2l (v := z_82) hx hb dX10_sum_60 ez_82.symm ?_
              refine lv_lstore_n hx hb dX10_sum_61 rfl hl kc_l_4_5 (kTo [(3, .long z_82), (2, .int 0), (1, .int xb), (0, .ref jM)]) (fun ls hl => ?_)
              refine lv_iload_n hx hb dX10_sum_62 rfl (lv_at hl 1 rfl) ?_
              refine lv_if_eq (tgt := 73) hx hb dX10_sum_63 kc_t_63_10 (fun c_83 => ?_) (fun c_83 => absurd (by decide) c_83)
              refine lv_iload_n hx hb dX10_sum_73 rfl (lv_at hl 2 rfl) ?_
              obtain ⟨z_84, ez_84⟩ : ∃ z : Int64, z = Int32.toInt64 xb := ⟨_, rfl⟩
              refine lv_i2l (v := z_84) hx hb dX10_sum_74 ez_84.symm ?_
              refine lv_lload_n hx hb dX10_sum_75 rfl (lv_at hl 0 rfl) ?_
              refine lv_lsub hx hb dX10_sum_76 ?_
              refine lv_topl (fun z_85 ez_85 => ?_)
              have hPc := hP.sb (ws2 := []) [] rfl
              have hKc := hK.sb (tys2 := []) [] rfl
              refine vp_callSi (va_runS (As := [.long z_85]) (rest := []) ⟨hx, hb, hml, hown, hts⟩ (s_within10x l dC dI z_85) (va_cwS 1 hts (kG (List.forall_mem_cons.mpr ⟨(List.mem_cons_of_mem _ (List.mem_append_left _ (List.mem_of_getElem? (i := 26) rfl))), (List.forall_mem_cons.mpr ⟨(List.mem_cons_of_mem _ (List.mem_append_left _ (List.mem_of_getElem? (i := 25) rfl))), (List.forall_mem_cons.mpr ⟨(List.mem_cons_of_mem _ (List.mem_append_left _ (List.mem_of_getElem? (i := 0) rfl))), (fun _ h => absurd h List.not_mem_nil)⟩)⟩)⟩) (kGS _ _ _) (fun _ h => List.mem_cons_of_mem _ (List.mem_append_right _ (List.mem_append_right _ (List.mem_append_right _ (List.mem_append_right _ (List.mem_append_right _ (List.mem_append_right _ (List.mem_append_right _ (List.mem_append_left _ h))))))))) gw_s_within10x) rfl rfl rfl hd_X10_within ⟨(Nat.le_of_ble_eq_true rfl), (Nat.le_of_ble_eq_true rfl)⟩) (kR_S kT_blind kT_give hPc hKc) rfl rfl hl.1 rfl (lv_room (Nat.le_of_ble_eq_true rfl)) dX10_sum_77 ⟨(Nat.le_of_ble_eq_true rfl), (Nat.le_of_ble_eq_true rfl)⟩).run (fun r_86 hw => ?_)
              have hw_87 := hw
              refine lv_istore_n hx hb dX10_sum_80 rfl hl kc_l_1_5 (kTo [(1, .int r_86), (3, .long z_82), (2, .int 0), (0, .ref jM)]) (fun ls hl => ?_)
              refine lv_goto (tgt := 5) hx hb dX10_sum_81 kc_t_81_m76 ?_
              refine lv_aload_n hx hb dX10_sum_5 rfl (lv_at hl 3 rfl) ?_
              refine va_get (D := (dC, dI)) (ci := 10) (v := .int (nI (a1_69))) (C := RX10) (T := TX10) (N := 52) hx hb hts (fun _ h => List.mem_cons_of_mem _ (List.mem_append_right _ (List.mem_append_right _ (List.mem_append_left _ h)))) hown hK hP 0 rfl rfl 12 kc_l_12_52 (hts (.fieldLink RX10 150 "NotEndedModel" "fault" "I") (List.mem_cons_of_mem _ (List.mem_append_left _ (List.mem_of_getElem? (i := 10) rfl)))) (fun _ h9 => h9) rfl dX10_sum_6 ?_
              refine lv_iconst (v := (-1)) hx hb dX10_sum_9 kc_i_m1 ?_
              refine lv_icmp_ne (tgt := 84) hx hb dX10_sum_10 kc_t_10_74 (fun c_88 => ?_) (fun c_88 => absurd c_88 (kNeM (n := a1_69) (by omega)))
              refine lv_iload_n hx hb dX10_sum_84 rfl (lv_at hl 0 rfl) ?_
              have hP9 := hP
              have hD9 := hD
              have hK9 := hK
              rw [hQ]
              exact W.iret (v := r_86) hx hb hr (fun t ht hW => ⟨⟨r_86, (a1_69, (nI (a1_69)), xd_71, false, []), rfl, ⟨(kPM_f (by rw [← ivk_10_2, show 120 - xc = (119 - xc) + 1 by omega]; exact kLoop_f (by rw [← hw_17_1]; omega) (by rw [← hw_17_2]; exact hw_75.1)) (by omega)), fun z9 => absurd z9 (by decide)⟩,  by rw [ht]; exact hP9, va_K.moved hW.alike hK9, hD9⟩, hS.F ht⟩) hS.2.2 dX10_sum_85
    exact lp_k_10 (en - a1_3 + 1) a1_3 r_2 xl_7 0 (by omega) (by omega) (kMany_t hw_9.1).symm hw_9_v (kHn_le (kTermD_w hn7 0 _ _ _ hw_9.1) (by omega)) _ _ hP hD hS ls (lv_sub hl [0, 1] rfl) (by omega)
  · subst e9
    obtain ⟨hw_9_f, hw_9_n⟩ := hw_9.2.2.2 rfl
    subst hw_9_f
    subst hw_9_n
    refine lv_istore_n hx hb dX10_sum_4 rfl hl kc_l_1_5 (kTo [(1, .int r_2), (0, .ref jM)]) (fun ls hl => ?_)
    refine lv_aload_n hx hb dX10_sum_5 rfl (lv_at hl 1 rfl) ?_
    refine va_get (D := (dC, dI)) (ci := 10) (v := .int (nI (a1_3))) (C := RX10) (T := TX10) (N := 52) hx hb hts (fun _ h => List.mem_cons_of_mem _ (List.mem_append_right _ (List.mem_append_right _ (List.mem_append_left _ h)))) hown hK hP 0 rfl rfl 12 kc_l_12_52 (hts (.fieldLink RX10 150 "NotEndedModel" "fault" "I") (List.mem_cons_of_mem _ (List.mem_append_left _ (List.mem_of_getElem? (i := 10) rfl)))) (fun _ h9 => h9) rfl dX10_sum_6 ?_
    refine lv_iconst (v := (-1)) hx hb dX10_sum_9 kc_i_m1 ?_
    refine lv_icmp_ne (tgt := 84) hx hb dX10_sum_10 kc_t_10_74 (fun c_89 => ?_) (fun c_89 => absurd c_89 (kNeM (n := a1_3) (by omega)))
    refine lv_iload_n hx hb dX10_sum_84 rfl (lv_at hl 0 rfl) ?_
    have hP9 := hP
    have hD9 := hD
    have hK9 := hK
    rw [hQ]
    exact W.iret (v := r_2) hx hb hr (fun t ht hW => ⟨⟨r_2, (a1_3, (nI (a1_3)), xd_5, false, []), rfl, ⟨(kPM_f (kMany_f hw_9.1) (by omega)), fun z9 => absurd z9 (by decide)⟩,  by rw [ht]; exact hP9, va_K.moved hW.alike hK9, hD9⟩, hS.F ht⟩) hS.2.2 dX10_sum_85

theorem dX10_compares_0 : decode cX10_compares 0 = .ok (.iload_n 1, 1) := kDs0 kf_27 (by decide +kernel)
theorem dX10_compares_1 : decode cX10_compares 1 = .ok (.ifCond .eq 7, 3) := kDs4 kf_153 (by decide +kernel)
theorem dX10_compares_8 : decode cX10_compares 8 = .ok (.aload_n 0, 1) := kDs0 kf_42 (by decide +kernel)
theorem dX10_compares_9 : decode cX10_compares 9 = .ok (.invokevirtual 183, 3) := kDs2 kf_182 (by decide +kernel)
theorem dX10_compares_12 : decode cX10_compares 12 = .ok (.istore_n 3, 1) := kDs0 kf_62 (by decide +kernel)
theorem dX10_compares_13 : decode cX10_compares 13 = .ok (.aload_n 0, 1) := kDs0 kf_42 (by decide +kernel)
theorem dX10_compares_14 : decode cX10_compares 14 = .ok (.getfield 150, 3) := kDs2 kf_180 (by decide +kernel)
theorem dX10_compares_17 : decode cX10_compares 17 = .ok (.iconst (-1), 1) := kDs0 kf_2 (by decide +kernel)
theorem dX10_compares_18 : decode cX10_compares 18 = .ok (.if_icmp .eq 5, 3) := kDs4 kf_159 (by decide +kernel)
theorem dX10_compares_23 : decode cX10_compares 23 = .ok (.aload_n 0, 1) := kDs0 kf_42 (by decide +kernel)
theorem dX10_compares_24 : decode cX10_compares 24 = .ok (.invokevirtual 160, 3) := kDs2 kf_182 (by decide +kernel)
theorem dX10_compares_27 : decode cX10_compares 27 = .ok (.istore 4, 2) := kDs1 kf_54 (by decide +kernel)
theorem dX10_compares_29 : decode cX10_compares 29 = .ok (.iload 4, 2) := kDs1 kf_21 (by decide +kernel)
theorem dX10_compares_31 : decode cX10_compares 31 = .ok (.invokestatic 203, 3) := kDs2 kf_184 (by decide +kernel)
theorem dX10_compares_34 : decode cX10_compares 34 = .ok (.ifCond .ne 8, 3) := kDs4 kf_154 (by decide +kernel)
theorem dX10_compares_42 : decode cX10_compares 42 = .ok (.aload_n 0, 1) := kDs0 kf_42 (by decide +kernel)
theorem dX10_compares_43 : decode cX10_compares 43 = .ok (.dup, 1) := kDs0 kf_89 (by decide +kernel)
theorem dX10_compares_44 : decode cX10_compares 44 = .ok (.getfield 141, 3) := kDs2 kf_180 (by decide +kernel)
theorem dX10_compares_47 : decode cX10_compares 47 = .ok (.iconst 1, 1) := kDs0 kf_4 (by decide +kernel)
theorem dX10_compares_48 : decode cX10_compares 48 = .ok (.iadd, 1) := kDs0 kf_96 (by decide +kernel)
theorem dX10_compares_49 : decode cX10_compares 49 = .ok (.putfield 141, 3) := kDs2 kf_181 (by decide +kernel)
theorem dX10_compares_52 : decode cX10_compares 52 = .ok (.aload_n 0, 1) := kDs0 kf_42 (by decide +kernel)
theorem dX10_compares_53 : decode cX10_compares 53 = .ok (.invokevirtual 183, 3) := kDs2 kf_182 (by decide +kernel)
theorem dX10_compares_56 : decode cX10_compares 56 = .ok (.istore 5, 2) := kDs1 kf_54 (by decide +kernel)
theorem dX10_compares_58 : decode cX10_compares 58 = .ok (.iload 4, 2) := kDs1 kf_21 (by decide +kernel)
theorem dX10_compares_60 : decode cX10_compares 60 = .ok (.bipush 61, 2) := kDs3 kf_16 (by decide +kernel)
theorem dX10_compares_62 : decode cX10_compares 62 = .ok (.if_icmp .ne 17, 3) := kDs4 kf_160 (by decide +kernel)
theorem dX10_compares_79 : decode cX10_compares 79 = .ok (.iload 4, 2) := kDs1 kf_21 (by decide +kernel)
theorem dX10_compares_81 : decode cX10_compares 81 = .ok (.bipush 60, 2) := kDs3 kf_16 (by decide +kernel)
theorem dX10_compares_83 : decode cX10_compares 83 = .ok (.if_icmp .ne 17, 3) := kDs4 kf_160 (by decide +kernel)
theorem dX10_compares_100 : decode cX10_compares 100 = .ok (.iload_n 3, 1) := kDs0 kf_29 (by decide +kernel)
theorem dX10_compares_101 : decode cX10_compares 101 = .ok (.iload 5, 2) := kDs1 kf_21 (by decide +kernel)
theorem dX10_compares_103 : decode cX10_compares 103 = .ok (.if_icmp .le 7, 3) := kDs4 kf_164 (by decide +kernel)
theorem dX10_compares_110 : decode cX10_compares 110 = .ok (.iconst 0, 1) := kDs0 kf_3 (by decide +kernel)
theorem dX10_compares_111 : decode cX10_compares 111 = .ok (.ireturn, 1) := kDs0 kf_172 (by decide +kernel)
theorem dX10_compares_106 : decode cX10_compares 106 = .ok (.iconst 1, 1) := kDs0 kf_4 (by decide +kernel)
theorem dX10_compares_107 : decode cX10_compares 107 = .ok (.goto 4, 3) := kDs4 kf_167 (by decide +kernel)
theorem dX10_compares_86 : decode cX10_compares 86 = .ok (.iload_n 3, 1) := kDs0 kf_29 (by decide +kernel)
theorem dX10_compares_87 : decode cX10_compares 87 = .ok (.iload 5, 2) := kDs1 kf_21 (by decide +kernel)
theorem dX10_compares_89 : decode cX10_compares 89 = .ok (.if_icmp .ge 7, 3) := kDs4 kf_162 (by decide +kernel)
theorem dX10_compares_96 : decode cX10_compares 96 = .ok (.iconst 0, 1) := kDs0 kf_3 (by decide +kernel)
theorem dX10_compares_97 : decode cX10_compares 97 = .ok (.goto 14, 3) := kDs4 kf_167 (by decide +kernel)
theorem dX10_compares_92 : decode cX10_compares 92 = .ok (.iconst 1, 1) := kDs0 kf_4 (by decide +kernel)
theorem dX10_compares_93 : decode cX10_compares 93 = .ok (.goto 18, 3) := kDs4 kf_167 (by decide +kernel)
theorem dX10_compares_65 : decode cX10_compares 65 = .ok (.iload_n 3, 1) := kDs0 kf_29 (by decide +kernel)
theorem dX10_compares_66 : decode cX10_compares 66 = .ok (.iload 5, 2) := kDs1 kf_21 (by decide +kernel)
theorem dX10_compares_68 : decode cX10_compares 68 = .ok (.if_icmp .ne 7, 3) := kDs4 kf_160 (by decide +kernel)
theorem dX10_compares_75 : decode cX10_compares 75 = .ok (.iconst 0, 1) := kDs0 kf_3 (by decide +kernel)
theorem dX10_compares_76 : decode cX10_compares 76 = .ok (.goto 35, 3) := kDs4 kf_167 (by decide +kernel)
theorem dX10_compares_71 : decode cX10_compares 71 = .ok (.iconst 1, 1) := kDs0 kf_4 (by decide +kernel)
theorem dX10_compares_72 : decode cX10_compares 72 = .ok (.goto 39, 3) := kDs4 kf_167 (by decide +kernel)
theorem dX10_compares_37 : decode cX10_compares 37 = .ok (.aload_n 0, 1) := kDs0 kf_42 (by decide +kernel)
theorem dX10_compares_38 : decode cX10_compares 38 = .ok (.invokevirtual 156, 3) := kDs2 kf_182 (by decide +kernel)
theorem dX10_compares_41 : decode cX10_compares 41 = .ok (.ireturn, 1) := kDs0 kf_172 (by decide +kernel)
theorem dX10_compares_21 : decode cX10_compares 21 = .ok (.iconst 0, 1) := kDs0 kf_3 (by decide +kernel)
theorem dX10_compares_22 : decode cX10_compares 22 = .ok (.ireturn, 1) := kDs0 kf_172 (by decide +kernel)
def w_s_comp10x_6_0 : List Cond := .code yX10_compares cX10_compares 6 (some .boolean) :: wf_mq
theorem gw_s_comp10x_6_0 : (w_s_comp10x_6_0).all goodWord = true := kFamG rfl gf_mq
theorem hd_X10_compares : yX10_compares.cls ≠ "java/lang/invoke/MethodHandle" ∧ yX10_compares.cls ≠ "java/lang/invoke/VarHandle" ∧ (parseMethodDescriptor yX10_compares.desc).map (fun d => d.parameters.length) = some 2 := by decide +kernel
set_option maxHeartbeats 4000000 in
set_option maxRecDepth 100000 in
theorem s_comp10x_6_0 (l : Launch) (dC : Nat → ClassId) (dI : Nat → Nat → Nat) (jM : Nat) (v0 : Value) (v1 : Value) (v2 : Value) (v3 : Value) (v6 : Value) (v7 : Value) (v8 : Value) (v14 : Value) (v15 : Value) (v18 : Value) (v19 : Value) (v20 : Value) (v21 : Value) (v22 : Value) (v23 : Value) (v24 : Value) (v25 : Value) (v26 : Value) (v27 : Value) (v28 : Value) (v29 : Value) (v30 : Value) (v31 : Value) (v32 : Value) (v33 : Value) (v34 : Value) (v35 : Value) (v36 : Value) (v37 : Value) (v38 : Value) (v39 : Value) (v40 : Value) (v41 : Value) (v42 : Value) (v43 : Value) (v44 : Value) (v45 : Value) (v46 : Value) (v47 : Value) (v48 : Value) (v49 : Value) (v50 : Value) (v51 : Value) (lt : Nat) (q6 : Nat) (q7 : Nat) (tx : Nat) (cT : ClassId) (nT : Nat) (gT : Nat → Int32) (be : Nat) (en : Nat) (a : Nat) (hbe : be + en ≤ nT) (hnT : nT ≤ 1680) (ha : a ≤ en) (bt : Nat → Nat) (hbr : ∀ j : Nat, j < en → gT (be + j) = kSg (bt j)) (hb8 : ∀ j : Nat, bt j < 256) (hb1 : ∀ j : Nat, j < en → 1 ≤ bt j) (hen9 : en ≤ 120) (cE : ClassId) (gE : Nat → Int32) (b6 : Nat) (n6 : Nat) (g6 : Nat → Int32) (hn6 : n6 ≤ 8) (hg6 : ∀ k : Nat, ∃ v : Nat, v < 128 ∧ g6 k = nI v) (b7 : Nat) (n7 : Nat) (g7 : Nat → Int32) (hn7 : n7 ≤ 8) (hg7 : ∀ k : Nat, ∃ v : Nat, v < 128 ∧ g7 k = nI v) (hz6 : kIx g6 n6 (nI 0) = n6) (hz7 : kIx g7 n7 (nI 0) = n7) (hl7 : ∀ c : Nat, c < 256 → kIx g7 n7 (nI c) < n7 → ¬ c = 91 ∧ ¬ (48 ≤ c ∧ c ≤ 57)) (p1 : Int32) (sz : Nat) : Met l yX10_compares w_s_comp10x_6_0 ({ frames := 10, cells := 0, slots := 0, locals := 600 }) (kW dC dI [.ref jM, .int 0, .int p1] [(jM, .inr (10, [v0, v1, v2, v3, .ref lt, .ref tx, v6, v7, v8, .int (nI (be)), .int (nI (en)), .int (nI (a)), .int (-1), .int 6, v14, v15, .ref q6, .ref q7, v18, v19, v20, v21, v22, v23, v24, v25, v26, v27, v28, v29, v30, v31, v32, v33, v34, v35, v36, v37, v38, v39, v40, v41, v42, v43, v44, v45, v46, v47, v48, v49, v50, v51])), (tx, .inl (cT, nT, .inl gT)), (lt, .inl (cE, 128, .inl gE))] [(cT, .byte), (cE, .int)] (kS2 q6 b6 n6 g6 q7 b7 n7 g7 (va_A [(jM, .inr (10, [v0, v1, v2, v3, .ref lt, .ref tx, v6, v7, v8, .int (nI (be)), .int (nI (en)), .int (nI (a)), .int (-1), .int 6, v14, v15, .ref q6, .ref q7, v18, v19, v20, v21, v22, v23, v24, v25, v26, v27, v28, v29, v30, v31, v32, v33, v34, v35, v36, v37, v38, v39, v40, v41, v42, v43, v44, v45, v46, v47, v48, v49, v50, v51])), (tx, .inl (cT, nT, .inl gT)), (lt, .inl (cE, 128, .inl gE))] sz)) sz) (va_Qi (fun (r : Int32) (u : Nat × Int32 × Int32 × Bool × (List Int32)) => match u with | (a1, xf, xd, xo, xl) => ((r = 0 ∨ r = 1) ∧ (kPM (kCmpS bt en g7 n7 0 a) en a 6 xo a1 xl xf xd ∧ (xo = true → (∀ j : Nat, j < n7 → kBd (kLt gE g7 j)) → r = kVal (kLt gE g7) xl)))) (fun (u : Nat × Int32 × Int32 × Bool × (List Int32)) => match u with | (a1, xf, xd, xo, xl) => fun t : State => kB dC dI [(jM, .inr (10, [v0, v1, v2, v3, .ref lt, .ref tx, v6, v7, v8, .int (nI (be)), .int (nI (en)), .int (nI (a1)), .int xf, .int xd, v14, v15, .ref q6, .ref q7, v18, v19, v20, v21, v22, v23, v24, v25, v26, v27, v28, v29, v30, v31, v32, v33, v34, v35, v36, v37, v38, v39, v40, v41, v42, v43, v44, v45, v46, v47, v48, v49, v50, v51])), (tx, .inl (cT, nT, .inl gT)), (lt, .inl (cE, 128, .inl gE))] [(cT, .byte), (cE, .int)] (va_A [(jM, .inr (10, [v0, v1, v2, v3, .ref lt, .ref tx, v6, v7, v8, .int (nI (be)), .int (nI (en)), .int (nI (a)), .int (-1), .int 6, v14, v15, .ref q6, .ref q7, v18, v19, v20, v21, v22, v23, v24, v25, v26, v27, v28, v29, v30, v31, v32, v33, v34, v35, v36, v37, v38, v39, v40, v41, v42, v43, v44, v45, v46, v47, v48, v49, v50, v51])), (tx, .inl (cT, nT, .inl gT)), (lt, .inl (cE, 128, .inl gE))] sz) t) (va_A [(jM, .inr (10, [v0, v1, v2, v3, .ref lt, .ref tx, v6, v7, v8, .int (nI (be)), .int (nI (en)), .int (nI (a)), .int (-1), .int 6, v14, v15, .ref q6, .ref q7, v18, v19, v20, v21, v22, v23, v24, v25, v26, v27, v28, v29, v30, v31, v32, v33, v34, v35, v36, v37, v38, v39, v40, v41, v42, v43, v44, v45, v46, v47, v48, v49, v50, v51])), (tx, .inl (cT, nT, .inl gT)), (lt, .inl (cE, 128, .inl gE))] sz)) 0 0 (va_A [(jM, .inr (10, [v0, v1, v2, v3, .ref lt, .ref tx, v6, v7, v8, .int (nI (be)), .int (nI (en)), .int (nI (a)), .int (-1), .int 6, v14, v15, .ref q6, .ref q7, v18, v19, v20, v21, v22, v23, v24, v25, v26, v27, v28, v29, v30, v31, v32, v33, v34, v35, v36, v37, v38, v39, v40, v41, v42, v43, v44, v45, v46, v47, v48, v49, v50, v51])), (tx, .inl (cT, nT, .inl gT)), (lt, .inl (cE, 128, .inl gE))] sz) := by
  refine Met.ofW (cc := cX10_compares) (maxL := 6) (ret := (some .boolean)) (by decide) rfl ?_
  intro p e s m args below meth c s₁ B hml hv
  obtain ⟨rfl, hsz, hP, hK, hD0, hX⟩ := hv
  have hx := B.exec
  have hb := B.bytes
  have hr := B.returns
  have hts := atoms_spec (ws := w_s_comp10x_6_0) B.pre
  have hown : s.vm.findClass RX10 = some m.cls := findClass_of_methodNamed B.named
  have hlocks := B.notSynchronized
  subst hsz
  have hD := hD0.self (sz := s.heap.size)
  generalize hAe : va_A [(jM, .inr (10, [v0, v1, v2, v3, .ref lt, .ref tx, v6, v7, v8, .int (nI (be)), .int (nI (en)), .int (nI (a)), .int (-1), .int 6, v14, v15, .ref q6, .ref q7, v18, v19, v20, v21, v22, v23, v24, v25, v26, v27, v28, v29, v30, v31, v32, v33, v34, v35, v36, v37, v38, v39, v40, v41, v42, v43, v44, v45, v46, v47, v48, v49, v50, v51])), (tx, .inl (cT, nT, .inl gT)), (lt, .inl (cE, 128, .inl gE))] s.heap.size = A at hD hX ⊢
  have hA : ∀ q : Nat, s.heap.size ≤ q → A q := fun q h => by rw [← hAe]; exact Or.inr h
  have hS : va_S A s.heap s.heap [] := va_S.rf
  have hP : va_P (dC, dI) vwCl [(jM, .inr (10, [v0, v1, v2, v3, .ref lt, .ref tx, v6, v7, v8, .int (nI (be)), .int (nI (en)), .int (nI (a)), .int (-1), .int 6, v14, v15, .ref q6, .ref q7, v18, v19, v20, v21, v22, v23, v24, v25, v26, v27, v28, v29, v30, v31, v32, v33, v34, v35, v36, v37, v38, v39, v40, v41, v42, v43, v44, v45, v46, v47, v48, v49, v50, v51])), (tx, .inl (cT, nT, .inl gT)), (lt, .inl (cE, 128, .inl gE))] s.heap := hP
  have hl := lv_entry ([.ref jM, .int 0, .int p1]) (n := 6) (Nat.le_of_ble_eq_true rfl)
  rw [lg_entry_eq]
  generalize (lg_sl ([.ref jM, .int 0, .int p1]) ++ List.replicate (6 - (lg_sl ([.ref jM, .int 0, .int p1])).length) Slot.unset).toArray = ls at hl ⊢
  have hl : lv_has ls 6 [(0, .ref jM), (1, .int 0), (2, .int p1)] := hl
  refine kQ (fun Q hQ => ?_)
  refine lv_iload_n hx hb dX10_compares_0 rfl (lv_at hl 1 rfl) ?_
  refine lv_if_eq (tgt := 8) hx hb dX10_compares_1 kc_t_1_7 (fun c_1 => ?_) (fun c_1 => absurd (by decide) c_1)
  refine lv_aload_n hx hb dX10_compares_8 rfl (lv_at hl 0 rfl) ?_
  have bd_2 : be + en ≤ nT := by omega
  have hCu := kCut (wc := [(jM, .inr (10, [v0, v1, v2, v3, .ref lt, .ref tx, v6, v7, v8, .int (nI (be)), .int (nI (en)), .int (nI (a)), .int (-1), .int 6, v14, v15, .ref q6, .ref q7, v18, v19, v20, v21, v22, v23, v24, v25, v26, v27, v28, v29, v30, v31, v32, v33, v34, v35, v36, v37, v38, v39, v40, v41, v42, v43, v44, v45, v46, v47, v48, v49, v50, v51])), (tx, .inl (cT, nT, .inl gT)), (lt, .inl (cE, 128, .inl gE))]) hP hD hS hA [0, 1, 2] rfl kc_nd_138 rfl
  have hPc := hCu.1
  have hDc := hCu.2.1
  have hFc := hCu.2.2
  have hKc := hK.sb (tys2 := [(cT, .byte), (cE, .int)]) [0, 1] rfl
  refine va_calli (va_runV (As := []) (rest := []) ⟨hx, hb, hml, hown, hts⟩ (s_sum10x_6 l dC dI jM (v0 : Value) (v1 : Value) (v2 : Value) (v3 : Value) (v6 : Value) (v7 : Value) (v8 : Value) (v14 : Value) (v15 : Value) (v18 : Value) (v19 : Value) (v20 : Value) (v21 : Value) (v22 : Value) (v23 : Value) (v24 : Value) (v25 : Value) (v26 : Value) (v27 : Value) (v28 : Value) (v29 : Value) (v30 : Value) (v31 : Value) (v32 : Value) (v33 : Value) (v34 : Value) (v35 : Value) (v36 : Value) (v37 : Value) (v38 : Value) (v39 : Value) (v40 : Value) (v41 : Value) (v42 : Value) (v43 : Value) (v44 : Value) (v45 : Value) (v46 : Value) (v47 : Value) (v48 : Value) (v49 : Value) (v50 : Value) (v51 : Value) lt q6 q7 tx cT nT gT be en a bd_2 hnT ha bt hbr hb8 hb1 hen9 cE gE b6 n6 g6 hn6 hg6 b7 n7 g7 hn7 hg7 hz6 hz7 hl7 s.heap.size) (cwV 0 hts (kG (List.forall_mem_cons.mpr ⟨(List.mem_cons_of_mem _ (List.mem_append_left _ (List.mem_of_getElem? (i := 34) rfl))), (List.forall_mem_cons.mpr ⟨(List.mem_cons_of_mem _ (List.mem_append_left _ (List.mem_of_getElem? (i := 33) rfl))), (List.forall_mem_cons.mpr ⟨(List.mem_cons_of_mem _ (List.mem_append_left _ (List.mem_of_getElem? (i := 32) rfl))), (List.forall_mem_cons.mpr ⟨(List.mem_cons_of_mem _ (List.mem_append_left _ (List.mem_of_getElem? (i := 0) rfl))), (fun _ h => absurd h List.not_mem_nil)⟩)⟩)⟩)⟩) (kGV _ _ _ _) (kFam (List.mem_cons_of_mem _ (List.mem_append_left _ (List.mem_of_getElem? (i := 31) rfl)))) gw_s_sum10x_6) rfl rfl rfl ⟨rfl, hd_X10_sum⟩ ⟨(Nat.le_of_ble_eq_true rfl), (Nat.le_of_ble_eq_true rfl)⟩) (kW_V kS2_blind (kS2_give hX hS hFc) (va_recv hKc hPc (ci := 10) (q0 := 0) rfl rfl) hPc hKc hDc) rfl rfl hl.1 rfl (lv_room (Nat.le_of_ble_eq_true rfl)) dX10_compares_9 ⟨(Nat.le_of_ble_eq_true rfl), (Nat.le_of_ble_eq_true rfl)⟩) hS (fun q _ h => hFc q h) hFc (fun r_3 => kU5 (fun a1_4 xf_5 xd_6 xo_7 xl_8 t H_9 locs ht hvm hw hB hz1 hk1 hS => ?_))
  try dsimp only at hw
  have hPD : kPD dC dI A [(jM, .inr (10, [(v0 : Value), (v1 : Value), (v2 : Value), (v3 : Value), .ref lt, .ref tx, (v6 : Value), (v7 : Value), (v8 : Value), .int (nI (be)), .int (nI (en)), .int (nI (a1_4)), .int xf_5, .int xd_6, (v14 : Value), (v15 : Value), .ref q6, .ref q7, (v18 : Value), (v19 : Value), (v20 : Value), (v21 : Value), (v22 : Value), (v23 : Value), (v24 : Value), (v25 : Value), (v26 : Value), (v27 : Value), (v28 : Value), (v29 : Value), (v30 : Value), (v31 : Value), (v32 : Value), (v33 : Value), (v34 : Value), (v35 : Value), (v36 : Value), (v37 : Value), (v38 : Value), (v39 : Value), (v40 : Value), (v41 : Value), (v42 : Value), (v43 : Value), (v44 : Value), (v45 : Value), (v46 : Value), (v47 : Value), (v48 : Value), (v49 : Value), (v50 : Value), (v51 : Value)])), (tx, .inl (cT, nT, .inl gT)), (lt, .inl (cE, 128, .inl gE))] H_9 := kJoinX hP hD [0, 1, 2] rfl hk1 hFc hB.1 ht hB.2.2 rfl [some 0, some 1, some 2] rfl rfl
  obtain ⟨hP, hD⟩ := hPD
  have hw_10 := hw
  have hw_10_w := hw_10.2
  replace hw_10 := hw_10.1
  have hw_10_k := hw_10.2.1
  rcases Bool.eq_false_or_eq_true xo_7 with e9 | e9
  · subst e9
    have hw_10_v := hw_10_w rfl
    obtain ⟨hw_10_f, hw_10_d, hw_10_l, hw_10_p⟩ := hw_10.2.2.1 rfl
    subst hw_10_f
    subst hw_10_d
    refine lv_istore_n hx hb dX10_compares_12 rfl hl kc_l_3_6 (kTo [(3, .int r_3), (0, .ref jM), (1, .int 0), (2, .int p1)]) (fun ls hl => ?_)
    refine lv_aload_n hx hb dX10_compares_13 rfl (lv_at hl 1 rfl) ?_
    refine va_get (D := (dC, dI)) (ci := 10) (v := .int (-1)) (C := RX10) (T := TX10) (N := 52) hx hb hts (fun _ h => List.mem_cons_of_mem _ (List.mem_append_right _ (List.mem_append_right _ (List.mem_append_left _ h)))) hown hK hP 0 rfl rfl 12 kc_l_12_52 (hts (.fieldLink RX10 150 "NotEndedModel" "fault" "I") (List.mem_cons_of_mem _ (List.mem_append_left _ (List.mem_of_getElem? (i := 10) rfl)))) (fun _ h9 => h9) rfl dX10_compares_14 ?_
    refine lv_iconst (v := (-1)) hx hb dX10_compares_17 kc_i_m1 ?_
    refine lv_icmp_eq (tgt := 23) hx hb dX10_compares_18 kc_t_18_5 (fun c_11 => ?_) (fun c_11 => absurd (by decide) c_11)
    refine lv_aload_n hx hb dX10_compares_23 rfl (lv_at hl 1 rfl) ?_
    have bd_12 : a1_4 ≤ en := by omega
    have hCu := kCut (wc := [(jM, .inr (10, [(v0 : Value), (v1 : Value), (v2 : Value), (v3 : Value), .ref lt, .ref tx, (v6 : Value), (v7 : Value), (v8 : Value), .int (nI (be)), .int (nI (en)), .int (nI (a1_4)), .int (-1), .int 6, (v14 : Value), (v15 : Value), .ref q6, .ref q7, (v18 : Value), (v19 : Value), (v20 : Value), (v21 : Value), (v22 : Value), (v23 : Value), (v24 : Value), (v25 : Value), (v26 : Value), (v27 : Value), (v28 : Value), (v29 : Value), (v30 : Value), (v31 : Value), (v32 : Value), (v33 : Value), (v34 : Value), (v35 : Value), (v36 : Value), (v37 : Value), (v38 : Value), (v39 : Value), (v40 : Value), (v41 : Value), (v42 : Value), (v43 : Value), (v44 : Value), (v45 : Value), (v46 : Value), (v47 : Value), (v48 : Value), (v49 : Value), (v50 : Value), (v51 : Value)])), (tx, .inl (cT, nT, .inl gT))]) hP hD hS hA [0, 1] rfl kc_nd_434 rfl
    have hPc := hCu.1
    have hDc := hCu.2.1
    have hFc := hCu.2.2
    have hKc := hK.sb (tys2 := [(cT, .byte)]) [0] rfl
    refine va_calli (va_runV (As := []) (rest := []) ⟨hx, hb, hml, hown, hts⟩ (s_look10x l dC dI jM ((v0 : Value) : Value) ((v1 : Value) : Value) ((v2 : Value) : Value) ((v3 : Value) : Value) ((v6 : Value) : Value) ((v7 : Value) : Value) ((v8 : Value) : Value) (.int (-1) : Value) (.int 6 : Value) ((v14 : Value) : Value) ((v15 : Value) : Value) ((v18 : Value) : Value) ((v19 : Value) : Value) ((v20 : Value) : Value) ((v21 : Value) : Value) ((v22 : Value) : Value) ((v23 : Value) : Value) ((v24 : Value) : Value) ((v25 : Value) : Value) ((v26 : Value) : Value) ((v27 : Value) : Value) ((v28 : Value) : Value) ((v29 : Value) : Value) ((v30 : Value) : Value) ((v31 : Value) : Value) ((v32 : Value) : Value) ((v33 : Value) : Value) ((v34 : Value) : Value) ((v35 : Value) : Value) ((v36 : Value) : Value) ((v37 : Value) : Value) ((v38 : Value) : Value) ((v39 : Value) : Value) ((v40 : Value) : Value) ((v41 : Value) : Value) ((v42 : Value) : Value) ((v43 : Value) : Value) ((v44 : Value) : Value) ((v45 : Value) : Value) ((v46 : Value) : Value) ((v47 : Value) : Value) ((v48 : Value) : Value) ((v49 : Value) : Value) ((v50 : Value) : Value) ((v51 : Value) : Value) lt q6 q7 tx cT nT gT be en a1_4 bd_2 hnT bd_12 bt hbr hb8 hb1 hen9 H_9.size) (cwV 0 hts (kG (List.forall_mem_cons.mpr ⟨(List.mem_cons_of_mem _ (List.mem_append_left _ (List.mem_of_getElem? (i := 3) rfl))), (List.forall_mem_cons.mpr ⟨(List.mem_cons_of_mem _ (List.mem_append_left _ (List.mem_of_getElem? (i := 2) rfl))), (List.forall_mem_cons.mpr ⟨(List.mem_cons_of_mem _ (List.mem_append_left _ (List.mem_of_getElem? (i := 1) rfl))), (List.forall_mem_cons.mpr ⟨(List.mem_cons_of_mem _ (List.mem_append_left _ (List.mem_of_getElem? (i := 0) rfl))), (fun _ h => absurd h List.not_mem_nil)⟩)⟩)⟩)⟩) (kGV _ _ _ _) (fun _ h => List.mem_cons_of_mem _ (List.mem_append_right _ (List.mem_append_left _ h))) gw_s_look10x) rfl rfl rfl ⟨rfl, hd_X10_look⟩ ⟨(Nat.le_of_ble_eq_true rfl), (Nat.le_of_ble_eq_true rfl)⟩) (kW_V kT_blind kT_give (va_recv hKc hPc (ci := 10) (q0 := 0) rfl rfl) hPc hKc hDc) rfl rfl hl.1 rfl (lv_room (Nat.le_of_ble_eq_true rfl)) dX10_compares_24 ⟨(Nat.le_of_ble_eq_true rfl), (Nat.le_of_ble_eq_true rfl)⟩) hS (fun q _ h => hFc q h) hFc (fun r_13 => kU2 (fun a1_14 ch_15 t H_16 locs ht hvm hw hB hz1 hk1 hS => ?_))
    try dsimp only at hw
    have hPD : kPD dC dI A [(jM, .inr (10, [((v0 : Value) : Value), ((v1 : Value) : Value), ((v2 : Value) : Value), ((v3 : Value) : Value), .ref lt, .ref tx, ((v6 : Value) : Value), ((v7 : Value) : Value), ((v8 : Value) : Value), .int (nI (be)), .int (nI (en)), .int (nI (a1_14)), .int (-1), .int 6, ((v14 : Value) : Value), ((v15 : Value) : Value), .ref q6, .ref q7, ((v18 : Value) : Value), ((v19 : Value) : Value), ((v20 : Value) : Value), ((v21 : Value) : Value), ((v22 : Value) : Value), ((v23 : Value) : Value), ((v24 : Value) : Value), ((v25 : Value) : Value), ((v26 : Value) : Value), ((v27 : Value) : Value), ((v28 : Value) : Value), ((v29 : Value) : Value), ((v30 : Value) : Value), ((v31 : Value) : Value), ((v32 : Value) : Value), ((v33 : Value) : Value), ((v34 : Value) : Value), ((v35 : Value) : Value), ((v36 : Value) : Value), ((v37 : Value) : Value), ((v38 : Value) : Value), ((v39 : Value) : Value), ((v40 : Value) : Value), ((v41 : Value) : Value), ((v42 : Value) : Value), ((v43 : Value) : Value), ((v44 : Value) : Value), ((v45 : Value) : Value), ((v46 : Value) : Value), ((v47 : Value) : Value), ((v48 : Value) : Value), ((v49 : Value) : Value), ((v50 : Value) : Value), ((v51 : Value) : Value)])), (tx, .inl (cT, nT, .inl gT)), (lt, .inl (cE, 128, .inl gE))] H_16 := kJoinX hP hD [0, 1] rfl hk1 hFc hB.1 ht hB.2.2 rfl [some 0, some 1, none] rfl rfl
    obtain ⟨hP, hD⟩ := hPD
    have hw_17 := hw
    have hw_17_0 := hw_17.1
    have hw_17_1 := hw_17.2.1
    have hw_17_2 := hw_17.2.2.1
    have hw_17_3 := hw_17.2.2.2.1
    have hw_17_4 := hw_17.2.2.2.2.1
    have hw_17_5 := hw_17.2.2.2.2.2.1
    have hw_17_6 := hw_17.2.2.2.2.2.2.1
    have hw_17_7 := hw_17.2.2.2.2.2.2.2
    clear hw_17
    refine lv_istore hx hb dX10_compares_27 hl kc_l_4_6 (kTo [(4, .int r_13), (3, .int r_3), (0, .ref jM), (1, .int 0), (2, .int p1)]) (fun ls hl => ?_)
    refine lv_iload hx hb dX10_compares_29 (lv_at hl 0 rfl) ?_
    have hPc := hP.sb (ws2 := []) [] rfl
    have hKc := hK.sb (tys2 := []) [] rfl
    refine vp_callSi (va_runS (As := [.int r_13]) (rest := []) ⟨hx, hb, hml, hown, hts⟩ (s_isSign10x l dC dI r_13) (va_cwS 1 hts (kG (List.forall_mem_cons.mpr ⟨(List.mem_cons_of_mem _ (List.mem_append_left _ (List.mem_of_getElem? (i := 36) rfl))), (List.forall_mem_cons.mpr ⟨(List.mem_cons_of_mem _ (List.mem_append_left _ (List.mem_of_getElem? (i := 35) rfl))), (List.forall_mem_cons.mpr ⟨(List.mem_cons_of_mem _ (List.mem_append_left _ (List.mem_of_getElem? (i := 0) rfl))), (fun _ h => absurd h List.not_mem_nil)⟩)⟩)⟩) (kGS _ _ _) (fun _ h => List.mem_cons_of_mem _ (List.mem_append_right _ (List.mem_append_right _ (List.mem_append_right _ (List.mem_append_right _ (List.mem_append_right _ (List.mem_append_right _ (List.mem_append_right _ (List.mem_append_right _ (List.mem_append_left _ h)))))))))) gw_s_isSign10x) rfl rfl rfl hd_X10_isSign ⟨(Nat.le_of_ble_eq_true rfl), (Nat.le_of_ble_eq_true rfl)⟩) (kR_S kT_blind kT_give hPc hKc) rfl rfl hl.1 rfl (lv_room (Nat.le_of_ble_eq_true rfl)) dX10_compares_31 ⟨(Nat.le_of_ble_eq_true rfl), (Nat.le_of_ble_eq_true rfl)⟩).run (fun r_18 hw => ?_)
    have hw_19 := hw
    refine lv_if_ne (tgt := 42) hx hb dX10_compares_34 kc_t_34_8 (fun c_20 => ?_) (fun c_20 => ?_)
    · have hs_21 : ch_15 = 61 ∨ ch_15 = 60 ∨ ch_15 = 62 := by rcases hw_19.mp c_20 with z9 | z9 | z9; exact Or.inl (kLr_e (k := 61) hw_17_0 (by omega) (by decide) z9); exact Or.inr (Or.inl (kLr_e (k := 60) hw_17_0 (by omega) (by decide) z9)); exact Or.inr (Or.inr (kLr_e (k := 62) hw_17_0 (by omega) (by decide) z9))
      refine lv_aload_n hx hb dX10_compares_42 rfl (lv_at hl 2 rfl) ?_
      refine lv_dup hx hb dX10_compares_43 rfl ?_
      refine va_get (D := (dC, dI)) (ci := 10) (v := .int (nI (a1_14))) (C := RX10) (T := TX10) (N := 52) hx hb hts (fun _ h => List.mem_cons_of_mem _ (List.mem_append_right _ (List.mem_append_right _ (List.mem_append_left _ h)))) hown hK hP 0 rfl rfl 11 kc_l_11_52 (hts (.fieldLink RX10 141 "NotEndedModel" "at" "I") (List.mem_cons_of_mem _ (List.mem_append_left _ (List.mem_of_getElem? (i := 13) rfl)))) (fun _ h9 => h9) rfl dX10_compares_44 ?_
      refine lv_iconst (v := 1) hx hb dX10_compares_47 kc_i_1 ?_
      refine lv_iadd hx hb dX10_compares_48 ?_
      refine lv_topi (fun y_22 ey_22 => ?_)
      obtain rfl : y_22 = nI (a1_14 + 1) := ey_22.trans (nI_add (a1_14) (1))
      refine va_put (D := (dC, dI)) (ci := 10) (v := .int (nI (a1_14 + 1))) (ty := tyX10 11) (C := RX10) (T := TX10) (N := 52) hx hb hts (fun _ h => List.mem_cons_of_mem _ (List.mem_append_right _ (List.mem_append_right _ (List.mem_append_left _ h)))) tyX10 tyX10_ok nmX10 hown hK hP hD hS 0 rfl rfl 11 kc_l_11_52 (hts (.fieldLink RX10 141 "NotEndedModel" "at" "I") (List.mem_cons_of_mem _ (List.mem_append_left _ (List.mem_of_getElem? (i := 13) rfl)))) (fun _ h9 => h9) rfl (tyX10_ok 11 kc_l_11_52) rfl rfl (Nat.le_of_ble_eq_true rfl) dX10_compares_49 (fun H locs hP hD hS => ?_)
      have hPD : kPD dC dI A [(jM, .inr (10, [((v0 : Value) : Value), ((v1 : Value) : Value), ((v2 : Value) : Value), ((v3 : Value) : Value), .ref lt, .ref tx, ((v6 : Value) : Value), ((v7 : Value) : Value), ((v8 : Value) : Value), .int (nI (be)), .int (nI (en)), .int (nI (a1_14 + 1)), .int (-1), .int 6, ((v14 : Value) : Value), ((v15 : Value) : Value), .ref q6, .ref q7, ((v18 : Value) : Value), ((v19 : Value) : Value), ((v20 : Value) : Value), ((v21 : Value) : Value), ((v22 : Value) : Value), ((v23 : Value) : Value), ((v24 : Value) : Value), ((v25 : Value) : Value), ((v26 : Value) : Value), ((v27 : Value) : Value), ((v28 : Value) : Value), ((v29 : Value) : Value), ((v30 : Value) : Value), ((v31 : Value) : Value), ((v32 : Value) : Value), ((v33 : Value) : Value), ((v34 : Value) : Value), ((v35 : Value) : Value), ((v36 : Value) : Value), ((v37 : Value) : Value), ((v38 : Value) : Value), ((v39 : Value) : Value), ((v40 : Value) : Value), ((v41 : Value) : Value), ((v42 : Value) : Value), ((v43 : Value) : Value), ((v44 : Value) : Value), ((v45 : Value) : Value), ((v46 : Value) : Value), ((v47 : Value) : Value), ((v48 : Value) : Value), ((v49 : Value) : Value), ((v50 : Value) : Value), ((v51 : Value) : Value)])), (tx, .inl (cT, nT, .inl gT)), (lt, .inl (cE, 128, .inl gE))] H := ⟨hP, hD⟩
      obtain ⟨hP, hD⟩ := hPD
      refine lv_aload_n hx hb dX10_compares_52 rfl (lv_at hl 2 rfl) ?_
      have bd_23 : (a1_14 + 1) ≤ en := by omega
      have hCu := kCut (wc := [(jM, .inr (10, [((v0 : Value) : Value), ((v1 : Value) : Value), ((v2 : Value) : Value), ((v3 : Value) : Value), .ref lt, .ref tx, ((v6 : Value) : Value), ((v7 : Value) : Value), ((v8 : Value) : Value), .int (nI (be)), .int (nI (en)), .int (nI (a1_14 + 1)), .int (-1), .int 6, ((v14 : Value) : Value), ((v15 : Value) : Value), .ref q6, .ref q7, ((v18 : Value) : Value), ((v19 : Value) : Value), ((v20 : Value) : Value), ((v21 : Value) : Value), ((v22 : Value) : Value), ((v23 : Value) : Value), ((v24 : Value) : Value), ((v25 : Value) : Value), ((v26 : Value) : Value), ((v27 : Value) : Value), ((v28 : Value) : Value), ((v29 : Value) : Value), ((v30 : Value) : Value), ((v31 : Value) : Value), ((v32 : Value) : Value), ((v33 : Value) : Value), ((v34 : Value) : Value), ((v35 : Value) : Value), ((v36 : Value) : Value), ((v37 : Value) : Value), ((v38 : Value) : Value), ((v39 : Value) : Value), ((v40 : Value) : Value), ((v41 : Value) : Value), ((v42 : Value) : Value), ((v43 : Value) : Value), ((v44 : Value) : Value), ((v45 : Value) : Value), ((v46 : Value) : Value), ((v47 : Value) : Value), ((v48 : Value) : Value), ((v49 : Value) : Value), ((v50 : Value) : Value), ((v51 : Value) : Value)])), (tx, .inl (cT, nT, .inl gT)), (lt, .inl (cE, 128, .inl gE))]) hP hD hS hA [0, 1, 2] rfl kc_nd_138 rfl
      have hPc := hCu.1
      have hDc := hCu.2.1
      have hFc := hCu.2.2
      have hKc := hK.sb (tys2 := [(cT, .byte), (cE, .int)]) [0, 1] rfl
      refine va_calli (va_runV (As := []) (rest := []) ⟨hx, hb, hml, hown, hts⟩ (s_sum10x_6 l dC dI jM (((v0 : Value) : Value) : Value) (((v1 : Value) : Value) : Value) (((v2 : Value) : Value) : Value) (((v3 : Value) : Value) : Value) (((v6 : Value) : Value) : Value) (((v7 : Value) : Value) : Value) (((v8 : Value) : Value) : Value) (((v14 : Value) : Value) : Value) (((v15 : Value) : Value) : Value) (((v18 : Value) : Value) : Value) (((v19 : Value) : Value) : Value) (((v20 : Value) : Value) : Value) (((v21 : Value) : Value) : Value) (((v22 : Value) : Value) : Value) (((v23 : Value) : Value) : Value) (((v24 : Value) : Value) : Value) (((v25 : Value) : Value) : Value) (((v26 : Value) : Value) : Value) (((v27 : Value) : Value) : Value) (((v28 : Value) : Value) : Value) (((v29 : Value) : Value) : Value) (((v30 : Value) : Value) : Value) (((v31 : Value) : Value) : Value) (((v32 : Value) : Value) : Value) (((v33 : Value) : Value) : Value) (((v34 : Value) : Value) : Value) (((v35 : Value) : Value) : Value) (((v36 : Value) : Value) : Value) (((v37 : Value) : Value) : Value) (((v38 : Value) : Value) : Value) (((v39 : Value) : Value) : Value) (((v40 : Value) : Value) : Value) (((v41 : Value) : Value) : Value) (((v42 : Value) : Value) : Value) (((v43 : Value) : Value) : Value) (((v44 : Value) : Value) : Value) (((v45 : Value) : Value) : Value) (((v46 : Value) : Value) : Value) (((v47 : Value) : Value) : Value) (((v48 : Value) : Value) : Value) (((v49 : Value) : Value) : Value) (((v50 : Value) : Value) : Value) (((v51 : Value) : Value) : Value) lt q6 q7 tx cT nT gT be en (a1_14 + 1) bd_2 hnT bd_23 bt hbr hb8 hb1 hen9 cE gE b6 n6 g6 hn6 hg6 b7 n7 g7 hn7 hg7 hz6 hz7 hl7 H.size) (cwV 0 hts (kG (List.forall_mem_cons.mpr ⟨(List.mem_cons_of_mem _ (List.mem_append_left _ (List.mem_of_getElem? (i := 34) rfl))), (List.forall_mem_cons.mpr ⟨(List.mem_cons_of_mem _ (List.mem_append_left _ (List.mem_of_getElem? (i := 33) rfl))), (List.forall_mem_cons.mpr ⟨(List.mem_cons_of_mem _ (List.mem_append_left _ (List.mem_of_getElem? (i := 32) rfl))), (List.forall_mem_cons.mpr ⟨(List.mem_cons_of_mem _ (List.mem_append_left _ (List.mem_of_getElem? (i := 0) rfl))), (fun _ h => absurd h List.not_mem_nil)⟩)⟩)⟩)⟩) (kGV _ _ _ _) (kFam (List.mem_cons_of_mem _ (List.mem_append_left _ (List.mem_of_getElem? (i := 31) rfl)))) gw_s_sum10x_6) rfl rfl rfl ⟨rfl, hd_X10_sum⟩ ⟨(Nat.le_of_ble_eq_true rfl), (Nat.le_of_ble_eq_true rfl)⟩) (kW_V kS2_blind (kS2_give hX hS hFc) (va_recv hKc hPc (ci := 10) (q0 := 0) rfl rfl) hPc hKc hDc) rfl rfl hl.1 rfl (lv_room (Nat.le_of_ble_eq_true rfl)) dX10_compares_53 ⟨(Nat.le_of_ble_eq_true rfl), (Nat.le_of_ble_eq_true rfl)⟩) hS (fun q _ h => hFc q h) hFc (fun r_24 => kU5 (fun a1_25 xf_26 xd_27 xo_28 xl_29 t H_30 locs ht hvm hw hB hz1 hk1 hS => ?_))
      try dsimp only at hw
      have hPD : kPD dC dI A [(jM, .inr (10, [(((v0 : Value) : Value) : Value), (((v1 : Value) : Value) : Value), (((v2 : Value) : Value) : Value), (((v3 : Value) : Value) : Value), .ref lt, .ref tx, (((v6 : Value) : Value) : Value), (((v7 : Value) : Value) : Value), (((v8 : Value) : Value) : Value), .int (nI (be)), .int (nI (en)), .int (nI (a1_25)), .int xf_26, .int xd_27, (((v14 : Value) : Value) : Value), (((v15 : Value) : Value) : Value), .ref q6, .ref q7, (((v18 : Value) : Value) : Value), (((v19 : Value) : Value) : Value), (((v20 : Value) : Value) : Value), (((v21 : Value) : Value) : Value), (((v22 : Value) : Value) : Value), (((v23 : Value) : Value) : Value), (((v24 : Value) : Value) : Value), (((v25 : Value) : Value) : Value), (((v26 : Value) : Value) : Value), (((v27 : Value) : Value) : Value), (((v28 : Value) : Value) : Value), (((v29 : Value) : Value) : Value), (((v30 : Value) : Value) : Value), (((v31 : Value) : Value) : Value), (((v32 : Value) : Value) : Value), (((v33 : Value) : Value) : Value), (((v34 : Value) : Value) : Value), (((v35 : Value) : Value) : Value), (((v36 : Value) : Value) : Value), (((v37 : Value) : Value) : Value), (((v38 : Value) : Value) : Value), (((v39 : Value) : Value) : Value), (((v40 : Value) : Value) : Value), (((v41 : Value) : Value) : Value), (((v42 : Value) : Value) : Value), (((v43 : Value) : Value) : Value), (((v44 : Value) : Value) : Value), (((v45 : Value) : Value) : Value), (((v46 : Value) : Value) : Value), (((v47 : Value) : Value) : Value), (((v48 : Value) : Value) : Value), (((v49 : Value) : Value) : Value), (((v50 : Value) : Value) : Value), (((v51 : Value) : Value) : Value)])), (tx, .inl (cT, nT, .inl gT)), (lt, .inl (cE, 128, .inl gE))] H_30 := kJoinX hP hD [0, 1, 2] rfl hk1 hFc hB.1 ht hB.2.2 rfl [some 0, some 1, some 2] rfl rfl
      obtain ⟨hP, hD⟩ := hPD
      have hw_31 := hw
      have hw_31_w := hw_31.2
      replace hw_31 := hw_31.1
      have hw_31_k := hw_31.2.1
      rcases Bool.eq_false_or_eq_true xo_28 with e9 | e9
      · subst e9
        have hw_31_v := hw_31_w rfl
        obtain ⟨hw_31_f, hw_31_d, hw_31_l, hw_31_p⟩ := hw_31.2.2.1 rfl
        subst hw_31_f
        subst hw_31_d
        refine lv_istore hx hb dX10_compares_56 hl kc_l_5_6 (kTo [(5, .int r_24), (4, .int r_13), (3, .int r_3), (0, .ref jM), (1, .int 0), (2, .int p1)]) (fun ls hl => ?_)
        refine lv_iload hx hb dX10_compares_58 (lv_at hl 1 rfl) ?_
        refine lv_bipush (v := 61) hx hb dX10_compares_60 kc_b_61 ?_
        refine lv_icmp_ne (tgt := 79) hx hb dX10_compares_62 kc_t_62_17 (fun c_32 => ?_) (fun c_32 => ?_)
        · have hk_33 := kLr_n hw_17_0 (by omega) (k := 61) (by decide) c_32
          refine lv_iload hx hb dX10_compares_79 (lv_at hl 1 rfl) ?_
          refine lv_bipush (v := 60) hx hb dX10_compares_81 kc_b_60 ?_
          refine lv_icmp_ne (tgt := 100) hx hb dX10_compares_83 kc_t_83_17 (fun c_34 => ?_) (fun c_34 => ?_)
          · have hk_35 := kLr_n hw_17_0 (by omega) (k := 60) (by decide) c_34
            refine lv_iload_n hx hb dX10_compares_100 rfl (lv_at hl 2 rfl) ?_
            refine lv_iload hx hb dX10_compares_101 (lv_at hl 0 rfl) ?_
            refine lv_icmp_le (tgt := 110) hx hb dX10_compares_103 kc_t_103_7 (fun c_36 => ?_) (fun c_36 => ?_)
            · refine lv_iconst (v := 0) hx hb dX10_compares_110 kc_i_0 ?_
              have hP9 := hP
              have hD9 := hD
              have hK9 := hK
              rw [hQ]
              exact W.zret (v := 0) hx hb hr rfl (fun t ht hW => ⟨⟨0, (a1_25, (-1), 6, true, (xl_8 ++ xl_29 ++ [nI (20000 + ch_15)])), rfl, ⟨(Or.inl rfl), (kPM_t (A := kCmpS bt en g7 n7 0) rfl (kCmpS_good hz7 0) (by omega) (by unfold kCmpS; rw [hw_10.1, kTh_t]; unfold kCmp; rw [← hw_17_1, ← hw_17_2, if_pos (by omega), hw_31.1, kTh_t])), fun _ hbd => (by rw [kValC (kSumD_w hn7 0 _ _ _ hw_10.1) (kSumD_w hn7 0 _ _ _ hw_31.1) (by omega) (by omega), ← hw_10_v hbd, ← hw_31_v hbd]; exact kC62f (by omega) c_36)⟩,  by rw [ht]; exact hP9, va_K.moved hW.alike hK9, hD9⟩, hS.F ht⟩) hS.2.2 dX10_compares_111
            · refine lv_iconst (v := 1) hx hb dX10_compares_106 kc_i_1 ?_
              refine lv_goto (tgt := 111) hx hb dX10_compares_107 kc_t_107_4 ?_
              have hP9 := hP
              have hD9 := hD
              have hK9 := hK
              rw [hQ]
              exact W.zret (v := 1) hx hb hr rfl (fun t ht hW => ⟨⟨1, (a1_25, (-1), 6, true, (xl_8 ++ xl_29 ++ [nI (20000 + ch_15)])), rfl, ⟨(Or.inr rfl), (kPM_t (A := kCmpS bt en g7 n7 0) rfl (kCmpS_good hz7 0) (by omega) (by unfold kCmpS; rw [hw_10.1, kTh_t]; unfold kCmp; rw [← hw_17_1, ← hw_17_2, if_pos (by omega), hw_31.1, kTh_t])), fun _ hbd => (by rw [kValC (kSumD_w hn7 0 _ _ _ hw_10.1) (kSumD_w hn7 0 _ _ _ hw_31.1) (by omega) (by omega), ← hw_10_v hbd, ← hw_31_v hbd]; exact kC62t (by omega) c_36)⟩,  by rw [ht]; exact hP9, va_K.moved hW.alike hK9, hD9⟩, hS.F ht⟩) hS.2.2 dX10_compares_111
          · have hk_37 := kLr_e hw_17_0 (by omega) (k := 60) (by decide) c_34
            refine lv_iload_n hx hb dX10_compares_86 rfl (lv_at hl 2 rfl) ?_
            refine lv_iload hx hb dX10_compares_87 (lv_at hl 0 rfl) ?_
            refine lv_icmp_ge (tgt := 96) hx hb dX10_compares_89 kc_t_89_7 (fun c_38 => ?_) (fun c_38 => ?_)
            · refine lv_iconst (v := 0) hx hb dX10_compares_96 kc_i_0 ?_
              refine lv_goto (tgt := 111) hx hb dX10_compares_97 kc_t_97_14 ?_
              have hP9 := hP
              have hD9 := hD
              have hK9 := hK
              rw [hQ]
              exact W.zret (v := 0) hx hb hr rfl (fun t ht hW => ⟨⟨0, (a1_25, (-1), 6, true, (xl_8 ++ xl_29 ++ [nI (20000 + ch_15)])), rfl, ⟨(Or.inl rfl), (kPM_t (A := kCmpS bt en g7 n7 0) rfl (kCmpS_good hz7 0) (by omega) (by unfold kCmpS; rw [hw_10.1, kTh_t]; unfold kCmp; rw [← hw_17_1, ← hw_17_2, if_pos (by omega), hw_31.1, kTh_t])), fun _ hbd => (by rw [kValC (kSumD_w hn7 0 _ _ _ hw_10.1) (kSumD_w hn7 0 _ _ _ hw_31.1) (by omega) (by omega), ← hw_10_v hbd, ← hw_31_v hbd]; exact kC60f (by omega) c_38)⟩,  by rw [ht]; exact hP9, va_K.moved hW.alike hK9, hD9⟩, hS.F ht⟩) hS.2.2 dX10_compares_111
            · refine lv_iconst (v := 1) hx hb dX10_compares_92 kc_i_1 ?_
              refine lv_goto (tgt := 111) hx hb dX10_compares_93 kc_t_93_18 ?_
              have hP9 := hP
              have hD9 := hD
              have hK9 := hK
              rw [hQ]
              exact W.zret (v := 1) hx hb hr rfl (fun t ht hW => ⟨⟨1, (a1_25, (-1), 6, true, (xl_8 ++ xl_29 ++ [nI (20000 + ch_15)])), rfl, ⟨(Or.inr rfl), (kPM_t (A := kCmpS bt en g7 n7 0) rfl (kCmpS_good hz7 0) (by omega) (by unfold kCmpS; rw [hw_10.1, kTh_t]; unfold kCmp; rw [← hw_17_1, ← hw_17_2, if_pos (by omega), hw_31.1, kTh_t])), fun _ hbd => (by rw [kValC (kSumD_w hn7 0 _ _ _ hw_10.1) (kSumD_w hn7 0 _ _ _ hw_31.1) (by omega) (by omega), ← hw_10_v hbd, ← hw_31_v hbd]; exact kC60t (by omega) c_38)⟩,  by rw [ht]; exact hP9, va_K.moved hW.alike hK9, hD9⟩, hS.F ht⟩) hS.2.2 dX10_compares_111
        · have hk_39 := kLr_e hw_17_0 (by omega) (k := 61) (by decide) c_32
          refine lv_iload_n hx hb dX10_compares_65 rfl (lv_at hl 2 rfl) ?_
          refine lv_iload hx hb dX10_compares_66 (lv_at hl 0 rfl) ?_
          refine lv_icmp_ne (tgt := 75) hx hb dX10_compares_68 kc_t_68_7 (fun c_40 => ?_) (fun c_40 => ?_)
          · refine lv_iconst (v := 0) hx hb dX10_compares_75 kc_i_0 ?_
            refine lv_goto (tgt := 111) hx hb dX10_compares_76 kc_t_76_35 ?_
            have hP9 := hP
            have hD9 := hD
            have hK9 := hK
            rw [hQ]
            exact W.zret (v := 0) hx hb hr rfl (fun t ht hW => ⟨⟨0, (a1_25, (-1), 6, true, (xl_8 ++ xl_29 ++ [nI (20000 + ch_15)])), rfl, ⟨(Or.inl rfl), (kPM_t (A := kCmpS bt en g7 n7 0) rfl (kCmpS_good hz7 0) (by omega) (by unfold kCmpS; rw [hw_10.1, kTh_t]; unfold kCmp; rw [← hw_17_1, ← hw_17_2, if_pos (by omega), hw_31.1, kTh_t])), fun _ hbd => (by rw [kValC (kSumD_w hn7 0 _ _ _ hw_10.1) (kSumD_w hn7 0 _ _ _ hw_31.1) (by omega) (by omega), ← hw_10_v hbd, ← hw_31_v hbd]; exact kC61f (by omega) c_40)⟩,  by rw [ht]; exact hP9, va_K.moved hW.alike hK9, hD9⟩, hS.F ht⟩) hS.2.2 dX10_compares_111
          · refine lv_iconst (v := 1) hx hb dX10_compares_71 kc_i_1 ?_
            refine lv_goto (tgt := 111) hx hb dX10_compares_72 kc_t_72_39 ?_
            have hP9 := hP
            have hD9 := hD
            have hK9 := hK
            rw [hQ]
            exact W.zret (v := 1) hx hb hr rfl (fun t ht hW => ⟨⟨1, (a1_25, (-1), 6, true, (xl_8 ++ xl_29 ++ [nI (20000 + ch_15)])), rfl, ⟨(Or.inr rfl), (kPM_t (A := kCmpS bt en g7 n7 0) rfl (kCmpS_good hz7 0) (by omega) (by unfold kCmpS; rw [hw_10.1, kTh_t]; unfold kCmp; rw [← hw_17_1, ← hw_17_2, if_pos (by omega), hw_31.1, kTh_t])), fun _ hbd => (by rw [kValC (kSumD_w hn7 0 _ _ _ hw_10.1) (kSumD_w hn7 0 _ _ _ hw_31.1) (by omega) (by omega), ← hw_10_v hbd, ← hw_31_v hbd]; exact kC61t (by omega) c_40)⟩,  by rw [ht]; exact hP9, va_K.moved hW.alike hK9, hD9⟩, hS.F ht⟩) hS.2.2 dX10_compares_111
      · subst e9
        obtain ⟨hw_31_f, hw_31_n⟩ := hw_31.2.2.2 rfl
        subst hw_31_f
        subst hw_31_n
        refine lv_istore hx hb dX10_compares_56 hl kc_l_5_6 (kTo [(5, .int r_24), (4, .int r_13), (3, .int r_3), (0, .ref jM), (1, .int 0), (2, .int p1)]) (fun ls hl => ?_)
        refine lv_iload hx hb dX10_compares_58 (lv_at hl 1 rfl) ?_
        refine lv_bipush (v := 61) hx hb dX10_compares_60 kc_b_61 ?_
        refine lv_icmp_ne (tgt := 79) hx hb dX10_compares_62 kc_t_62_17 (fun c_41 => ?_) (fun c_41 => ?_)
        · have hk_42 := kLr_n hw_17_0 (by omega) (k := 61) (by decide) c_41
          refine lv_iload hx hb dX10_compares_79 (lv_at hl 1 rfl) ?_
          refine lv_bipush (v := 60) hx hb dX10_compares_81 kc_b_60 ?_
          refine lv_icmp_ne (tgt := 100) hx hb dX10_compares_83 kc_t_83_17 (fun c_43 => ?_) (fun c_43 => ?_)
          · have hk_44 := kLr_n hw_17_0 (by omega) (k := 60) (by decide) c_43
            refine lv_iload_n hx hb dX10_compares_100 rfl (lv_at hl 2 rfl) ?_
            refine lv_iload hx hb dX10_compares_101 (lv_at hl 0 rfl) ?_
            refine lv_icmp_le (tgt := 110) hx hb dX10_compares_103 kc_t_103_7 (fun c_45 => ?_) (fun c_45 => ?_)
            · refine lv_iconst (v := 0) hx hb dX10_compares_110 kc_i_0 ?_
              have hP9 := hP
              have hD9 := hD
              have hK9 := hK
              rw [hQ]
              exact W.zret (v := 0) hx hb hr rfl (fun t ht hW => ⟨⟨0, (a1_25, (nI (a1_25)), xd_27, false, []), rfl, ⟨(Or.inl rfl), (kPM_f (by unfold kCmpS; rw [hw_10.1, kTh_t]; unfold kCmp; rw [← hw_17_1, ← hw_17_2, if_pos (by omega), hw_31.1]; rfl) (by omega)), fun z9 => absurd z9 (by decide)⟩,  by rw [ht]; exact hP9, va_K.moved hW.alike hK9, hD9⟩, hS.F ht⟩) hS.2.2 dX10_compares_111
            · refine lv_iconst (v := 1) hx hb dX10_compares_106 kc_i_1 ?_
              refine lv_goto (tgt := 111) hx hb dX10_compares_107 kc_t_107_4 ?_
              have hP9 := hP
              have hD9 := hD
              have hK9 := hK
              rw [hQ]
              exact W.zret (v := 1) hx hb hr rfl (fun t ht hW => ⟨⟨1, (a1_25, (nI (a1_25)), xd_27, false, []), rfl, ⟨(Or.inr rfl), (kPM_f (by unfold kCmpS; rw [hw_10.1, kTh_t]; unfold kCmp; rw [← hw_17_1, ← hw_17_2, if_pos (by omega), hw_31.1]; rfl) (by omega)), fun z9 => absurd z9 (by decide)⟩,  by rw [ht]; exact hP9, va_K.moved hW.alike hK9, hD9⟩, hS.F ht⟩) hS.2.2 dX10_compares_111
          · have hk_46 := kLr_e hw_17_0 (by omega) (k := 60) (by decide) c_43
            refine lv_iload_n hx hb dX10_compares_86 rfl (lv_at hl 2 rfl) ?_
            refine lv_iload hx hb dX10_compares_87 (lv_at hl 0 rfl) ?_
            refine lv_icmp_ge (tgt := 96) hx hb dX10_compares_89 kc_t_89_7 (fun c_47 => ?_) (fun c_47 => ?_)
            · refine lv_iconst (v := 0) hx hb dX10_compares_96 kc_i_0 ?_
              refine lv_goto (tgt := 111) hx hb dX10_compares_97 kc_t_97_14 ?_
              have hP9 := hP
              have hD9 := hD
              have hK9 := hK
              rw [hQ]
              exact W.zret (v := 0) hx hb hr rfl (fun t ht hW => ⟨⟨0, (a1_25, (nI (a1_25)), xd_27, false, []), rfl, ⟨(Or.inl rfl), (kPM_f (by unfold kCmpS; rw [hw_10.1, kTh_t]; unfold kCmp; rw [← hw_17_1, ← hw_17_2, if_pos (by omega), hw_31.1]; rfl) (by omega)), fun z9 => absurd z9 (by decide)⟩,  by rw [ht]; exact hP9, va_K.moved hW.alike hK9, hD9⟩, hS.F ht⟩) hS.2.2 dX10_compares_111
            · refine lv_iconst (v := 1) hx hb dX10_compares_92 kc_i_1 ?_
              refine lv_goto (tgt := 111) hx hb dX10_compares_93 kc_t_93_18 ?_
              have hP9 := hP
              have hD9 := hD
              have hK9 := hK
              rw [hQ]
              exact W.zret (v := 1) hx hb hr rfl (fun t ht hW => ⟨⟨1, (a1_25, (nI (a1_25)), xd_27, false, []), rfl, ⟨(Or.inr rfl), (kPM_f (by unfold kCmpS; rw [hw_10.1, kTh_t]; unfold kCmp; rw [← hw_17_1, ← hw_17_2, if_pos (by omega), hw_31.1]; rfl) (by omega)), fun z9 => absurd z9 (by decide)⟩,  by rw [ht]; exact hP9, va_K.moved hW.alike hK9, hD9⟩, hS.F ht⟩) hS.2.2 dX10_compares_111
        · have hk_48 := kLr_e hw_17_0 (by omega) (k := 61) (by decide) c_41
          refine lv_iload_n hx hb dX10_compares_65 rfl (lv_at hl 2 rfl) ?_
          refine lv_iload hx hb dX10_compares_66 (lv_at hl 0 rfl) ?_
          refine lv_icmp_ne (tgt := 75) hx hb dX10_compares_68 kc_t_68_7 (fun c_49 => ?_) (fun c_49 => ?_)
          · refine lv_iconst (v := 0) hx hb dX10_compares_75 kc_i_0 ?_
            refine lv_goto (tgt := 111) hx hb dX10_compares_76 kc_t_76_35 ?_
            have hP9 := hP
            have hD9 := hD
            have hK9 := hK
            rw [hQ]
            exact W.zret (v := 0) hx hb hr rfl (fun t ht hW => ⟨⟨0, (a1_25, (nI (a1_25)), xd_27, false, []), rfl, ⟨(Or.inl rfl), (kPM_f (by unfold kCmpS; rw [hw_10.1, kTh_t]; unfold kCmp; rw [← hw_17_1, ← hw_17_2, if_pos (by omega), hw_31.1]; rfl) (by omega)), fun z9 => absurd z9 (by decide)⟩,  by rw [ht]; exact hP9, va_K.moved hW.alike hK9, hD9⟩, hS.F ht⟩) hS.2.2 dX10_compares_111
          · refine lv_iconst (v := 1) hx hb dX10_compares_71 kc_i_1 ?_
            refine lv_goto (tgt := 111) hx hb dX10_compares_72 kc_t_72_39 ?_
            have hP9 := hP
            have hD9 := hD
            have hK9 := hK
            rw [hQ]
            exact W.zret (v := 1) hx hb hr rfl (fun t ht hW => ⟨⟨1, (a1_25, (nI (a1_25)), xd_27, false, []), rfl, ⟨(Or.inr rfl), (kPM_f (by unfold kCmpS; rw [hw_10.1, kTh_t]; unfold kCmp; rw [← hw_17_1, ← hw_17_2, if_pos (by omega), hw_31.1]; rfl) (by omega)), fun z9 => absurd z9 (by decide)⟩,  by rw [ht]; exact hP9, va_K.moved hW.alike hK9, hD9⟩, hS.F ht⟩) hS.2.2 dX10_compares_111
    · have hs_50 : ¬ (ch_15 = 61 ∨ ch_15 = 60 ∨ ch_15 = 62) := fun z9 => absurd (hw_19.mpr (by rw [hw_17_0]; rcases z9 with z9 | z9 | z9 <;> (rw [z9]; decide))) (fun z8 => z8 c_20)
      refine lv_aload_n hx hb dX10_compares_37 rfl (lv_at hl 2 rfl) ?_
      have bd_51 : a1_14 ≤ en := by omega
      have bd_52 : en ≤ 1680 := by omega
      have hCu := kCut (wc := [(jM, .inr (10, [((v0 : Value) : Value), ((v1 : Value) : Value), ((v2 : Value) : Value), ((v3 : Value) : Value), .ref lt, .ref tx, ((v6 : Value) : Value), ((v7 : Value) : Value), ((v8 : Value) : Value), .int (nI (be)), .int (nI (en)), .int (nI (a1_14)), .int (-1), .int 6, ((v14 : Value) : Value), ((v15 : Value) : Value), .ref q6, .ref q7, ((v18 : Value) : Value), ((v19 : Value) : Value), ((v20 : Value) : Value), ((v21 : Value) : Value), ((v22 : Value) : Value), ((v23 : Value) : Value), ((v24 : Value) : Value), ((v25 : Value) : Value), ((v26 : Value) : Value), ((v27 : Value) : Value), ((v28 : Value) : Value), ((v29 : Value) : Value), ((v30 : Value) : Value), ((v31 : Value) : Value), ((v32 : Value) : Value), ((v33 : Value) : Value), ((v34 : Value) : Value), ((v35 : Value) : Value), ((v36 : Value) : Value), ((v37 : Value) : Value), ((v38 : Value) : Value), ((v39 : Value) : Value), ((v40 : Value) : Value), ((v41 : Value) : Value), ((v42 : Value) : Value), ((v43 : Value) : Value), ((v44 : Value) : Value), ((v45 : Value) : Value), ((v46 : Value) : Value), ((v47 : Value) : Value), ((v48 : Value) : Value), ((v49 : Value) : Value), ((v50 : Value) : Value), ((v51 : Value) : Value)]))]) hP hD hS hA [0] rfl kc_nd_603 rfl
      have hPc := hCu.1
      have hDc := hCu.2.1
      have hFc := hCu.2.2
      have hKc := hK.sb (tys2 := []) [] rfl
      refine va_calli (va_runV (As := []) (rest := []) ⟨hx, hb, hml, hown, hts⟩ (s_fails10x l dC dI jM (((v0 : Value) : Value) : Value) (((v1 : Value) : Value) : Value) (((v2 : Value) : Value) : Value) (((v3 : Value) : Value) : Value) (((v6 : Value) : Value) : Value) (((v7 : Value) : Value) : Value) (((v8 : Value) : Value) : Value) (.int 6 : Value) (((v14 : Value) : Value) : Value) (((v15 : Value) : Value) : Value) (((v18 : Value) : Value) : Value) (((v19 : Value) : Value) : Value) (((v20 : Value) : Value) : Value) (((v21 : Value) : Value) : Value) (((v22 : Value) : Value) : Value) (((v23 : Value) : Value) : Value) (((v24 : Value) : Value) : Value) (((v25 : Value) : Value) : Value) (((v26 : Value) : Value) : Value) (((v27 : Value) : Value) : Value) (((v28 : Value) : Value) : Value) (((v29 : Value) : Value) : Value) (((v30 : Value) : Value) : Value) (((v31 : Value) : Value) : Value) (((v32 : Value) : Value) : Value) (((v33 : Value) : Value) : Value) (((v34 : Value) : Value) : Value) (((v35 : Value) : Value) : Value) (((v36 : Value) : Value) : Value) (((v37 : Value) : Value) : Value) (((v38 : Value) : Value) : Value) (((v39 : Value) : Value) : Value) (((v40 : Value) : Value) : Value) (((v41 : Value) : Value) : Value) (((v42 : Value) : Value) : Value) (((v43 : Value) : Value) : Value) (((v44 : Value) : Value) : Value) (((v45 : Value) : Value) : Value) (((v46 : Value) : Value) : Value) (((v47 : Value) : Value) : Value) (((v48 : Value) : Value) : Value) (((v49 : Value) : Value) : Value) (((v50 : Value) : Value) : Value) (((v51 : Value) : Value) : Value) lt q6 q7 tx be en a1_14 bd_51 bd_52 H_16.size) (cwV 0 hts (kG (List.forall_mem_cons.mpr ⟨(List.mem_cons_of_mem _ (List.mem_append_left _ (List.mem_of_getElem? (i := 16) rfl))), (List.forall_mem_cons.mpr ⟨(List.mem_cons_of_mem _ (List.mem_append_left _ (List.mem_of_getElem? (i := 15) rfl))), (List.forall_mem_cons.mpr ⟨(List.mem_cons_of_mem _ (List.mem_append_left _ (List.mem_of_getElem? (i := 14) rfl))), (List.forall_mem_cons.mpr ⟨(List.mem_cons_of_mem _ (List.mem_append_left _ (List.mem_of_getElem? (i := 0) rfl))), (fun _ h => absurd h List.not_mem_nil)⟩)⟩)⟩)⟩) (kGV _ _ _ _) (fun _ h => List.mem_cons_of_mem _ (List.mem_append_right _ (List.mem_append_right _ (List.mem_append_right _ (List.mem_append_right _ (List.mem_append_right _ (List.mem_append_left _ h))))))) gw_s_fails10x) rfl rfl rfl ⟨rfl, hd_X10_fails⟩ ⟨(Nat.le_of_ble_eq_true rfl), (Nat.le_of_ble_eq_true rfl)⟩) (kW_V kT_blind kT_give (va_recv hKc hPc (ci := 10) (q0 := 0) rfl rfl) hPc hKc hDc) rfl rfl hl.1 rfl (lv_room (Nat.le_of_ble_eq_true rfl)) dX10_compares_38 ⟨(Nat.le_of_ble_eq_true rfl), (Nat.le_of_ble_eq_true rfl)⟩) hS (fun q _ h => hFc q h) hFc (fun r_53 _ t H_54 locs ht hvm hw hB hz1 hk1 hS => ?_)
      try dsimp only at hw
      have hPD : kPD dC dI A [(jM, .inr (10, [(((v0 : Value) : Value) : Value), (((v1 : Value) : Value) : Value), (((v2 : Value) : Value) : Value), (((v3 : Value) : Value) : Value), .ref lt, .ref tx, (((v6 : Value) : Value) : Value), (((v7 : Value) : Value) : Value), (((v8 : Value) : Value) : Value), .int (nI (be)), .int (nI (en)), .int (nI (a1_14)), .int (nI (a1_14)), .int 6, (((v14 : Value) : Value) : Value), (((v15 : Value) : Value) : Value), .ref q6, .ref q7, (((v18 : Value) : Value) : Value), (((v19 : Value) : Value) : Value), (((v20 : Value) : Value) : Value), (((v21 : Value) : Value) : Value), (((v22 : Value) : Value) : Value), (((v23 : Value) : Value) : Value), (((v24 : Value) : Value) : Value), (((v25 : Value) : Value) : Value), (((v26 : Value) : Value) : Value), (((v27 : Value) : Value) : Value), (((v28 : Value) : Value) : Value), (((v29 : Value) : Value) : Value), (((v30 : Value) : Value) : Value), (((v31 : Value) : Value) : Value), (((v32 : Value) : Value) : Value), (((v33 : Value) : Value) : Value), (((v34 : Value) : Value) : Value), (((v35 : Value) : Value) : Value), (((v36 : Value) : Value) : Value), (((v37 : Value) : Value) : Value), (((v38 : Value) : Value) : Value), (((v39 : Value) : Value) : Value), (((v40 : Value) : Value) : Value), (((v41 : Value) : Value) : Value), (((v42 : Value) : Value) : Value), (((v43 : Value) : Value) : Value), (((v44 : Value) : Value) : Value), (((v45 : Value) : Value) : Value), (((v46 : Value) : Value) : Value), (((v47 : Value) : Value) : Value), (((v48 : Value) : Value) : Value), (((v49 : Value) : Value) : Value), (((v50 : Value) : Value) : Value), (((v51 : Value) : Value) : Value)])), (tx, .inl (cT, nT, .inl gT)), (lt, .inl (cE, 128, .inl gE))] H_54 := kJoinX hP hD [0] rfl hk1 hFc hB.1 ht hB.2.2 rfl [some 0, none, none] rfl rfl
      obtain ⟨hP, hD⟩ := hPD
      obtain rfl : r_53 = 0 := hw
      have hP9 := hP
      have hD9 := hD
      have hK9 := hK
      rw [hQ]
      exact W.zret (v := 0) hx hb hr rfl (fun t ht hW => ⟨⟨0, (a1_14, (nI (a1_14)), 6, false, []), rfl, ⟨(Or.inl rfl), (kPM_f (by unfold kCmpS; rw [hw_10.1, kTh_t]; unfold kCmp; rw [← hw_17_1, ← hw_17_2, if_neg (by omega)]) (by omega)), fun z9 => absurd z9 (by decide)⟩,  by rw [ht]; exact hP9, va_K.moved hW.alike hK9, hD9⟩, hS.F ht⟩) hS.2.2 dX10_compares_41
  · subst e9
    obtain ⟨hw_10_f, hw_10_n⟩ := hw_10.2.2.2 rfl
    subst hw_10_f
    subst hw_10_n
    refine lv_istore_n hx hb dX10_compares_12 rfl hl kc_l_3_6 (kTo [(3, .int r_3), (0, .ref jM), (1, .int 0), (2, .int p1)]) (fun ls hl => ?_)
    refine lv_aload_n hx hb dX10_compares_13 rfl (lv_at hl 1 rfl) ?_
    refine va_get (D := (dC, dI)) (ci := 10) (v := .int (nI (a1_4))) (C := RX10) (T := TX10) (N := 52) hx hb hts (fun _ h => List.mem_cons_of_mem _ (List.mem_append_right _ (List.mem_append_right _ (List.mem_append_left _ h)))) hown hK hP 0 rfl rfl 12 kc_l_12_52 (hts (.fieldLink RX10 150 "NotEndedModel" "fault" "I") (List.mem_cons_of_mem _ (List.mem_append_left _ (List.mem_of_getElem? (i := 10) rfl)))) (fun _ h9 => h9) rfl dX10_compares_14 ?_
    refine lv_iconst (v := (-1)) hx hb dX10_compares_17 kc_i_m1 ?_
    refine lv_icmp_eq (tgt := 23) hx hb dX10_compares_18 kc_t_18_5 (fun c_55 => absurd c_55 (kNeM (n := a1_4) (by omega))) (fun c_55 => ?_)
    refine lv_iconst (v := 0) hx hb dX10_compares_21 kc_i_0 ?_
    have hP9 := hP
    have hD9 := hD
    have hK9 := hK
    rw [hQ]
    exact W.zret (v := 0) hx hb hr rfl (fun t ht hW => ⟨⟨0, (a1_4, (nI (a1_4)), xd_6, false, []), rfl, ⟨(Or.inl rfl), (kPM_f (by unfold kCmpS; rw [hw_10.1]; rfl) (by omega)), fun z9 => absurd z9 (by decide)⟩,  by rw [ht]; exact hP9, va_K.moved hW.alike hK9, hD9⟩, hS.F ht⟩) hS.2.2 dX10_compares_22

theorem dX10_compares_4 : decode cX10_compares 4 = .ok (.iload_n 2, 1) := kDs0 kf_28 (by decide +kernel)
theorem dX10_compares_5 : decode cX10_compares 5 = .ok (.goto 7, 3) := kDs4 kf_167 (by decide +kernel)
theorem dX10_unit_0 : decode cX10_unit 0 = .ok (.aload_n 0, 1) := kDs0 kf_42 (by decide +kernel)
theorem dX10_unit_1 : decode cX10_unit 1 = .ok (.invokevirtual 160, 3) := kDs2 kf_182 (by decide +kernel)
theorem dX10_unit_4 : decode cX10_unit 4 = .ok (.istore_n 1, 1) := kDs0 kf_60 (by decide +kernel)
theorem dX10_unit_5 : decode cX10_unit 5 = .ok (.iload_n 1, 1) := kDs0 kf_27 (by decide +kernel)
theorem dX10_unit_6 : decode cX10_unit 6 = .ok (.bipush 33, 2) := kDs3 kf_16 (by decide +kernel)
theorem dX10_unit_8 : decode cX10_unit 8 = .ok (.if_icmp .ne 37, 3) := kDs4 kf_160 (by decide +kernel)
theorem dX10_unit_45 : decode cX10_unit 45 = .ok (.iload_n 1, 1) := kDs0 kf_27 (by decide +kernel)
theorem dX10_unit_46 : decode cX10_unit 46 = .ok (.bipush 40, 2) := kDs3 kf_16 (by decide +kernel)
theorem dX10_unit_48 : decode cX10_unit 48 = .ok (.if_icmp .ne 42, 3) := kDs4 kf_160 (by decide +kernel)
theorem dX10_unit_90 : decode cX10_unit 90 = .ok (.aload_n 0, 1) := kDs0 kf_42 (by decide +kernel)
theorem dX10_unit_91 : decode cX10_unit 91 = .ok (.iconst 0, 1) := kDs0 kf_3 (by decide +kernel)
theorem dX10_unit_92 : decode cX10_unit 92 = .ok (.iconst 0, 1) := kDs0 kf_3 (by decide +kernel)
theorem dX10_unit_93 : decode cX10_unit 93 = .ok (.invokevirtual 213, 3) := kDs2 kf_182 (by decide +kernel)
theorem dX10_unit_96 : decode cX10_unit 96 = .ok (.ireturn, 1) := kDs0 kf_172 (by decide +kernel)
theorem dX10_unit_51 : decode cX10_unit 51 = .ok (.aload_n 0, 1) := kDs0 kf_42 (by decide +kernel)
theorem dX10_unit_52 : decode cX10_unit 52 = .ok (.invokevirtual 180, 3) := kDs2 kf_182 (by decide +kernel)
theorem dX10_unit_55 : decode cX10_unit 55 = .ok (.ifCond .ne 5, 3) := kDs4 kf_154 (by decide +kernel)
theorem dX10_unit_58 : decode cX10_unit 58 = .ok (.iconst 0, 1) := kDs0 kf_3 (by decide +kernel)
theorem dX10_unit_59 : decode cX10_unit 59 = .ok (.ireturn, 1) := kDs0 kf_172 (by decide +kernel)
theorem dX10_unit_11 : decode cX10_unit 11 = .ok (.aload_n 0, 1) := kDs0 kf_42 (by decide +kernel)
theorem dX10_unit_12 : decode cX10_unit 12 = .ok (.invokevirtual 180, 3) := kDs2 kf_182 (by decide +kernel)
theorem dX10_unit_15 : decode cX10_unit 15 = .ok (.ifCond .ne 5, 3) := kDs4 kf_154 (by decide +kernel)
theorem dX10_unit_18 : decode cX10_unit 18 = .ok (.iconst 0, 1) := kDs0 kf_3 (by decide +kernel)
theorem dX10_unit_19 : decode cX10_unit 19 = .ok (.ireturn, 1) := kDs0 kf_172 (by decide +kernel)
def w_s_unit10x_6 : List Cond := .code yX10_unit cX10_unit 3 (some .boolean) :: wf_mq
theorem gw_s_unit10x_6 : (w_s_unit10x_6).all goodWord = true := kFamG rfl gf_mq
theorem hd_X10_unit : yX10_unit.cls ≠ "java/lang/invoke/MethodHandle" ∧ yX10_unit.cls ≠ "java/lang/invoke/VarHandle" ∧ (parseMethodDescriptor yX10_unit.desc).map (fun d => d.parameters.length) = some 0 := by decide +kernel
set_option maxHeartbeats 4000000 in
set_option maxRecDepth 100000 in
theorem s_unit10x_6 (l : Launch) (dC : Nat → ClassId) (dI : Nat → Nat → Nat) (jM : Nat) (v0 : Value) (v1 : Value) (v2 : Value) (v3 : Value) (v6 : Value) (v7 : Value) (v8 : Value) (v14 : Value) (v15 : Value) (v18 : Value) (v19 : Value) (v20 : Value) (v21 : Value) (v22 : Value) (v23 : Value) (v24 : Value) (v25 : Value) (v26 : Value) (v27 : Value) (v28 : Value) (v29 : Value) (v30 : Value) (v31 : Value) (v32 : Value) (v33 : Value) (v34 : Value) (v35 : Value) (v36 : Value) (v37 : Value) (v38 : Value) (v39 : Value) (v40 : Value) (v41 : Value) (v42 : Value) (v43 : Value) (v44 : Value) (v45 : Value) (v46 : Value) (v47 : Value) (v48 : Value) (v49 : Value) (v50 : Value) (v51 : Value) (lt : Nat) (q6 : Nat) (q7 : Nat) (tx : Nat) (cT : ClassId) (nT : Nat) (gT : Nat → Int32) (be : Nat) (en : Nat) (a : Nat) (hbe : be + en ≤ nT) (hnT : nT ≤ 1680) (ha : a ≤ en) (bt : Nat → Nat) (hbr : ∀ j : Nat, j < en → gT (be + j) = kSg (bt j)) (hb8 : ∀ j : Nat, bt j < 256) (hb1 : ∀ j : Nat, j < en → 1 ≤ bt j) (hen9 : en ≤ 120) (cE : ClassId) (gE : Nat → Int32) (b6 : Nat) (n6 : Nat) (g6 : Nat → Int32) (hn6 : n6 ≤ 8) (hg6 : ∀ k : Nat, ∃ v : Nat, v < 128 ∧ g6 k = nI v) (b7 : Nat) (n7 : Nat) (g7 : Nat → Int32) (hn7 : n7 ≤ 8) (hg7 : ∀ k : Nat, ∃ v : Nat, v < 128 ∧ g7 k = nI v) (hz6 : kIx g6 n6 (nI 0) = n6) (hz7 : kIx g7 n7 (nI 0) = n7) (hl7 : ∀ c : Nat, c < 256 → kIx g7 n7 (nI c) < n7 → ¬ c = 91 ∧ ¬ (48 ≤ c ∧ c ≤ 57)) (sz : Nat) : Met l yX10_unit w_s_unit10x_6 ({ frames := 11, cells := 0, slots := 0, locals := 660 }) (kW dC dI [.ref jM] [(jM, .inr (10, [v0, v1, v2, v3, .ref lt, .ref tx, v6, v7, v8, .int (nI (be)), .int (nI (en)), .int (nI (a)), .int (-1), .int 6, v14, v15, .ref q6, .ref q7, v18, v19, v20, v21, v22, v23, v24, v25, v26, v27, v28, v29, v30, v31, v32, v33, v34, v35, v36, v37, v38, v39, v40, v41, v42, v43, v44, v45, v46, v47, v48, v49, v50, v51])), (tx, .inl (cT, nT, .inl gT)), (lt, .inl (cE, 128, .inl gE))] [(cT, .byte), (cE, .int)] (kS2 q6 b6 n6 g6 q7 b7 n7 g7 (va_A [(jM, .inr (10, [v0, v1, v2, v3, .ref lt, .ref tx, v6, v7, v8, .int (nI (be)), .int (nI (en)), .int (nI (a)), .int (-1), .int 6, v14, v15, .ref q6, .ref q7, v18, v19, v20, v21, v22, v23, v24, v25, v26, v27, v28, v29, v30, v31, v32, v33, v34, v35, v36, v37, v38, v39, v40, v41, v42, v43, v44, v45, v46, v47, v48, v49, v50, v51])), (tx, .inl (cT, nT, .inl gT)), (lt, .inl (cE, 128, .inl gE))] sz)) sz) (va_Qi (fun (r : Int32) (u : Nat × Int32 × Int32 × Bool × (List Int32)) => match u with | (a1, xf, xd, xo, xl) => ((r = 0 ∨ r = 1) ∧ (kPM (kUnitD bt en g7 n7 0 a) en a 6 xo a1 xl xf xd ∧ (xo = true → (∀ j : Nat, j < n7 → kBd (kLt gE g7 j)) → r = kVal (kLt gE g7) xl)))) (fun (u : Nat × Int32 × Int32 × Bool × (List Int32)) => match u with | (a1, xf, xd, xo, xl) => fun t : State => kB dC dI [(jM, .inr (10, [v0, v1, v2, v3, .ref lt, .ref tx, v6, v7, v8, .int (nI (be)), .int (nI (en)), .int (nI (a1)), .int xf, .int xd, v14, v15, .ref q6, .ref q7, v18, v19, v20, v21, v22, v23, v24, v25, v26, v27, v28, v29, v30, v31, v32, v33, v34, v35, v36, v37, v38, v39, v40, v41, v42, v43, v44, v45, v46, v47, v48, v49, v50, v51])), (tx, .inl (cT, nT, .inl gT)), (lt, .inl (cE, 128, .inl gE))] [(cT, .byte), (cE, .int)] (va_A [(jM, .inr (10, [v0, v1, v2, v3, .ref lt, .ref tx, v6, v7, v8, .int (nI (be)), .int (nI (en)), .int (nI (a)), .int (-1), .int 6, v14, v15, .ref q6, .ref q7, v18, v19, v20, v21, v22, v23, v24, v25, v26, v27, v28, v29, v30, v31, v32, v33, v34, v35, v36, v37, v38, v39, v40, v41, v42, v43, v44, v45, v46, v47, v48, v49, v50, v51])), (tx, .inl (cT, nT, .inl gT)), (lt, .inl (cE, 128, .inl gE))] sz) t) (va_A [(jM, .inr (10, [v0, v1, v2, v3, .ref lt, .ref tx, v6, v7, v8, .int (nI (be)), .int (nI (en)), .int (nI (a)), .int (-1), .int 6, v14, v15, .ref q6, .ref q7, v18, v19, v20, v21, v22, v23, v24, v25, v26, v27, v28, v29, v30, v31, v32, v33, v34, v35, v36, v37, v38, v39, v40, v41, v42, v43, v44, v45, v46, v47, v48, v49, v50, v51])), (tx, .inl (cT, nT, .inl gT)), (lt, .inl (cE, 128, .inl gE))] sz)) 0 0 (va_A [(jM, .inr (10, [v0, v1, v2, v3, .ref lt, .ref tx, v6, v7, v8, .int (nI (be)), .int (nI (en)), .int (nI (a)), .int (-1), .int 6, v14, v15, .ref q6, .ref q7, v18, v19, v20, v21, v22, v23, v24, v25, v26, v27, v28, v29, v30, v31, v32, v33, v34, v35, v36, v37, v38, v39, v40, v41, v42, v43, v44, v45, v46, v47, v48, v49, v50, v51])), (tx, .inl (cT, nT, .inl gT)), (lt, .inl (cE, 128, .inl gE))] sz) := by
  refine Met.ofW (cc := cX10_unit) (maxL := 3) (ret := (some .boolean)) (by decide) rfl ?_
  intro p e s m args below meth c s₁ B hml hv
  obtain ⟨rfl, hsz, hP, hK, hD0, hX⟩ := hv
  have hx := B.exec
  have hb := B.bytes
  have hr := B.returns
  have hts := atoms_spec (ws := w_s_unit10x_6) B.pre
  have hown : s.vm.findClass RX10 = some m.cls := findClass_of_methodNamed B.named
  have hlocks := B.notSynchronized
  subst hsz
  have hD := hD0.self (sz := s.heap.size)
  generalize hAe : va_A [(jM, .inr (10, [v0, v1, v2, v3, .ref lt, .ref tx, v6, v7, v8, .int (nI (be)), .int (nI (en)), .int (nI (a)), .int (-1), .int 6, v14, v15, .ref q6, .ref q7, v18, v19, v20, v21, v22, v23, v24, v25, v26, v27, v28, v29, v30, v31, v32, v33, v34, v35, v36, v37, v38, v39, v40, v41, v42, v43, v44, v45, v46, v47, v48, v49, v50, v51])), (tx, .inl (cT, nT, .inl gT)), (lt, .inl (cE, 128, .inl gE))] s.heap.size = A at hD hX ⊢
  have hA : ∀ q : Nat, s.heap.size ≤ q → A q := fun q h => by rw [← hAe]; exact Or.inr h
  have hS : va_S A s.heap s.heap [] := va_S.rf
  have hP : va_P (dC, dI) vwCl [(jM, .inr (10, [v0, v1, v2, v3, .ref lt, .ref tx, v6, v7, v8, .int (nI (be)), .int (nI (en)), .int (nI (a)), .int (-1), .int 6, v14, v15, .ref q6, .ref q7, v18, v19, v20, v21, v22, v23, v24, v25, v26, v27, v28, v29, v30, v31, v32, v33, v34, v35, v36, v37, v38, v39, v40, v41, v42, v43, v44, v45, v46, v47, v48, v49, v50, v51])), (tx, .inl (cT, nT, .inl gT)), (lt, .inl (cE, 128, .inl gE))] s.heap := hP
  have hl := lv_entry ([.ref jM]) (n := 3) (Nat.le_of_ble_eq_true rfl)
  rw [lg_entry_eq]
  generalize (lg_sl ([.ref jM]) ++ List.replicate (3 - (lg_sl ([.ref jM])).length) Slot.unset).toArray = ls at hl ⊢
  have hl : lv_has ls 3 [(0, .ref jM)] := hl
  refine kQ (fun Q hQ => ?_)
  refine lv_aload_n hx hb dX10_unit_0 rfl (lv_at hl 0 rfl) ?_
  have bd_1 : be + en ≤ nT := by omega
  have hCu := kCut (wc := [(jM, .inr (10, [v0, v1, v2, v3, .ref lt, .ref tx, v6, v7, v8, .int (nI (be)), .int (nI (en)), .int (nI (a)), .int (-1), .int 6, v14, v15, .ref q6, .ref q7, v18, v19, v20, v21, v22, v23, v24, v25, v26, v27, v28, v29, v30, v31, v32, v33, v34, v35, v36, v37, v38, v39, v40, v41, v42, v43, v44, v45, v46, v47, v48, v49, v50, v51])), (tx, .inl (cT, nT, .inl gT))]) hP hD hS hA [0, 1] rfl kc_nd_434 rfl
  have hPc := hCu.1
  have hDc := hCu.2.1
  have hFc := hCu.2.2
  have hKc := hK.sb (tys2 := [(cT, .byte)]) [0] rfl
  refine va_calli (va_runV (As := []) (rest := []) ⟨hx, hb, hml, hown, hts⟩ (s_look10x l dC dI jM (v0 : Value) (v1 : Value) (v2 : Value) (v3 : Value) (v6 : Value) (v7 : Value) (v8 : Value) (.int (-1) : Value) (.int 6 : Value) (v14 : Value) (v15 : Value) (v18 : Value) (v19 : Value) (v20 : Value) (v21 : Value) (v22 : Value) (v23 : Value) (v24 : Value) (v25 : Value) (v26 : Value) (v27 : Value) (v28 : Value) (v29 : Value) (v30 : Value) (v31 : Value) (v32 : Value) (v33 : Value) (v34 : Value) (v35 : Value) (v36 : Value) (v37 : Value) (v38 : Value) (v39 : Value) (v40 : Value) (v41 : Value) (v42 : Value) (v43 : Value) (v44 : Value) (v45 : Value) (v46 : Value) (v47 : Value) (v48 : Value) (v49 : Value) (v50 : Value) (v51 : Value) lt q6 q7 tx cT nT gT be en a bd_1 hnT ha bt hbr hb8 hb1 hen9 s.heap.size) (cwV 0 hts (kG (List.forall_mem_cons.mpr ⟨(List.mem_cons_of_mem _ (List.mem_append_left _ (List.mem_of_getElem? (i := 3) rfl))), (List.forall_mem_cons.mpr ⟨(List.mem_cons_of_mem _ (List.mem_append_left _ (List.mem_of_getElem? (i := 2) rfl))), (List.forall_mem_cons.mpr ⟨(List.mem_cons_of_mem _ (List.mem_append_left _ (List.mem_of_getElem? (i := 1) rfl))), (List.forall_mem_cons.mpr ⟨(List.mem_cons_of_mem _ (List.mem_append_left _ (List.mem_of_getElem? (i := 0) rfl))), (fun _ h => absurd h List.not_mem_nil)⟩)⟩)⟩)⟩) (kGV _ _ _ _) (fun _ h => List.mem_cons_of_mem _ (List.mem_append_right _ (List.mem_append_left _ h))) gw_s_look10x) rfl rfl rfl ⟨rfl, hd_X10_look⟩ ⟨(Nat.le_of_ble_eq_true rfl), (Nat.le_of_ble_eq_true rfl)⟩) (kW_V kT_blind kT_give (va_recv hKc hPc (ci := 10) (q0 := 0) rfl rfl) hPc hKc hDc) rfl rfl hl.1 rfl (lv_room (Nat.le_of_ble_eq_true rfl)) dX10_unit_1 ⟨(Nat.le_of_ble_eq_true rfl), (Nat.le_of_ble_eq_true rfl)⟩) hS (fun q _ h => hFc q h) hFc (fun r_2 => kU2 (fun a1_3 ch_4 t H_5 locs ht hvm hw hB hz1 hk1 hS => ?_))
  try dsimp only at hw
  have hPD : kPD dC dI A [(jM, .inr (10, [(v0 : Value), (v1 : Value), (v2 : Value), (v3 : Value), .ref lt, .ref tx, (v6 : Value), (v7 : Value), (v8 : Value), .int (nI (be)), .int (nI (en)), .int (nI (a1_3)), .int (-1), .int 6, (v14 : Value), (v15 : Value), .ref q6, .ref q7, (v18 : Value), (v19 : Value), (v20 : Value), (v21 : Value), (v22 : Value), (v23 : Value), (v24 : Value), (v25 : Value), (v26 : Value), (v27 : Value), (v28 : Value), (v29 : Value), (v30 : Value), (v31 : Value), (v32 : Value), (v33 : Value), (v34 : Value), (v35 : Value), (v36 : Value), (v37 : Value), (v38 : Value), (v39 : Value), (v40 : Value), (v41 : Value), (v42 : Value), (v43 : Value), (v44 : Value), (v45 : Value), (v46 : Value), (v47 : Value), (v48 : Value), (v49 : Value), (v50 : Value), (v51 : Value)])), (tx, .inl (cT, nT, .inl gT)), (lt, .inl (cE, 128, .inl gE))] H_5 := kJoinX hP hD [0, 1] rfl hk1 hFc hB.1 ht hB.2.2 rfl [some 0, some 1, none] rfl rfl
  obtain ⟨hP, hD⟩ := hPD
  have hw_6 := hw
  have hw_6_0 := hw_6.1
  have hw_6_1 := hw_6.2.1
  have hw_6_2 := hw_6.2.2.1
  have hw_6_3 := hw_6.2.2.2.1
  have hw_6_4 := hw_6.2.2.2.2.1
  have hw_6_5 := hw_6.2.2.2.2.2.1
  have hw_6_6 := hw_6.2.2.2.2.2.2.1
  have hw_6_7 := hw_6.2.2.2.2.2.2.2
  clear hw_6
  refine lv_istore_n hx hb dX10_unit_4 rfl hl kc_l_1_3 (kTo [(1, .int r_2), (0, .ref jM)]) (fun ls hl => ?_)
  refine lv_iload_n hx hb dX10_unit_5 rfl (lv_at hl 0 rfl) ?_
  refine lv_bipush (v := 33) hx hb dX10_unit_6 kc_b_33 ?_
  refine lv_icmp_ne (tgt := 45) hx hb dX10_unit_8 kc_t_8_37 (fun c_7 => ?_) (fun c_7 => ?_)
  · have hk_8 := kLr_n hw_6_0 (by omega) (k := 33) (by decide) c_7
    refine lv_iload_n hx hb dX10_unit_45 rfl (lv_at hl 0 rfl) ?_
    refine lv_bipush (v := 40) hx hb dX10_unit_46 kc_b_40 ?_
    refine lv_icmp_ne (tgt := 90) hx hb dX10_unit_48 kc_t_48_42 (fun c_9 => ?_) (fun c_9 => ?_)
    · have hk_10 := kLr_n hw_6_0 (by omega) (k := 40) (by decide) c_9
      refine lv_aload_n hx hb dX10_unit_90 rfl (lv_at hl 1 rfl) ?_
      refine lv_iconst (v := 0) hx hb dX10_unit_91 kc_i_0 ?_
      refine lv_iconst (v := 0) hx hb dX10_unit_92 kc_i_0 ?_
      have bd_11 : a1_3 ≤ en := by omega
      have hCu := kCut (wc := [(jM, .inr (10, [(v0 : Value), (v1 : Value), (v2 : Value), (v3 : Value), .ref lt, .ref tx, (v6 : Value), (v7 : Value), (v8 : Value), .int (nI (be)), .int (nI (en)), .int (nI (a1_3)), .int (-1), .int 6, (v14 : Value), (v15 : Value), .ref q6, .ref q7, (v18 : Value), (v19 : Value), (v20 : Value), (v21 : Value), (v22 : Value), (v23 : Value), (v24 : Value), (v25 : Value), (v26 : Value), (v27 : Value), (v28 : Value), (v29 : Value), (v30 : Value), (v31 : Value), (v32 : Value), (v33 : Value), (v34 : Value), (v35 : Value), (v36 : Value), (v37 : Value), (v38 : Value), (v39 : Value), (v40 : Value), (v41 : Value), (v42 : Value), (v43 : Value), (v44 : Value), (v45 : Value), (v46 : Value), (v47 : Value), (v48 : Value), (v49 : Value), (v50 : Value), (v51 : Value)])), (tx, .inl (cT, nT, .inl gT)), (lt, .inl (cE, 128, .inl gE))]) hP hD hS hA [0, 1, 2] rfl kc_nd_138 rfl
      have hPc := hCu.1
      have hDc := hCu.2.1
      have hFc := hCu.2.2
      have hKc := hK.sb (tys2 := [(cT, .byte), (cE, .int)]) [0, 1] rfl
      refine va_calli (va_runV (As := [.int 0, .int 0]) (rest := []) ⟨hx, hb, hml, hown, hts⟩ (s_comp10x_6_0 l dC dI jM ((v0 : Value) : Value) ((v1 : Value) : Value) ((v2 : Value) : Value) ((v3 : Value) : Value) ((v6 : Value) : Value) ((v7 : Value) : Value) ((v8 : Value) : Value) ((v14 : Value) : Value) ((v15 : Value) : Value) ((v18 : Value) : Value) ((v19 : Value) : Value) ((v20 : Value) : Value) ((v21 : Value) : Value) ((v22 : Value) : Value) ((v23 : Value) : Value) ((v24 : Value) : Value) ((v25 : Value) : Value) ((v26 : Value) : Value) ((v27 : Value) : Value) ((v28 : Value) : Value) ((v29 : Value) : Value) ((v30 : Value) : Value) ((v31 : Value) : Value) ((v32 : Value) : Value) ((v33 : Value) : Value) ((v34 : Value) : Value) ((v35 : Value) : Value) ((v36 : Value) : Value) ((v37 : Value) : Value) ((v38 : Value) : Value) ((v39 : Value) : Value) ((v40 : Value) : Value) ((v41 : Value) : Value) ((v42 : Value) : Value) ((v43 : Value) : Value) ((v44 : Value) : Value) ((v45 : Value) : Value) ((v46 : Value) : Value) ((v47 : Value) : Value) ((v48 : Value) : Value) ((v49 : Value) : Value) ((v50 : Value) : Value) ((v51 : Value) : Value) lt q6 q7 tx cT nT gT be en a1_3 bd_1 hnT bd_11 bt hbr hb8 hb1 hen9 cE gE b6 n6 g6 hn6 hg6 b7 n7 g7 hn7 hg7 hz6 hz7 hl7 0 H_5.size) (cwV 2 hts (kG (List.forall_mem_cons.mpr ⟨(List.mem_cons_of_mem _ (List.mem_append_left _ (List.mem_of_getElem? (i := 40) rfl))), (List.forall_mem_cons.mpr ⟨(List.mem_cons_of_mem _ (List.mem_append_left _ (List.mem_of_getElem? (i := 39) rfl))), (List.forall_mem_cons.mpr ⟨(List.mem_cons_of_mem _ (List.mem_append_left _ (List.mem_of_getElem? (i := 38) rfl))), (List.forall_mem_cons.mpr ⟨(List.mem_cons_of_mem _ (List.mem_append_left _ (List.mem_of_getElem? (i := 0) rfl))), (fun _ h => absurd h List.not_mem_nil)⟩)⟩)⟩)⟩) (kGV _ _ _ _) (kFam (List.mem_cons_of_mem _ (List.mem_append_left _ (List.mem_of_getElem? (i := 37) rfl)))) gw_s_comp10x_6_0) rfl rfl rfl ⟨rfl, hd_X10_compares⟩ ⟨(Nat.le_of_ble_eq_true rfl), (Nat.le_of_ble_eq_true rfl)⟩) (kW_V kS2_blind (kS2_give hX hS hFc) (va_recv hKc hPc (ci := 10) (q0 := 0) rfl rfl) hPc hKc hDc) rfl rfl hl.1 rfl (lv_room (Nat.le_of_ble_eq_true rfl)) dX10_unit_93 ⟨(Nat.le_of_ble_eq_true rfl), (Nat.le_of_ble_eq_true rfl)⟩) hS (fun q _ h => hFc q h) hFc (fun r_12 => kU5 (fun a1_13 xf_14 xd_15 xo_16 xl_17 t H_18 locs ht hvm hw hB hz1 hk1 hS => ?_))
      try dsimp only at hw
      have hPD : kPD dC dI A [(jM, .inr (10, [((v0 : Value) : Value), ((v1 : Value) : Value), ((v2 : Value) : Value), ((v3 : Value) : Value), .ref lt, .ref tx, ((v6 : Value) : Value), ((v7 : Value) : Value), ((v8 : Value) : Value), .int (nI (be)), .int (nI (en)), .int (nI (a1_13)), .int xf_14, .int xd_15, ((v14 : Value) : Value), ((v15 : Value) : Value), .ref q6, .ref q7, ((v18 : Value) : Value), ((v19 : Value) : Value), ((v20 : Value) : Value), ((v21 : Value) : Value), ((v22 : Value) : Value), ((v23 : Value) : Value), ((v24 : Value) : Value), ((v25 : Value) : Value), ((v26 : Value) : Value), ((v27 : Value) : Value), ((v28 : Value) : Value), ((v29 : Value) : Value), ((v30 : Value) : Value), ((v31 : Value) : Value), ((v32 : Value) : Value), ((v33 : Value) : Value), ((v34 : Value) : Value), ((v35 : Value) : Value), ((v36 : Value) : Value), ((v37 : Value) : Value), ((v38 : Value) : Value), ((v39 : Value) : Value), ((v40 : Value) : Value), ((v41 : Value) : Value), ((v42 : Value) : Value), ((v43 : Value) : Value), ((v44 : Value) : Value), ((v45 : Value) : Value), ((v46 : Value) : Value), ((v47 : Value) : Value), ((v48 : Value) : Value), ((v49 : Value) : Value), ((v50 : Value) : Value), ((v51 : Value) : Value)])), (tx, .inl (cT, nT, .inl gT)), (lt, .inl (cE, 128, .inl gE))] H_18 := kJoinX hP hD [0, 1, 2] rfl hk1 hFc hB.1 ht hB.2.2 rfl [some 0, some 1, some 2] rfl rfl
      obtain ⟨hP, hD⟩ := hPD
      have hw_19 := hw
      have hw_19_b := hw_19.1
      replace hw_19 := hw_19.2
      have hw_19_w := hw_19.2
      replace hw_19 := hw_19.1
      have hw_19_k := hw_19.2.1
      rcases Bool.eq_false_or_eq_true xo_16 with e9 | e9
      · subst e9
        have hw_19_v := hw_19_w rfl
        obtain ⟨hw_19_f, hw_19_d, hw_19_l, hw_19_p⟩ := hw_19.2.2.1 rfl
        subst hw_19_f
        subst hw_19_d
        have hP9 := hP
        have hD9 := hD
        have hK9 := hK
        rw [hQ]
        exact W.zret (v := r_12) hx hb hr (kB01 hw_19_b) (fun t ht hW => ⟨⟨r_12, (a1_13, (-1), 6, true, xl_17), rfl, ⟨hw_19_b, (kPM_t (A := kUnitD bt en g7 n7 0) rfl (kUnitD_good hz7 0) (by omega) ((kUnitD_z a).trans (by unfold kUnitF; rw [← hw_6_1, ← hw_6_2]; rw [if_neg (by omega), if_neg (by omega)]; exact hw_19.1))), fun _ hbd => (hw_19_v hbd)⟩,  by rw [ht]; exact hP9, va_K.moved hW.alike hK9, hD9⟩, hS.F ht⟩) hS.2.2 dX10_unit_96
      · subst e9
        obtain ⟨hw_19_f, hw_19_n⟩ := hw_19.2.2.2 rfl
        subst hw_19_f
        subst hw_19_n
        have hP9 := hP
        have hD9 := hD
        have hK9 := hK
        rw [hQ]
        exact W.zret (v := r_12) hx hb hr (kB01 (by assumption)) (fun t ht hW => ⟨⟨r_12, (a1_13, (nI (a1_13)), xd_15, false, []), rfl, ⟨(by assumption), (kPM_f ((kUnitD_z a).trans (by unfold kUnitF; rw [← hw_6_1, ← hw_6_2]; rw [if_neg (by omega), if_neg (by omega)]; exact hw_19.1)) (by omega)), fun z9 => absurd z9 (by decide)⟩,  by rw [ht]; exact hP9, va_K.moved hW.alike hK9, hD9⟩, hS.F ht⟩) hS.2.2 dX10_unit_96
    · have hk_20 := kLr_e hw_6_0 (by omega) (k := 40) (by decide) c_9
      refine lv_aload_n hx hb dX10_unit_51 rfl (lv_at hl 1 rfl) ?_
      have bd_21 : a1_3 ≤ en := by omega
      have bd_22 : en ≤ 1680 := by omega
      have hCu := kCut (wc := [(jM, .inr (10, [(v0 : Value), (v1 : Value), (v2 : Value), (v3 : Value), .ref lt, .ref tx, (v6 : Value), (v7 : Value), (v8 : Value), .int (nI (be)), .int (nI (en)), .int (nI (a1_3)), .int (-1), .int 6, (v14 : Value), (v15 : Value), .ref q6, .ref q7, (v18 : Value), (v19 : Value), (v20 : Value), (v21 : Value), (v22 : Value), (v23 : Value), (v24 : Value), (v25 : Value), (v26 : Value), (v27 : Value), (v28 : Value), (v29 : Value), (v30 : Value), (v31 : Value), (v32 : Value), (v33 : Value), (v34 : Value), (v35 : Value), (v36 : Value), (v37 : Value), (v38 : Value), (v39 : Value), (v40 : Value), (v41 : Value), (v42 : Value), (v43 : Value), (v44 : Value), (v45 : Value), (v46 : Value), (v47 : Value), (v48 : Value), (v49 : Value), (v50 : Value), (v51 : Value)]))]) hP hD hS hA [0] rfl kc_nd_603 rfl
      have hPc := hCu.1
      have hDc := hCu.2.1
      have hFc := hCu.2.2
      have hKc := hK.sb (tys2 := []) [] rfl
      refine va_calli (va_runV (As := []) (rest := []) ⟨hx, hb, hml, hown, hts⟩ (s_goesIn10x_6 l dC dI jM ((v0 : Value) : Value) ((v1 : Value) : Value) ((v2 : Value) : Value) ((v3 : Value) : Value) ((v6 : Value) : Value) ((v7 : Value) : Value) ((v8 : Value) : Value) ((v14 : Value) : Value) ((v15 : Value) : Value) ((v18 : Value) : Value) ((v19 : Value) : Value) ((v20 : Value) : Value) ((v21 : Value) : Value) ((v22 : Value) : Value) ((v23 : Value) : Value) ((v24 : Value) : Value) ((v25 : Value) : Value) ((v26 : Value) : Value) ((v27 : Value) : Value) ((v28 : Value) : Value) ((v29 : Value) : Value) ((v30 : Value) : Value) ((v31 : Value) : Value) ((v32 : Value) : Value) ((v33 : Value) : Value) ((v34 : Value) : Value) ((v35 : Value) : Value) ((v36 : Value) : Value) ((v37 : Value) : Value) ((v38 : Value) : Value) ((v39 : Value) : Value) ((v40 : Value) : Value) ((v41 : Value) : Value) ((v42 : Value) : Value) ((v43 : Value) : Value) ((v44 : Value) : Value) ((v45 : Value) : Value) ((v46 : Value) : Value) ((v47 : Value) : Value) ((v48 : Value) : Value) ((v49 : Value) : Value) ((v50 : Value) : Value) ((v51 : Value) : Value) lt q6 q7 tx be en a1_3 bd_21 bd_22 H_5.size) (cwV 0 hts (kG (List.forall_mem_cons.mpr ⟨(List.mem_cons_of_mem _ (List.mem_append_left _ (List.mem_of_getElem? (i := 19) rfl))), (List.forall_mem_cons.mpr ⟨(List.mem_cons_of_mem _ (List.mem_append_left _ (List.mem_of_getElem? (i := 18) rfl))), (List.forall_mem_cons.mpr ⟨(List.mem_cons_of_mem _ (List.mem_append_left _ (List.mem_of_getElem? (i := 17) rfl))), (List.forall_mem_cons.mpr ⟨(List.mem_cons_of_mem _ (List.mem_append_left _ (List.mem_of_getElem? (i := 0) rfl))), (fun _ h => absurd h List.not_mem_nil)⟩)⟩)⟩)⟩) (kGV _ _ _ _) (fun _ h => List.mem_cons_of_mem _ (List.mem_append_right _ (List.mem_append_right _ (List.mem_append_right _ (List.mem_append_right _ (List.mem_append_right _ (List.mem_append_right _ (List.mem_append_left _ h)))))))) gw_s_goesIn10x_6) rfl rfl rfl ⟨rfl, hd_X10_goesIn⟩ ⟨(Nat.le_of_ble_eq_true rfl), (Nat.le_of_ble_eq_true rfl)⟩) (kW_V kT_blind kT_give (va_recv hKc hPc (ci := 10) (q0 := 0) rfl rfl) hPc hKc hDc) rfl rfl hl.1 rfl (lv_room (Nat.le_of_ble_eq_true rfl)) dX10_unit_52 ⟨(Nat.le_of_ble_eq_true rfl), (Nat.le_of_ble_eq_true rfl)⟩) hS (fun q _ h => hFc q h) hFc (fun r_23 _ t H_24 locs ht hvm hw hB hz1 hk1 hS => ?_)
      try dsimp only at hw
      have hPD : kPD dC dI A [(jM, .inr (10, [((v0 : Value) : Value), ((v1 : Value) : Value), ((v2 : Value) : Value), ((v3 : Value) : Value), .ref lt, .ref tx, ((v6 : Value) : Value), ((v7 : Value) : Value), ((v8 : Value) : Value), .int (nI (be)), .int (nI (en)), .int (nI (a1_3)), .int (nI (a1_3)), .int 6, ((v14 : Value) : Value), ((v15 : Value) : Value), .ref q6, .ref q7, ((v18 : Value) : Value), ((v19 : Value) : Value), ((v20 : Value) : Value), ((v21 : Value) : Value), ((v22 : Value) : Value), ((v23 : Value) : Value), ((v24 : Value) : Value), ((v25 : Value) : Value), ((v26 : Value) : Value), ((v27 : Value) : Value), ((v28 : Value) : Value), ((v29 : Value) : Value), ((v30 : Value) : Value), ((v31 : Value) : Value), ((v32 : Value) : Value), ((v33 : Value) : Value), ((v34 : Value) : Value), ((v35 : Value) : Value), ((v36 : Value) : Value), ((v37 : Value) : Value), ((v38 : Value) : Value), ((v39 : Value) : Value), ((v40 : Value) : Value), ((v41 : Value) : Value), ((v42 : Value) : Value), ((v43 : Value) : Value), ((v44 : Value) : Value), ((v45 : Value) : Value), ((v46 : Value) : Value), ((v47 : Value) : Value), ((v48 : Value) : Value), ((v49 : Value) : Value), ((v50 : Value) : Value), ((v51 : Value) : Value)])), (tx, .inl (cT, nT, .inl gT)), (lt, .inl (cE, 128, .inl gE))] H_24 := kJoinX hP hD [0] rfl hk1 hFc hB.1 ht hB.2.2 rfl [some 0, none, none] rfl rfl
      obtain ⟨hP, hD⟩ := hPD
      obtain rfl : r_23 = 0 := hw
      refine lv_if_ne (tgt := 60) hx hb dX10_unit_55 kc_t_55_5 (fun c_25 => absurd (by decide) c_25) (fun c_25 => ?_)
      refine lv_iconst (v := 0) hx hb dX10_unit_58 kc_i_0 ?_
      have hP9 := hP
      have hD9 := hD
      have hK9 := hK
      rw [hQ]
      exact W.zret (v := 0) hx hb hr rfl (fun t ht hW => ⟨⟨0, (a1_3, (nI (a1_3)), 6, false, []), rfl, ⟨(Or.inl rfl), (kPM_f ((kUnitD_z a).trans (by unfold kUnitF; rw [← hw_6_1, ← hw_6_2]; rw [if_neg (by omega), if_pos (by omega)]; rfl)) (by omega)), fun z9 => absurd z9 (by decide)⟩,  by rw [ht]; exact hP9, va_K.moved hW.alike hK9, hD9⟩, hS.F ht⟩) hS.2.2 dX10_unit_59
  · have hk_26 := kLr_e hw_6_0 (by omega) (k := 33) (by decide) c_7
    refine lv_aload_n hx hb dX10_unit_11 rfl (lv_at hl 1 rfl) ?_
    have bd_27 : a1_3 ≤ en := by omega
    have bd_28 : en ≤ 1680 := by omega
    have hCu := kCut (wc := [(jM, .inr (10, [(v0 : Value), (v1 : Value), (v2 : Value), (v3 : Value), .ref lt, .ref tx, (v6 : Value), (v7 : Value), (v8 : Value), .int (nI (be)), .int (nI (en)), .int (nI (a1_3)), .int (-1), .int 6, (v14 : Value), (v15 : Value), .ref q6, .ref q7, (v18 : Value), (v19 : Value), (v20 : Value), (v21 : Value), (v22 : Value), (v23 : Value), (v24 : Value), (v25 : Value), (v26 : Value), (v27 : Value), (v28 : Value), (v29 : Value), (v30 : Value), (v31 : Value), (v32 : Value), (v33 : Value), (v34 : Value), (v35 : Value), (v36 : Value), (v37 : Value), (v38 : Value), (v39 : Value), (v40 : Value), (v41 : Value), (v42 : Value), (v43 : Value), (v44 : Value), (v45 : Value), (v46 : Value), (v47 : Value), (v48 : Value), (v49 : Value), (v50 : Value), (v51 : Value)]))]) hP hD hS hA [0] rfl kc_nd_603 rfl
    have hPc := hCu.1
    have hDc := hCu.2.1
    have hFc := hCu.2.2
    have hKc := hK.sb (tys2 := []) [] rfl
    refine va_calli (va_runV (As := []) (rest := []) ⟨hx, hb, hml, hown, hts⟩ (s_goesIn10x_6 l dC dI jM ((v0 : Value) : Value) ((v1 : Value) : Value) ((v2 : Value) : Value) ((v3 : Value) : Value) ((v6 : Value) : Value) ((v7 : Value) : Value) ((v8 : Value) : Value) ((v14 : Value) : Value) ((v15 : Value) : Value) ((v18 : Value) : Value) ((v19 : Value) : Value) ((v20 : Value) : Value) ((v21 : Value) : Value) ((v22 : Value) : Value) ((v23 : Value) : Value) ((v24 : Value) : Value) ((v25 : Value) : Value) ((v26 : Value) : Value) ((v27 : Value) : Value) ((v28 : Value) : Value) ((v29 : Value) : Value) ((v30 : Value) : Value) ((v31 : Value) : Value) ((v32 : Value) : Value) ((v33 : Value) : Value) ((v34 : Value) : Value) ((v35 : Value) : Value) ((v36 : Value) : Value) ((v37 : Value) : Value) ((v38 : Value) : Value) ((v39 : Value) : Value) ((v40 : Value) : Value) ((v41 : Value) : Value) ((v42 : Value) : Value) ((v43 : Value) : Value) ((v44 : Value) : Value) ((v45 : Value) : Value) ((v46 : Value) : Value) ((v47 : Value) : Value) ((v48 : Value) : Value) ((v49 : Value) : Value) ((v50 : Value) : Value) ((v51 : Value) : Value) lt q6 q7 tx be en a1_3 bd_27 bd_28 H_5.size) (cwV 0 hts (kG (List.forall_mem_cons.mpr ⟨(List.mem_cons_of_mem _ (List.mem_append_left _ (List.mem_of_getElem? (i := 19) rfl))), (List.forall_mem_cons.mpr ⟨(List.mem_cons_of_mem _ (List.mem_append_left _ (List.mem_of_getElem? (i := 18) rfl))), (List.forall_mem_cons.mpr ⟨(List.mem_cons_of_mem _ (List.mem_append_left _ (List.mem_of_getElem? (i := 17) rfl))), (List.forall_mem_cons.mpr ⟨(List.mem_cons_of_mem _ (List.mem_append_left _ (List.mem_of_getElem? (i := 0) rfl))), (fun _ h => absurd h List.not_mem_nil)⟩)⟩)⟩)⟩) (kGV _ _ _ _) (fun _ h => List.mem_cons_of_mem _ (List.mem_append_right _ (List.mem_append_right _ (List.mem_append_right _ (List.mem_append_right _ (List.mem_append_right _ (List.mem_append_right _ (List.mem_append_left _ h)))))))) gw_s_goesIn10x_6) rfl rfl rfl ⟨rfl, hd_X10_goesIn⟩ ⟨(Nat.le_of_ble_eq_true rfl), (Nat.le_of_ble_eq_true rfl)⟩) (kW_V kT_blind kT_give (va_recv hKc hPc (ci := 10) (q0 := 0) rfl rfl) hPc hKc hDc) rfl rfl hl.1 rfl (lv_room (Nat.le_of_ble_eq_true rfl)) dX10_unit_12 ⟨(Nat.le_of_ble_eq_true rfl), (Nat.le_of_ble_eq_true rfl)⟩) hS (fun q _ h => hFc q h) hFc (fun r_29 _ t H_30 locs ht hvm hw hB hz1 hk1 hS => ?_)
    try dsimp only at hw
    have hPD : kPD dC dI A [(jM, .inr (10, [((v0 : Value) : Value), ((v1 : Value) : Value), ((v2 : Value) : Value), ((v3 : Value) : Value), .ref lt, .ref tx, ((v6 : Value) : Value), ((v7 : Value) : Value), ((v8 : Value) : Value), .int (nI (be)), .int (nI (en)), .int (nI (a1_3)), .int (nI (a1_3)), .int 6, ((v14 : Value) : Value), ((v15 : Value) : Value), .ref q6, .ref q7, ((v18 : Value) : Value), ((v19 : Value) : Value), ((v20 : Value) : Value), ((v21 : Value) : Value), ((v22 : Value) : Value), ((v23 : Value) : Value), ((v24 : Value) : Value), ((v25 : Value) : Value), ((v26 : Value) : Value), ((v27 : Value) : Value), ((v28 : Value) : Value), ((v29 : Value) : Value), ((v30 : Value) : Value), ((v31 : Value) : Value), ((v32 : Value) : Value), ((v33 : Value) : Value), ((v34 : Value) : Value), ((v35 : Value) : Value), ((v36 : Value) : Value), ((v37 : Value) : Value), ((v38 : Value) : Value), ((v39 : Value) : Value), ((v40 : Value) : Value), ((v41 : Value) : Value), ((v42 : Value) : Value), ((v43 : Value) : Value), ((v44 : Value) : Value), ((v45 : Value) : Value), ((v46 : Value) : Value), ((v47 : Value) : Value), ((v48 : Value) : Value), ((v49 : Value) : Value), ((v50 : Value) : Value), ((v51 : Value) : Value)])), (tx, .inl (cT, nT, .inl gT)), (lt, .inl (cE, 128, .inl gE))] H_30 := kJoinX hP hD [0] rfl hk1 hFc hB.1 ht hB.2.2 rfl [some 0, none, none] rfl rfl
    obtain ⟨hP, hD⟩ := hPD
    obtain rfl : r_29 = 0 := hw
    refine lv_if_ne (tgt := 20) hx hb dX10_unit_15 kc_t_15_5 (fun c_31 => absurd (by decide) c_31) (fun c_31 => ?_)
    refine lv_iconst (v := 0) hx hb dX10_unit_18 kc_i_0 ?_
    have hP9 := hP
    have hD9 := hD
    have hK9 := hK
    rw [hQ]
    exact W.zret (v := 0) hx hb hr rfl (fun t ht hW => ⟨⟨0, (a1_3, (nI (a1_3)), 6, false, []), rfl, ⟨(Or.inl rfl), (kPM_f ((kUnitD_z a).trans (by unfold kUnitF; rw [← hw_6_1, ← hw_6_2]; rw [if_pos (by omega)]; rfl)) (by omega)), fun z9 => absurd z9 (by decide)⟩,  by rw [ht]; exact hP9, va_K.moved hW.alike hK9, hD9⟩, hS.F ht⟩) hS.2.2 dX10_unit_19

theorem dX10_part_0 : decode cX10_part 0 = .ok (.iload_n 1, 1) := kDs0 kf_27 (by decide +kernel)
theorem dX10_part_1 : decode cX10_part 1 = .ok (.ifCond .eq 12, 3) := kDs4 kf_153 (by decide +kernel)
theorem dX10_part_13 : decode cX10_part 13 = .ok (.aload_n 0, 1) := kDs0 kf_42 (by decide +kernel)
theorem dX10_part_14 : decode cX10_part 14 = .ok (.invokevirtual 206, 3) := kDs2 kf_182 (by decide +kernel)
theorem dX10_part_17 : decode cX10_part 17 = .ok (.istore_n 3, 1) := kDs0 kf_62 (by decide +kernel)
theorem dX10_part_18 : decode cX10_part 18 = .ok (.aload_n 0, 1) := kDs0 kf_42 (by decide +kernel)
theorem dX10_part_19 : decode cX10_part 19 = .ok (.getfield 150, 3) := kDs2 kf_180 (by decide +kernel)
theorem dX10_part_22 : decode cX10_part 22 = .ok (.iconst (-1), 1) := kDs0 kf_2 (by decide +kernel)
theorem dX10_part_23 : decode cX10_part 23 = .ok (.if_icmp .ne 46, 3) := kDs4 kf_160 (by decide +kernel)
theorem dX10_part_26 : decode cX10_part 26 = .ok (.aload_n 0, 1) := kDs0 kf_42 (by decide +kernel)
theorem dX10_part_27 : decode cX10_part 27 = .ok (.invokevirtual 160, 3) := kDs2 kf_182 (by decide +kernel)
theorem dX10_part_30 : decode cX10_part 30 = .ok (.bipush 38, 2) := kDs3 kf_16 (by decide +kernel)
theorem dX10_part_32 : decode cX10_part 32 = .ok (.if_icmp .ne 37, 3) := kDs4 kf_160 (by decide +kernel)
theorem dX10_part_69 : decode cX10_part 69 = .ok (.iload_n 3, 1) := kDs0 kf_29 (by decide +kernel)
theorem dX10_part_70 : decode cX10_part 70 = .ok (.ireturn, 1) := kDs0 kf_172 (by decide +kernel)
theorem dX10_part_35 : decode cX10_part 35 = .ok (.aload_n 0, 1) := kDs0 kf_42 (by decide +kernel)
theorem dX10_part_36 : decode cX10_part 36 = .ok (.dup, 1) := kDs0 kf_89 (by decide +kernel)
theorem dX10_part_37 : decode cX10_part 37 = .ok (.getfield 141, 3) := kDs2 kf_180 (by decide +kernel)
theorem dX10_part_40 : decode cX10_part 40 = .ok (.iconst 1, 1) := kDs0 kf_4 (by decide +kernel)
theorem dX10_part_41 : decode cX10_part 41 = .ok (.iadd, 1) := kDs0 kf_96 (by decide +kernel)
theorem dX10_part_42 : decode cX10_part 42 = .ok (.putfield 141, 3) := kDs2 kf_181 (by decide +kernel)
theorem dX10_part_45 : decode cX10_part 45 = .ok (.aload_n 0, 1) := kDs0 kf_42 (by decide +kernel)
theorem dX10_part_46 : decode cX10_part 46 = .ok (.invokevirtual 206, 3) := kDs2 kf_182 (by decide +kernel)
theorem dX10_part_49 : decode cX10_part 49 = .ok (.istore 4, 2) := kDs1 kf_54 (by decide +kernel)
theorem dX10_part_51 : decode cX10_part 51 = .ok (.iload_n 3, 1) := kDs0 kf_29 (by decide +kernel)
theorem dX10_part_52 : decode cX10_part 52 = .ok (.ifCond .eq 12, 3) := kDs4 kf_153 (by decide +kernel)
theorem dX10_part_64 : decode cX10_part 64 = .ok (.iconst 0, 1) := kDs0 kf_3 (by decide +kernel)
theorem dX10_part_65 : decode cX10_part 65 = .ok (.istore_n 3, 1) := kDs0 kf_62 (by decide +kernel)
theorem dX10_part_66 : decode cX10_part 66 = .ok (.goto (-48), 3) := kDs4 kf_167 (by decide +kernel)
theorem dX10_part_55 : decode cX10_part 55 = .ok (.iload 4, 2) := kDs1 kf_21 (by decide +kernel)
theorem dX10_part_57 : decode cX10_part 57 = .ok (.ifCond .eq 7, 3) := kDs4 kf_153 (by decide +kernel)
theorem dX10_part_60 : decode cX10_part 60 = .ok (.iconst 1, 1) := kDs0 kf_4 (by decide +kernel)
theorem dX10_part_61 : decode cX10_part 61 = .ok (.goto 4, 3) := kDs4 kf_167 (by decide +kernel)
def w_s_part10x_6_0 : List Cond := .code yX10_part cX10_part 5 (some .boolean) :: wf_mq
theorem gw_s_part10x_6_0 : (w_s_part10x_6_0).all goodWord = true := kFamG rfl gf_mq
theorem hd_X10_part : yX10_part.cls ≠ "java/lang/invoke/MethodHandle" ∧ yX10_part.cls ≠ "java/lang/invoke/VarHandle" ∧ (parseMethodDescriptor yX10_part.desc).map (fun d => d.parameters.length) = some 2 := by decide +kernel
set_option maxHeartbeats 4000000 in
set_option maxRecDepth 100000 in
theorem s_part10x_6_0 (l : Launch) (dC : Nat → ClassId) (dI : Nat → Nat → Nat) (jM : Nat) (v0 : Value) (v1 : Value) (v2 : Value) (v3 : Value) (v6 : Value) (v7 : Value) (v8 : Value) (v14 : Value) (v15 : Value) (v18 : Value) (v19 : Value) (v20 : Value) (v21 : Value) (v22 : Value) (v23 : Value) (v24 : Value) (v25 : Value) (v26 : Value) (v27 : Value) (v28 : Value) (v29 : Value) (v30 : Value) (v31 : Value) (v32 : Value) (v33 : Value) (v34 : Value) (v35 : Value) (v36 : Value) (v37 : Value) (v38 : Value) (v39 : Value) (v40 : Value) (v41 : Value) (v42 : Value) (v43 : Value) (v44 : Value) (v45 : Value) (v46 : Value) (v47 : Value) (v48 : Value) (v49 : Value) (v50 : Value) (v51 : Value) (lt : Nat) (q6 : Nat) (q7 : Nat) (tx : Nat) (cT : ClassId) (nT : Nat) (gT : Nat → Int32) (be : Nat) (en : Nat) (a : Nat) (hbe : be + en ≤ nT) (hnT : nT ≤ 1680) (ha : a ≤ en) (bt : Nat → Nat) (hbr : ∀ j : Nat, j < en → gT (be + j) = kSg (bt j)) (hb8 : ∀ j : Nat, bt j < 256) (hb1 : ∀ j : Nat, j < en → 1 ≤ bt j) (hen9 : en ≤ 120) (cE : ClassId) (gE : Nat → Int32) (b6 : Nat) (n6 : Nat) (g6 : Nat → Int32) (hn6 : n6 ≤ 8) (hg6 : ∀ k : Nat, ∃ v : Nat, v < 128 ∧ g6 k = nI v) (b7 : Nat) (n7 : Nat) (g7 : Nat → Int32) (hn7 : n7 ≤ 8) (hg7 : ∀ k : Nat, ∃ v : Nat, v < 128 ∧ g7 k = nI v) (hz6 : kIx g6 n6 (nI 0) = n6) (hz7 : kIx g7 n7 (nI 0) = n7) (hl7 : ∀ c : Nat, c < 256 → kIx g7 n7 (nI c) < n7 → ¬ c = 91 ∧ ¬ (48 ≤ c ∧ c ≤ 57)) (p1 : Int32) (sz : Nat) : Met l yX10_part w_s_part10x_6_0 ({ frames := 12, cells := 0, slots := 0, locals := 720 }) (kW dC dI [.ref jM, .int 0, .int p1] [(jM, .inr (10, [v0, v1, v2, v3, .ref lt, .ref tx, v6, v7, v8, .int (nI (be)), .int (nI (en)), .int (nI (a)), .int (-1), .int 6, v14, v15, .ref q6, .ref q7, v18, v19, v20, v21, v22, v23, v24, v25, v26, v27, v28, v29, v30, v31, v32, v33, v34, v35, v36, v37, v38, v39, v40, v41, v42, v43, v44, v45, v46, v47, v48, v49, v50, v51])), (tx, .inl (cT, nT, .inl gT)), (lt, .inl (cE, 128, .inl gE))] [(cT, .byte), (cE, .int)] (kS2 q6 b6 n6 g6 q7 b7 n7 g7 (va_A [(jM, .inr (10, [v0, v1, v2, v3, .ref lt, .ref tx, v6, v7, v8, .int (nI (be)), .int (nI (en)), .int (nI (a)), .int (-1), .int 6, v14, v15, .ref q6, .ref q7, v18, v19, v20, v21, v22, v23, v24, v25, v26, v27, v28, v29, v30, v31, v32, v33, v34, v35, v36, v37, v38, v39, v40, v41, v42, v43, v44, v45, v46, v47, v48, v49, v50, v51])), (tx, .inl (cT, nT, .inl gT)), (lt, .inl (cE, 128, .inl gE))] sz)) sz) (va_Qi (fun (r : Int32) (u : Nat × Int32 × Int32 × Bool × (List Int32)) => match u with | (a1, xf, xd, xo, xl) => ((r = 0 ∨ r = 1) ∧ (kPM (kTruD bt en g7 n7 0 a) en a 6 xo a1 xl xf xd ∧ (xo = true → (∀ j : Nat, j < n7 → kBd (kLt gE g7 j)) → r = kVal (kLt gE g7) xl)))) (fun (u : Nat × Int32 × Int32 × Bool × (List Int32)) => match u with | (a1, xf, xd, xo, xl) => fun t : State => kB dC dI [(jM, .inr (10, [v0, v1, v2, v3, .ref lt, .ref tx, v6, v7, v8, .int (nI (be)), .int (nI (en)), .int (nI (a1)), .int xf, .int xd, v14, v15, .ref q6, .ref q7, v18, v19, v20, v21, v22, v23, v24, v25, v26, v27, v28, v29, v30, v31, v32, v33, v34, v35, v36, v37, v38, v39, v40, v41, v42, v43, v44, v45, v46, v47, v48, v49, v50, v51])), (tx, .inl (cT, nT, .inl gT)), (lt, .inl (cE, 128, .inl gE))] [(cT, .byte), (cE, .int)] (va_A [(jM, .inr (10, [v0, v1, v2, v3, .ref lt, .ref tx, v6, v7, v8, .int (nI (be)), .int (nI (en)), .int (nI (a)), .int (-1), .int 6, v14, v15, .ref q6, .ref q7, v18, v19, v20, v21, v22, v23, v24, v25, v26, v27, v28, v29, v30, v31, v32, v33, v34, v35, v36, v37, v38, v39, v40, v41, v42, v43, v44, v45, v46, v47, v48, v49, v50, v51])), (tx, .inl (cT, nT, .inl gT)), (lt, .inl (cE, 128, .inl gE))] sz) t) (va_A [(jM, .inr (10, [v0, v1, v2, v3, .ref lt, .ref tx, v6, v7, v8, .int (nI (be)), .int (nI (en)), .int (nI (a)), .int (-1), .int 6, v14, v15, .ref q6, .ref q7, v18, v19, v20, v21, v22, v23, v24, v25, v26, v27, v28, v29, v30, v31, v32, v33, v34, v35, v36, v37, v38, v39, v40, v41, v42, v43, v44, v45, v46, v47, v48, v49, v50, v51])), (tx, .inl (cT, nT, .inl gT)), (lt, .inl (cE, 128, .inl gE))] sz)) 0 0 (va_A [(jM, .inr (10, [v0, v1, v2, v3, .ref lt, .ref tx, v6, v7, v8, .int (nI (be)), .int (nI (en)), .int (nI (a)), .int (-1), .int 6, v14, v15, .ref q6, .ref q7, v18, v19, v20, v21, v22, v23, v24, v25, v26, v27, v28, v29, v30, v31, v32, v33, v34, v35, v36, v37, v38, v39, v40, v41, v42, v43, v44, v45, v46, v47, v48, v49, v50, v51])), (tx, .inl (cT, nT, .inl gT)), (lt, .inl (cE, 128, .inl gE))] sz) := by
  refine Met.ofW (cc := cX10_part) (maxL := 5) (ret := (some .boolean)) (by decide) rfl ?_
  intro p e s m args below meth c s₁ B hml hv
  obtain ⟨rfl, hsz, hP, hK, hD0, hX⟩ := hv
  have hx := B.exec
  have hb := B.bytes
  have hr := B.returns
  have hts := atoms_spec (ws := w_s_part10x_6_0) B.pre
  have hown : s.vm.findClass RX10 = some m.cls := findClass_of_methodNamed B.named
  have hlocks := B.notSynchronized
  subst hsz
  have hD := hD0.self (sz := s.heap.size)
  generalize hAe : va_A [(jM, .inr (10, [v0, v1, v2, v3, .ref lt, .ref tx, v6, v7, v8, .int (nI (be)), .int (nI (en)), .int (nI (a)), .int (-1), .int 6, v14, v15, .ref q6, .ref q7, v18, v19, v20, v21, v22, v23, v24, v25, v26, v27, v28, v29, v30, v31, v32, v33, v34, v35, v36, v37, v38, v39, v40, v41, v42, v43, v44, v45, v46, v47, v48, v49, v50, v51])), (tx, .inl (cT, nT, .inl gT)), (lt, .inl (cE, 128, .inl gE))] s.heap.size = A at hD hX ⊢
  have hA : ∀ q : Nat, s.heap.size ≤ q → A q := fun q h => by rw [← hAe]; exact Or.inr h
  have hS : va_S A s.heap s.heap [] := va_S.rf
  have hP : va_P (dC, dI) vwCl [(jM, .inr (10, [v0, v1, v2, v3, .ref lt, .ref tx, v6, v7, v8, .int (nI (be)), .int (nI (en)), .int (nI (a)), .int (-1), .int 6, v14, v15, .ref q6, .ref q7, v18, v19, v20, v21, v22, v23, v24, v25, v26, v27, v28, v29, v30, v31, v32, v33, v34, v35, v36, v37, v38, v39, v40, v41, v42, v43, v44, v45, v46, v47, v48, v49, v50, v51])), (tx, .inl (cT, nT, .inl gT)), (lt, .inl (cE, 128, .inl gE))] s.heap := hP
  have hl := lv_entry ([.ref jM, .int 0, .int p1]) (n := 5) (Nat.le_of_ble_eq_true rfl)
  rw [lg_entry_eq]
  generalize (lg_sl ([.ref jM, .int 0, .int p1]) ++ List.replicate (5 - (lg_sl ([.ref jM, .int 0, .int p1])).length) Slot.unset).toArray = ls at hl ⊢
  have hl : lv_has ls 5 [(0, .ref jM), (1, .int 0), (2, .int p1)] := hl
  refine kQ (fun Q hQ => ?_)
  refine lv_iload_n hx hb dX10_part_0 rfl (lv_at hl 1 rfl) ?_
  refine lv_if_eq (tgt := 13) hx hb dX10_part_1 kc_t_1_12 (fun c_1 => ?_) (fun c_1 => absurd (by decide) c_1)
  refine lv_aload_n hx hb dX10_part_13 rfl (lv_at hl 0 rfl) ?_
  have bd_2 : be + en ≤ nT := by omega
  have hCu := kCut (wc := [(jM, .inr (10, [v0, v1, v2, v3, .ref lt, .ref tx, v6, v7, v8, .int (nI (be)), .int (nI (en)), .int (nI (a)), .int (-1), .int 6, v14, v15, .ref q6, .ref q7, v18, v19, v20, v21, v22, v23, v24, v25, v26, v27, v28, v29, v30, v31, v32, v33, v34, v35, v36, v37, v38, v39, v40, v41, v42, v43, v44, v45, v46, v47, v48, v49, v50, v51])), (tx, .inl (cT, nT, .inl gT)), (lt, .inl (cE, 128, .inl gE))]) hP hD hS hA [0, 1, 2] rfl kc_nd_138 rfl
  have hPc := hCu.1
  have hDc := hCu.2.1
  have hFc := hCu.2.2
  have hKc := hK.sb (tys2 := [(cT, .byte), (cE, .int)]) [0, 1] rfl
  refine va_calli (va_runV (As := []) (rest := []) ⟨hx, hb, hml, hown, hts⟩ (s_unit10x_6 l dC dI jM (v0 : Value) (v1 : Value) (v2 : Value) (v3 : Value) (v6 : Value) (v7 : Value) (v8 : Value) (v14 : Value) (v15 : Value) (v18 : Value) (v19 : Value) (v20 : Value) (v21 : Value) (v22 : Value) (v23 : Value) (v24 : Value) (v25 : Value) (v26 : Value) (v27 : Value) (v28 : Value) (v29 : Value) (v30 : Value) (v31 : Value) (v32 : Value) (v33 : Value) (v34 : Value) (v35 : Value) (v36 : Value) (v37 : Value) (v38 : Value) (v39 : Value) (v40 : Value) (v41 : Value) (v42 : Value) (v43 : Value) (v44 : Value) (v45 : Value) (v46 : Value) (v47 : Value) (v48 : Value) (v49 : Value) (v50 : Value) (v51 : Value) lt q6 q7 tx cT nT gT be en a bd_2 hnT ha bt hbr hb8 hb1 hen9 cE gE b6 n6 g6 hn6 hg6 b7 n7 g7 hn7 hg7 hz6 hz7 hl7 s.heap.size) (cwV 0 hts (kG (List.forall_mem_cons.mpr ⟨(List.mem_cons_of_mem _ (List.mem_append_left _ (List.mem_of_getElem? (i := 44) rfl))), (List.forall_mem_cons.mpr ⟨(List.mem_cons_of_mem _ (List.mem_append_left _ (List.mem_of_getElem? (i := 43) rfl))), (List.forall_mem_cons.mpr ⟨(List.mem_cons_of_mem _ (List.mem_append_left _ (List.mem_of_getElem? (i := 42) rfl))), (List.forall_mem_cons.mpr ⟨(List.mem_cons_of_mem _ (List.mem_append_left _ (List.mem_of_getElem? (i := 0) rfl))), (fun _ h => absurd h List.not_mem_nil)⟩)⟩)⟩)⟩) (kGV _ _ _ _) (kFam (List.mem_cons_of_mem _ (List.mem_append_left _ (List.mem_of_getElem? (i := 41) rfl)))) gw_s_unit10x_6) rfl rfl rfl ⟨rfl, hd_X10_unit⟩ ⟨(Nat.le_of_ble_eq_true rfl), (Nat.le_of_ble_eq_true rfl)⟩) (kW_V kS2_blind (kS2_give hX hS hFc) (va_recv hKc hPc (ci := 10) (q0 := 0) rfl rfl) hPc hKc hDc) rfl rfl hl.1 rfl (lv_room (Nat.le_of_ble_eq_true rfl)) dX10_part_14 ⟨(Nat.le_of_ble_eq_true rfl), (Nat.le_of_ble_eq_true rfl)⟩) hS (fun q _ h => hFc q h) hFc (fun r_3 => kU5 (fun a1_4 xf_5 xd_6 xo_7 xl_8 t H_9 locs ht hvm hw hB hz1 hk1 hS => ?_))
  try dsimp only at hw
  have hPD : kPD dC dI A [(jM, .inr (10, [(v0 : Value), (v1 : Value), (v2 : Value), (v3 : Value), .ref lt, .ref tx, (v6 : Value), (v7 : Value), (v8 : Value), .int (nI (be)), .int (nI (en)), .int (nI (a1_4)), .int xf_5, .int xd_6, (v14 : Value), (v15 : Value), .ref q6, .ref q7, (v18 : Value), (v19 : Value), (v20 : Value), (v21 : Value), (v22 : Value), (v23 : Value), (v24 : Value), (v25 : Value), (v26 : Value), (v27 : Value), (v28 : Value), (v29 : Value), (v30 : Value), (v31 : Value), (v32 : Value), (v33 : Value), (v34 : Value), (v35 : Value), (v36 : Value), (v37 : Value), (v38 : Value), (v39 : Value), (v40 : Value), (v41 : Value), (v42 : Value), (v43 : Value), (v44 : Value), (v45 : Value), (v46 : Value), (v47 : Value), (v48 : Value), (v49 : Value), (v50 : Value), (v51 : Value)])), (tx, .inl (cT, nT, .inl gT)), (lt, .inl (cE, 128, .inl gE))] H_9 := kJoinX hP hD [0, 1, 2] rfl hk1 hFc hB.1 ht hB.2.2 rfl [some 0, some 1, some 2] rfl rfl
  obtain ⟨hP, hD⟩ := hPD
  have hw_10 := hw
  have hw_10_b := hw_10.1
  replace hw_10 := hw_10.2
  have hw_10_w := hw_10.2
  replace hw_10 := hw_10.1
  have hw_10_k := hw_10.2.1
  rcases Bool.eq_false_or_eq_true xo_7 with e9 | e9
  · subst e9
    have hw_10_v := hw_10_w rfl
    obtain ⟨hw_10_f, hw_10_d, hw_10_l, hw_10_p⟩ := hw_10.2.2.1 rfl
    subst hw_10_f
    subst hw_10_d
    refine lv_istore_n hx hb dX10_part_17 rfl hl kc_l_3_5 (kTo [(3, .int r_3), (0, .ref jM), (1, .int 0), (2, .int p1)]) (fun ls hl => ?_)
    have lp_k_11 : ∀ (n9 : Nat) (i : Nat) (xb : Int32) (xl : List Int32) (xc : Nat) (ivk_11_0 : (a < i ∧ i ≤ en)) (ivk_11_1 : xc < i) (ivk_11_2 : kLoop bt en 38 38 (kUnitD bt en g7 n7 0) (120 - xc) i xl = kTruD bt en g7 n7 0 a) (ivk_11_3 : (xb = 0 ∨ xb = 1)) (ivk_11_4 : ((∀ j : Nat, j < n7 → kBd (kLt gE g7 j)) → xb = kVal (kLt gE g7) xl)) (ivk_11_5 : kHb n7 5 xl) (H : Heap) (locs : List Loc) (_ : va_P (dC, dI) vwCl [(jM, .inr (10, [(v0 : Value), (v1 : Value), (v2 : Value), (v3 : Value), .ref lt, .ref tx, (v6 : Value), (v7 : Value), (v8 : Value), .int (nI (be)), .int (nI (en)), .int (nI (i)), .int (-1), .int 6, (v14 : Value), (v15 : Value), .ref q6, .ref q7, (v18 : Value), (v19 : Value), (v20 : Value), (v21 : Value), (v22 : Value), (v23 : Value), (v24 : Value), (v25 : Value), (v26 : Value), (v27 : Value), (v28 : Value), (v29 : Value), (v30 : Value), (v31 : Value), (v32 : Value), (v33 : Value), (v34 : Value), (v35 : Value), (v36 : Value), (v37 : Value), (v38 : Value), (v39 : Value), (v40 : Value), (v41 : Value), (v42 : Value), (v43 : Value), (v44 : Value), (v45 : Value), (v46 : Value), (v47 : Value), (v48 : Value), (v49 : Value), (v50 : Value), (v51 : Value)])), (tx, .inl (cT, nT, .inl gT)), (lt, .inl (cE, 128, .inl gE))] H) (_ : va_D A [(jM, .inr (10, [(v0 : Value), (v1 : Value), (v2 : Value), (v3 : Value), .ref lt, .ref tx, (v6 : Value), (v7 : Value), (v8 : Value), .int (nI (be)), .int (nI (en)), .int (nI (i)), .int (-1), .int 6, (v14 : Value), (v15 : Value), .ref q6, .ref q7, (v18 : Value), (v19 : Value), (v20 : Value), (v21 : Value), (v22 : Value), (v23 : Value), (v24 : Value), (v25 : Value), (v26 : Value), (v27 : Value), (v28 : Value), (v29 : Value), (v30 : Value), (v31 : Value), (v32 : Value), (v33 : Value), (v34 : Value), (v35 : Value), (v36 : Value), (v37 : Value), (v38 : Value), (v39 : Value), (v40 : Value), (v41 : Value), (v42 : Value), (v43 : Value), (v44 : Value), (v45 : Value), (v46 : Value), (v47 : Value), (v48 : Value), (v49 : Value), (v50 : Value), (v51 : Value)])), (tx, .inl (cT, nT, .inl gT)), (lt, .inl (cE, 128, .inl gE))]) (_ : va_S A s.heap H locs) (ls : Array Slot) (_ : lv_has ls 5 [(3, .int xb), (0, .ref jM), (1, .int 0), (2, .int p1)]) (_ : en - i < n9), W p l e (headSpec w_s_part10x_6_0 ({ frames := 12, cells := 0, slots := 0, locals := 720 })).room s m (#[.ref jM, .int 0, .int p1] : Array Value) below meth c H locs 0 0 Q (F0 m 18 ls []) := by
      intro n9
      induction n9 with
      | zero => intro i xb xl xc ivk_11_0 ivk_11_1 ivk_11_2 ivk_11_3 ivk_11_4 ivk_11_5 H locs hP hD hS ls hl hm9; exact absurd hm9 (Nat.not_lt_zero _)
      | succ n9 ih_k_11 =>
        intro i xb xl xc ivk_11_0 ivk_11_1 ivk_11_2 ivk_11_3 ivk_11_4 ivk_11_5 H locs hP hD hS ls hl hm9
        refine lv_aload_n hx hb dX10_part_18 rfl (lv_at hl 1 rfl) ?_
        refine va_get (D := (dC, dI)) (ci := 10) (v := .int (-1)) (C := RX10) (T := TX10) (N := 52) hx hb hts (fun _ h => List.mem_cons_of_mem _ (List.mem_append_right _ (List.mem_append_right _ (List.mem_append_left _ h)))) hown hK hP 0 rfl rfl 12 kc_l_12_52 (hts (.fieldLink RX10 150 "NotEndedModel" "fault" "I") (List.mem_cons_of_mem _ (List.mem_append_left _ (List.mem_of_getElem? (i := 10) rfl)))) (fun _ h9 => h9) rfl dX10_part_19 ?_
        refine lv_iconst (v := (-1)) hx hb dX10_part_22 kc_i_m1 ?_
        refine lv_icmp_ne (tgt := 69) hx hb dX10_part_23 kc_t_23_46 (fun c_12 => absurd (by decide) c_12) (fun c_12 => ?_)
        refine lv_aload_n hx hb dX10_part_26 rfl (lv_at hl 1 rfl) ?_
        have bd_13 : i ≤ en := by omega
        have hCu := kCut (wc := [(jM, .inr (10, [(v0 : Value), (v1 : Value), (v2 : Value), (v3 : Value), .ref lt, .ref tx, (v6 : Value), (v7 : Value), (v8 : Value), .int (nI (be)), .int (nI (en)), .int (nI (i)), .int (-1), .int 6, (v14 : Value), (v15 : Value), .ref q6, .ref q7, (v18 : Value), (v19 : Value), (v20 : Value), (v21 : Value), (v22 : Value), (v23 : Value), (v24 : Value), (v25 : Value), (v26 : Value), (v27 : Value), (v28 : Value), (v29 : Value), (v30 : Value), (v31 : Value), (v32 : Value), (v33 : Value), (v34 : Value), (v35 : Value), (v36 : Value), (v37 : Value), (v38 : Value), (v39 : Value), (v40 : Value), (v41 : Value), (v42 : Value), (v43 : Value), (v44 : Value), (v45 : Value), (v46 : Value), (v47 : Value), (v48 : Value), (v49 : Value), (v50 : Value), (v51 : Value)])), (tx, .inl (cT, nT, .inl gT))]) hP hD hS hA [0, 1] rfl kc_nd_434 rfl
        have hPc := hCu.1
        have hDc := hCu.2.1
        have hFc := hCu.2.2
        have hKc := hK.sb (tys2 := [(cT, .byte)]) [0] rfl
        refine va_calli (va_runV (As := []) (rest := []) ⟨hx, hb, hml, hown, hts⟩ (s_look10x l dC dI jM ((v0 : Value) : Value) ((v1 : Value) : Value) ((v2 : Value) : Value) ((v3 : Value) : Value) ((v6 : Value) : Value) ((v7 : Value) : Value) ((v8 : Value) : Value) (.int (-1) : Value) (.int 6 : Value) ((v14 : Value) : Value) ((v15 : Value) : Value) ((v18 : Value) : Value) ((v19 : Value) : Value) ((v20 : Value) : Value) ((v21 : Value) : Value) ((v22 : Value) : Value) ((v23 : Value) : Value) ((v24 : Value) : Value) ((v25 : Value) : Value) ((v26 : Value) : Value) ((v27 : Value) : Value) ((v28 : Value) : Value) ((v29 : Value) : Value) ((v30 : Value) : Value) ((v31 : Value) : Value) ((v32 : Value) : Value) ((v33 : Value) : Value) ((v34 : Value) : Value) ((v35 : Value) : Value) ((v36 : Value) : Value) ((v37 : Value) : Value) ((v38 : Value) : Value) ((v39 : Value) : Value) ((v40 : Value) : Value) ((v41 : Value) : Value) ((v42 : Value) : Value) ((v43 : Value) : Value) ((v44 : Value) : Value) ((v45 : Value) : Value) ((v46 : Value) : Value) ((v47 : Value) : Value) ((v48 : Value) : Value) ((v49 : Value) : Value) ((v50 : Value) : Value) ((v51 : Value) : Value) lt q6 q7 tx cT nT gT be en i bd_2 hnT bd_13 bt hbr hb8 hb1 hen9 H.size) (cwV 0 hts (kG (List.forall_mem_cons.mpr ⟨(List.mem_cons_of_mem _ (List.mem_append_left _ (List.mem_of_getElem? (i := 3) rfl))), (List.forall_mem_cons.mpr ⟨(List.mem_cons_of_mem _ (List.mem_append_left _ (List.mem_of_getElem? (i := 2) rfl))), (List.forall_mem_cons.mpr ⟨(List.mem_cons_of_mem _ (List.mem_append_left _ (List.mem_of_getElem? (i := 1) rfl))), (List.forall_mem_cons.mpr ⟨(List.mem_cons_of_mem _ (List.mem_append_left _ (List.mem_of_getElem? (i := 0) rfl))), (fun _ h => absurd h List.not_mem_nil)⟩)⟩)⟩)⟩) (kGV _ _ _ _) (fun _ h => List.mem_cons_of_mem _ (List.mem_append_right _ (List.mem_append_left _ h))) gw_s_look10x) rfl rfl rfl ⟨rfl, hd_X10_look⟩ ⟨(Nat.le_of_ble_eq_true rfl), (Nat.le_of_ble_eq_true rfl)⟩) (kW_V kT_blind kT_give (va_recv hKc hPc (ci := 10) (q0 := 0) rfl rfl) hPc hKc hDc) rfl rfl hl.1 rfl (lv_room (Nat.le_of_ble_eq_true rfl)) dX10_part_27 ⟨(Nat.le_of_ble_eq_true rfl), (Nat.le_of_ble_eq_true rfl)⟩) hS (fun q _ h => hFc q h) hFc (fun r_14 => kU2 (fun a1_15 ch_16 t H_17 locs ht hvm hw hB hz1 hk1 hS => ?_))
        try dsimp only at hw
        have hPD : kPD dC dI A [(jM, .inr (10, [((v0 : Value) : Value), ((v1 : Value) : Value), ((v2 : Value) : Value), ((v3 : Value) : Value), .ref lt, .ref tx, ((v6 : Value) : Value), ((v7 : Value) : Value), ((v8 : Value) : Value), .int (nI (be)), .int (nI (en)), .int (nI (a1_15)), .int (-1), .int 6, ((v14 : Value) : Value), ((v15 : Value) : Value), .ref q6, .ref q7, ((v18 : Value) : Value), ((v19 : Value) : Value), ((v20 : Value) : Value), ((v21 : Value) : Value), ((v22 : Value) : Value), ((v23 : Value) : Value), ((v24 : Value) : Value), ((v25 : Value) : Value), ((v26 : Value) : Value), ((v27 : Value) : Value), ((v28 : Value) : Value), ((v29 : Value) : Value), ((v30 : Value) : Value), ((v31 : Value) : Value), ((v32 : Value) : Value), ((v33 : Value) : Value), ((v34 : Value) : Value), ((v35 : Value) : Value), ((v36 : Value) : Value), ((v37 : Value) : Value), ((v38 : Value) : Value), ((v39 : Value) : Value), ((v40 : Value) : Value), ((v41 : Value) : Value), ((v42 : Value) : Value), ((v43 : Value) : Value), ((v44 : Value) : Value), ((v45 : Value) : Value), ((v46 : Value) : Value), ((v47 : Value) : Value), ((v48 : Value) : Value), ((v49 : Value) : Value), ((v50 : Value) : Value), ((v51 : Value) : Value)])), (tx, .inl (cT, nT, .inl gT)), (lt, .inl (cE, 128, .inl gE))] H_17 := kJoinX hP hD [0, 1] rfl hk1 hFc hB.1 ht hB.2.2 rfl [some 0, some 1, none] rfl rfl
        obtain ⟨hP, hD⟩ := hPD
        have hw_18 := hw
        have hw_18_0 := hw_18.1
        have hw_18_1 := hw_18.2.1
        have hw_18_2 := hw_18.2.2.1
        have hw_18_3 := hw_18.2.2.2.1
        have hw_18_4 := hw_18.2.2.2.2.1
        have hw_18_5 := hw_18.2.2.2.2.2.1
        have hw_18_6 := hw_18.2.2.2.2.2.2.1
        have hw_18_7 := hw_18.2.2.2.2.2.2.2
        clear hw_18
        refine lv_bipush (v := 38) hx hb dX10_part_30 kc_b_38 ?_
        refine lv_icmp_ne (tgt := 69) hx hb dX10_part_32 kc_t_32_37 (fun c_19 => ?_) (fun c_19 => ?_)
        · have hk_20 := kLr_n hw_18_0 (by omega) (k := 38) (by decide) c_19
          refine lv_iload_n hx hb dX10_part_69 rfl (lv_at hl 0 rfl) ?_
          have hP9 := hP
          have hD9 := hD
          have hK9 := hK
          rw [hQ]
          exact W.zret (v := xb) hx hb hr (kB01 (by assumption)) (fun t ht hW => ⟨⟨xb, (a1_15, (-1), 6, true, xl), rfl, ⟨(by assumption), (kPM_t (A := kTruD bt en g7 n7 0) rfl (kTruD_good hz7 0) (by omega) (by rw [← ivk_11_2, show 120 - xc = (119 - xc) + 1 by omega, kLoop_e (by rw [← hw_18_1]; omega), ← hw_18_2])), fun _ hbd => (ivk_11_4 hbd)⟩,  by rw [ht]; exact hP9, va_K.moved hW.alike hK9, hD9⟩, hS.F ht⟩) hS.2.2 dX10_part_70
        · have hk_21 := kLr_e hw_18_0 (by omega) (k := 38) (by decide) c_19
          refine lv_aload_n hx hb dX10_part_35 rfl (lv_at hl 1 rfl) ?_
          refine lv_dup hx hb dX10_part_36 rfl ?_
          refine va_get (D := (dC, dI)) (ci := 10) (v := .int (nI (a1_15))) (C := RX10) (T := TX10) (N := 52) hx hb hts (fun _ h => List.mem_cons_of_mem _ (List.mem_append_right _ (List.mem_append_right _ (List.mem_append_left _ h)))) hown hK hP 0 rfl rfl 11 kc_l_11_52 (hts (.fieldLink RX10 141 "NotEndedModel" "at" "I") (List.mem_cons_of_mem _ (List.mem_append_left _ (List.mem_of_getElem? (i := 13) rfl)))) (fun _ h9 => h9) rfl dX10_part_37 ?_
          refine lv_iconst (v := 1) hx hb dX10_part_40 kc_i_1 ?_
          refine lv_iadd hx hb dX10_part_41 ?_
          refine lv_topi (fun y_22 ey_22 => ?_)
          obtain rfl : y_22 = nI (a1_15 + 1) := ey_22.trans (nI_add (a1_15) (1))
          refine va_put (D := (dC, dI)) (ci := 10) (v := .int (nI (a1_15 + 1))) (ty := tyX10 11) (C := RX10) (T := TX10) (N := 52) hx hb hts (fun _ h => List.mem_cons_of_mem _ (List.mem_append_right _ (List.mem_append_right _ (List.mem_append_left _ h)))) tyX10 tyX10_ok nmX10 hown hK hP hD hS 0 rfl rfl 11 kc_l_11_52 (hts (.fieldLink RX10 141 "NotEndedModel" "at" "I") (List.mem_cons_of_mem _ (List.mem_append_left _ (List.mem_of_getElem? (i := 13) rfl)))) (fun _ h9 => h9) rfl (tyX10_ok 11 kc_l_11_52) rfl rfl (Nat.le_of_ble_eq_true rfl) dX10_part_42 (fun H locs hP hD hS => ?_)
          have hPD : kPD dC dI A [(jM, .inr (10, [((v0 : Value) : Value), ((v1 : Value) : Value), ((v2 : Value) : Value), ((v3 : Value) : Value), .ref lt, .ref tx, ((v6 : Value) : Value), ((v7 : Value) : Value), ((v8 : Value) : Value), .int (nI (be)), .int (nI (en)), .int (nI (a1_15 + 1)), .int (-1), .int 6, ((v14 : Value) : Value), ((v15 : Value) : Value), .ref q6, .ref q7, ((v18 : Value) : Value), ((v19 : Value) : Value), ((v20 : Value) : Value), ((v21 : Value) : Value), ((v22 : Value) : Value), ((v23 : Value) : Value), ((v24 : Value) : Value), ((v25 : Value) : Value), ((v26 : Value) : Value), ((v27 : Value) : Value), ((v28 : Value) : Value), ((v29 : Value) : Value), ((v30 : Value) : Value), ((v31 : Value) : Value), ((v32 : Value) : Value), ((v33 : Value) : Value), ((v34 : Value) : Value), ((v35 : Value) : Value), ((v36 : Value) : Value), ((v37 : Value) : Value), ((v38 : Value) : Value), ((v39 : Value) : Value), ((v40 : Value) : Value), ((v41 : Value) : Value), ((v42 : Value) : Value), ((v43 : Value) : Value), ((v44 : Value) : Value), ((v45 : Value) : Value), ((v46 : Value) : Value), ((v47 : Value) : Value), ((v48 : Value) : Value), ((v49 : Value) : Value), ((v50 : Value) : Value), ((v51 : Value) : Value)])), (tx, .inl (cT, nT, .inl gT)), (lt, .inl (cE, 128, .inl gE))] H := ⟨hP, hD⟩
          obtain ⟨hP, hD⟩ := hPD
          refine lv_aload_n hx hb dX10_part_45 rfl (lv_at hl 1 rfl) ?_
          have bd_23 : (a1_15 + 1) ≤ en := by omega
          have hCu := kCut (wc := [(jM, .inr (10, [((v0 : Value) : Value), ((v1 : Value) : Value), ((v2 : Value) : Value), ((v3 : Value) : Value), .ref lt, .ref tx, ((v6 : Value) : Value), ((v7 : Value) : Value), ((v8 : Value) : Value), .int (nI (be)), .int (nI (en)), .int (nI (a1_15 + 1)), .int (-1), .int 6, ((v14 : Value) : Value), ((v15 : Value) : Value), .ref q6, .ref q7, ((v18 : Value) : Value), ((v19 : Value) : Value), ((v20 : Value) : Value), ((v21 : Value) : Value), ((v22 : Value) : Value), ((v23 : Value) : Value), ((v24 : Value) : Value), ((v25 : Value) : Value), ((v26 : Value) : Value), ((v27 : Value) : Value), ((v28 : Value) : Value), ((v29 : Value) : Value), ((v30 : Value) : Value), ((v31 : Value) : Value), ((v32 : Value) : Value), ((v33 : Value) : Value), ((v34 : Value) : Value), ((v35 : Value) : Value), ((v36 : Value) : Value), ((v37 : Value) : Value), ((v38 : Value) : Value), ((v39 : Value) : Value), ((v40 : Value) : Value), ((v41 : Value) : Value), ((v42 : Value) : Value), ((v43 : Value) : Value), ((v44 : Value) : Value), ((v45 : Value) : Value), ((v46 : Value) : Value), ((v47 : Value) : Value), ((v48 : Value) : Value), ((v49 : Value) : Value), ((v50 : Value) : Value), ((v51 : Value) : Value)])), (tx, .inl (cT, nT, .inl gT)), (lt, .inl (cE, 128, .inl gE))]) hP hD hS hA [0, 1, 2] rfl kc_nd_138 rfl
          have hPc := hCu.1
          have hDc := hCu.2.1
          have hFc := hCu.2.2
          have hKc := hK.sb (tys2 := [(cT, .byte), (cE, .int)]) [0, 1] rfl
          refine va_calli (va_runV (As := []) (rest := []) ⟨hx, hb, hml, hown, hts⟩ (s_unit10x_6 l dC dI jM (((v0 : Value) : Value) : Value) (((v1 : Value) : Value) : Value) (((v2 : Value) : Value) : Value) (((v3 : Value) : Value) : Value) (((v6 : Value) : Value) : Value) (((v7 : Value) : Value) : Value) (((v8 : Value) : Value) : Value) (((v14 : Value) : Value) : Value) (((v15 : Value) : Value) : Value) (((v18 : Value) : Value) : Value) (((v19 : Value) : Value) : Value) (((v20 : Value) : Value) : Value) (((v21 : Value) : Value) : Value) (((v22 : Value) : Value) : Value) (((v23 : Value) : Value) : Value) (((v24 : Value) : Value) : Value) (((v25 : Value) : Value) : Value) (((v26 : Value) : Value) : Value) (((v27 : Value) : Value) : Value) (((v28 : Value) : Value) : Value) (((v29 : Value) : Value) : Value) (((v30 : Value) : Value) : Value) (((v31 : Value) : Value) : Value) (((v32 : Value) : Value) : Value) (((v33 : Value) : Value) : Value) (((v34 : Value) : Value) : Value) (((v35 : Value) : Value) : Value) (((v36 : Value) : Value) : Value) (((v37 : Value) : Value) : Value) (((v38 : Value) : Value) : Value) (((v39 : Value) : Value) : Value) (((v40 : Value) : Value) : Value) (((v41 : Value) : Value) : Value) (((v42 : Value) : Value) : Value) (((v43 : Value) : Value) : Value) (((v44 : Value) : Value) : Value) (((v45 : Value) : Value) : Value) (((v46 : Value) : Value) : Value) (((v47 : Value) : Value) : Value) (((v48 : Value) : Value) : Value) (((v49 : Value) : Value) : Value) (((v50 : Value) : Value) : Value) (((v51 : Value) : Value) : Value) lt q6 q7 tx cT nT gT be en (a1_15 + 1) bd_2 hnT bd_23 bt hbr hb8 hb1 hen9 cE gE b6 n6 g6 hn6 hg6 b7 n7 g7 hn7 hg7 hz6 hz7 hl7 H.size) (cwV 0 hts (kG (List.forall_mem_cons.mpr ⟨(List.mem_cons_of_mem _ (List.mem_append_left _ (List.mem_of_getElem? (i := 44) rfl))), (List.forall_mem_cons.mpr ⟨(List.mem_cons_of_mem _ (List.mem_append_left _ (List.mem_of_getElem? (i := 43) rfl))), (List.forall_mem_cons.mpr ⟨(List.mem_cons_of_mem _ (List.mem_append_left _ (List.mem_of_getElem? (i := 42) rfl))), (List.forall_mem_cons.mpr ⟨(List.mem_cons_of_mem _ (List.mem_append_left _ (List.mem_of_getElem? (i := 0) rfl))), (fun _ h => absurd h List.not_mem_nil)⟩)⟩)⟩)⟩) (kGV _ _ _ _) (kFam (List.mem_cons_of_mem _ (List.mem_append_left _ (List.mem_of_getElem? (i := 41) rfl)))) gw_s_unit10x_6) rfl rfl rfl ⟨rfl, hd_X10_unit⟩ ⟨(Nat.le_of_ble_eq_true rfl), (Nat.le_of_ble_eq_true rfl)⟩) (kW_V kS2_blind (kS2_give hX hS hFc) (va_recv hKc hPc (ci := 10) (q0 := 0) rfl rfl) hPc hKc hDc) rfl rfl hl.1 rfl (lv_room (Nat.le_of_ble_eq_true rfl)) dX10_part_46 ⟨(Nat.le_of_ble_eq_true rfl), (Nat.le_of_ble_eq_true rfl)⟩) hS (fun q _ h => hFc q h) hFc (fun r_24 => kU5 (fun a1_25 xf_26 xd_27 xo_28 xl_29 t H_30 locs ht hvm hw hB hz1 hk1 hS => ?_))
          try dsimp only at hw
          have hPD : kPD dC dI A [(jM, .inr (10, [(((v0 : Value) : Value) : Value), (((v1 : Value) : Value) : Value), (((v2 : Value) : Value) : Value), (((v3 : Value) : Value) : Value), .ref lt, .ref tx, (((v6 : Value) : Value) : Value), (((v7 : Value) : Value) : Value), (((v8 : Value) : Value) : Value), .int (nI (be)), .int (nI (en)), .int (nI (a1_25)), .int xf_26, .int xd_27, (((v14 : Value) : Value) : Value), (((v15 : Value) : Value) : Value), .ref q6, .ref q7, (((v18 : Value) : Value) : Value), (((v19 : Value) : Value) : Value), (((v20 : Value) : Value) : Value), (((v21 : Value) : Value) : Value), (((v22 : Value) : Value) : Value), (((v23 : Value) : Value) : Value), (((v24 : Value) : Value) : Value), (((v25 : Value) : Value) : Value), (((v26 : Value) : Value) : Value), (((v27 : Value) : Value) : Value), (((v28 : Value) : Value) : Value), (((v29 : Value) : Value) : Value), (((v30 : Value) : Value) : Value), (((v31 : Value) : Value) : Value), (((v32 : Value) : Value) : Value), (((v33 : Value) : Value) : Value), (((v34 : Value) : Value) : Value), (((v35 : Value) : Value) : Value), (((v36 : Value) : Value) : Value), (((v37 : Value) : Value) : Value), (((v38 : Value) : Value) : Value), (((v39 : Value) : Value) : Value), (((v40 : Value) : Value) : Value), (((v41 : Value) : Value) : Value), (((v42 : Value) : Value) : Value), (((v43 : Value) : Value) : Value), (((v44 : Value) : Value) : Value), (((v45 : Value) : Value) : Value), (((v46 : Value) : Value) : Value), (((v47 : Value) : Value) : Value), (((v48 : Value) : Value) : Value), (((v49 : Value) : Value) : Value), (((v50 : Value) : Value) : Value), (((v51 : Value) : Value) : Value)])), (tx, .inl (cT, nT, .inl gT)), (lt, .inl (cE, 128, .inl gE))] H_30 := kJoinX hP hD [0, 1, 2] rfl hk1 hFc hB.1 ht hB.2.2 rfl [some 0, some 1, some 2] rfl rfl
          obtain ⟨hP, hD⟩ := hPD
          have hw_31 := hw
          have hw_31_b := hw_31.1
          replace hw_31 := hw_31.2
          have hw_31_w := hw_31.2
          replace hw_31 := hw_31.1
          have hw_31_k := hw_31.2.1
          rcases Bool.eq_false_or_eq_true xo_28 with e9 | e9
          · subst e9
            have hw_31_v := hw_31_w rfl
            obtain ⟨hw_31_f, hw_31_d, hw_31_l, hw_31_p⟩ := hw_31.2.2.1 rfl
            subst hw_31_f
            subst hw_31_d
            refine lv_istore hx hb dX10_part_49 hl kc_l_4_5 (kTo [(4, .int r_24), (3, .int xb), (0, .ref jM), (1, .int 0), (2, .int p1)]) (fun ls hl => ?_)
            refine lv_iload_n hx hb dX10_part_51 rfl (lv_at hl 1 rfl) ?_
            refine lv_if_eq (tgt := 64) hx hb dX10_part_52 kc_t_52_12 (fun c_32 => ?_) (fun c_32 => ?_)
            · refine lv_iconst (v := 0) hx hb dX10_part_64 kc_i_0 ?_
              refine lv_istore_n hx hb dX10_part_65 rfl hl kc_l_3_5 (kTo [(3, .int 0), (4, .int r_24), (0, .ref jM), (1, .int 0), (2, .int p1)]) (fun ls hl => ?_)
              refine lv_goto (tgt := 18) hx hb dX10_part_66 kc_t_66_m48 ?_
              exact ih_k_11 a1_25 0 (xl ++ xl_29 ++ [nI (20000 + 38)]) (xc + 1) (by omega) (by omega) (by have e9 := kLoop_t (b := bt) (n := en) (c1 := 38) (c2 := 38) (a := kUnitD bt en g7 n7 0) (f := 120 - (xc + 1)) (p := i) (l := xl) (by rw [← hw_18_1]; omega) (by rw [← hw_18_2]; exact hw_31.1); rw [← hw_18_1] at e9; rw [show ch_16 = 38 by omega] at e9; rw [← e9, show (120 - (xc + 1)) + 1 = 120 - xc by omega]; exact ivk_11_2) (Or.inl rfl) (fun hbd => by rw [kValB ivk_11_5 (kUnitD_w hn7 0 _ _ _ hw_31.1) (by omega) (by omega), ← ivk_11_4 hbd, ← hw_31_v hbd]; exact kAnd_l c_32 hw_31_b) (kHb_bin ivk_11_5 (kUnitD_w hn7 0 _ _ _ hw_31.1) (by omega) (by omega)) _ _ hP hD hS ls (lv_sub hl [0, 2, 3, 4] rfl) (by omega)
            · refine lv_iload hx hb dX10_part_55 (lv_at hl 0 rfl) ?_
              refine lv_if_eq (tgt := 64) hx hb dX10_part_57 kc_t_57_7 (fun c_33 => ?_) (fun c_33 => ?_)
              · refine lv_iconst (v := 0) hx hb dX10_part_64 kc_i_0 ?_
                refine lv_istore_n hx hb dX10_part_65 rfl hl kc_l_3_5 (kTo [(3, .int 0), (4, .int r_24), (0, .ref jM), (1, .int 0), (2, .int p1)]) (fun ls hl => ?_)
                refine lv_goto (tgt := 18) hx hb dX10_part_66 kc_t_66_m48 ?_
                exact ih_k_11 a1_25 0 (xl ++ xl_29 ++ [nI (20000 + 38)]) (xc + 1) (by omega) (by omega) (by have e9 := kLoop_t (b := bt) (n := en) (c1 := 38) (c2 := 38) (a := kUnitD bt en g7 n7 0) (f := 120 - (xc + 1)) (p := i) (l := xl) (by rw [← hw_18_1]; omega) (by rw [← hw_18_2]; exact hw_31.1); rw [← hw_18_1] at e9; rw [show ch_16 = 38 by omega] at e9; rw [← e9, show (120 - (xc + 1)) + 1 = 120 - xc by omega]; exact ivk_11_2) (Or.inl rfl) (fun hbd => by rw [kValB ivk_11_5 (kUnitD_w hn7 0 _ _ _ hw_31.1) (by omega) (by omega), ← ivk_11_4 hbd, ← hw_31_v hbd]; exact kAnd_r c_33 ivk_11_3) (kHb_bin ivk_11_5 (kUnitD_w hn7 0 _ _ _ hw_31.1) (by omega) (by omega)) _ _ hP hD hS ls (lv_sub hl [0, 2, 3, 4] rfl) (by omega)
              · refine lv_iconst (v := 1) hx hb dX10_part_60 kc_i_1 ?_
                refine lv_goto (tgt := 65) hx hb dX10_part_61 kc_t_61_4 ?_
                refine lv_istore_n hx hb dX10_part_65 rfl hl kc_l_3_5 (kTo [(3, .int 1), (4, .int r_24), (0, .ref jM), (1, .int 0), (2, .int p1)]) (fun ls hl => ?_)
                refine lv_goto (tgt := 18) hx hb dX10_part_66 kc_t_66_m48 ?_
                exact ih_k_11 a1_25 1 (xl ++ xl_29 ++ [nI (20000 + 38)]) (xc + 1) (by omega) (by omega) (by have e9 := kLoop_t (b := bt) (n := en) (c1 := 38) (c2 := 38) (a := kUnitD bt en g7 n7 0) (f := 120 - (xc + 1)) (p := i) (l := xl) (by rw [← hw_18_1]; omega) (by rw [← hw_18_2]; exact hw_31.1); rw [← hw_18_1] at e9; rw [show ch_16 = 38 by omega] at e9; rw [← e9, show (120 - (xc + 1)) + 1 = 120 - xc by omega]; exact ivk_11_2) (Or.inr rfl) (fun hbd => by rw [kValB ivk_11_5 (kUnitD_w hn7 0 _ _ _ hw_31.1) (by omega) (by omega), ← ivk_11_4 hbd, ← hw_31_v hbd]; exact kAnd_1 c_32 c_33 ivk_11_3 hw_31_b) (kHb_bin ivk_11_5 (kUnitD_w hn7 0 _ _ _ hw_31.1) (by omega) (by omega)) _ _ hP hD hS ls (lv_sub hl [0, 2, 3, 4] rfl) (by omega)
          · subst e9
            obtain ⟨hw_31_f, hw_31_n⟩ := hw_31.2.2.2 rfl
            subst hw_31_f
            subst hw_31_n
            refine lv_istore hx hb dX10_part_49 hl kc_l_4_5 (kTo [(4, .int r_24), (3, .int xb), (0, .ref jM), (1, .int 0), (2, .int p1)]) (fun ls hl => ?_)
            refine lv_iload_n hx hb dX10_part_51 rfl (lv_at hl 1 rfl) ?_
            refine lv_if_eq (tgt := 64) hx hb dX10_part_52 kc_t_52_12 (fun c_34 => ?_) (fun c_34 => ?_)
            · refine lv_iconst (v := 0) hx hb dX10_part_64 kc_i_0 ?_
              refine lv_istore_n hx hb dX10_part_65 rfl hl kc_l_3_5 (kTo [(3, .int 0), (4, .int r_24), (0, .ref jM), (1, .int 0), (2, .int p1)]) (fun ls hl => ?_)
              refine lv_goto (tgt := 18) hx hb dX10_part_66 kc_t_66_m48 ?_
              refine lv_aload_n hx hb dX10_part_18 rfl (lv_at hl 2 rfl) ?_
              refine va_get (D := (dC, dI)) (ci := 10) (v := .int (nI (a1_25))) (C := RX10) (T := TX10) (N := 52) hx hb hts (fun _ h => List.mem_cons_of_mem _ (List.mem_append_right _ (List.mem_append_right _ (List.mem_append_left _ h)))) hown hK hP 0 rfl rfl 12 kc_l_12_52 (hts (.fieldLink RX10 150 "NotEndedModel" "fault" "I") (List.mem_cons_of_mem _ (List.mem_append_left _ (List.mem_of_getElem? (i := 10) rfl)))) (fun _ h9 => h9) rfl dX10_part_19 ?_
              refine lv_iconst (v := (-1)) hx hb dX10_part_22 kc_i_m1 ?_
              refine lv_icmp_ne (tgt := 69) hx hb dX10_part_23 kc_t_23_46 (fun c_35 => ?_) (fun c_35 => absurd c_35 (kNeM (n := a1_25) (by omega)))
              refine lv_iload_n hx hb dX10_part_69 rfl (lv_at hl 0 rfl) ?_
              have hP9 := hP
              have hD9 := hD
              have hK9 := hK
              rw [hQ]
              exact W.zret (v := 0) hx hb hr rfl (fun t ht hW => ⟨⟨0, (a1_25, (nI (a1_25)), xd_27, false, []), rfl, ⟨(Or.inl rfl), (kPM_f (by rw [← ivk_11_2, show 120 - xc = (119 - xc) + 1 by omega]; exact kLoop_f (by rw [← hw_18_1]; omega) (by rw [← hw_18_2]; exact hw_31.1)) (by omega)), fun z9 => absurd z9 (by decide)⟩,  by rw [ht]; exact hP9, va_K.moved hW.alike hK9, hD9⟩, hS.F ht⟩) hS.2.2 dX10_part_70
            · refine lv_iload hx hb dX10_part_55 (lv_at hl 0 rfl) ?_
              refine lv_if_eq (tgt := 64) hx hb dX10_part_57 kc_t_57_7 (fun c_36 => ?_) (fun c_36 => ?_)
              · refine lv_iconst (v := 0) hx hb dX10_part_64 kc_i_0 ?_
                refine lv_istore_n hx hb dX10_part_65 rfl hl kc_l_3_5 (kTo [(3, .int 0), (4, .int r_24), (0, .ref jM), (1, .int 0), (2, .int p1)]) (fun ls hl => ?_)
                refine lv_goto (tgt := 18) hx hb dX10_part_66 kc_t_66_m48 ?_
                refine lv_aload_n hx hb dX10_part_18 rfl (lv_at hl 2 rfl) ?_
                refine va_get (D := (dC, dI)) (ci := 10) (v := .int (nI (a1_25))) (C := RX10) (T := TX10) (N := 52) hx hb hts (fun _ h => List.mem_cons_of_mem _ (List.mem_append_right _ (List.mem_append_right _ (List.mem_append_left _ h)))) hown hK hP 0 rfl rfl 12 kc_l_12_52 (hts (.fieldLink RX10 150 "NotEndedModel" "fault" "I") (List.mem_cons_of_mem _ (List.mem_append_left _ (List.mem_of_getElem? (i := 10) rfl)))) (fun _ h9 => h9) rfl dX10_part_19 ?_
                refine lv_iconst (v := (-1)) hx hb dX10_part_22 kc_i_m1 ?_
                refine lv_icmp_ne (tgt := 69) hx hb dX10_part_23 kc_t_23_46 (fun c_37 => ?_) (fun c_37 => absurd c_37 (kNeM (n := a1_25) (by omega)))
                refine lv_iload_n hx hb dX10_part_69 rfl (lv_at hl 0 rfl) ?_
                have hP9 := hP
                have hD9 := hD
                have hK9 := hK
                rw [hQ]
                exact W.zret (v := 0) hx hb hr rfl (fun t ht hW => ⟨⟨0, (a1_25, (nI (a1_25)), xd_27, false, []), rfl, ⟨(Or.inl rfl), (kPM_f (by rw [← ivk_11_2, show 120 - xc = (119 - xc) + 1 by omega]; exact kLoop_f (by rw [← hw_18_1]; omega) (by rw [← hw_18_2]; exact hw_31.1)) (by omega)), fun z9 => absurd z9 (by decide)⟩,  by rw [ht]; exact hP9, va_K.moved hW.alike hK9, hD9⟩, hS.F ht⟩) hS.2.2 dX10_part_70
              · refine lv_iconst (v := 1) hx hb dX10_part_60 kc_i_1 ?_
                refine lv_goto (tgt := 65) hx hb dX10_part_61 kc_t_61_4 ?_
                refine lv_istore_n hx hb dX10_part_65 rfl hl kc_l_3_5 (kTo [(3, .int 1), (4, .int r_24), (0, .ref jM), (1, .int 0), (2, .int p1)]) (fun ls hl => ?_)
                refine lv_goto (tgt := 18) hx hb dX10_part_66 kc_t_66_m48 ?_
                refine lv_aload_n hx hb dX10_part_18 rfl (lv_at hl 2 rfl) ?_
                refine va_get (D := (dC, dI)) (ci := 10) (v := .int (nI (a1_25))) (C := RX10) (T := TX10) (N := 52) hx hb hts (fun _ h => List.mem_cons_of_mem _ (List.mem_append_right _ (List.mem_append_right _ (List.mem_append_left _ h)))) hown hK hP 0 rfl rfl 12 kc_l_12_52 (hts (.fieldLink RX10 150 "NotEndedModel" "fault" "I") (List.mem_cons_of_mem _ (List.mem_append_left _ (List.mem_of_getElem? (i := 10) rfl)))) (fun _ h9 => h9) rfl dX10_part_19 ?_
                refine lv_iconst (v := (-1)) hx hb dX10_part_22 kc_i_m1 ?_
                refine lv_icmp_ne (tgt := 69) hx hb dX10_part_23 kc_t_23_46 (fun c_38 => ?_) (fun c_38 => absurd c_38 (kNeM (n := a1_25) (by omega)))
                refine lv_iload_n hx hb dX10_part_69 rfl (lv_at hl 0 rfl) ?_
                have hP9 := hP
                have hD9 := hD
                have hK9 := hK
                rw [hQ]
                exact W.zret (v := 1) hx hb hr rfl (fun t ht hW => ⟨⟨1, (a1_25, (nI (a1_25)), xd_27, false, []), rfl, ⟨(Or.inr rfl), (kPM_f (by rw [← ivk_11_2, show 120 - xc = (119 - xc) + 1 by omega]; exact kLoop_f (by rw [← hw_18_1]; omega) (by rw [← hw_18_2]; exact hw_31.1)) (by omega)), fun z9 => absurd z9 (by decide)⟩,  by rw [ht]; exact hP9, va_K.moved hW.alike hK9, hD9⟩, hS.F ht⟩) hS.2.2 dX10_part_70
    exact lp_k_11 (en - a1_4 + 1) a1_4 r_3 xl_8 0 (by omega) (by omega) (kMany_t hw_10.1).symm hw_10_b hw_10_v (kHb_le (kUnitD_w hn7 0 _ _ _ hw_10.1) (by omega)) _ _ hP hD hS ls (lv_sub hl [0, 1, 2, 3] rfl) (by omega)
  · subst e9
    obtain ⟨hw_10_f, hw_10_n⟩ := hw_10.2.2.2 rfl
    subst hw_10_f
    subst hw_10_n
    refine lv_istore_n hx hb dX10_part_17 rfl hl kc_l_3_5 (kTo [(3, .int r_3), (0, .ref jM), (1, .int 0), (2, .int p1)]) (fun ls hl => ?_)
    refine lv_aload_n hx hb dX10_part_18 rfl (lv_at hl 1 rfl) ?_
    refine va_get (D := (dC, dI)) (ci := 10) (v := .int (nI (a1_4))) (C := RX10) (T := TX10) (N := 52) hx hb hts (fun _ h => List.mem_cons_of_mem _ (List.mem_append_right _ (List.mem_append_right _ (List.mem_append_left _ h)))) hown hK hP 0 rfl rfl 12 kc_l_12_52 (hts (.fieldLink RX10 150 "NotEndedModel" "fault" "I") (List.mem_cons_of_mem _ (List.mem_append_left _ (List.mem_of_getElem? (i := 10) rfl)))) (fun _ h9 => h9) rfl dX10_part_19 ?_
    refine lv_iconst (v := (-1)) hx hb dX10_part_22 kc_i_m1 ?_
    refine lv_icmp_ne (tgt := 69) hx hb dX10_part_23 kc_t_23_46 (fun c_39 => ?_) (fun c_39 => absurd c_39 (kNeM (n := a1_4) (by omega)))
    refine lv_iload_n hx hb dX10_part_69 rfl (lv_at hl 0 rfl) ?_
    have hP9 := hP
    have hD9 := hD
    have hK9 := hK
    rw [hQ]
    exact W.zret (v := r_3) hx hb hr (kB01 (by assumption)) (fun t ht hW => ⟨⟨r_3, (a1_4, (nI (a1_4)), xd_6, false, []), rfl, ⟨(by assumption), (kPM_f (kMany_f hw_10.1) (by omega)), fun z9 => absurd z9 (by decide)⟩,  by rw [ht]; exact hP9, va_K.moved hW.alike hK9, hD9⟩, hS.F ht⟩) hS.2.2 dX10_part_70

theorem dX10_part_4 : decode cX10_part 4 = .ok (.aload_n 0, 1) := kDs0 kf_42 (by decide +kernel)
theorem dX10_part_5 : decode cX10_part 5 = .ok (.iconst 1, 1) := kDs0 kf_4 (by decide +kernel)
theorem dX10_part_6 : decode cX10_part 6 = .ok (.iload_n 2, 1) := kDs0 kf_28 (by decide +kernel)
theorem dX10_part_7 : decode cX10_part 7 = .ok (.invokevirtual 213, 3) := kDs2 kf_182 (by decide +kernel)
theorem dX10_part_10 : decode cX10_part 10 = .ok (.goto 7, 3) := kDs4 kf_167 (by decide +kernel)
theorem dX10_condition_0 : decode cX10_condition 0 = .ok (.aload_n 0, 1) := kDs0 kf_42 (by decide +kernel)
theorem dX10_condition_1 : decode cX10_condition 1 = .ok (.iload_n 1, 1) := kDs0 kf_27 (by decide +kernel)
theorem dX10_condition_2 : decode cX10_condition 2 = .ok (.iload_n 2, 1) := kDs0 kf_28 (by decide +kernel)
theorem dX10_condition_3 : decode cX10_condition 3 = .ok (.invokevirtual 216, 3) := kDs2 kf_182 (by decide +kernel)
theorem dX10_condition_6 : decode cX10_condition 6 = .ok (.istore_n 3, 1) := kDs0 kf_62 (by decide +kernel)
theorem dX10_condition_7 : decode cX10_condition 7 = .ok (.aload_n 0, 1) := kDs0 kf_42 (by decide +kernel)
theorem dX10_condition_8 : decode cX10_condition 8 = .ok (.getfield 150, 3) := kDs2 kf_180 (by decide +kernel)
theorem dX10_condition_11 : decode cX10_condition 11 = .ok (.iconst (-1), 1) := kDs0 kf_2 (by decide +kernel)
theorem dX10_condition_12 : decode cX10_condition 12 = .ok (.if_icmp .ne 48, 3) := kDs4 kf_160 (by decide +kernel)
theorem dX10_condition_15 : decode cX10_condition 15 = .ok (.aload_n 0, 1) := kDs0 kf_42 (by decide +kernel)
theorem dX10_condition_16 : decode cX10_condition 16 = .ok (.invokevirtual 160, 3) := kDs2 kf_182 (by decide +kernel)
theorem dX10_condition_19 : decode cX10_condition 19 = .ok (.bipush 124, 2) := kDs3 kf_16 (by decide +kernel)
theorem dX10_condition_21 : decode cX10_condition 21 = .ok (.if_icmp .ne 39, 3) := kDs4 kf_160 (by decide +kernel)
theorem dX10_condition_60 : decode cX10_condition 60 = .ok (.iload_n 3, 1) := kDs0 kf_29 (by decide +kernel)
theorem dX10_condition_61 : decode cX10_condition 61 = .ok (.ireturn, 1) := kDs0 kf_172 (by decide +kernel)
theorem dX10_condition_24 : decode cX10_condition 24 = .ok (.aload_n 0, 1) := kDs0 kf_42 (by decide +kernel)
theorem dX10_condition_25 : decode cX10_condition 25 = .ok (.dup, 1) := kDs0 kf_89 (by decide +kernel)
theorem dX10_condition_26 : decode cX10_condition 26 = .ok (.getfield 141, 3) := kDs2 kf_180 (by decide +kernel)
theorem dX10_condition_29 : decode cX10_condition 29 = .ok (.iconst 1, 1) := kDs0 kf_4 (by decide +kernel)
theorem dX10_condition_30 : decode cX10_condition 30 = .ok (.iadd, 1) := kDs0 kf_96 (by decide +kernel)
theorem dX10_condition_31 : decode cX10_condition 31 = .ok (.putfield 141, 3) := kDs2 kf_181 (by decide +kernel)
theorem dX10_condition_34 : decode cX10_condition 34 = .ok (.aload_n 0, 1) := kDs0 kf_42 (by decide +kernel)
theorem dX10_condition_35 : decode cX10_condition 35 = .ok (.iconst 0, 1) := kDs0 kf_3 (by decide +kernel)
theorem dX10_condition_36 : decode cX10_condition 36 = .ok (.iconst 0, 1) := kDs0 kf_3 (by decide +kernel)
theorem dX10_condition_37 : decode cX10_condition 37 = .ok (.invokevirtual 216, 3) := kDs2 kf_182 (by decide +kernel)
theorem dX10_condition_40 : decode cX10_condition 40 = .ok (.istore 4, 2) := kDs1 kf_54 (by decide +kernel)
theorem dX10_condition_42 : decode cX10_condition 42 = .ok (.iload_n 3, 1) := kDs0 kf_29 (by decide +kernel)
theorem dX10_condition_43 : decode cX10_condition 43 = .ok (.ifCond .ne 8, 3) := kDs4 kf_154 (by decide +kernel)
theorem dX10_condition_51 : decode cX10_condition 51 = .ok (.iconst 1, 1) := kDs0 kf_4 (by decide +kernel)
theorem dX10_condition_52 : decode cX10_condition 52 = .ok (.goto 4, 3) := kDs4 kf_167 (by decide +kernel)
theorem dX10_condition_56 : decode cX10_condition 56 = .ok (.istore_n 3, 1) := kDs0 kf_62 (by decide +kernel)
theorem dX10_condition_57 : decode cX10_condition 57 = .ok (.goto (-50), 3) := kDs4 kf_167 (by decide +kernel)
theorem dX10_condition_46 : decode cX10_condition 46 = .ok (.iload 4, 2) := kDs1 kf_21 (by decide +kernel)
theorem dX10_condition_48 : decode cX10_condition 48 = .ok (.ifCond .eq 7, 3) := kDs4 kf_153 (by decide +kernel)
theorem dX10_condition_55 : decode cX10_condition 55 = .ok (.iconst 0, 1) := kDs0 kf_3 (by decide +kernel)
def w_s_cond10x_6_0 : List Cond := .code yX10_condition cX10_condition 5 (some .boolean) :: wf_mq
theorem hd_X10_condition : yX10_condition.cls ≠ "java/lang/invoke/MethodHandle" ∧ yX10_condition.cls ≠ "java/lang/invoke/VarHandle" ∧ (parseMethodDescriptor yX10_condition.desc).map (fun d => d.parameters.length) = some 2 := by decide +kernel
set_option maxHeartbeats 4000000 in
set_option maxRecDepth 100000 in
theorem s_cond10x_6_0 (l : Launch) (dC : Nat → ClassId) (dI : Nat → Nat → Nat) (jM : Nat) (v0 : Value) (v1 : Value) (v2 : Value) (v3 : Value) (v6 : Value) (v7 : Value) (v8 : Value) (v14 : Value) (v15 : Value) (v18 : Value) (v19 : Value) (v20 : Value) (v21 : Value) (v22 : Value) (v23 : Value) (v24 : Value) (v25 : Value) (v26 : Value) (v27 : Value) (v28 : Value) (v29 : Value) (v30 : Value) (v31 : Value) (v32 : Value) (v33 : Value) (v34 : Value) (v35 : Value) (v36 : Value) (v37 : Value) (v38 : Value) (v39 : Value) (v40 : Value) (v41 : Value) (v42 : Value) (v43 : Value) (v44 : Value) (v45 : Value) (v46 : Value) (v47 : Value) (v48 : Value) (v49 : Value) (v50 : Value) (v51 : Value) (lt : Nat) (q6 : Nat) (q7 : Nat) (tx : Nat) (cT : ClassId) (nT : Nat) (gT : Nat → Int32) (be : Nat) (en : Nat) (a : Nat) (hbe : be + en ≤ nT) (hnT : nT ≤ 1680) (ha : a ≤ en) (bt : Nat → Nat) (hbr : ∀ j : Nat, j < en → gT (be + j) = kSg (bt j)) (hb8 : ∀ j : Nat, bt j < 256) (hb1 : ∀ j : Nat, j < en → 1 ≤ bt j) (hen9 : en ≤ 120) (cE : ClassId) (gE : Nat → Int32) (b6 : Nat) (n6 : Nat) (g6 : Nat → Int32) (hn6 : n6 ≤ 8) (hg6 : ∀ k : Nat, ∃ v : Nat, v < 128 ∧ g6 k = nI v) (b7 : Nat) (n7 : Nat) (g7 : Nat → Int32) (hn7 : n7 ≤ 8) (hg7 : ∀ k : Nat, ∃ v : Nat, v < 128 ∧ g7 k = nI v) (hz6 : kIx g6 n6 (nI 0) = n6) (hz7 : kIx g7 n7 (nI 0) = n7) (hl7 : ∀ c : Nat, c < 256 → kIx g7 n7 (nI c) < n7 → ¬ c = 91 ∧ ¬ (48 ≤ c ∧ c ≤ 57)) (p1 : Int32) (sz : Nat) : Met l yX10_condition w_s_cond10x_6_0 ({ frames := 13, cells := 0, slots := 0, locals := 780 }) (kW dC dI [.ref jM, .int 0, .int p1] [(jM, .inr (10, [v0, v1, v2, v3, .ref lt, .ref tx, v6, v7, v8, .int (nI (be)), .int (nI (en)), .int (nI (a)), .int (-1), .int 6, v14, v15, .ref q6, .ref q7, v18, v19, v20, v21, v22, v23, v24, v25, v26, v27, v28, v29, v30, v31, v32, v33, v34, v35, v36, v37, v38, v39, v40, v41, v42, v43, v44, v45, v46, v47, v48, v49, v50, v51])), (tx, .inl (cT, nT, .inl gT)), (lt, .inl (cE, 128, .inl gE))] [(cT, .byte), (cE, .int)] (kS2 q6 b6 n6 g6 q7 b7 n7 g7 (va_A [(jM, .inr (10, [v0, v1, v2, v3, .ref lt, .ref tx, v6, v7, v8, .int (nI (be)), .int (nI (en)), .int (nI (a)), .int (-1), .int 6, v14, v15, .ref q6, .ref q7, v18, v19, v20, v21, v22, v23, v24, v25, v26, v27, v28, v29, v30, v31, v32, v33, v34, v35, v36, v37, v38, v39, v40, v41, v42, v43, v44, v45, v46, v47, v48, v49, v50, v51])), (tx, .inl (cT, nT, .inl gT)), (lt, .inl (cE, 128, .inl gE))] sz)) sz) (va_Qi (fun (r : Int32) (u : Nat × Int32 × Int32 × Bool × (List Int32)) => match u with | (a1, xf, xd, xo, xl) => ((r = 0 ∨ r = 1) ∧ (kPM (kConD bt en g7 n7 0 a) en a 6 xo a1 xl xf xd ∧ (xo = true → (∀ j : Nat, j < n7 → kBd (kLt gE g7 j)) → r = kVal (kLt gE g7) xl)))) (fun (u : Nat × Int32 × Int32 × Bool × (List Int32)) => match u with | (a1, xf, xd, xo, xl) => fun t : State => kB dC dI [(jM, .inr (10, [v0, v1, v2, v3, .ref lt, .ref tx, v6, v7, v8, .int (nI (be)), .int (nI (en)), .int (nI (a1)), .int xf, .int xd, v14, v15, .ref q6, .ref q7, v18, v19, v20, v21, v22, v23, v24, v25, v26, v27, v28, v29, v30, v31, v32, v33, v34, v35, v36, v37, v38, v39, v40, v41, v42, v43, v44, v45, v46, v47, v48, v49, v50, v51])), (tx, .inl (cT, nT, .inl gT)), (lt, .inl (cE, 128, .inl gE))] [(cT, .byte), (cE, .int)] (va_A [(jM, .inr (10, [v0, v1, v2, v3, .ref lt, .ref tx, v6, v7, v8, .int (nI (be)), .int (nI (en)), .int (nI (a)), .int (-1), .int 6, v14, v15, .ref q6, .ref q7, v18, v19, v20, v21, v22, v23, v24, v25, v26, v27, v28, v29, v30, v31, v32, v33, v34, v35, v36, v37, v38, v39, v40, v41, v42, v43, v44, v45, v46, v47, v48, v49, v50, v51])), (tx, .inl (cT, nT, .inl gT)), (lt, .inl (cE, 128, .inl gE))] sz) t) (va_A [(jM, .inr (10, [v0, v1, v2, v3, .ref lt, .ref tx, v6, v7, v8, .int (nI (be)), .int (nI (en)), .int (nI (a)), .int (-1), .int 6, v14, v15, .ref q6, .ref q7, v18, v19, v20, v21, v22, v23, v24, v25, v26, v27, v28, v29, v30, v31, v32, v33, v34, v35, v36, v37, v38, v39, v40, v41, v42, v43, v44, v45, v46, v47, v48, v49, v50, v51])), (tx, .inl (cT, nT, .inl gT)), (lt, .inl (cE, 128, .inl gE))] sz)) 0 0 (va_A [(jM, .inr (10, [v0, v1, v2, v3, .ref lt, .ref tx, v6, v7, v8, .int (nI (be)), .int (nI (en)), .int (nI (a)), .int (-1), .int 6, v14, v15, .ref q6, .ref q7, v18, v19, v20, v21, v22, v23, v24, v25, v26, v27, v28, v29, v30, v31, v32, v33, v34, v35, v36, v37, v38, v39, v40, v41, v42, v43, v44, v45, v46, v47, v48, v49, v50, v51])), (tx, .inl (cT, nT, .inl gT)), (lt, .inl (cE, 128, .inl gE))] sz) := by
  refine Met.ofW (cc := cX10_condition) (maxL := 5) (ret := (some .boolean)) (by decide) rfl ?_
  intro p e s m args below meth c s₁ B hml hv
  obtain ⟨rfl, hsz, hP, hK, hD0, hX⟩ := hv
  have hx := B.exec
  have hb := B.bytes
  have hr := B.returns
  have hts := atoms_spec (ws := w_s_cond10x_6_0) B.pre
  have hown : s.vm.findClass RX10 = some m.cls := findClass_of_methodNamed B.named
  have hlocks := B.notSynchronized
  subst hsz
  have hD := hD0.self (sz := s.heap.size)
  generalize hAe : va_A [(jM, .inr (10, [v0, v1, v2, v3, .ref lt, .ref tx, v6, v7, v8, .int (nI (be)), .int (nI (en)), .int (nI (a)), .int (-1), .int 6, v14, v15, .ref q6, .ref q7, v18, v19, v20, v21, v22, v23, v24, v25, v26, v27, v28, v29, v30, v31, v32, v33, v34, v35, v36, v37, v38, v39, v40, v41, v42, v43, v44, v45, v46, v47, v48, v49, v50, v51])), (tx, .inl (cT, nT, .inl gT)), (lt, .inl (cE, 128, .inl gE))] s.heap.size = A at hD hX ⊢
  have hA : ∀ q : Nat, s.heap.size ≤ q → A q := fun q h => by rw [← hAe]; exact Or.inr h
  have hS : va_S A s.heap s.heap [] := va_S.rf
  have hP : va_P (dC, dI) vwCl [(jM, .inr (10, [v0, v1, v2, v3, .ref lt, .ref tx, v6, v7, v8, .int (nI (be)), .int (nI (en)), .int (nI (a)), .int (-1), .int 6, v14, v15, .ref q6, .ref q7, v18, v19, v20, v21, v22, v23, v24, v25, v26, v27, v28, v29, v30, v31, v32, v33, v34, v35, v36, v37, v38, v39, v40, v41, v42, v43, v44, v45, v46, v47, v48, v49, v50, v51])), (tx, .inl (cT, nT, .inl gT)), (lt, .inl (cE, 128, .inl gE))] s.heap := hP
  have hl := lv_entry ([.ref jM, .int 0, .int p1]) (n := 5) (Nat.le_of_ble_eq_true rfl)
  rw [lg_entry_eq]
  generalize (lg_sl ([.ref jM, .int 0, .int p1]) ++ List.replicate (5 - (lg_sl ([.ref jM, .int 0, .int p1])).length) Slot.unset).toArray = ls at hl ⊢
  have hl : lv_has ls 5 [(0, .ref jM), (1, .int 0), (2, .int p1)] := hl
  refine kQ (fun Q hQ => ?_)
  refine lv_aload_n hx hb dX10_condition_0 rfl (lv_at hl 0 rfl) ?_
  refine lv_iload_n hx hb dX10_condition_1 rfl (lv_at hl 1 rfl) ?_
  refine lv_iload_n hx hb dX10_condition_2 rfl (lv_at hl 2 rfl) ?_
  have bd_1 : be + en ≤ nT := by omega
  have hCu := kCut (wc := [(jM, .inr (10, [v0, v1, v2, v3, .ref lt, .ref tx, v6, v7, v8, .int (nI (be)), .int (nI (en)), .int (nI (a)), .int (-1), .int 6, v14, v15, .ref q6, .ref q7, v18, v19, v20, v21, v22, v23, v24, v25, v26, v27, v28, v29, v30, v31, v32, v33, v34, v35, v36, v37, v38, v39, v40, v41, v42, v43, v44, v45, v46, v47, v48, v49, v50, v51])), (tx, .inl (cT, nT, .inl gT)), (lt, .inl (cE, 128, .inl gE))]) hP hD hS hA [0, 1, 2] rfl kc_nd_138 rfl
  have hPc := hCu.1
  have hDc := hCu.2.1
  have hFc := hCu.2.2
  have hKc := hK.sb (tys2 := [(cT, .byte), (cE, .int)]) [0, 1] rfl
  refine va_calli (va_runV (As := [.int 0, .int p1]) (rest := []) ⟨hx, hb, hml, hown, hts⟩ (s_part10x_6_0 l dC dI jM (v0 : Value) (v1 : Value) (v2 : Value) (v3 : Value) (v6 : Value) (v7 : Value) (v8 : Value) (v14 : Value) (v15 : Value) (v18 : Value) (v19 : Value) (v20 : Value) (v21 : Value) (v22 : Value) (v23 : Value) (v24 : Value) (v25 : Value) (v26 : Value) (v27 : Value) (v28 : Value) (v29 : Value) (v30 : Value) (v31 : Value) (v32 : Value) (v33 : Value) (v34 : Value) (v35 : Value) (v36 : Value) (v37 : Value) (v38 : Value) (v39 : Value) (v40 : Value) (v41 : Value) (v42 : Value) (v43 : Value) (v44 : Value) (v45 : Value) (v46 : Value) (v47 : Value) (v48 : Value) (v49 : Value) (v50 : Value) (v51 : Value) lt q6 q7 tx cT nT gT be en a bd_1 hnT ha bt hbr hb8 hb1 hen9 cE gE b6 n6 g6 hn6 hg6 b7 n7 g7 hn7 hg7 hz6 hz7 hl7 p1 s.heap.size) (cwV 2 hts (kG (List.forall_mem_cons.mpr ⟨(List.mem_cons_of_mem _ (List.mem_append_left _ (List.mem_of_getElem? (i := 48) rfl))), (List.forall_mem_cons.mpr ⟨(List.mem_cons_of_mem _ (List.mem_append_left _ (List.mem_of_getElem? (i := 47) rfl))), (List.forall_mem_cons.mpr ⟨(List.mem_cons_of_mem _ (List.mem_append_left _ (List.mem_of_getElem? (i := 46) rfl))), (List.forall_mem_cons.mpr ⟨(List.mem_cons_of_mem _ (List.mem_append_left _ (List.mem_of_getElem? (i := 0) rfl))), (fun _ h => absurd h List.not_mem_nil)⟩)⟩)⟩)⟩) (kGV _ _ _ _) (kFam (List.mem_cons_of_mem _ (List.mem_append_left _ (List.mem_of_getElem? (i := 45) rfl)))) gw_s_part10x_6_0) rfl rfl rfl ⟨rfl, hd_X10_part⟩ ⟨(Nat.le_of_ble_eq_true rfl), (Nat.le_of_ble_eq_true rfl)⟩) (kW_V kS2_blind (kS2_give hX hS hFc) (va_recv hKc hPc (ci := 10) (q0 := 0) rfl rfl) hPc hKc hDc) rfl rfl hl.1 rfl (lv_room (Nat.le_of_ble_eq_true rfl)) dX10_condition_3 ⟨(Nat.le_of_ble_eq_true rfl), (Nat.le_of_ble_eq_true rfl)⟩) hS (fun q _ h => hFc q h) hFc (fun r_2 => kU5 (fun a1_3 xf_4 xd_5 xo_6 xl_7 t H_8 locs ht hvm hw hB hz1 hk1 hS => ?_))
  try dsimp only at hw
  have hPD : kPD dC dI A [(jM, .inr (10, [(v0 : Value), (v1 : Value), (v2 : Value), (v3 : Value), .ref lt, .ref tx, (v6 : Value), (v7 : Value), (v8 : Value), .int (nI (be)), .int (nI (en)), .int (nI (a1_3)), .int xf_4, .int xd_5, (v14 : Value), (v15 : Value), .ref q6, .ref q7, (v18 : Value), (v19 : Value), (v20 : Value), (v21 : Value), (v22 : Value), (v23 : Value), (v24 : Value), (v25 : Value), (v26 : Value), (v27 : Value), (v28 : Value), (v29 : Value), (v30 : Value), (v31 : Value), (v32 : Value), (v33 : Value), (v34 : Value), (v35 : Value), (v36 : Value), (v37 : Value), (v38 : Value), (v39 : Value), (v40 : Value), (v41 : Value), (v42 : Value), (v43 : Value), (v44 : Value), (v45 : Value), (v46 : Value), (v47 : Value), (v48 : Value), (v49 : Value), (v50 : Value), (v51 : Value)])), (tx, .inl (cT, nT, .inl gT)), (lt, .inl (cE, 128, .inl gE))] H_8 := kJoinX hP hD [0, 1, 2] rfl hk1 hFc hB.1 ht hB.2.2 rfl [some 0, some 1, some 2] rfl rfl
  obtain ⟨hP, hD⟩ := hPD
  have hw_9 := hw
  have hw_9_b := hw_9.1
  replace hw_9 := hw_9.2
  have hw_9_w := hw_9.2
  replace hw_9 := hw_9.1
  have hw_9_k := hw_9.2.1
  rcases Bool.eq_false_or_eq_true xo_6 with e9 | e9
  · subst e9
    have hw_9_v := hw_9_w rfl
    obtain ⟨hw_9_f, hw_9_d, hw_9_l, hw_9_p⟩ := hw_9.2.2.1 rfl
    subst hw_9_f
    subst hw_9_d
    refine lv_istore_n hx hb dX10_condition_6 rfl hl kc_l_3_5 (kTo [(3, .int r_2), (0, .ref jM), (1, .int 0), (2, .int p1)]) (fun ls hl => ?_)
    have lp_k_10 : ∀ (n9 : Nat) (i : Nat) (xb : Int32) (xl : List Int32) (xc : Nat) (ivk_10_0 : (a < i ∧ i ≤ en)) (ivk_10_1 : xc < i) (ivk_10_2 : kLoop bt en 124 124 (kTruD bt en g7 n7 0) (120 - xc) i xl = kConD bt en g7 n7 0 a) (ivk_10_3 : (xb = 0 ∨ xb = 1)) (ivk_10_4 : ((∀ j : Nat, j < n7 → kBd (kLt gE g7 j)) → xb = kVal (kLt gE g7) xl)) (ivk_10_5 : kHb n7 6 xl) (H : Heap) (locs : List Loc) (_ : va_P (dC, dI) vwCl [(jM, .inr (10, [(v0 : Value), (v1 : Value), (v2 : Value), (v3 : Value), .ref lt, .ref tx, (v6 : Value), (v7 : Value), (v8 : Value), .int (nI (be)), .int (nI (en)), .int (nI (i)), .int (-1), .int 6, (v14 : Value), (v15 : Value), .ref q6, .ref q7, (v18 : Value), (v19 : Value), (v20 : Value), (v21 : Value), (v22 : Value), (v23 : Value), (v24 : Value), (v25 : Value), (v26 : Value), (v27 : Value), (v28 : Value), (v29 : Value), (v30 : Value), (v31 : Value), (v32 : Value), (v33 : Value), (v34 : Value), (v35 : Value), (v36 : Value), (v37 : Value), (v38 : Value), (v39 : Value), (v40 : Value), (v41 : Value), (v42 : Value), (v43 : Value), (v44 : Value), (v45 : Value), (v46 : Value), (v47 : Value), (v48 : Value), (v49 : Value), (v50 : Value), (v51 : Value)])), (tx, .inl (cT, nT, .inl gT)), (lt, .inl (cE, 128, .inl gE))] H) (_ : va_D A [(jM, .inr (10, [(v0 : Value), (v1 : Value), (v2 : Value), (v3 : Value), .ref lt, .ref tx, (v6 : Value), (v7 : Value), (v8 : Value), .int (nI (be)), .int (nI (en)), .int (nI (i)), .int (-1), .int 6, (v14 : Value), (v15 : Value), .ref q6, .ref q7, (v18 : Value), (v19 : Value), (v20 : Value), (v21 : Value), (v22 : Value), (v23 : Value), (v24 : Value), (v25 : Value), (v26 : Value), (v27 : Value), (v28 : Value), (v29 : Value), (v30 : Value), (v31 : Value), (v32 : Value), (v33 : Value), (v34 : Value), (v35 : Value), (v36 : Value), (v37 : Value), (v38 : Value), (v39 : Value), (v40 : Value), (v41 : Value), (v42 : Value), (v43 : Value), (v44 : Value), (v45 : Value), (v46 : Value), (v47 : Value), (v48 : Value), (v49 : Value), (v50 : Value), (v51 : Value)])), (tx, .inl (cT, nT, .inl gT)), (lt, .inl (cE, 128, .inl gE))]) (_ : va_S A s.heap H locs) (ls : Array Slot) (_ : lv_has ls 5 [(3, .int xb), (0, .ref jM), (1, .int 0), (2, .int p1)]) (_ : en - i < n9), W p l e (headSpec w_s_cond10x_6_0 ({ frames := 13, cells := 0, slots := 0, locals := 780 })).room s m (#[.ref jM, .int 0, .int p1] : Array Value) below meth c H locs 0 0 Q (F0 m 7 ls []) := by
      intro n9
      induction n9 with
      | zero => intro i xb xl xc ivk_10_0 ivk_10_1 ivk_10_2 ivk_10_3 ivk_10_4 ivk_10_5 H locs hP hD hS ls hl hm9; exact absurd hm9 (Nat.not_lt_zero _)
      | succ n9 ih_k_10 =>
        intro i xb xl xc ivk_10_0 ivk_10_1 ivk_10_2 ivk_10_3 ivk_10_4 ivk_10_5 H locs hP hD hS ls hl hm9
        refine lv_aload_n hx hb dX10_condition_7 rfl (lv_at hl 1 rfl) ?_
        refine va_get (D := (dC, dI)) (ci := 10) (v := .int (-1)) (C := RX10) (T := TX10) (N := 52) hx hb hts (fun _ h => List.mem_cons_of_mem _ (List.mem_append_right _ (List.mem_append_right _ (List.mem_append_left _ h)))) hown hK hP 0 rfl rfl 12 kc_l_12_52 (hts (.fieldLink RX10 150 "NotEndedModel" "fault" "I") (List.mem_cons_of_mem _ (List.mem_append_left _ (List.mem_of_getElem? (i := 10) rfl)))) (fun _ h9 => h9) rfl dX10_condition_8 ?_
        refine lv_iconst (v := (-1)) hx hb dX10_condition_11 kc_i_m1 ?_
        refine lv_icmp_ne (tgt := 60) hx hb dX10_condition_12 kc_t_12_48 (fun c_11 => absurd (by decide) c_11) (fun c_11 => ?_)
        refine lv_aload_n hx hb dX10_condition_15 rfl (lv_at hl 1 rfl) ?_
        have bd_12 : i ≤ en := by omega
        have hCu := kCut (wc := [(jM, .inr (10, [(v0 : Value), (v1 : Value), (v2 : Value), (v3 : Value), .ref lt, .ref tx, (v6 : Value), (v7 : Value), (v8 : Value), .int (nI (be)), .int (nI (en)), .int (nI (i)), .int (-1), .int 6, (v14 : Value), (v15 : Value), .ref q6, .ref q7, (v18 : Value), (v19 : Value), (v20 : Value), (v21 : Value), (v22 : Value), (v23 : Value), (v24 : Value), (v25 : Value), (v26 : Value), (v27 : Value), (v28 : Value), (v29 : Value), (v30 : Value), (v31 : Value), (v32 : Value), (v33 : Value), (v34 : Value), (v35 : Value), (v36 : Value), (v37 : Value), (v38 : Value), (v39 : Value), (v40 : Value), (v41 : Value), (v42 : Value), (v43 : Value), (v44 : Value), (v45 : Value), (v46 : Value), (v47 : Value), (v48 : Value), (v49 : Value), (v50 : Value), (v51 : Value)])), (tx, .inl (cT, nT, .inl gT))]) hP hD hS hA [0, 1] rfl kc_nd_434 rfl
        have hPc := hCu.1
        have hDc := hCu.2.1
        have hFc := hCu.2.2
        have hKc := hK.sb (tys2 := [(cT, .byte)]) [0] rfl
        refine va_calli (va_runV (As := []) (rest := []) ⟨hx, hb, hml, hown, hts⟩ (s_look10x l dC dI jM ((v0 : Value) : Value) ((v1 : Value) : Value) ((v2 : Value) : Value) ((v3 : Value) : Value) ((v6 : Value) : Value) ((v7 : Value) : Value) ((v8 : Value) : Value) (.int (-1) : Value) (.int 6 : Value) ((v14 : Value) : Value) ((v15 : Value) : Value) ((v18 : Value) : Value) ((v19 : Value) : Value) ((v20 : Value) : Value) ((v21 : Value) : Value) ((v22 : Value) : Value) ((v23 : Value) : Value) ((v24 : Value) : Value) ((v25 : Value) : Value) ((v26 : Value) : Value) ((v27 : Value) : Value) ((v28 : Value) : Value) ((v29 : Value) : Value) ((v30 : Value) : Value) ((v31 : Value) : Value) ((v32 : Value) : Value) ((v33 : Value) : Value) ((v34 : Value) : Value) ((v35 : Value) : Value) ((v36 : Value) : Value) ((v37 : Value) : Value) ((v38 : Value) : Value) ((v39 : Value) : Value) ((v40 : Value) : Value) ((v41 : Value) : Value) ((v42 : Value) : Value) ((v43 : Value) : Value) ((v44 : Value) : Value) ((v45 : Value) : Value) ((v46 : Value) : Value) ((v47 : Value) : Value) ((v48 : Value) : Value) ((v49 : Value) : Value) ((v50 : Value) : Value) ((v51 : Value) : Value) lt q6 q7 tx cT nT gT be en i bd_1 hnT bd_12 bt hbr hb8 hb1 hen9 H.size) (cwV 0 hts (kG (List.forall_mem_cons.mpr ⟨(List.mem_cons_of_mem _ (List.mem_append_left _ (List.mem_of_getElem? (i := 3) rfl))), (List.forall_mem_cons.mpr ⟨(List.mem_cons_of_mem _ (List.mem_append_left _ (List.mem_of_getElem? (i := 2) rfl))), (List.forall_mem_cons.mpr ⟨(List.mem_cons_of_mem _ (List.mem_append_left _ (List.mem_of_getElem? (i := 1) rfl))), (List.forall_mem_cons.mpr ⟨(List.mem_cons_of_mem _ (List.mem_append_left _ (List.mem_of_getElem? (i := 0) rfl))), (fun _ h => absurd h List.not_mem_nil)⟩)⟩)⟩)⟩) (kGV _ _ _ _) (fun _ h => List.mem_cons_of_mem _ (List.mem_append_right _ (List.mem_append_left _ h))) gw_s_look10x) rfl rfl rfl ⟨rfl, hd_X10_look⟩ ⟨(Nat.le_of_ble_eq_true rfl), (Nat.le_of_ble_eq_true rfl)⟩) (kW_V kT_blind kT_give (va_recv hKc hPc (ci := 10) (q0 := 0) rfl rfl) hPc hKc hDc) rfl rfl hl.1 rfl (lv_room (Nat.le_of_ble_eq_true rfl)) dX10_condition_16 ⟨(Nat.le_of_ble_eq_true rfl), (Nat.le_of_ble_eq_true rfl)⟩) hS (fun q _ h => hFc q h) hFc (fun r_13 => kU2 (fun a1_14 ch_15 t H_16 locs ht hvm hw hB hz1 hk1 hS => ?_))
        try dsimp only at hw
        have hPD : kPD dC dI A [(jM, .inr (10, [((v0 : Value) : Value), ((v1 : Value) : Value), ((v2 : Value) : Value), ((v3 : Value) : Value), .ref lt, .ref tx, ((v6 : Value) : Value), ((v7 : Value) : Value), ((v8 : Value) : Value), .int (nI (be)), .int (nI (en)), .int (nI (a1_14)), .int (-1), .int 6, ((v14 : Value) : Value), ((v15 : Value) : Value), .ref q6, .ref q7, ((v18 : Value) : Value), ((v19 : Value) : Value), ((v20 : Value) : Value), ((v21 : Value) : Value), ((v22 : Value) : Value), ((v23 : Value) : Value), ((v24 : Value) : Value), ((v25 : Value) : Value), ((v26 : Value) : Value), ((v27 : Value) : Value), ((v28 : Value) : Value), ((v29 : Value) : Value), ((v30 : Value) : Value), ((v31 : Value) : Value), ((v32 : Value) : Value), ((v33 : Value) : Value), ((v34 : Value) : Value), ((v35 : Value) : Value), ((v36 : Value) : Value), ((v37 : Value) : Value), ((v38 : Value) : Value), ((v39 : Value) : Value), ((v40 : Value) : Value), ((v41 : Value) : Value), ((v42 : Value) : Value), ((v43 : Value) : Value), ((v44 : Value) : Value), ((v45 : Value) : Value), ((v46 : Value) : Value), ((v47 : Value) : Value), ((v48 : Value) : Value), ((v49 : Value) : Value), ((v50 : Value) : Value), ((v51 : Value) : Value)])), (tx, .inl (cT, nT, .inl gT)), (lt, .inl (cE, 128, .inl gE))] H_16 := kJoinX hP hD [0, 1] rfl hk1 hFc hB.1 ht hB.2.2 rfl [some 0, some 1, none] rfl rfl
        obtain ⟨hP, hD⟩ := hPD
        have hw_17 := hw
        have hw_17_0 := hw_17.1
        have hw_17_1 := hw_17.2.1
        have hw_17_2 := hw_17.2.2.1
        have hw_17_3 := hw_17.2.2.2.1
        have hw_17_4 := hw_17.2.2.2.2.1
        have hw_17_5 := hw_17.2.2.2.2.2.1
        have hw_17_6 := hw_17.2.2.2.2.2.2.1
        have hw_17_7 := hw_17.2.2.2.2.2.2.2
        clear hw_17
        refine lv_bipush (v := 124) hx hb dX10_condition_19 kc_b_124 ?_
        refine lv_icmp_ne (tgt := 60) hx hb dX10_condition_21 kc_t_21_39 (fun c_18 => ?_) (fun c_18 => ?_)
        · have hk_19 := kLr_n hw_17_0 (by omega) (k := 124) (by decide) c_18
          refine lv_iload_n hx hb dX10_condition_60 rfl (lv_at hl 0 rfl) ?_
          have hP9 := hP
          have hD9 := hD
          have hK9 := hK
          rw [hQ]
          exact W.zret (v := xb) hx hb hr (kB01 (by assumption)) (fun t ht hW => ⟨⟨xb, (a1_14, (-1), 6, true, xl), rfl, ⟨(by assumption), (kPM_t (A := kConD bt en g7 n7 0) rfl (kConD_good hz7 0) (by omega) (by rw [← ivk_10_2, show 120 - xc = (119 - xc) + 1 by omega, kLoop_e (by rw [← hw_17_1]; omega), ← hw_17_2])), fun _ hbd => (ivk_10_4 hbd)⟩,  by rw [ht]; exact hP9, va_K.moved hW.alike hK9, hD9⟩, hS.F ht⟩) hS.2.2 dX10_condition_61
        · have hk_20 := kLr_e hw_17_0 (by omega) (k := 124) (by decide) c_18
          refine lv_aload_n hx hb dX10_condition_24 rfl (lv_at hl 1 rfl) ?_
          refine lv_dup hx hb dX10_condition_25 rfl ?_
          refine va_get (D := (dC, dI)) (ci := 10) (v := .int (nI (a1_14))) (C := RX10) (T := TX10) (N := 52) hx hb hts (fun _ h => List.mem_cons_of_mem _ (List.mem_append_right _ (List.mem_append_right _ (List.mem_append_left _ h)))) hown hK hP 0 rfl rfl 11 kc_l_11_52 (hts (.fieldLink RX10 141 "NotEndedModel" "at" "I") (List.mem_cons_of_mem _ (List.mem_append_left _ (List.mem_of_getElem? (i := 13) rfl)))) (fun _ h9 => h9) rfl dX10_condition_26 ?_
          refine lv_iconst (v := 1) hx hb dX10_condition_29 kc_i_1 ?_
          refine lv_iadd hx hb dX10_condition_30 ?_
          refine lv_topi (fun y_21 ey_21 => ?_)
          obtain rfl : y_21 = nI (a1_14 + 1) := ey_21.trans (nI_add (a1_14) (1))
          refine va_put (D := (dC, dI)) (ci := 10) (v := .int (nI (a1_14 + 1))) (ty := tyX10 11) (C := RX10) (T := TX10) (N := 52) hx hb hts (fun _ h => List.mem_cons_of_mem _ (List.mem_append_right _ (List.mem_append_right _ (List.mem_append_left _ h)))) tyX10 tyX10_ok nmX10 hown hK hP hD hS 0 rfl rfl 11 kc_l_11_52 (hts (.fieldLink RX10 141 "NotEndedModel" "at" "I") (List.mem_cons_of_mem _ (List.mem_append_left _ (List.mem_of_getElem? (i := 13) rfl)))) (fun _ h9 => h9) rfl (tyX10_ok 11 kc_l_11_52) rfl rfl (Nat.le_of_ble_eq_true rfl) dX10_condition_31 (fun H locs hP hD hS => ?_)
          have hPD : kPD dC dI A [(jM, .inr (10, [((v0 : Value) : Value), ((v1 : Value) : Value), ((v2 : Value) : Value), ((v3 : Value) : Value), .ref lt, .ref tx, ((v6 : Value) : Value), ((v7 : Value) : Value), ((v8 : Value) : Value), .int (nI (be)), .int (nI (en)), .int (nI (a1_14 + 1)), .int (-1), .int 6, ((v14 : Value) : Value), ((v15 : Value) : Value), .ref q6, .ref q7, ((v18 : Value) : Value), ((v19 : Value) : Value), ((v20 : Value) : Value), ((v21 : Value) : Value), ((v22 : Value) : Value), ((v23 : Value) : Value), ((v24 : Value) : Value), ((v25 : Value) : Value), ((v26 : Value) : Value), ((v27 : Value) : Value), ((v28 : Value) : Value), ((v29 : Value) : Value), ((v30 : Value) : Value), ((v31 : Value) : Value), ((v32 : Value) : Value), ((v33 : Value) : Value), ((v34 : Value) : Value), ((v35 : Value) : Value), ((v36 : Value) : Value), ((v37 : Value) : Value), ((v38 : Value) : Value), ((v39 : Value) : Value), ((v40 : Value) : Value), ((v41 : Value) : Value), ((v42 : Value) : Value), ((v43 : Value) : Value), ((v44 : Value) : Value), ((v45 : Value) : Value), ((v46 : Value) : Value), ((v47 : Value) : Value), ((v48 : Value) : Value), ((v49 : Value) : Value), ((v50 : Value) : Value), ((v51 : Value) : Value)])), (tx, .inl (cT, nT, .inl gT)), (lt, .inl (cE, 128, .inl gE))] H := ⟨hP, hD⟩
          obtain ⟨hP, hD⟩ := hPD
          refine lv_aload_n hx hb dX10_condition_34 rfl (lv_at hl 1 rfl) ?_
          refine lv_iconst (v := 0) hx hb dX10_condition_35 kc_i_0 ?_
          refine lv_iconst (v := 0) hx hb dX10_condition_36 kc_i_0 ?_
          have bd_22 : (a1_14 + 1) ≤ en := by omega
          have hCu := kCut (wc := [(jM, .inr (10, [((v0 : Value) : Value), ((v1 : Value) : Value), ((v2 : Value) : Value), ((v3 : Value) : Value), .ref lt, .ref tx, ((v6 : Value) : Value), ((v7 : Value) : Value), ((v8 : Value) : Value), .int (nI (be)), .int (nI (en)), .int (nI (a1_14 + 1)), .int (-1), .int 6, ((v14 : Value) : Value), ((v15 : Value) : Value), .ref q6, .ref q7, ((v18 : Value) : Value), ((v19 : Value) : Value), ((v20 : Value) : Value), ((v21 : Value) : Value), ((v22 : Value) : Value), ((v23 : Value) : Value), ((v24 : Value) : Value), ((v25 : Value) : Value), ((v26 : Value) : Value), ((v27 : Value) : Value), ((v28 : Value) : Value), ((v29 : Value) : Value), ((v30 : Value) : Value), ((v31 : Value) : Value), ((v32 : Value) : Value), ((v33 : Value) : Value), ((v34 : Value) : Value), ((v35 : Value) : Value), ((v36 : Value) : Value), ((v37 : Value) : Value), ((v38 : Value) : Value), ((v39 : Value) : Value), ((v40 : Value) : Value), ((v41 : Value) : Value), ((v42 : Value) : Value), ((v43 : Value) : Value), ((v44 : Value) : Value), ((v45 : Value) : Value), ((v46 : Value) : Value), ((v47 : Value) : Value), ((v48 : Value) : Value), ((v49 : Value) : Value), ((v50 : Value) : Value), ((v51 : Value) : Value)])), (tx, .inl (cT, nT, .inl gT)), (lt, .inl (cE, 128, .inl gE))]) hP hD hS hA [0, 1, 2] rfl kc_nd_138 rfl
          have hPc := hCu.1
          have hDc := hCu.2.1
          have hFc := hCu.2.2
          have hKc := hK.sb (tys2 := [(cT, .byte), (cE, .int)]) [0, 1] rfl
          refine va_calli (va_runV (As := [.int 0, .int 0]) (rest := []) ⟨hx, hb, hml, hown, hts⟩ (s_part10x_6_0 l dC dI jM (((v0 : Value) : Value) : Value) (((v1 : Value) : Value) : Value) (((v2 : Value) : Value) : Value) (((v3 : Value) : Value) : Value) (((v6 : Value) : Value) : Value) (((v7 : Value) : Value) : Value) (((v8 : Value) : Value) : Value) (((v14 : Value) : Value) : Value) (((v15 : Value) : Value) : Value) (((v18 : Value) : Value) : Value) (((v19 : Value) : Value) : Value) (((v20 : Value) : Value) : Value) (((v21 : Value) : Value) : Value) (((v22 : Value) : Value) : Value) (((v23 : Value) : Value) : Value) (((v24 : Value) : Value) : Value) (((v25 : Value) : Value) : Value) (((v26 : Value) : Value) : Value) (((v27 : Value) : Value) : Value) (((v28 : Value) : Value) : Value) (((v29 : Value) : Value) : Value) (((v30 : Value) : Value) : Value) (((v31 : Value) : Value) : Value) (((v32 : Value) : Value) : Value) (((v33 : Value) : Value) : Value) (((v34 : Value) : Value) : Value) (((v35 : Value) : Value) : Value) (((v36 : Value) : Value) : Value) (((v37 : Value) : Value) : Value) (((v38 : Value) : Value) : Value) (((v39 : Value) : Value) : Value) (((v40 : Value) : Value) : Value) (((v41 : Value) : Value) : Value) (((v42 : Value) : Value) : Value) (((v43 : Value) : Value) : Value) (((v44 : Value) : Value) : Value) (((v45 : Value) : Value) : Value) (((v46 : Value) : Value) : Value) (((v47 : Value) : Value) : Value) (((v48 : Value) : Value) : Value) (((v49 : Value) : Value) : Value) (((v50 : Value) : Value) : Value) (((v51 : Value) : Value) : Value) lt q6 q7 tx cT nT gT be en (a1_14 + 1) bd_1 hnT bd_22 bt hbr hb8 hb1 hen9 cE gE b6 n6 g6 hn6 hg6 b7 n7 g7 hn7 hg7 hz6 hz7 hl7 0 H.size) (cwV 2 hts (kG (List.forall_mem_cons.mpr ⟨(List.mem_cons_of_mem _ (List.mem_append_left _ (List.mem_of_getElem? (i := 48) rfl))), (List.forall_mem_cons.mpr ⟨(List.mem_cons_of_mem _ (List.mem_append_left _ (List.mem_of_getElem? (i := 47) rfl))), (List.forall_mem_cons.mpr ⟨(List.mem_cons_of_mem _ (List.mem_append_left _ (List.mem_of_getElem? (i := 46) rfl))), (List.forall_mem_cons.mpr ⟨(List.mem_cons_of_mem _ (List.mem_append_left _ (List.mem_of_getElem? (i := 0) rfl))), (fun _ h => absurd h List.not_mem_nil)⟩)⟩)⟩)⟩) (kGV _ _ _ _) (kFam (List.mem_cons_of_mem _ (List.mem_append_left _ (List.mem_of_getElem? (i := 45) rfl)))) gw_s_part10x_6_0) rfl rfl rfl ⟨rfl, hd_X10_part⟩ ⟨(Nat.le_of_ble_eq_true rfl), (Nat.le_of_ble_eq_true rfl)⟩) (kW_V kS2_blind (kS2_give hX hS hFc) (va_recv hKc hPc (ci := 10) (q0 := 0) rfl rfl) hPc hKc hDc) rfl rfl hl.1 rfl (lv_room (Nat.le_of_ble_eq_true rfl)) dX10_condition_37 ⟨(Nat.le_of_ble_eq_true rfl), (Nat.le_of_ble_eq_true rfl)⟩) hS (fun q _ h => hFc q h) hFc (fun r_23 => kU5 (fun a1_24 xf_25 xd_26 xo_27 xl_28 t H_29 locs ht hvm hw hB hz1 hk1 hS => ?_))
          try dsimp only at hw
          have hPD : kPD dC dI A [(jM, .inr (10, [(((v0 : Value) : Value) : Value), (((v1 : Value) : Value) : Value), (((v2 : Value) : Value) : Value), (((v3 : Value) : Value) : Value), .ref lt, .ref tx, (((v6 : Value) : Value) : Value), (((v7 : Value) : Value) : Value), (((v8 : Value) : Value) : Value), .int (nI (be)), .int (nI (en)), .int (nI (a1_24)), .int xf_25, .int xd_26, (((v14 : Value) : Value) : Value), (((v15 : Value) : Value) : Value), .ref q6, .ref q7, (((v18 : Value) : Value) : Value), (((v19 : Value) : Value) : Value), (((v20 : Value) : Value) : Value), (((v21 : Value) : Value) : Value), (((v22 : Value) : Value) : Value), (((v23 : Value) : Value) : Value), (((v24 : Value) : Value) : Value), (((v25 : Value) : Value) : Value), (((v26 : Value) : Value) : Value), (((v27 : Value) : Value) : Value), (((v28 : Value) : Value) : Value), (((v29 : Value) : Value) : Value), (((v30 : Value) : Value) : Value), (((v31 : Value) : Value) : Value), (((v32 : Value) : Value) : Value), (((v33 : Value) : Value) : Value), (((v34 : Value) : Value) : Value), (((v35 : Value) : Value) : Value), (((v36 : Value) : Value) : Value), (((v37 : Value) : Value) : Value), (((v38 : Value) : Value) : Value), (((v39 : Value) : Value) : Value), (((v40 : Value) : Value) : Value), (((v41 : Value) : Value) : Value), (((v42 : Value) : Value) : Value), (((v43 : Value) : Value) : Value), (((v44 : Value) : Value) : Value), (((v45 : Value) : Value) : Value), (((v46 : Value) : Value) : Value), (((v47 : Value) : Value) : Value), (((v48 : Value) : Value) : Value), (((v49 : Value) : Value) : Value), (((v50 : Value) : Value) : Value), (((v51 : Value) : Value) : Value)])), (tx, .inl (cT, nT, .inl gT)), (lt, .inl (cE, 128, .inl gE))] H_29 := kJoinX hP hD [0, 1, 2] rfl hk1 hFc hB.1 ht hB.2.2 rfl [some 0, some 1, some 2] rfl rfl
          obtain ⟨hP, hD⟩ := hPD
          have hw_30 := hw
          have hw_30_b := hw_30.1
          replace hw_30 := hw_30.2
          have hw_30_w := hw_30.2
          replace hw_30 := hw_30.1
          have hw_30_k := hw_30.2.1
          rcases Bool.eq_false_or_eq_true xo_27 with e9 | e9
          · subst e9
            have hw_30_v := hw_30_w rfl
            obtain ⟨hw_30_f, hw_30_d, hw_30_l, hw_30_p⟩ := hw_30.2.2.1 rfl
            subst hw_30_f
            subst hw_30_d
            refine lv_istore hx hb dX10_condition_40 hl kc_l_4_5 (kTo [(4, .int r_23), (3, .int xb), (0, .ref jM), (1, .int 0), (2, .int p1)]) (fun ls hl => ?_)
            refine lv_iload_n hx hb dX10_condition_42 rfl (lv_at hl 1 rfl) ?_
            refine lv_if_ne (tgt := 51) hx hb dX10_condition_43 kc_t_43_8 (fun c_31 => ?_) (fun c_31 => ?_)
            · refine lv_iconst (v := 1) hx hb dX10_condition_51 kc_i_1 ?_
              refine lv_goto (tgt := 56) hx hb dX10_condition_52 kc_t_52_4 ?_
              refine lv_istore_n hx hb dX10_condition_56 rfl hl kc_l_3_5 (kTo [(3, .int 1), (4, .int r_23), (0, .ref jM), (1, .int 0), (2, .int p1)]) (fun ls hl => ?_)
              refine lv_goto (tgt := 7) hx hb dX10_condition_57 kc_t_57_m50 ?_
              exact ih_k_10 a1_24 1 (xl ++ xl_28 ++ [nI (20000 + 124)]) (xc + 1) (by omega) (by omega) (by have e9 := kLoop_t (b := bt) (n := en) (c1 := 124) (c2 := 124) (a := kTruD bt en g7 n7 0) (f := 120 - (xc + 1)) (p := i) (l := xl) (by rw [← hw_17_1]; omega) (by rw [← hw_17_2]; exact hw_30.1); rw [← hw_17_1] at e9; rw [show ch_15 = 124 by omega] at e9; rw [← e9, show (120 - (xc + 1)) + 1 = 120 - xc by omega]; exact ivk_10_2) (Or.inr rfl) (fun hbd => by rw [kValB ivk_10_5 (kTruD_w hn7 0 _ _ _ hw_30.1) (by omega) (by omega), ← ivk_10_4 hbd, ← hw_30_v hbd]; exact kOr_l c_31 ivk_10_3 hw_30_b) (kHb_bin ivk_10_5 (kTruD_w hn7 0 _ _ _ hw_30.1) (by omega) (by omega)) _ _ hP hD hS ls (lv_sub hl [0, 2, 3, 4] rfl) (by omega)
            · refine lv_iload hx hb dX10_condition_46 (lv_at hl 0 rfl) ?_
              refine lv_if_eq (tgt := 55) hx hb dX10_condition_48 kc_t_48_7 (fun c_32 => ?_) (fun c_32 => ?_)
              · refine lv_iconst (v := 0) hx hb dX10_condition_55 kc_i_0 ?_
                refine lv_istore_n hx hb dX10_condition_56 rfl hl kc_l_3_5 (kTo [(3, .int 0), (4, .int r_23), (0, .ref jM), (1, .int 0), (2, .int p1)]) (fun ls hl => ?_)
                refine lv_goto (tgt := 7) hx hb dX10_condition_57 kc_t_57_m50 ?_
                exact ih_k_10 a1_24 0 (xl ++ xl_28 ++ [nI (20000 + 124)]) (xc + 1) (by omega) (by omega) (by have e9 := kLoop_t (b := bt) (n := en) (c1 := 124) (c2 := 124) (a := kTruD bt en g7 n7 0) (f := 120 - (xc + 1)) (p := i) (l := xl) (by rw [← hw_17_1]; omega) (by rw [← hw_17_2]; exact hw_30.1); rw [← hw_17_1] at e9; rw [show ch_15 = 124 by omega] at e9; rw [← e9, show (120 - (xc + 1)) + 1 = 120 - xc by omega]; exact ivk_10_2) (Or.inl rfl) (fun hbd => by rw [kValB ivk_10_5 (kTruD_w hn7 0 _ _ _ hw_30.1) (by omega) (by omega), ← ivk_10_4 hbd, ← hw_30_v hbd]; exact kOr_0 c_31 c_32) (kHb_bin ivk_10_5 (kTruD_w hn7 0 _ _ _ hw_30.1) (by omega) (by omega)) _ _ hP hD hS ls (lv_sub hl [0, 2, 3, 4] rfl) (by omega)
              · refine lv_iconst (v := 1) hx hb dX10_condition_51 kc_i_1 ?_
                refine lv_goto (tgt := 56) hx hb dX10_condition_52 kc_t_52_4 ?_
                refine lv_istore_n hx hb dX10_condition_56 rfl hl kc_l_3_5 (kTo [(3, .int 1), (4, .int r_23), (0, .ref jM), (1, .int 0), (2, .int p1)]) (fun ls hl => ?_)
                refine lv_goto (tgt := 7) hx hb dX10_condition_57 kc_t_57_m50 ?_
                exact ih_k_10 a1_24 1 (xl ++ xl_28 ++ [nI (20000 + 124)]) (xc + 1) (by omega) (by omega) (by have e9 := kLoop_t (b := bt) (n := en) (c1 := 124) (c2 := 124) (a := kTruD bt en g7 n7 0) (f := 120 - (xc + 1)) (p := i) (l := xl) (by rw [← hw_17_1]; omega) (by rw [← hw_17_2]; exact hw_30.1); rw [← hw_17_1] at e9; rw [show ch_15 = 124 by omega] at e9; rw [← e9, show (120 - (xc + 1)) + 1 = 120 - xc by omega]; exact ivk_10_2) (Or.inr rfl) (fun hbd => by rw [kValB ivk_10_5 (kTruD_w hn7 0 _ _ _ hw_30.1) (by omega) (by omega), ← ivk_10_4 hbd, ← hw_30_v hbd]; exact kOr_r c_31 c_32 hw_30_b) (kHb_bin ivk_10_5 (kTruD_w hn7 0 _ _ _ hw_30.1) (by omega) (by omega)) _ _ hP hD hS ls (lv_sub hl [0, 2, 3, 4] rfl) (by omega)
          · subst e9
            obtain ⟨hw_30_f, hw_30_n⟩ := hw_30.2.2.2 rfl
            subst hw_30_f
            subst hw_30_n
            refine lv_istore hx hb dX10_condition_40 hl kc_l_4_5 (kTo [(4, .int r_23), (3, .int xb), (0, .ref jM), (1, .int 0), (2, .int p1)]) (fun ls hl => ?_)
            refine lv_iload_n hx hb dX10_condition_42 rfl (lv_at hl 1 rfl) ?_
            refine lv_if_ne (tgt := 51) hx hb dX10_condition_43 kc_t_43_8 (fun c_33 => ?_) (fun c_33 => ?_)
            · refine lv_iconst (v := 1) hx hb dX10_condition_51 kc_i_1 ?_
              refine lv_goto (tgt := 56) hx hb dX10_condition_52 kc_t_52_4 ?_
              refine lv_istore_n hx hb dX10_condition_56 rfl hl kc_l_3_5 (kTo [(3, .int 1), (4, .int r_23), (0, .ref jM), (1, .int 0), (2, .int p1)]) (fun ls hl => ?_)
              refine lv_goto (tgt := 7) hx hb dX10_condition_57 kc_t_57_m50 ?_
              refine lv_aload_n hx hb dX10_condition_7 rfl (lv_at hl 2 rfl) ?_
              refine va_get (D := (dC, dI)) (ci := 10) (v := .int (nI (a1_24))) (C := RX10) (T := TX10) (N := 52) hx hb hts (fun _ h => List.mem_cons_of_mem _ (List.mem_append_right _ (List.mem_append_right _ (List.mem_append_left _ h)))) hown hK hP 0 rfl rfl 12 kc_l_12_52 (hts (.fieldLink RX10 150 "NotEndedModel" "fault" "I") (List.mem_cons_of_mem _ (List.mem_append_left _ (List.mem_of_getElem? (i := 10) rfl)))) (fun _ h9 => h9) rfl dX10_condition_8 ?_
              refine lv_iconst (v := (-1)) hx hb dX10_condition_11 kc_i_m1 ?_
              refine lv_icmp_ne (tgt := 60) hx hb dX10_condition_12 kc_t_12_48 (fun c_34 => ?_) (fun c_34 => absurd c_34 (kNeM (n := a1_24) (by omega)))
              refine lv_iload_n hx hb dX10_condition_60 rfl (lv_at hl 0 rfl) ?_
              have hP9 := hP
              have hD9 := hD
              have hK9 := hK
              rw [hQ]
              exact W.zret (v := 1) hx hb hr rfl (fun t ht hW => ⟨⟨1, (a1_24, (nI (a1_24)), xd_26, false, []), rfl, ⟨(Or.inr rfl), (kPM_f (by rw [← ivk_10_2, show 120 - xc = (119 - xc) + 1 by omega]; exact kLoop_f (by rw [← hw_17_1]; omega) (by rw [← hw_17_2]; exact hw_30.1)) (by omega)), fun z9 => absurd z9 (by decide)⟩,  by rw [ht]; exact hP9, va_K.moved hW.alike hK9, hD9⟩, hS.F ht⟩) hS.2.2 dX10_condition_61
            · refine lv_iload hx hb dX10_condition_46 (lv_at hl 0 rfl) ?_
              refine lv_if_eq (tgt := 55) hx hb dX10_condition_48 kc_t_48_7 (fun c_35 => ?_) (fun c_35 => ?_)
              · refine lv_iconst (v := 0) hx hb dX10_condition_55 kc_i_0 ?_
                refine lv_istore_n hx hb dX10_condition_56 rfl hl kc_l_3_5 (kTo [(3, .int 0), (4, .int r_23), (0, .ref jM), (1, .int 0), (2, .int p1)]) (fun ls hl => ?_)
                refine lv_goto (tgt := 7) hx hb dX10_condition_57 kc_t_57_m50 ?_
                refine lv_aload_n hx hb dX10_condition_7 rfl (lv_at hl 2 rfl) ?_
                refine va_get (D := (dC, dI)) (ci := 10) (v := .int (nI (a1_24))) (C := RX10) (T := TX10) (N := 52) hx hb hts (fun _ h => List.mem_cons_of_mem _ (List.mem_append_right _ (List.mem_append_right _ (List.mem_append_left _ h)))) hown hK hP 0 rfl rfl 12 kc_l_12_52 (hts (.fieldLink RX10 150 "NotEndedModel" "fault" "I") (List.mem_cons_of_mem _ (List.mem_append_left _ (List.mem_of_getElem? (i := 10) rfl)))) (fun _ h9 => h9) rfl dX10_condition_8 ?_
                refine lv_iconst (v := (-1)) hx hb dX10_condition_11 kc_i_m1 ?_
                refine lv_icmp_ne (tgt := 60) hx hb dX10_condition_12 kc_t_12_48 (fun c_36 => ?_) (fun c_36 => absurd c_36 (kNeM (n := a1_24) (by omega)))
                refine lv_iload_n hx hb dX10_condition_60 rfl (lv_at hl 0 rfl) ?_
                have hP9 := hP
                have hD9 := hD
                have hK9 := hK
                rw [hQ]
                exact W.zret (v := 0) hx hb hr rfl (fun t ht hW => ⟨⟨0, (a1_24, (nI (a1_24)), xd_26, false, []), rfl, ⟨(Or.inl rfl), (kPM_f (by rw [← ivk_10_2, show 120 - xc = (119 - xc) + 1 by omega]; exact kLoop_f (by rw [← hw_17_1]; omega) (by rw [← hw_17_2]; exact hw_30.1)) (by omega)), fun z9 => absurd z9 (by decide)⟩,  by rw [ht]; exact hP9, va_K.moved hW.alike hK9, hD9⟩, hS.F ht⟩) hS.2.2 dX10_condition_61
              · refine lv_iconst (v := 1) hx hb dX10_condition_51 kc_i_1 ?_
                refine lv_goto (tgt := 56) hx hb dX10_condition_52 kc_t_52_4 ?_
                refine lv_istore_n hx hb dX10_condition_56 rfl hl kc_l_3_5 (kTo [(3, .int 1), (4, .int r_23), (0, .ref jM), (1, .int 0), (2, .int p1)]) (fun ls hl => ?_)
                refine lv_goto (tgt := 7) hx hb dX10_condition_57 kc_t_57_m50 ?_
                refine lv_aload_n hx hb dX10_condition_7 rfl (lv_at hl 2 rfl) ?_
                refine va_get (D := (dC, dI)) (ci := 10) (v := .int (nI (a1_24))) (C := RX10) (T := TX10) (N := 52) hx hb hts (fun _ h => List.mem_cons_of_mem _ (List.mem_append_right _ (List.mem_append_right _ (List.mem_append_left _ h)))) hown hK hP 0 rfl rfl 12 kc_l_12_52 (hts (.fieldLink RX10 150 "NotEndedModel" "fault" "I") (List.mem_cons_of_mem _ (List.mem_append_left _ (List.mem_of_getElem? (i := 10) rfl)))) (fun _ h9 => h9) rfl dX10_condition_8 ?_
                refine lv_iconst (v := (-1)) hx hb dX10_condition_11 kc_i_m1 ?_
                refine lv_icmp_ne (tgt := 60) hx hb dX10_condition_12 kc_t_12_48 (fun c_37 => ?_) (fun c_37 => absurd c_37 (kNeM (n := a1_24) (by omega)))
                refine lv_iload_n hx hb dX10_condition_60 rfl (lv_at hl 0 rfl) ?_
                have hP9 := hP
                have hD9 := hD
                have hK9 := hK
                rw [hQ]
                exact W.zret (v := 1) hx hb hr rfl (fun t ht hW => ⟨⟨1, (a1_24, (nI (a1_24)), xd_26, false, []), rfl, ⟨(Or.inr rfl), (kPM_f (by rw [← ivk_10_2, show 120 - xc = (119 - xc) + 1 by omega]; exact kLoop_f (by rw [← hw_17_1]; omega) (by rw [← hw_17_2]; exact hw_30.1)) (by omega)), fun z9 => absurd z9 (by decide)⟩,  by rw [ht]; exact hP9, va_K.moved hW.alike hK9, hD9⟩, hS.F ht⟩) hS.2.2 dX10_condition_61
    exact lp_k_10 (en - a1_3 + 1) a1_3 r_2 xl_7 0 (by omega) (by omega) (kMany_t hw_9.1).symm hw_9_b hw_9_v (kHb_le (kTruD_w hn7 0 _ _ _ hw_9.1) (by omega)) _ _ hP hD hS ls (lv_sub hl [0, 1, 2, 3] rfl) (by omega)
  · subst e9
    obtain ⟨hw_9_f, hw_9_n⟩ := hw_9.2.2.2 rfl
    subst hw_9_f
    subst hw_9_n
    refine lv_istore_n hx hb dX10_condition_6 rfl hl kc_l_3_5 (kTo [(3, .int r_2), (0, .ref jM), (1, .int 0), (2, .int p1)]) (fun ls hl => ?_)
    refine lv_aload_n hx hb dX10_condition_7 rfl (lv_at hl 1 rfl) ?_
    refine va_get (D := (dC, dI)) (ci := 10) (v := .int (nI (a1_3))) (C := RX10) (T := TX10) (N := 52) hx hb hts (fun _ h => List.mem_cons_of_mem _ (List.mem_append_right _ (List.mem_append_right _ (List.mem_append_left _ h)))) hown hK hP 0 rfl rfl 12 kc_l_12_52 (hts (.fieldLink RX10 150 "NotEndedModel" "fault" "I") (List.mem_cons_of_mem _ (List.mem_append_left _ (List.mem_of_getElem? (i := 10) rfl)))) (fun _ h9 => h9) rfl dX10_condition_8 ?_
    refine lv_iconst (v := (-1)) hx hb dX10_condition_11 kc_i_m1 ?_
    refine lv_icmp_ne (tgt := 60) hx hb dX10_condition_12 kc_t_12_48 (fun c_38 => ?_) (fun c_38 => absurd c_38 (kNeM (n := a1_3) (by omega)))
    refine lv_iload_n hx hb dX10_condition_60 rfl (lv_at hl 0 rfl) ?_
    have hP9 := hP
    have hD9 := hD
    have hK9 := hK
    rw [hQ]
    exact W.zret (v := r_2) hx hb hr (kB01 (by assumption)) (fun t ht hW => ⟨⟨r_2, (a1_3, (nI (a1_3)), xd_5, false, []), rfl, ⟨(by assumption), (kPM_f (kMany_f hw_9.1) (by omega)), fun z9 => absurd z9 (by decide)⟩,  by rw [ht]; exact hP9, va_K.moved hW.alike hK9, hD9⟩, hS.F ht⟩) hS.2.2 dX10_condition_61
