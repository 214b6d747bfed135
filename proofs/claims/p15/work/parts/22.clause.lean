theorem dX4_readClause_0 : decode cX4_readClause 0 = .ok (.aload_n 0, 1) := by decide +kernel
theorem dX4_readClause_1 : decode cX4_readClause 1 = .ok (.getfield 30, 3) := by decide +kernel
theorem dX4_readClause_4 : decode cX4_readClause 4 = .ok (.aload_n 0, 1) := by decide +kernel
theorem dX4_readClause_5 : decode cX4_readClause 5 = .ok (.invokevirtual 53, 3) := by decide +kernel
theorem dX4_readClause_8 : decode cX4_readClause 8 = .ok (.invokevirtual 72, 3) := by decide +kernel
theorem dX4_readClause_11 : decode cX4_readClause 11 = .ok (.istore_n 1, 1) := by decide +kernel
theorem dX4_readClause_12 : decode cX4_readClause 12 = .ok (.iload_n 1, 1) := by decide +kernel
theorem dX4_readClause_13 : decode cX4_readClause 13 = .ok (.ifCond .ge 5, 3) := by decide +kernel
theorem dX4_readClause_18 : decode cX4_readClause 18 = .ok (.aload_n 0, 1) := by decide +kernel
theorem dX4_readClause_19 : decode cX4_readClause 19 = .ok (.dup, 1) := by decide +kernel
theorem dX4_readClause_20 : decode cX4_readClause 20 = .ok (.getfield 25, 3) := by decide +kernel
theorem dX4_readClause_23 : decode cX4_readClause 23 = .ok (.iconst 1, 1) := by decide +kernel
theorem dX4_readClause_24 : decode cX4_readClause 24 = .ok (.iadd, 1) := by decide +kernel
theorem dX4_readClause_25 : decode cX4_readClause 25 = .ok (.putfield 25, 3) := by decide +kernel
theorem dX4_readClause_28 : decode cX4_readClause 28 = .ok (.aload_n 0, 1) := by decide +kernel
theorem dX4_readClause_29 : decode cX4_readClause 29 = .ok (.bipush 58, 2) := by decide +kernel
theorem dX4_readClause_31 : decode cX4_readClause 31 = .ok (.invokevirtual 57, 3) := by decide +kernel
theorem dX4_readClause_34 : decode cX4_readClause 34 = .ok (.ifCond .ne 5, 3) := by decide +kernel
theorem dX4_readClause_39 : decode cX4_readClause 39 = .ok (.aload_n 0, 1) := by decide +kernel
theorem dX4_readClause_40 : decode cX4_readClause 40 = .ok (.getfield 18, 3) := by decide +kernel
theorem dX4_readClause_43 : decode cX4_readClause 43 = .ok (.istore_n 2, 1) := by decide +kernel
theorem dX4_readClause_44 : decode cX4_readClause 44 = .ok (.aload_n 0, 1) := by decide +kernel
theorem dX4_readClause_45 : decode cX4_readClause 45 = .ok (.invokevirtual 53, 3) := by decide +kernel
theorem dX4_readClause_48 : decode cX4_readClause 48 = .ok (.bipush 33, 2) := by decide +kernel
theorem dX4_readClause_50 : decode cX4_readClause 50 = .ok (.if_icmp .eq 12, 3) := by decide +kernel
theorem dX4_readClause_62 : decode cX4_readClause 62 = .ok (.iconst 1, 1) := by decide +kernel
theorem dX4_readClause_63 : decode cX4_readClause 63 = .ok (.goto 4, 3) := by decide +kernel
theorem dX4_readClause_67 : decode cX4_readClause 67 = .ok (.istore_n 3, 1) := by decide +kernel
theorem dX4_readClause_68 : decode cX4_readClause 68 = .ok (.iload_n 3, 1) := by decide +kernel
theorem dX4_readClause_69 : decode cX4_readClause 69 = .ok (.ifCond .ne 31, 3) := by decide +kernel
theorem dX4_readClause_100 : decode cX4_readClause 100 = .ok (.aload_n 0, 1) := by decide +kernel
theorem dX4_readClause_101 : decode cX4_readClause 101 = .ok (.iconst 0, 1) := by decide +kernel
theorem dX4_readClause_102 : decode cX4_readClause 102 = .ok (.iload_n 3, 1) := by decide +kernel
theorem dX4_readClause_103 : decode cX4_readClause 103 = .ok (.ifCond .ne 7, 3) := by decide +kernel
theorem dX4_readClause_110 : decode cX4_readClause 110 = .ok (.iconst 0, 1) := by decide +kernel
theorem dX4_readClause_111 : decode cX4_readClause 111 = .ok (.invokevirtual 89, 3) := by decide +kernel
theorem dX4_readClause_114 : decode cX4_readClause 114 = .ok (.ifCond .ne 5, 3) := by decide +kernel
theorem dX4_readClause_119 : decode cX4_readClause 119 = .ok (.aload_n 0, 1) := by decide +kernel
theorem dX4_readClause_120 : decode cX4_readClause 120 = .ok (.getfield 18, 3) := by decide +kernel
theorem dX4_readClause_123 : decode cX4_readClause 123 = .ok (.istore 4, 2) := by decide +kernel
theorem dX4_readClause_125 : decode cX4_readClause 125 = .ok (.aload_n 0, 1) := by decide +kernel
theorem dX4_readClause_126 : decode cX4_readClause 126 = .ok (.bipush 63, 2) := by decide +kernel
theorem dX4_readClause_128 : decode cX4_readClause 128 = .ok (.invokevirtual 57, 3) := by decide +kernel
theorem dX4_readClause_131 : decode cX4_readClause 131 = .ok (.ifCond .eq 26, 3) := by decide +kernel
theorem dX4_readClause_157 : decode cX4_readClause 157 = .ok (.iconst 0, 1) := by decide +kernel
theorem dX4_readClause_158 : decode cX4_readClause 158 = .ok (.ireturn, 1) := by decide +kernel
theorem dX4_readClause_134 : decode cX4_readClause 134 = .ok (.aload_n 0, 1) := by decide +kernel
theorem dX4_readClause_135 : decode cX4_readClause 135 = .ok (.iconst 0, 1) := by decide +kernel
theorem dX4_readClause_136 : decode cX4_readClause 136 = .ok (.invokevirtual 78, 3) := by decide +kernel
theorem dX4_readClause_139 : decode cX4_readClause 139 = .ok (.ifCond .eq 18, 3) := by decide +kernel
theorem dX4_readClause_142 : decode cX4_readClause 142 = .ok (.aload_n 0, 1) := by decide +kernel
theorem dX4_readClause_143 : decode cX4_readClause 143 = .ok (.iload_n 1, 1) := by decide +kernel
theorem dX4_readClause_144 : decode cX4_readClause 144 = .ok (.iload_n 2, 1) := by decide +kernel
theorem dX4_readClause_145 : decode cX4_readClause 145 = .ok (.iload 4, 2) := by decide +kernel
theorem dX4_readClause_147 : decode cX4_readClause 147 = .ok (.invokevirtual 85, 3) := by decide +kernel
theorem dX4_readClause_150 : decode cX4_readClause 150 = .ok (.ifCond .eq 7, 3) := by decide +kernel
theorem dX4_readClause_153 : decode cX4_readClause 153 = .ok (.iconst 1, 1) := by decide +kernel
theorem dX4_readClause_154 : decode cX4_readClause 154 = .ok (.goto 4, 3) := by decide +kernel
theorem dX4_readClause_117 : decode cX4_readClause 117 = .ok (.iconst 0, 1) := by decide +kernel
theorem dX4_readClause_118 : decode cX4_readClause 118 = .ok (.ireturn, 1) := by decide +kernel
theorem dX4_readClause_53 : decode cX4_readClause 53 = .ok (.aload_n 0, 1) := by decide +kernel
theorem dX4_readClause_54 : decode cX4_readClause 54 = .ok (.invokevirtual 53, 3) := by decide +kernel
theorem dX4_readClause_57 : decode cX4_readClause 57 = .ok (.bipush 40, 2) := by decide +kernel
theorem dX4_readClause_59 : decode cX4_readClause 59 = .ok (.if_icmp .ne 7, 3) := by decide +kernel
theorem dX4_readClause_66 : decode cX4_readClause 66 = .ok (.iconst 0, 1) := by decide +kernel
theorem dX4_readClause_72 : decode cX4_readClause 72 = .ok (.aload_n 0, 1) := by decide +kernel
theorem dX4_readClause_73 : decode cX4_readClause 73 = .ok (.iconst 0, 1) := by decide +kernel
theorem dX4_readClause_74 : decode cX4_readClause 74 = .ok (.invokevirtual 78, 3) := by decide +kernel
theorem dX4_readClause_77 : decode cX4_readClause 77 = .ok (.ifCond .ne 5, 3) := by decide +kernel
theorem dX4_readClause_82 : decode cX4_readClause 82 = .ok (.aload_n 0, 1) := by decide +kernel
theorem dX4_readClause_83 : decode cX4_readClause 83 = .ok (.invokevirtual 53, 3) := by decide +kernel
theorem dX4_readClause_86 : decode cX4_readClause 86 = .ok (.invokestatic 82, 3) := by decide +kernel
theorem dX4_readClause_89 : decode cX4_readClause 89 = .ok (.ifCond .ne 11, 3) := by decide +kernel
theorem dX4_readClause_106 : decode cX4_readClause 106 = .ok (.iconst 1, 1) := by decide +kernel
theorem dX4_readClause_107 : decode cX4_readClause 107 = .ok (.goto 4, 3) := by decide +kernel
theorem dX4_readClause_92 : decode cX4_readClause 92 = .ok (.aload_n 0, 1) := by decide +kernel
theorem dX4_readClause_93 : decode cX4_readClause 93 = .ok (.iload_n 1, 1) := by decide +kernel
theorem dX4_readClause_94 : decode cX4_readClause 94 = .ok (.iload_n 2, 1) := by decide +kernel
theorem dX4_readClause_95 : decode cX4_readClause 95 = .ok (.iload_n 2, 1) := by decide +kernel
theorem dX4_readClause_96 : decode cX4_readClause 96 = .ok (.invokevirtual 85, 3) := by decide +kernel
theorem dX4_readClause_99 : decode cX4_readClause 99 = .ok (.ireturn, 1) := by decide +kernel
theorem dX4_readClause_80 : decode cX4_readClause 80 = .ok (.iconst 0, 1) := by decide +kernel
theorem dX4_readClause_81 : decode cX4_readClause 81 = .ok (.ireturn, 1) := by decide +kernel
theorem dX4_readClause_37 : decode cX4_readClause 37 = .ok (.iconst 0, 1) := by decide +kernel
theorem dX4_readClause_38 : decode cX4_readClause 38 = .ok (.ireturn, 1) := by decide +kernel
theorem dX4_readClause_16 : decode cX4_readClause 16 = .ok (.iconst 0, 1) := by decide +kernel
theorem dX4_readClause_17 : decode cX4_readClause 17 = .ok (.ireturn, 1) := by decide +kernel
def w_s_clause4 : List Cond := .code yX4_readClause cX4_readClause 5 (some .boolean) :: wf_rd
theorem gw_s_clause4 : (w_s_clause4).all goodWord = true := kFamG rfl gf_rd
theorem hd_X4_readClause : yX4_readClause.cls ≠ "java/lang/invoke/MethodHandle" ∧ yX4_readClause.cls ≠ "java/lang/invoke/VarHandle" ∧ (parseMethodDescriptor yX4_readClause.desc).map (fun d => d.parameters.length) = some 0 := by decide +kernel
set_option maxHeartbeats 4000000 in
set_option maxRecDepth 100000 in
theorem s_clause4 (l : Launch) (dC : Nat → ClassId) (dI : Nat → Nat → Nat) (jT : Nat) (t0 : Nat) (cC : ClassId) (gT : Nat → Int32) (kt : Nat) (hkt : kt ≤ 120) (hgT : ∀ j : Nat, narrow .char (.int (gT j)) = .int (gT j)) (jR : Nat) (r1 : Nat) (r2 : Nat) (c1 : ClassId) (c2 : ClassId) (s1 : Nat → Int32) (s2 : Nat → Int32) (wr : Nat) (fi : Nat) (pl : Int32) (q6 : Nat) (q7 : Nat) (hwr : wr ≤ 120) (hfi : fi ≤ 124) (b6 : Nat) (n6 : Nat) (g6 : Nat → Int32) (hn6 : n6 ≤ 8) (b7 : Nat) (n7 : Nat) (g7 : Nat → Int32) (hn7 : n7 ≤ 8) (sz : Nat) : Met l yX4_readClause w_s_clause4 ({ frames := 48, cells := 0, slots := 0, locals := 2880 }) (kW dC dI [.ref jR] [(jR, .inr (4, [.ref jT, .ref r1, .ref r2, .int (nI (wr)), .int (nI (fi)), .int pl, .ref q6, .ref q7])), (r1, .inl (c1, 120, .inl s1)), (r2, .inl (c2, 124, .inl s2)), (jT, .inr (8, [.ref t0, .int (nI (kt))])), (t0, .inl (cC, 120, .inl gT))] [(c1, .int), (c2, .int), (cC, .char)] (kS2 q6 b6 n6 g6 q7 b7 n7 g7 (va_A [(jR, .inr (4, [.ref jT, .ref r1, .ref r2, .int (nI (wr)), .int (nI (fi)), .int pl, .ref q6, .ref q7])), (r1, .inl (c1, 120, .inl s1)), (r2, .inl (c2, 124, .inl s2)), (jT, .inr (8, [.ref t0, .int (nI (kt))])), (t0, .inl (cC, 120, .inl gT))] sz)) sz) (va_Qi (fun (r : Int32) (u : (Nat → Int32) × (Nat → Int32) × Int32 × Nat × Nat) => match u with | (S1, S2, Pl, Wr, Fi) => ((r = 0 ∨ r = 1) ∧ Wr ≤ 120 ∧ Fi ≤ 124)) (fun (u : (Nat → Int32) × (Nat → Int32) × Int32 × Nat × Nat) => match u with | (S1, S2, Pl, Wr, Fi) => fun t : State => kB dC dI [(jR, .inr (4, [.ref jT, .ref r1, .ref r2, .int (nI (Wr)), .int (nI (Fi)), .int Pl, .ref q6, .ref q7])), (r1, .inl (c1, 120, .inl S1)), (r2, .inl (c2, 124, .inl S2)), (jT, .inr (8, [.ref t0, .int (nI (kt))])), (t0, .inl (cC, 120, .inl gT))] [(c1, .int), (c2, .int), (cC, .char)] (va_A [(jR, .inr (4, [.ref jT, .ref r1, .ref r2, .int (nI (wr)), .int (nI (fi)), .int pl, .ref q6, .ref q7])), (r1, .inl (c1, 120, .inl s1)), (r2, .inl (c2, 124, .inl s2)), (jT, .inr (8, [.ref t0, .int (nI (kt))])), (t0, .inl (cC, 120, .inl gT))] sz) t) (va_A [(jR, .inr (4, [.ref jT, .ref r1, .ref r2, .int (nI (wr)), .int (nI (fi)), .int pl, .ref q6, .ref q7])), (r1, .inl (c1, 120, .inl s1)), (r2, .inl (c2, 124, .inl s2)), (jT, .inr (8, [.ref t0, .int (nI (kt))])), (t0, .inl (cC, 120, .inl gT))] sz)) 0 0 (va_A [(jR, .inr (4, [.ref jT, .ref r1, .ref r2, .int (nI (wr)), .int (nI (fi)), .int pl, .ref q6, .ref q7])), (r1, .inl (c1, 120, .inl s1)), (r2, .inl (c2, 124, .inl s2)), (jT, .inr (8, [.ref t0, .int (nI (kt))])), (t0, .inl (cC, 120, .inl gT))] sz) := by
  refine Met.ofW (cc := cX4_readClause) (maxL := 5) (ret := (some .boolean)) (by decide) rfl ?_
  intro p e s m args below meth c s₁ B hml hv
  obtain ⟨rfl, hsz, hP, hK, hD0, hX⟩ := hv
  have hx := B.exec
  have hb := B.bytes
  have hr := B.returns
  have hts := atoms_spec (ws := w_s_clause4) B.pre
  have hown : s.vm.findClass RX4 = some m.cls := findClass_of_methodNamed B.named
  have hlocks := B.notSynchronized
  subst hsz
  have hD := hD0.self (sz := s.heap.size)
  generalize hAe : va_A [(jR, .inr (4, [.ref jT, .ref r1, .ref r2, .int (nI (wr)), .int (nI (fi)), .int pl, .ref q6, .ref q7])), (r1, .inl (c1, 120, .inl s1)), (r2, .inl (c2, 124, .inl s2)), (jT, .inr (8, [.ref t0, .int (nI (kt))])), (t0, .inl (cC, 120, .inl gT))] s.heap.size = A at hD hX ⊢
  have hA : ∀ q : Nat, s.heap.size ≤ q → A q := fun q h => by rw [← hAe]; exact Or.inr h
  have hS : va_S A s.heap s.heap [] := va_S.rf
  have hP : va_P (dC, dI) vwCl [(jR, .inr (4, [.ref jT, .ref r1, .ref r2, .int (nI (wr)), .int (nI (fi)), .int pl, .ref q6, .ref q7])), (r1, .inl (c1, 120, .inl s1)), (r2, .inl (c2, 124, .inl s2)), (jT, .inr (8, [.ref t0, .int (nI (kt))])), (t0, .inl (cC, 120, .inl gT))] s.heap := hP
  have hl := lv_entry ([.ref jR]) (n := 5) (Nat.le_of_ble_eq_true rfl)
  rw [lg_entry_eq]
  generalize (lg_sl ([.ref jR]) ++ List.replicate (5 - (lg_sl ([.ref jR])).length) Slot.unset).toArray = ls at hl ⊢
  have hl : lv_has ls 5 [(0, .ref jR)] := hl
  refine kQ (fun Q hQ => ?_)
  refine lv_aload_n hx hb dX4_readClause_0 rfl (lv_at hl 0 rfl) ?_
  refine va_get (D := (dC, dI)) (ci := 4) (v := .ref q6) (C := RX4) (T := TX4) (N := 8) hx hb hts (fun _ h => List.mem_cons_of_mem _ (List.mem_append_right _ (List.mem_append_right _ (List.mem_append_right _ (List.mem_append_left _ h))))) hown hK hP 0 rfl rfl 6 (by decide) (hts (.fieldLink RX4 30 "NotEnded$Reader" "labelSigns" "Ljava/lang/String;") (List.mem_cons_of_mem _ (List.mem_append_left _ (List.mem_of_getElem? (i := 50) rfl)))) (fun _ h9 => h9) rfl dX4_readClause_1 ?_
  refine lv_aload_n hx hb dX4_readClause_4 rfl (lv_at hl 0 rfl) ?_
  obtain ⟨hPc, hDc, hFc⟩ := kCut (wc := [(jR, .inr (4, [.ref jT, .ref r1, .ref r2, .int (nI (wr)), .int (nI (fi)), .int pl, .ref q6, .ref q7])), (r1, .inl (c1, 120, .inl s1)), (r2, .inl (c2, 124, .inl s2)), (jT, .inr (8, [.ref t0, .int (nI (kt))])), (t0, .inl (cC, 120, .inl gT))]) hP hD hS hA [0, 1, 2, 3, 4] rfl (by decide) rfl
  have hKc := hK.sb (tys2 := [(c1, .int), (c2, .int), (cC, .char)]) [0, 1, 2] rfl
  refine va_calli (va_runV (As := []) (rest := [.ref q6]) ⟨hx, hb, hml, hown, hts⟩ (s_look4 l dC dI jT t0 cC gT kt (by omega) (by omega) jR r1 r2 c1 c2 s1 s2 wr fi pl q6 q7 (by omega) (by omega) s.heap.size) (cwV 0 hts (kG (List.forall_mem_cons.mpr ⟨(List.mem_cons_of_mem _ (List.mem_append_left _ (List.mem_of_getElem? (i := 3) rfl))), (List.forall_mem_cons.mpr ⟨(List.mem_cons_of_mem _ (List.mem_append_left _ (List.mem_of_getElem? (i := 2) rfl))), (List.forall_mem_cons.mpr ⟨(List.mem_cons_of_mem _ (List.mem_append_left _ (List.mem_of_getElem? (i := 1) rfl))), (List.forall_mem_cons.mpr ⟨(List.mem_cons_of_mem _ (List.mem_append_left _ (List.mem_of_getElem? (i := 0) rfl))), (fun _ h => absurd h List.not_mem_nil)⟩)⟩)⟩)⟩) (kGV _ _ _ _) (fun _ h => List.mem_cons_of_mem _ (List.mem_append_right _ (List.mem_append_left _ h))) gw_s_look4) rfl rfl rfl ⟨rfl, hd_X4_look⟩ ⟨(Nat.le_of_ble_eq_true rfl), (Nat.le_of_ble_eq_true rfl)⟩) (kW_V kT_blind kT_give (va_recv hKc hPc (ci := 4) (q0 := 0) rfl rfl) hPc hKc hDc) rfl rfl hl.1 rfl (lv_room (Nat.le_of_ble_eq_true rfl)) dX4_readClause_5 ⟨(Nat.le_of_ble_eq_true rfl), (Nat.le_of_ble_eq_true rfl)⟩) hS (fun q _ h => hFc q h) hFc (fun r_1 u t H1 locs ht hvm hw hB hz1 hk1 hS => ?_)
  obtain ⟨Pl_2, rfl⟩ : ∃ z, z = u := ⟨_, rfl⟩
  obtain ⟨hP1, hK1, hD1⟩ := hB
  rw [ht] at hP1
  try dsimp only at hw
  obtain ⟨hP, hD⟩ : kPD dC dI A [(jR, .inr (4, [.ref jT, .ref r1, .ref r2, .int (nI (wr)), .int (nI (fi)), .int Pl_2, .ref q6, .ref q7])), (r1, .inl (c1, 120, .inl s1)), (r2, .inl (c2, 124, .inl s2)), (jT, .inr (8, [.ref t0, .int (nI (kt))])), (t0, .inl (cC, 120, .inl gT))] H1 := kJoinI hP hD [0, 1, 2, 3, 4] rfl hk1 hFc hP1 hD1 rfl [some 0, some 1, some 2, some 3, some 4] rfl rfl
  generalize H1 = H at hP hS ⊢
  have hw_3 := hw
  have hPc := hP.sb (ws2 := []) [] rfl
  have hKc := hK.sb (tys2 := []) [] rfl
  refine vp_callSi (va_runV (As := [.int r_1]) (rest := []) ⟨hx, hb, hml, hown, hts⟩ (s_t_ix l dC dI q6 b6 n6 g6 (by omega) A r_1) (cwV 1 hts (kG (List.forall_mem_cons.mpr ⟨(List.mem_cons_of_mem _ (List.mem_append_left _ (List.mem_of_getElem? (i := 10) rfl))), (List.forall_mem_cons.mpr ⟨(List.mem_cons_of_mem _ (List.mem_append_left _ (List.mem_of_getElem? (i := 9) rfl))), (List.forall_mem_cons.mpr ⟨(List.mem_cons_of_mem _ (List.mem_append_left _ (List.mem_of_getElem? (i := 8) rfl))), (List.forall_mem_cons.mpr ⟨(List.mem_cons_of_mem _ (List.mem_append_left _ (List.mem_of_getElem? (i := 7) rfl))), (fun _ h => absurd h List.not_mem_nil)⟩)⟩)⟩)⟩) (kGV _ _ _ _) (fun _ h => List.mem_cons_of_mem _ (List.mem_append_right _ (List.mem_append_right _ (List.mem_append_right _ (List.mem_append_right _ (List.mem_append_left _ h)))))) gw_s_t_ix) rfl rfl rfl ⟨rfl, hd_J0_indexOf_0f7a4⟩ ⟨(Nat.le_of_ble_eq_true rfl), (Nat.le_of_ble_eq_true rfl)⟩) (kR_V kSt_blind (kSt_give hX.1 hS) (kSt_recv hX.1 hS) hPc hKc) rfl rfl hl.1 rfl (lv_room (Nat.le_of_ble_eq_true rfl)) dX4_readClause_8 ⟨(Nat.le_of_ble_eq_true rfl), (Nat.le_of_ble_eq_true rfl)⟩).run (fun r_4 hw => ?_)
  refine lv_istore_n hx hb dX4_readClause_11 rfl hl (by decide) (kTo [(1, .int r_4), (0, .ref jR)]) (fun ls hl => ?_)
  refine lv_iload_n hx hb dX4_readClause_12 rfl (lv_at hl 0 rfl) ?_
  refine lv_if_ge (tgt := 18) hx hb dX4_readClause_13 (by decide) (fun c_5 => ?_) (fun c_5 => ?_)
  · refine lv_aload_n hx hb dX4_readClause_18 rfl (lv_at hl 1 rfl) ?_
    refine lv_dup hx hb dX4_readClause_19 rfl ?_
    refine va_get (D := (dC, dI)) (ci := 4) (v := .int Pl_2) (C := RX4) (T := TX4) (N := 8) hx hb hts (fun _ h => List.mem_cons_of_mem _ (List.mem_append_right _ (List.mem_append_right _ (List.mem_append_right _ (List.mem_append_left _ h))))) hown hK hP 0 rfl rfl 5 (by decide) (hts (.fieldLink RX4 25 "NotEnded$Reader" "place" "I") (List.mem_cons_of_mem _ (List.mem_append_left _ (List.mem_of_getElem? (i := 11) rfl)))) (fun _ h9 => h9) rfl dX4_readClause_20 ?_
    refine lv_iconst (v := 1) hx hb dX4_readClause_23 (by decide) ?_
    refine lv_iadd hx hb dX4_readClause_24 ?_
    refine lv_topi (fun x_6 ex_6 => ?_)
    refine va_put (D := (dC, dI)) (ci := 4) (v := .int x_6) (ty := tyX4 5) (C := RX4) (T := TX4) (N := 8) hx hb hts (fun _ h => List.mem_cons_of_mem _ (List.mem_append_right _ (List.mem_append_right _ (List.mem_append_right _ (List.mem_append_left _ h))))) tyX4 tyX4_ok nmX4 hown hK hP hD hS 0 rfl rfl 5 (by decide) (hts (.fieldLink RX4 25 "NotEnded$Reader" "place" "I") (List.mem_cons_of_mem _ (List.mem_append_left _ (List.mem_of_getElem? (i := 11) rfl)))) (fun _ h9 => h9) rfl (tyX4_ok 5 (by decide)) rfl rfl (Nat.le_of_ble_eq_true rfl) dX4_readClause_25 (fun H locs hP hD hS => ?_)
    obtain ⟨hP, hD⟩ : kPD dC dI A [(jR, .inr (4, [.ref jT, .ref r1, .ref r2, .int (nI (wr)), .int (nI (fi)), .int x_6, .ref q6, .ref q7])), (r1, .inl (c1, 120, .inl s1)), (r2, .inl (c2, 124, .inl s2)), (jT, .inr (8, [.ref t0, .int (nI (kt))])), (t0, .inl (cC, 120, .inl gT))] H := ⟨hP, hD⟩
    refine lv_aload_n hx hb dX4_readClause_28 rfl (lv_at hl 1 rfl) ?_
    refine lv_bipush (v := 58) hx hb dX4_readClause_29 (by decide) ?_
    obtain ⟨hPc, hDc, hFc⟩ := kCut (wc := [(jR, .inr (4, [.ref jT, .ref r1, .ref r2, .int (nI (wr)), .int (nI (fi)), .int x_6, .ref q6, .ref q7])), (r1, .inl (c1, 120, .inl s1)), (r2, .inl (c2, 124, .inl s2)), (jT, .inr (8, [.ref t0, .int (nI (kt))])), (t0, .inl (cC, 120, .inl gT))]) hP hD hS hA [0, 1, 2, 3, 4] rfl (by decide) rfl
    have hKc := hK.sb (tys2 := [(c1, .int), (c2, .int), (cC, .char)]) [0, 1, 2] rfl
    refine va_calli (va_runV (As := [.int 58]) (rest := []) ⟨hx, hb, hml, hown, hts⟩ (s_take4 l dC dI jT t0 cC gT kt (by omega) (by omega) jR r1 r2 c1 c2 s1 s2 wr fi x_6 q6 q7 (by omega) (by omega) 58 H.size) (cwV 1 hts (kG (List.forall_mem_cons.mpr ⟨(List.mem_cons_of_mem _ (List.mem_append_left _ (List.mem_of_getElem? (i := 45) rfl))), (List.forall_mem_cons.mpr ⟨(List.mem_cons_of_mem _ (List.mem_append_left _ (List.mem_of_getElem? (i := 44) rfl))), (List.forall_mem_cons.mpr ⟨(List.mem_cons_of_mem _ (List.mem_append_left _ (List.mem_of_getElem? (i := 43) rfl))), (List.forall_mem_cons.mpr ⟨(List.mem_cons_of_mem _ (List.mem_append_left _ (List.mem_of_getElem? (i := 0) rfl))), (fun _ h => absurd h List.not_mem_nil)⟩)⟩)⟩)⟩) (kGV _ _ _ _) (fun _ h => List.mem_cons_of_mem _ (List.mem_append_right _ (List.mem_append_right _ (List.mem_append_right _ (List.mem_append_right _ (List.mem_append_right _ (List.mem_append_right _ (List.mem_append_right _ (List.mem_append_right _ (List.mem_append_right _ (List.mem_append_right _ (List.mem_append_left _ h)))))))))))) gw_s_take4) rfl rfl rfl ⟨rfl, hd_X4_take⟩ ⟨(Nat.le_of_ble_eq_true rfl), (Nat.le_of_ble_eq_true rfl)⟩) (kW_V kT_blind kT_give (va_recv hKc hPc (ci := 4) (q0 := 0) rfl rfl) hPc hKc hDc) rfl rfl hl.1 rfl (lv_room (Nat.le_of_ble_eq_true rfl)) dX4_readClause_31 ⟨(Nat.le_of_ble_eq_true rfl), (Nat.le_of_ble_eq_true rfl)⟩) hS (fun q _ h => hFc q h) hFc (fun r_7 u t H1 locs ht hvm hw hB hz1 hk1 hS => ?_)
    obtain ⟨S1_8, S2_9, Pl_10, Wr_11, Fi_12⟩ := u
    obtain ⟨hP1, hK1, hD1⟩ := hB
    rw [ht] at hP1
    try dsimp only at hw
    obtain ⟨hP, hD⟩ : kPD dC dI A [(jR, .inr (4, [.ref jT, .ref r1, .ref r2, .int (nI (Wr_11)), .int (nI (Fi_12)), .int Pl_10, .ref q6, .ref q7])), (r1, .inl (c1, 120, .inl S1_8)), (r2, .inl (c2, 124, .inl S2_9)), (jT, .inr (8, [.ref t0, .int (nI (kt))])), (t0, .inl (cC, 120, .inl gT))] H1 := kJoinI hP hD [0, 1, 2, 3, 4] rfl hk1 hFc hP1 hD1 rfl [some 0, some 1, some 2, some 3, some 4] rfl rfl
    generalize H1 = H at hP hS ⊢
    have hw_13 := hw
    refine lv_if_ne (tgt := 39) hx hb dX4_readClause_34 (by decide) (fun c_14 => ?_) (fun c_14 => ?_)
    · refine lv_aload_n hx hb dX4_readClause_39 rfl (lv_at hl 1 rfl) ?_
      refine va_get (D := (dC, dI)) (ci := 4) (v := .int (nI (Wr_11))) (C := RX4) (T := TX4) (N := 8) hx hb hts (fun _ h => List.mem_cons_of_mem _ (List.mem_append_right _ (List.mem_append_right _ (List.mem_append_right _ (List.mem_append_left _ h))))) hown hK hP 0 rfl rfl 3 (by decide) (hts (.fieldLink RX4 18 "NotEnded$Reader" "written" "I") (List.mem_cons_of_mem _ (List.mem_append_left _ (List.mem_of_getElem? (i := 51) rfl)))) (fun _ h9 => h9) rfl dX4_readClause_40 ?_
      refine lv_istore_n hx hb dX4_readClause_43 rfl hl (by decide) (kTo [(2, .int (nI (Wr_11))), (1, .int r_4), (0, .ref jR)]) (fun ls hl => ?_)
      refine lv_aload_n hx hb dX4_readClause_44 rfl (lv_at hl 2 rfl) ?_
      obtain ⟨hPc, hDc, hFc⟩ := kCut (wc := [(jR, .inr (4, [.ref jT, .ref r1, .ref r2, .int (nI (Wr_11)), .int (nI (Fi_12)), .int Pl_10, .ref q6, .ref q7])), (r1, .inl (c1, 120, .inl S1_8)), (r2, .inl (c2, 124, .inl S2_9)), (jT, .inr (8, [.ref t0, .int (nI (kt))])), (t0, .inl (cC, 120, .inl gT))]) hP hD hS hA [0, 1, 2, 3, 4] rfl (by decide) rfl
      have hKc := hK.sb (tys2 := [(c1, .int), (c2, .int), (cC, .char)]) [0, 1, 2] rfl
      refine va_calli (va_runV (As := []) (rest := []) ⟨hx, hb, hml, hown, hts⟩ (s_look4 l dC dI jT t0 cC gT kt (by omega) (by omega) jR r1 r2 c1 c2 S1_8 S2_9 Wr_11 Fi_12 Pl_10 q6 q7 (by omega) (by omega) H.size) (cwV 0 hts (kG (List.forall_mem_cons.mpr ⟨(List.mem_cons_of_mem _ (List.mem_append_left _ (List.mem_of_getElem? (i := 3) rfl))), (List.forall_mem_cons.mpr ⟨(List.mem_cons_of_mem _ (List.mem_append_left _ (List.mem_of_getElem? (i := 2) rfl))), (List.forall_mem_cons.mpr ⟨(List.mem_cons_of_mem _ (List.mem_append_left _ (List.mem_of_getElem? (i := 1) rfl))), (List.forall_mem_cons.mpr ⟨(List.mem_cons_of_mem _ (List.mem_append_left _ (List.mem_of_getElem? (i := 0) rfl))), (fun _ h => absurd h List.not_mem_nil)⟩)⟩)⟩)⟩) (kGV _ _ _ _) (fun _ h => List.mem_cons_of_mem _ (List.mem_append_right _ (List.mem_append_left _ h))) gw_s_look4) rfl rfl rfl ⟨rfl, hd_X4_look⟩ ⟨(Nat.le_of_ble_eq_true rfl), (Nat.le_of_ble_eq_true rfl)⟩) (kW_V kT_blind kT_give (va_recv hKc hPc (ci := 4) (q0 := 0) rfl rfl) hPc hKc hDc) rfl rfl hl.1 rfl (lv_room (Nat.le_of_ble_eq_true rfl)) dX4_readClause_45 ⟨(Nat.le_of_ble_eq_true rfl), (Nat.le_of_ble_eq_true rfl)⟩) hS (fun q _ h => hFc q h) hFc (fun r_15 u t H1 locs ht hvm hw hB hz1 hk1 hS => ?_)
      obtain ⟨Pl_16, rfl⟩ : ∃ z, z = u := ⟨_, rfl⟩
      obtain ⟨hP1, hK1, hD1⟩ := hB
      rw [ht] at hP1
      try dsimp only at hw
      obtain ⟨hP, hD⟩ : kPD dC dI A [(jR, .inr (4, [.ref jT, .ref r1, .ref r2, .int (nI (Wr_11)), .int (nI (Fi_12)), .int Pl_16, .ref q6, .ref q7])), (r1, .inl (c1, 120, .inl S1_8)), (r2, .inl (c2, 124, .inl S2_9)), (jT, .inr (8, [.ref t0, .int (nI (kt))])), (t0, .inl (cC, 120, .inl gT))] H1 := kJoinI hP hD [0, 1, 2, 3, 4] rfl hk1 hFc hP1 hD1 rfl [some 0, some 1, some 2, some 3, some 4] rfl rfl
      generalize H1 = H at hP hS ⊢
      have hw_17 := hw
      refine lv_bipush (v := 33) hx hb dX4_readClause_48 (by decide) ?_
      refine lv_icmp_eq (tgt := 62) hx hb dX4_readClause_50 (by decide) (fun c_18 => ?_) (fun c_18 => ?_)
      · refine lv_iconst (v := 1) hx hb dX4_readClause_62 (by decide) ?_
        refine lv_goto (tgt := 67) hx hb dX4_readClause_63 (by decide) ?_
        refine lv_istore_n hx hb dX4_readClause_67 rfl hl (by decide) (kTo [(3, .int 1), (2, .int (nI (Wr_11))), (1, .int r_4), (0, .ref jR)]) (fun ls hl => ?_)
        refine lv_iload_n hx hb dX4_readClause_68 rfl (lv_at hl 0 rfl) ?_
        refine lv_if_ne (tgt := 100) hx hb dX4_readClause_69 (by decide) (fun c_19 => ?_) (fun c_19 => absurd c_19 (by decide))
        refine lv_aload_n hx hb dX4_readClause_100 rfl (lv_at hl 3 rfl) ?_
        refine lv_iconst (v := 0) hx hb dX4_readClause_101 (by decide) ?_
        refine lv_iload_n hx hb dX4_readClause_102 rfl (lv_at hl 0 rfl) ?_
        refine lv_if_ne (tgt := 110) hx hb dX4_readClause_103 (by decide) (fun c_20 => ?_) (fun c_20 => absurd c_20 (by decide))
        refine lv_iconst (v := 0) hx hb dX4_readClause_110 (by decide) ?_
        obtain ⟨hPc, hDc, hFc⟩ := kCut (wc := [(jR, .inr (4, [.ref jT, .ref r1, .ref r2, .int (nI (Wr_11)), .int (nI (Fi_12)), .int Pl_16, .ref q6, .ref q7])), (r1, .inl (c1, 120, .inl S1_8)), (r2, .inl (c2, 124, .inl S2_9)), (jT, .inr (8, [.ref t0, .int (nI (kt))])), (t0, .inl (cC, 120, .inl gT))]) hP hD hS hA [0, 1, 2, 3, 4] rfl (by decide) rfl
        have hKc := hK.sb (tys2 := [(c1, .int), (c2, .int), (cC, .char)]) [0, 1, 2] rfl
        refine va_calli (va_runV (As := [.int 0, .int 0]) (rest := []) ⟨hx, hb, hml, hown, hts⟩ (s_cond4_0_0 l dC dI jT t0 cC gT kt (by omega) (by omega) jR r1 r2 c1 c2 S1_8 S2_9 Wr_11 Fi_12 Pl_16 q6 q7 (by omega) (by omega) b6 n6 g6 (by omega) b7 n7 g7 (by omega) H.size) (cwV 2 hts (kG (List.forall_mem_cons.mpr ⟨(List.mem_cons_of_mem _ (List.mem_append_left _ (List.mem_of_getElem? (i := 49) rfl))), (List.forall_mem_cons.mpr ⟨(List.mem_cons_of_mem _ (List.mem_append_left _ (List.mem_of_getElem? (i := 48) rfl))), (List.forall_mem_cons.mpr ⟨(List.mem_cons_of_mem _ (List.mem_append_left _ (List.mem_of_getElem? (i := 47) rfl))), (List.forall_mem_cons.mpr ⟨(List.mem_cons_of_mem _ (List.mem_append_left _ (List.mem_of_getElem? (i := 0) rfl))), (fun _ h => absurd h List.not_mem_nil)⟩)⟩)⟩)⟩) (kGV _ _ _ _) (kFam (List.mem_cons_of_mem _ (List.mem_append_left _ (List.mem_of_getElem? (i := 46) rfl)))) gw_s_cond4_0_0) rfl rfl rfl ⟨rfl, hd_X4_readCondition⟩ ⟨(Nat.le_of_ble_eq_true rfl), (Nat.le_of_ble_eq_true rfl)⟩) (kW_V kS2_blind (kS2_give hX hS hFc) (va_recv hKc hPc (ci := 4) (q0 := 0) rfl rfl) hPc hKc hDc) rfl rfl hl.1 rfl (lv_room (Nat.le_of_ble_eq_true rfl)) dX4_readClause_111 ⟨(Nat.le_of_ble_eq_true rfl), (Nat.le_of_ble_eq_true rfl)⟩) hS (fun q _ h => hFc q h) hFc (fun r_21 u t H1 locs ht hvm hw hB hz1 hk1 hS => ?_)
        obtain ⟨S1_22, S2_23, Pl_24, Wr_25, Fi_26⟩ := u
        obtain ⟨hP1, hK1, hD1⟩ := hB
        rw [ht] at hP1
        try dsimp only at hw
        obtain ⟨hP, hD⟩ : kPD dC dI A [(jR, .inr (4, [.ref jT, .ref r1, .ref r2, .int (nI (Wr_25)), .int (nI (Fi_26)), .int Pl_24, .ref q6, .ref q7])), (r1, .inl (c1, 120, .inl S1_22)), (r2, .inl (c2, 124, .inl S2_23)), (jT, .inr (8, [.ref t0, .int (nI (kt))])), (t0, .inl (cC, 120, .inl gT))] H1 := kJoinI hP hD [0, 1, 2, 3, 4] rfl hk1 hFc hP1 hD1 rfl [some 0, some 1, some 2, some 3, some 4] rfl rfl
        generalize H1 = H at hP hS ⊢
        have hw_27 := hw
        refine lv_if_ne (tgt := 119) hx hb dX4_readClause_114 (by decide) (fun c_28 => ?_) (fun c_28 => ?_)
        · refine lv_aload_n hx hb dX4_readClause_119 rfl (lv_at hl 3 rfl) ?_
          refine va_get (D := (dC, dI)) (ci := 4) (v := .int (nI (Wr_25))) (C := RX4) (T := TX4) (N := 8) hx hb hts (fun _ h => List.mem_cons_of_mem _ (List.mem_append_right _ (List.mem_append_right _ (List.mem_append_right _ (List.mem_append_left _ h))))) hown hK hP 0 rfl rfl 3 (by decide) (hts (.fieldLink RX4 18 "NotEnded$Reader" "written" "I") (List.mem_cons_of_mem _ (List.mem_append_left _ (List.mem_of_getElem? (i := 51) rfl)))) (fun _ h9 => h9) rfl dX4_readClause_120 ?_
          refine lv_istore hx hb dX4_readClause_123 hl (by decide) (kTo [(4, .int (nI (Wr_25))), (3, .int 1), (2, .int (nI (Wr_11))), (1, .int r_4), (0, .ref jR)]) (fun ls hl => ?_)
          refine lv_aload_n hx hb dX4_readClause_125 rfl (lv_at hl 4 rfl) ?_
          refine lv_bipush (v := 63) hx hb dX4_readClause_126 (by decide) ?_
          obtain ⟨hPc, hDc, hFc⟩ := kCut (wc := [(jR, .inr (4, [.ref jT, .ref r1, .ref r2, .int (nI (Wr_25)), .int (nI (Fi_26)), .int Pl_24, .ref q6, .ref q7])), (r1, .inl (c1, 120, .inl S1_22)), (r2, .inl (c2, 124, .inl S2_23)), (jT, .inr (8, [.ref t0, .int (nI (kt))])), (t0, .inl (cC, 120, .inl gT))]) hP hD hS hA [0, 1, 2, 3, 4] rfl (by decide) rfl
          have hKc := hK.sb (tys2 := [(c1, .int), (c2, .int), (cC, .char)]) [0, 1, 2] rfl
          refine va_calli (va_runV (As := [.int 63]) (rest := []) ⟨hx, hb, hml, hown, hts⟩ (s_take4 l dC dI jT t0 cC gT kt (by omega) (by omega) jR r1 r2 c1 c2 S1_22 S2_23 Wr_25 Fi_26 Pl_24 q6 q7 (by omega) (by omega) 63 H.size) (cwV 1 hts (kG (List.forall_mem_cons.mpr ⟨(List.mem_cons_of_mem _ (List.mem_append_left _ (List.mem_of_getElem? (i := 45) rfl))), (List.forall_mem_cons.mpr ⟨(List.mem_cons_of_mem _ (List.mem_append_left _ (List.mem_of_getElem? (i := 44) rfl))), (List.forall_mem_cons.mpr ⟨(List.mem_cons_of_mem _ (List.mem_append_left _ (List.mem_of_getElem? (i := 43) rfl))), (List.forall_mem_cons.mpr ⟨(List.mem_cons_of_mem _ (List.mem_append_left _ (List.mem_of_getElem? (i := 0) rfl))), (fun _ h => absurd h List.not_mem_nil)⟩)⟩)⟩)⟩) (kGV _ _ _ _) (fun _ h => List.mem_cons_of_mem _ (List.mem_append_right _ (List.mem_append_right _ (List.mem_append_right _ (List.mem_append_right _ (List.mem_append_right _ (List.mem_append_right _ (List.mem_append_right _ (List.mem_append_right _ (List.mem_append_right _ (List.mem_append_right _ (List.mem_append_left _ h)))))))))))) gw_s_take4) rfl rfl rfl ⟨rfl, hd_X4_take⟩ ⟨(Nat.le_of_ble_eq_true rfl), (Nat.le_of_ble_eq_true rfl)⟩) (kW_V kT_blind kT_give (va_recv hKc hPc (ci := 4) (q0 := 0) rfl rfl) hPc hKc hDc) rfl rfl hl.1 rfl (lv_room (Nat.le_of_ble_eq_true rfl)) dX4_readClause_128 ⟨(Nat.le_of_ble_eq_true rfl), (Nat.le_of_ble_eq_true rfl)⟩) hS (fun q _ h => hFc q h) hFc (fun r_29 u t H1 locs ht hvm hw hB hz1 hk1 hS => ?_)
          obtain ⟨S1_30, S2_31, Pl_32, Wr_33, Fi_34⟩ := u
          obtain ⟨hP1, hK1, hD1⟩ := hB
          rw [ht] at hP1
          try dsimp only at hw
          obtain ⟨hP, hD⟩ : kPD dC dI A [(jR, .inr (4, [.ref jT, .ref r1, .ref r2, .int (nI (Wr_33)), .int (nI (Fi_34)), .int Pl_32, .ref q6, .ref q7])), (r1, .inl (c1, 120, .inl S1_30)), (r2, .inl (c2, 124, .inl S2_31)), (jT, .inr (8, [.ref t0, .int (nI (kt))])), (t0, .inl (cC, 120, .inl gT))] H1 := kJoinI hP hD [0, 1, 2, 3, 4] rfl hk1 hFc hP1 hD1 rfl [some 0, some 1, some 2, some 3, some 4] rfl rfl
          generalize H1 = H at hP hS ⊢
          have hw_35 := hw
          refine lv_if_eq (tgt := 157) hx hb dX4_readClause_131 (by decide) (fun c_36 => ?_) (fun c_36 => ?_)
          · refine lv_iconst (v := 0) hx hb dX4_readClause_157 (by decide) ?_
            have hP9 := hP
            have hD9 := hD
            have hK9 := hK
            rw [hQ]
            exact W.zret (v := 0) hx hb hr rfl (fun t ht hW => ⟨⟨0, (S1_30, S2_31, Pl_32, Wr_33, Fi_34), rfl, ⟨(Or.inl rfl), by omega, by omega⟩,  by rw [ht]; exact hP9, va_K.moved hW.alike hK9, hD9⟩, hS.F ht⟩) hS.2.2 dX4_readClause_158
          · refine lv_aload_n hx hb dX4_readClause_134 rfl (lv_at hl 4 rfl) ?_
            refine lv_iconst (v := 0) hx hb dX4_readClause_135 (by decide) ?_
            obtain ⟨hPc, hDc, hFc⟩ := kCut (wc := [(jR, .inr (4, [.ref jT, .ref r1, .ref r2, .int (nI (Wr_33)), .int (nI (Fi_34)), .int Pl_32, .ref q6, .ref q7])), (r1, .inl (c1, 120, .inl S1_30)), (r2, .inl (c2, 124, .inl S2_31)), (jT, .inr (8, [.ref t0, .int (nI (kt))])), (t0, .inl (cC, 120, .inl gT))]) hP hD hS hA [0, 1, 2, 3, 4] rfl (by decide) rfl
            have hKc := hK.sb (tys2 := [(c1, .int), (c2, .int), (cC, .char)]) [0, 1, 2] rfl
            refine va_calli (va_runV (As := [.int 0]) (rest := []) ⟨hx, hb, hml, hown, hts⟩ (s_sum4_0 l dC dI jT t0 cC gT kt (by omega) (by omega) jR r1 r2 c1 c2 S1_30 S2_31 Wr_33 Fi_34 Pl_32 q6 q7 (by omega) (by omega) b6 n6 g6 (by omega) b7 n7 g7 (by omega) H.size) (cwV 1 hts (kG (List.forall_mem_cons.mpr ⟨(List.mem_cons_of_mem _ (List.mem_append_left _ (List.mem_of_getElem? (i := 32) rfl))), (List.forall_mem_cons.mpr ⟨(List.mem_cons_of_mem _ (List.mem_append_left _ (List.mem_of_getElem? (i := 31) rfl))), (List.forall_mem_cons.mpr ⟨(List.mem_cons_of_mem _ (List.mem_append_left _ (List.mem_of_getElem? (i := 30) rfl))), (List.forall_mem_cons.mpr ⟨(List.mem_cons_of_mem _ (List.mem_append_left _ (List.mem_of_getElem? (i := 0) rfl))), (fun _ h => absurd h List.not_mem_nil)⟩)⟩)⟩)⟩) (kGV _ _ _ _) (kFam (List.mem_cons_of_mem _ (List.mem_append_left _ (List.mem_of_getElem? (i := 29) rfl)))) gw_s_sum4_0) rfl rfl rfl ⟨rfl, hd_X4_readSum⟩ ⟨(Nat.le_of_ble_eq_true rfl), (Nat.le_of_ble_eq_true rfl)⟩) (kW_V kS2_blind (kS2_give hX hS hFc) (va_recv hKc hPc (ci := 4) (q0 := 0) rfl rfl) hPc hKc hDc) rfl rfl hl.1 rfl (lv_room (Nat.le_of_ble_eq_true rfl)) dX4_readClause_136 ⟨(Nat.le_of_ble_eq_true rfl), (Nat.le_of_ble_eq_true rfl)⟩) hS (fun q _ h => hFc q h) hFc (fun r_37 u t H1 locs ht hvm hw hB hz1 hk1 hS => ?_)
            obtain ⟨S1_38, S2_39, Pl_40, Wr_41, Fi_42⟩ := u
            obtain ⟨hP1, hK1, hD1⟩ := hB
            rw [ht] at hP1
            try dsimp only at hw
            obtain ⟨hP, hD⟩ : kPD dC dI A [(jR, .inr (4, [.ref jT, .ref r1, .ref r2, .int (nI (Wr_41)), .int (nI (Fi_42)), .int Pl_40, .ref q6, .ref q7])), (r1, .inl (c1, 120, .inl S1_38)), (r2, .inl (c2, 124, .inl S2_39)), (jT, .inr (8, [.ref t0, .int (nI (kt))])), (t0, .inl (cC, 120, .inl gT))] H1 := kJoinI hP hD [0, 1, 2, 3, 4] rfl hk1 hFc hP1 hD1 rfl [some 0, some 1, some 2, some 3, some 4] rfl rfl
            generalize H1 = H at hP hS ⊢
            have hw_43 := hw
            refine lv_if_eq (tgt := 157) hx hb dX4_readClause_139 (by decide) (fun c_44 => ?_) (fun c_44 => ?_)
            · refine lv_iconst (v := 0) hx hb dX4_readClause_157 (by decide) ?_
              have hP9 := hP
              have hD9 := hD
              have hK9 := hK
              rw [hQ]
              exact W.zret (v := 0) hx hb hr rfl (fun t ht hW => ⟨⟨0, (S1_38, S2_39, Pl_40, Wr_41, Fi_42), rfl, ⟨(Or.inl rfl), by omega, by omega⟩,  by rw [ht]; exact hP9, va_K.moved hW.alike hK9, hD9⟩, hS.F ht⟩) hS.2.2 dX4_readClause_158
            · refine lv_aload_n hx hb dX4_readClause_142 rfl (lv_at hl 4 rfl) ?_
              refine lv_iload_n hx hb dX4_readClause_143 rfl (lv_at hl 3 rfl) ?_
              refine lv_iload_n hx hb dX4_readClause_144 rfl (lv_at hl 2 rfl) ?_
              refine lv_iload hx hb dX4_readClause_145 (lv_at hl 0 rfl) ?_
              obtain ⟨hPc, hDc, hFc⟩ := kCut (wc := [(jR, .inr (4, [.ref jT, .ref r1, .ref r2, .int (nI (Wr_41)), .int (nI (Fi_42)), .int Pl_40, .ref q6, .ref q7])), (r1, .inl (c1, 120, .inl S1_38)), (r2, .inl (c2, 124, .inl S2_39)), (jT, .inr (8, [.ref t0, .int (nI (kt))])), (t0, .inl (cC, 120, .inl gT))]) hP hD hS hA [0, 1, 2, 3, 4] rfl (by decide) rfl
              have hKc := hK.sb (tys2 := [(c1, .int), (c2, .int), (cC, .char)]) [0, 1, 2] rfl
              refine va_calli (va_runV (As := [.int r_4, .int (nI (Wr_11)), .int (nI (Wr_25))]) (rest := []) ⟨hx, hb, hml, hown, hts⟩ (s_keep4 l dC dI jT t0 cC gT kt (by omega) (by omega) jR r1 r2 c1 c2 S1_38 S2_39 Wr_41 Fi_42 Pl_40 q6 q7 (by omega) (by omega) r_4 (nI (Wr_11)) (nI (Wr_25)) H.size) (cwV 3 hts (kG (List.forall_mem_cons.mpr ⟨(List.mem_cons_of_mem _ (List.mem_append_left _ (List.mem_of_getElem? (i := 54) rfl))), (List.forall_mem_cons.mpr ⟨(List.mem_cons_of_mem _ (List.mem_append_left _ (List.mem_of_getElem? (i := 53) rfl))), (List.forall_mem_cons.mpr ⟨(List.mem_cons_of_mem _ (List.mem_append_left _ (List.mem_of_getElem? (i := 52) rfl))), (List.forall_mem_cons.mpr ⟨(List.mem_cons_of_mem _ (List.mem_append_left _ (List.mem_of_getElem? (i := 0) rfl))), (fun _ h => absurd h List.not_mem_nil)⟩)⟩)⟩)⟩) (kGV _ _ _ _) (fun _ h => List.mem_cons_of_mem _ (List.mem_append_right _ (List.mem_append_right _ (List.mem_append_right _ (List.mem_append_right _ (List.mem_append_right _ (List.mem_append_right _ (List.mem_append_right _ (List.mem_append_right _ (List.mem_append_right _ (List.mem_append_right _ (List.mem_append_right _ h)))))))))))) gw_s_keep4) rfl rfl rfl ⟨rfl, hd_X4_keepClause⟩ ⟨(Nat.le_of_ble_eq_true rfl), (Nat.le_of_ble_eq_true rfl)⟩) (kW_V kT_blind kT_give (va_recv hKc hPc (ci := 4) (q0 := 0) rfl rfl) hPc hKc hDc) rfl rfl hl.1 rfl (lv_room (Nat.le_of_ble_eq_true rfl)) dX4_readClause_147 ⟨(Nat.le_of_ble_eq_true rfl), (Nat.le_of_ble_eq_true rfl)⟩) hS (fun q _ h => hFc q h) hFc (fun r_45 u t H1 locs ht hvm hw hB hz1 hk1 hS => ?_)
              obtain ⟨S1_46, S2_47, Pl_48, Wr_49, Fi_50⟩ := u
              obtain ⟨hP1, hK1, hD1⟩ := hB
              rw [ht] at hP1
              try dsimp only at hw
              obtain ⟨hP, hD⟩ : kPD dC dI A [(jR, .inr (4, [.ref jT, .ref r1, .ref r2, .int (nI (Wr_49)), .int (nI (Fi_50)), .int Pl_48, .ref q6, .ref q7])), (r1, .inl (c1, 120, .inl S1_46)), (r2, .inl (c2, 124, .inl S2_47)), (jT, .inr (8, [.ref t0, .int (nI (kt))])), (t0, .inl (cC, 120, .inl gT))] H1 := kJoinI hP hD [0, 1, 2, 3, 4] rfl hk1 hFc hP1 hD1 rfl [some 0, some 1, some 2, some 3, some 4] rfl rfl
              generalize H1 = H at hP hS ⊢
              have hw_51 := hw
              refine lv_if_eq (tgt := 157) hx hb dX4_readClause_150 (by decide) (fun c_52 => ?_) (fun c_52 => ?_)
              · refine lv_iconst (v := 0) hx hb dX4_readClause_157 (by decide) ?_
                have hP9 := hP
                have hD9 := hD
                have hK9 := hK
                rw [hQ]
                exact W.zret (v := 0) hx hb hr rfl (fun t ht hW => ⟨⟨0, (S1_46, S2_47, Pl_48, Wr_49, Fi_50), rfl, ⟨(Or.inl rfl), by omega, by omega⟩,  by rw [ht]; exact hP9, va_K.moved hW.alike hK9, hD9⟩, hS.F ht⟩) hS.2.2 dX4_readClause_158
              · refine lv_iconst (v := 1) hx hb dX4_readClause_153 (by decide) ?_
                refine lv_goto (tgt := 158) hx hb dX4_readClause_154 (by decide) ?_
                have hP9 := hP
                have hD9 := hD
                have hK9 := hK
                rw [hQ]
                exact W.zret (v := 1) hx hb hr rfl (fun t ht hW => ⟨⟨1, (S1_46, S2_47, Pl_48, Wr_49, Fi_50), rfl, ⟨(Or.inr rfl), by omega, by omega⟩,  by rw [ht]; exact hP9, va_K.moved hW.alike hK9, hD9⟩, hS.F ht⟩) hS.2.2 dX4_readClause_158
        · refine lv_iconst (v := 0) hx hb dX4_readClause_117 (by decide) ?_
          have hP9 := hP
          have hD9 := hD
          have hK9 := hK
          rw [hQ]
          exact W.zret (v := 0) hx hb hr rfl (fun t ht hW => ⟨⟨0, (S1_22, S2_23, Pl_24, Wr_25, Fi_26), rfl, ⟨(Or.inl rfl), by omega, by omega⟩,  by rw [ht]; exact hP9, va_K.moved hW.alike hK9, hD9⟩, hS.F ht⟩) hS.2.2 dX4_readClause_118
      · refine lv_aload_n hx hb dX4_readClause_53 rfl (lv_at hl 2 rfl) ?_
        obtain ⟨hPc, hDc, hFc⟩ := kCut (wc := [(jR, .inr (4, [.ref jT, .ref r1, .ref r2, .int (nI (Wr_11)), .int (nI (Fi_12)), .int Pl_16, .ref q6, .ref q7])), (r1, .inl (c1, 120, .inl S1_8)), (r2, .inl (c2, 124, .inl S2_9)), (jT, .inr (8, [.ref t0, .int (nI (kt))])), (t0, .inl (cC, 120, .inl gT))]) hP hD hS hA [0, 1, 2, 3, 4] rfl (by decide) rfl
        have hKc := hK.sb (tys2 := [(c1, .int), (c2, .int), (cC, .char)]) [0, 1, 2] rfl
        refine va_calli (va_runV (As := []) (rest := []) ⟨hx, hb, hml, hown, hts⟩ (s_look4 l dC dI jT t0 cC gT kt (by omega) (by omega) jR r1 r2 c1 c2 S1_8 S2_9 Wr_11 Fi_12 Pl_16 q6 q7 (by omega) (by omega) H.size) (cwV 0 hts (kG (List.forall_mem_cons.mpr ⟨(List.mem_cons_of_mem _ (List.mem_append_left _ (List.mem_of_getElem? (i := 3) rfl))), (List.forall_mem_cons.mpr ⟨(List.mem_cons_of_mem _ (List.mem_append_left _ (List.mem_of_getElem? (i := 2) rfl))), (List.forall_mem_cons.mpr ⟨(List.mem_cons_of_mem _ (List.mem_append_left _ (List.mem_of_getElem? (i := 1) rfl))), (List.forall_mem_cons.mpr ⟨(List.mem_cons_of_mem _ (List.mem_append_left _ (List.mem_of_getElem? (i := 0) rfl))), (fun _ h => absurd h List.not_mem_nil)⟩)⟩)⟩)⟩) (kGV _ _ _ _) (fun _ h => List.mem_cons_of_mem _ (List.mem_append_right _ (List.mem_append_left _ h))) gw_s_look4) rfl rfl rfl ⟨rfl, hd_X4_look⟩ ⟨(Nat.le_of_ble_eq_true rfl), (Nat.le_of_ble_eq_true rfl)⟩) (kW_V kT_blind kT_give (va_recv hKc hPc (ci := 4) (q0 := 0) rfl rfl) hPc hKc hDc) rfl rfl hl.1 rfl (lv_room (Nat.le_of_ble_eq_true rfl)) dX4_readClause_54 ⟨(Nat.le_of_ble_eq_true rfl), (Nat.le_of_ble_eq_true rfl)⟩) hS (fun q _ h => hFc q h) hFc (fun r_53 u t H1 locs ht hvm hw hB hz1 hk1 hS => ?_)
        obtain ⟨Pl_54, rfl⟩ : ∃ z, z = u := ⟨_, rfl⟩
        obtain ⟨hP1, hK1, hD1⟩ := hB
        rw [ht] at hP1
        try dsimp only at hw
        obtain ⟨hP, hD⟩ : kPD dC dI A [(jR, .inr (4, [.ref jT, .ref r1, .ref r2, .int (nI (Wr_11)), .int (nI (Fi_12)), .int Pl_54, .ref q6, .ref q7])), (r1, .inl (c1, 120, .inl S1_8)), (r2, .inl (c2, 124, .inl S2_9)), (jT, .inr (8, [.ref t0, .int (nI (kt))])), (t0, .inl (cC, 120, .inl gT))] H1 := kJoinI hP hD [0, 1, 2, 3, 4] rfl hk1 hFc hP1 hD1 rfl [some 0, some 1, some 2, some 3, some 4] rfl rfl
        generalize H1 = H at hP hS ⊢
        have hw_55 := hw
        refine lv_bipush (v := 40) hx hb dX4_readClause_57 (by decide) ?_
        refine lv_icmp_ne (tgt := 66) hx hb dX4_readClause_59 (by decide) (fun c_56 => ?_) (fun c_56 => ?_)
        · refine lv_iconst (v := 0) hx hb dX4_readClause_66 (by decide) ?_
          refine lv_istore_n hx hb dX4_readClause_67 rfl hl (by decide) (kTo [(3, .int 0), (2, .int (nI (Wr_11))), (1, .int r_4), (0, .ref jR)]) (fun ls hl => ?_)
          refine lv_iload_n hx hb dX4_readClause_68 rfl (lv_at hl 0 rfl) ?_
          refine lv_if_ne (tgt := 100) hx hb dX4_readClause_69 (by decide) (fun c_57 => absurd (by decide) c_57) (fun c_57 => ?_)
          refine lv_aload_n hx hb dX4_readClause_72 rfl (lv_at hl 3 rfl) ?_
          refine lv_iconst (v := 0) hx hb dX4_readClause_73 (by decide) ?_
          obtain ⟨hPc, hDc, hFc⟩ := kCut (wc := [(jR, .inr (4, [.ref jT, .ref r1, .ref r2, .int (nI (Wr_11)), .int (nI (Fi_12)), .int Pl_54, .ref q6, .ref q7])), (r1, .inl (c1, 120, .inl S1_8)), (r2, .inl (c2, 124, .inl S2_9)), (jT, .inr (8, [.ref t0, .int (nI (kt))])), (t0, .inl (cC, 120, .inl gT))]) hP hD hS hA [0, 1, 2, 3, 4] rfl (by decide) rfl
          have hKc := hK.sb (tys2 := [(c1, .int), (c2, .int), (cC, .char)]) [0, 1, 2] rfl
          refine va_calli (va_runV (As := [.int 0]) (rest := []) ⟨hx, hb, hml, hown, hts⟩ (s_sum4_0 l dC dI jT t0 cC gT kt (by omega) (by omega) jR r1 r2 c1 c2 S1_8 S2_9 Wr_11 Fi_12 Pl_54 q6 q7 (by omega) (by omega) b6 n6 g6 (by omega) b7 n7 g7 (by omega) H.size) (cwV 1 hts (kG (List.forall_mem_cons.mpr ⟨(List.mem_cons_of_mem _ (List.mem_append_left _ (List.mem_of_getElem? (i := 32) rfl))), (List.forall_mem_cons.mpr ⟨(List.mem_cons_of_mem _ (List.mem_append_left _ (List.mem_of_getElem? (i := 31) rfl))), (List.forall_mem_cons.mpr ⟨(List.mem_cons_of_mem _ (List.mem_append_left _ (List.mem_of_getElem? (i := 30) rfl))), (List.forall_mem_cons.mpr ⟨(List.mem_cons_of_mem _ (List.mem_append_left _ (List.mem_of_getElem? (i := 0) rfl))), (fun _ h => absurd h List.not_mem_nil)⟩)⟩)⟩)⟩) (kGV _ _ _ _) (kFam (List.mem_cons_of_mem _ (List.mem_append_left _ (List.mem_of_getElem? (i := 29) rfl)))) gw_s_sum4_0) rfl rfl rfl ⟨rfl, hd_X4_readSum⟩ ⟨(Nat.le_of_ble_eq_true rfl), (Nat.le_of_ble_eq_true rfl)⟩) (kW_V kS2_blind (kS2_give hX hS hFc) (va_recv hKc hPc (ci := 4) (q0 := 0) rfl rfl) hPc hKc hDc) rfl rfl hl.1 rfl (lv_room (Nat.le_of_ble_eq_true rfl)) dX4_readClause_74 ⟨(Nat.le_of_ble_eq_true rfl), (Nat.le_of_ble_eq_true rfl)⟩) hS (fun q _ h => hFc q h) hFc (fun r_58 u t H1 locs ht hvm hw hB hz1 hk1 hS => ?_)
          obtain ⟨S1_59, S2_60, Pl_61, Wr_62, Fi_63⟩ := u
          obtain ⟨hP1, hK1, hD1⟩ := hB
          rw [ht] at hP1
          try dsimp only at hw
          obtain ⟨hP, hD⟩ : kPD dC dI A [(jR, .inr (4, [.ref jT, .ref r1, .ref r2, .int (nI (Wr_62)), .int (nI (Fi_63)), .int Pl_61, .ref q6, .ref q7])), (r1, .inl (c1, 120, .inl S1_59)), (r2, .inl (c2, 124, .inl S2_60)), (jT, .inr (8, [.ref t0, .int (nI (kt))])), (t0, .inl (cC, 120, .inl gT))] H1 := kJoinI hP hD [0, 1, 2, 3, 4] rfl hk1 hFc hP1 hD1 rfl [some 0, some 1, some 2, some 3, some 4] rfl rfl
          generalize H1 = H at hP hS ⊢
          have hw_64 := hw
          refine lv_if_ne (tgt := 82) hx hb dX4_readClause_77 (by decide) (fun c_65 => ?_) (fun c_65 => ?_)
          · refine lv_aload_n hx hb dX4_readClause_82 rfl (lv_at hl 3 rfl) ?_
            obtain ⟨hPc, hDc, hFc⟩ := kCut (wc := [(jR, .inr (4, [.ref jT, .ref r1, .ref r2, .int (nI (Wr_62)), .int (nI (Fi_63)), .int Pl_61, .ref q6, .ref q7])), (r1, .inl (c1, 120, .inl S1_59)), (r2, .inl (c2, 124, .inl S2_60)), (jT, .inr (8, [.ref t0, .int (nI (kt))])), (t0, .inl (cC, 120, .inl gT))]) hP hD hS hA [0, 1, 2, 3, 4] rfl (by decide) rfl
            have hKc := hK.sb (tys2 := [(c1, .int), (c2, .int), (cC, .char)]) [0, 1, 2] rfl
            refine va_calli (va_runV (As := []) (rest := []) ⟨hx, hb, hml, hown, hts⟩ (s_look4 l dC dI jT t0 cC gT kt (by omega) (by omega) jR r1 r2 c1 c2 S1_59 S2_60 Wr_62 Fi_63 Pl_61 q6 q7 (by omega) (by omega) H.size) (cwV 0 hts (kG (List.forall_mem_cons.mpr ⟨(List.mem_cons_of_mem _ (List.mem_append_left _ (List.mem_of_getElem? (i := 3) rfl))), (List.forall_mem_cons.mpr ⟨(List.mem_cons_of_mem _ (List.mem_append_left _ (List.mem_of_getElem? (i := 2) rfl))), (List.forall_mem_cons.mpr ⟨(List.mem_cons_of_mem _ (List.mem_append_left _ (List.mem_of_getElem? (i := 1) rfl))), (List.forall_mem_cons.mpr ⟨(List.mem_cons_of_mem _ (List.mem_append_left _ (List.mem_of_getElem? (i := 0) rfl))), (fun _ h => absurd h List.not_mem_nil)⟩)⟩)⟩)⟩) (kGV _ _ _ _) (fun _ h => List.mem_cons_of_mem _ (List.mem_append_right _ (List.mem_append_left _ h))) gw_s_look4) rfl rfl rfl ⟨rfl, hd_X4_look⟩ ⟨(Nat.le_of_ble_eq_true rfl), (Nat.le_of_ble_eq_true rfl)⟩) (kW_V kT_blind kT_give (va_recv hKc hPc (ci := 4) (q0 := 0) rfl rfl) hPc hKc hDc) rfl rfl hl.1 rfl (lv_room (Nat.le_of_ble_eq_true rfl)) dX4_readClause_83 ⟨(Nat.le_of_ble_eq_true rfl), (Nat.le_of_ble_eq_true rfl)⟩) hS (fun q _ h => hFc q h) hFc (fun r_66 u t H1 locs ht hvm hw hB hz1 hk1 hS => ?_)
            obtain ⟨Pl_67, rfl⟩ : ∃ z, z = u := ⟨_, rfl⟩
            obtain ⟨hP1, hK1, hD1⟩ := hB
            rw [ht] at hP1
            try dsimp only at hw
            obtain ⟨hP, hD⟩ : kPD dC dI A [(jR, .inr (4, [.ref jT, .ref r1, .ref r2, .int (nI (Wr_62)), .int (nI (Fi_63)), .int Pl_67, .ref q6, .ref q7])), (r1, .inl (c1, 120, .inl S1_59)), (r2, .inl (c2, 124, .inl S2_60)), (jT, .inr (8, [.ref t0, .int (nI (kt))])), (t0, .inl (cC, 120, .inl gT))] H1 := kJoinI hP hD [0, 1, 2, 3, 4] rfl hk1 hFc hP1 hD1 rfl [some 0, some 1, some 2, some 3, some 4] rfl rfl
            generalize H1 = H at hP hS ⊢
            have hw_68 := hw
            have hPc := hP.sb (ws2 := []) [] rfl
            have hKc := hK.sb (tys2 := []) [] rfl
            refine vp_callSi (va_runS (As := [.int r_66]) (rest := []) ⟨hx, hb, hml, hown, hts⟩ (s_comp4 l dC dI r_66) (va_cwS 1 hts (kG (List.forall_mem_cons.mpr ⟨(List.mem_cons_of_mem _ (List.mem_append_left _ (List.mem_of_getElem? (i := 34) rfl))), (List.forall_mem_cons.mpr ⟨(List.mem_cons_of_mem _ (List.mem_append_left _ (List.mem_of_getElem? (i := 33) rfl))), (List.forall_mem_cons.mpr ⟨(List.mem_cons_of_mem _ (List.mem_append_left _ (List.mem_of_getElem? (i := 0) rfl))), (fun _ h => absurd h List.not_mem_nil)⟩)⟩)⟩) (kGS _ _ _) (fun _ h => List.mem_cons_of_mem _ (List.mem_append_right _ (List.mem_append_right _ (List.mem_append_right _ (List.mem_append_right _ (List.mem_append_right _ (List.mem_append_right _ (List.mem_append_right _ (List.mem_append_right _ (List.mem_append_left _ h)))))))))) gw_s_comp4) rfl rfl rfl hd_X4_isComparison ⟨(Nat.le_of_ble_eq_true rfl), (Nat.le_of_ble_eq_true rfl)⟩) (kR_S kT_blind kT_give hPc hKc) rfl rfl hl.1 rfl (lv_room (Nat.le_of_ble_eq_true rfl)) dX4_readClause_86 ⟨(Nat.le_of_ble_eq_true rfl), (Nat.le_of_ble_eq_true rfl)⟩).run (fun r_69 hw => ?_)
            have hw_70 := hw
            refine lv_if_ne (tgt := 100) hx hb dX4_readClause_89 (by decide) (fun c_71 => ?_) (fun c_71 => ?_)
            · refine lv_aload_n hx hb dX4_readClause_100 rfl (lv_at hl 3 rfl) ?_
              refine lv_iconst (v := 0) hx hb dX4_readClause_101 (by decide) ?_
              refine lv_iload_n hx hb dX4_readClause_102 rfl (lv_at hl 0 rfl) ?_
              refine lv_if_ne (tgt := 110) hx hb dX4_readClause_103 (by decide) (fun c_72 => absurd (by decide) c_72) (fun c_72 => ?_)
              refine lv_iconst (v := 1) hx hb dX4_readClause_106 (by decide) ?_
              refine lv_goto (tgt := 111) hx hb dX4_readClause_107 (by decide) ?_
              obtain ⟨hPc, hDc, hFc⟩ := kCut (wc := [(jR, .inr (4, [.ref jT, .ref r1, .ref r2, .int (nI (Wr_62)), .int (nI (Fi_63)), .int Pl_67, .ref q6, .ref q7])), (r1, .inl (c1, 120, .inl S1_59)), (r2, .inl (c2, 124, .inl S2_60)), (jT, .inr (8, [.ref t0, .int (nI (kt))])), (t0, .inl (cC, 120, .inl gT))]) hP hD hS hA [0, 1, 2, 3, 4] rfl (by decide) rfl
              have hKc := hK.sb (tys2 := [(c1, .int), (c2, .int), (cC, .char)]) [0, 1, 2] rfl
              refine va_calli (va_runV (As := [.int 0, .int 1]) (rest := []) ⟨hx, hb, hml, hown, hts⟩ (s_cond4_0_1 l dC dI jT t0 cC gT kt (by omega) (by omega) jR r1 r2 c1 c2 S1_59 S2_60 Wr_62 Fi_63 Pl_67 q6 q7 (by omega) (by omega) b6 n6 g6 (by omega) b7 n7 g7 (by omega) H.size) (cwV 2 hts (kG (List.forall_mem_cons.mpr ⟨(List.mem_cons_of_mem _ (List.mem_append_left _ (List.mem_of_getElem? (i := 49) rfl))), (List.forall_mem_cons.mpr ⟨(List.mem_cons_of_mem _ (List.mem_append_left _ (List.mem_of_getElem? (i := 48) rfl))), (List.forall_mem_cons.mpr ⟨(List.mem_cons_of_mem _ (List.mem_append_left _ (List.mem_of_getElem? (i := 47) rfl))), (List.forall_mem_cons.mpr ⟨(List.mem_cons_of_mem _ (List.mem_append_left _ (List.mem_of_getElem? (i := 0) rfl))), (fun _ h => absurd h List.not_mem_nil)⟩)⟩)⟩)⟩) (kGV _ _ _ _) (kFam (List.mem_cons_of_mem _ (List.mem_append_left _ (List.mem_of_getElem? (i := 46) rfl)))) gw_s_cond4_0_1) rfl rfl rfl ⟨rfl, hd_X4_readCondition⟩ ⟨(Nat.le_of_ble_eq_true rfl), (Nat.le_of_ble_eq_true rfl)⟩) (kW_V kS2_blind (kS2_give hX hS hFc) (va_recv hKc hPc (ci := 4) (q0 := 0) rfl rfl) hPc hKc hDc) rfl rfl hl.1 rfl (lv_room (Nat.le_of_ble_eq_true rfl)) dX4_readClause_111 ⟨(Nat.le_of_ble_eq_true rfl), (Nat.le_of_ble_eq_true rfl)⟩) hS (fun q _ h => hFc q h) hFc (fun r_73 u t H1 locs ht hvm hw hB hz1 hk1 hS => ?_)
              obtain ⟨S1_74, S2_75, Pl_76, Wr_77, Fi_78⟩ := u
              obtain ⟨hP1, hK1, hD1⟩ := hB
              rw [ht] at hP1
              try dsimp only at hw
              obtain ⟨hP, hD⟩ : kPD dC dI A [(jR, .inr (4, [.ref jT, .ref r1, .ref r2, .int (nI (Wr_77)), .int (nI (Fi_78)), .int Pl_76, .ref q6, .ref q7])), (r1, .inl (c1, 120, .inl S1_74)), (r2, .inl (c2, 124, .inl S2_75)), (jT, .inr (8, [.ref t0, .int (nI (kt))])), (t0, .inl (cC, 120, .inl gT))] H1 := kJoinI hP hD [0, 1, 2, 3, 4] rfl hk1 hFc hP1 hD1 rfl [some 0, some 1, some 2, some 3, some 4] rfl rfl
              generalize H1 = H at hP hS ⊢
              have hw_79 := hw
              refine lv_if_ne (tgt := 119) hx hb dX4_readClause_114 (by decide) (fun c_80 => ?_) (fun c_80 => ?_)
              · refine lv_aload_n hx hb dX4_readClause_119 rfl (lv_at hl 3 rfl) ?_
                refine va_get (D := (dC, dI)) (ci := 4) (v := .int (nI (Wr_77))) (C := RX4) (T := TX4) (N := 8) hx hb hts (fun _ h => List.mem_cons_of_mem _ (List.mem_append_right _ (List.mem_append_right _ (List.mem_append_right _ (List.mem_append_left _ h))))) hown hK hP 0 rfl rfl 3 (by decide) (hts (.fieldLink RX4 18 "NotEnded$Reader" "written" "I") (List.mem_cons_of_mem _ (List.mem_append_left _ (List.mem_of_getElem? (i := 51) rfl)))) (fun _ h9 => h9) rfl dX4_readClause_120 ?_
                refine lv_istore hx hb dX4_readClause_123 hl (by decide) (kTo [(4, .int (nI (Wr_77))), (3, .int 0), (2, .int (nI (Wr_11))), (1, .int r_4), (0, .ref jR)]) (fun ls hl => ?_)
                refine lv_aload_n hx hb dX4_readClause_125 rfl (lv_at hl 4 rfl) ?_
                refine lv_bipush (v := 63) hx hb dX4_readClause_126 (by decide) ?_
                obtain ⟨hPc, hDc, hFc⟩ := kCut (wc := [(jR, .inr (4, [.ref jT, .ref r1, .ref r2, .int (nI (Wr_77)), .int (nI (Fi_78)), .int Pl_76, .ref q6, .ref q7])), (r1, .inl (c1, 120, .inl S1_74)), (r2, .inl (c2, 124, .inl S2_75)), (jT, .inr (8, [.ref t0, .int (nI (kt))])), (t0, .inl (cC, 120, .inl gT))]) hP hD hS hA [0, 1, 2, 3, 4] rfl (by decide) rfl
                have hKc := hK.sb (tys2 := [(c1, .int), (c2, .int), (cC, .char)]) [0, 1, 2] rfl
                refine va_calli (va_runV (As := [.int 63]) (rest := []) ⟨hx, hb, hml, hown, hts⟩ (s_take4 l dC dI jT t0 cC gT kt (by omega) (by omega) jR r1 r2 c1 c2 S1_74 S2_75 Wr_77 Fi_78 Pl_76 q6 q7 (by omega) (by omega) 63 H.size) (cwV 1 hts (kG (List.forall_mem_cons.mpr ⟨(List.mem_cons_of_mem _ (List.mem_append_left _ (List.mem_of_getElem? (i := 45) rfl))), (List.forall_mem_cons.mpr ⟨(List.mem_cons_of_mem _ (List.mem_append_left _ (List.mem_of_getElem? (i := 44) rfl))), (List.forall_mem_cons.mpr ⟨(List.mem_cons_of_mem _ (List.mem_append_left _ (List.mem_of_getElem? (i := 43) rfl))), (List.forall_mem_cons.mpr ⟨(List.mem_cons_of_mem _ (List.mem_append_left _ (List.mem_of_getElem? (i := 0) rfl))), (fun _ h => absurd h List.not_mem_nil)⟩)⟩)⟩)⟩) (kGV _ _ _ _) (fun _ h => List.mem_cons_of_mem _ (List.mem_append_right _ (List.mem_append_right _ (List.mem_append_right _ (List.mem_append_right _ (List.mem_append_right _ (List.mem_append_right _ (List.mem_append_right _ (List.mem_append_right _ (List.mem_append_right _ (List.mem_append_right _ (List.mem_append_left _ h)))))))))))) gw_s_take4) rfl rfl rfl ⟨rfl, hd_X4_take⟩ ⟨(Nat.le_of_ble_eq_true rfl), (Nat.le_of_ble_eq_true rfl)⟩) (kW_V kT_blind kT_give (va_recv hKc hPc (ci := 4) (q0 := 0) rfl rfl) hPc hKc hDc) rfl rfl hl.1 rfl (lv_room (Nat.le_of_ble_eq_true rfl)) dX4_readClause_128 ⟨(Nat.le_of_ble_eq_true rfl), (Nat.le_of_ble_eq_true rfl)⟩) hS (fun q _ h => hFc q h) hFc (fun r_81 u t H1 locs ht hvm hw hB hz1 hk1 hS => ?_)
                obtain ⟨S1_82, S2_83, Pl_84, Wr_85, Fi_86⟩ := u
                obtain ⟨hP1, hK1, hD1⟩ := hB
                rw [ht] at hP1
                try dsimp only at hw
                obtain ⟨hP, hD⟩ : kPD dC dI A [(jR, .inr (4, [.ref jT, .ref r1, .ref r2, .int (nI (Wr_85)), .int (nI (Fi_86)), .int Pl_84, .ref q6, .ref q7])), (r1, .inl (c1, 120, .inl S1_82)), (r2, .inl (c2, 124, .inl S2_83)), (jT, .inr (8, [.ref t0, .int (nI (kt))])), (t0, .inl (cC, 120, .inl gT))] H1 := kJoinI hP hD [0, 1, 2, 3, 4] rfl hk1 hFc hP1 hD1 rfl [some 0, some 1, some 2, some 3, some 4] rfl rfl
                generalize H1 = H at hP hS ⊢
                have hw_87 := hw
                refine lv_if_eq (tgt := 157) hx hb dX4_readClause_131 (by decide) (fun c_88 => ?_) (fun c_88 => ?_)
                · refine lv_iconst (v := 0) hx hb dX4_readClause_157 (by decide) ?_
                  have hP9 := hP
                  have hD9 := hD
                  have hK9 := hK
                  rw [hQ]
                  exact W.zret (v := 0) hx hb hr rfl (fun t ht hW => ⟨⟨0, (S1_82, S2_83, Pl_84, Wr_85, Fi_86), rfl, ⟨(Or.inl rfl), by omega, by omega⟩,  by rw [ht]; exact hP9, va_K.moved hW.alike hK9, hD9⟩, hS.F ht⟩) hS.2.2 dX4_readClause_158
                · refine lv_aload_n hx hb dX4_readClause_134 rfl (lv_at hl 4 rfl) ?_
                  refine lv_iconst (v := 0) hx hb dX4_readClause_135 (by decide) ?_
                  obtain ⟨hPc, hDc, hFc⟩ := kCut (wc := [(jR, .inr (4, [.ref jT, .ref r1, .ref r2, .int (nI (Wr_85)), .int (nI (Fi_86)), .int Pl_84, .ref q6, .ref q7])), (r1, .inl (c1, 120, .inl S1_82)), (r2, .inl (c2, 124, .inl S2_83)), (jT, .inr (8, [.ref t0, .int (nI (kt))])), (t0, .inl (cC, 120, .inl gT))]) hP hD hS hA [0, 1, 2, 3, 4] rfl (by decide) rfl
                  have hKc := hK.sb (tys2 := [(c1, .int), (c2, .int), (cC, .char)]) [0, 1, 2] rfl
                  refine va_calli (va_runV (As := [.int 0]) (rest := []) ⟨hx, hb, hml, hown, hts⟩ (s_sum4_0 l dC dI jT t0 cC gT kt (by omega) (by omega) jR r1 r2 c1 c2 S1_82 S2_83 Wr_85 Fi_86 Pl_84 q6 q7 (by omega) (by omega) b6 n6 g6 (by omega) b7 n7 g7 (by omega) H.size) (cwV 1 hts (kG (List.forall_mem_cons.mpr ⟨(List.mem_cons_of_mem _ (List.mem_append_left _ (List.mem_of_getElem? (i := 32) rfl))), (List.forall_mem_cons.mpr ⟨(List.mem_cons_of_mem _ (List.mem_append_left _ (List.mem_of_getElem? (i := 31) rfl))), (List.forall_mem_cons.mpr ⟨(List.mem_cons_of_mem _ (List.mem_append_left _ (List.mem_of_getElem? (i := 30) rfl))), (List.forall_mem_cons.mpr ⟨(List.mem_cons_of_mem _ (List.mem_append_left _ (List.mem_of_getElem? (i := 0) rfl))), (fun _ h => absurd h List.not_mem_nil)⟩)⟩)⟩)⟩) (kGV _ _ _ _) (kFam (List.mem_cons_of_mem _ (List.mem_append_left _ (List.mem_of_getElem? (i := 29) rfl)))) gw_s_sum4_0) rfl rfl rfl ⟨rfl, hd_X4_readSum⟩ ⟨(Nat.le_of_ble_eq_true rfl), (Nat.le_of_ble_eq_true rfl)⟩) (kW_V kS2_blind (kS2_give hX hS hFc) (va_recv hKc hPc (ci := 4) (q0 := 0) rfl rfl) hPc hKc hDc) rfl rfl hl.1 rfl (lv_room (Nat.le_of_ble_eq_true rfl)) dX4_readClause_136 ⟨(Nat.le_of_ble_eq_true rfl), (Nat.le_of_ble_eq_true rfl)⟩) hS (fun q _ h => hFc q h) hFc (fun r_89 u t H1 locs ht hvm hw hB hz1 hk1 hS => ?_)
                  obtain ⟨S1_90, S2_91, Pl_92, Wr_93, Fi_94⟩ := u
                  obtain ⟨hP1, hK1, hD1⟩ := hB
                  rw [ht] at hP1
                  try dsimp only at hw
                  obtain ⟨hP, hD⟩ : kPD dC dI A [(jR, .inr (4, [.ref jT, .ref r1, .ref r2, .int (nI (Wr_93)), .int (nI (Fi_94)), .int Pl_92, .ref q6, .ref q7])), (r1, .inl (c1, 120, .inl S1_90)), (r2, .inl (c2, 124, .inl S2_91)), (jT, .inr (8, [.ref t0, .int (nI (kt))])), (t0, .inl (cC, 120, .inl gT))] H1 := kJoinI hP hD [0, 1, 2, 3, 4] rfl hk1 hFc hP1 hD1 rfl [some 0, some 1, some 2, some 3, some 4] rfl rfl
                  generalize H1 = H at hP hS ⊢
                  have hw_95 := hw
                  refine lv_if_eq (tgt := 157) hx hb dX4_readClause_139 (by decide) (fun c_96 => ?_) (fun c_96 => ?_)
                  · refine lv_iconst (v := 0) hx hb dX4_readClause_157 (by decide) ?_
                    have hP9 := hP
                    have hD9 := hD
                    have hK9 := hK
                    rw [hQ]
                    exact W.zret (v := 0) hx hb hr rfl (fun t ht hW => ⟨⟨0, (S1_90, S2_91, Pl_92, Wr_93, Fi_94), rfl, ⟨(Or.inl rfl), by omega, by omega⟩,  by rw [ht]; exact hP9, va_K.moved hW.alike hK9, hD9⟩, hS.F ht⟩) hS.2.2 dX4_readClause_158
                  · refine lv_aload_n hx hb dX4_readClause_142 rfl (lv_at hl 4 rfl) ?_
                    refine lv_iload_n hx hb dX4_readClause_143 rfl (lv_at hl 3 rfl) ?_
                    refine lv_iload_n hx hb dX4_readClause_144 rfl (lv_at hl 2 rfl) ?_
                    refine lv_iload hx hb dX4_readClause_145 (lv_at hl 0 rfl) ?_
                    obtain ⟨hPc, hDc, hFc⟩ := kCut (wc := [(jR, .inr (4, [.ref jT, .ref r1, .ref r2, .int (nI (Wr_93)), .int (nI (Fi_94)), .int Pl_92, .ref q6, .ref q7])), (r1, .inl (c1, 120, .inl S1_90)), (r2, .inl (c2, 124, .inl S2_91)), (jT, .inr (8, [.ref t0, .int (nI (kt))])), (t0, .inl (cC, 120, .inl gT))]) hP hD hS hA [0, 1, 2, 3, 4] rfl (by decide) rfl
                    have hKc := hK.sb (tys2 := [(c1, .int), (c2, .int), (cC, .char)]) [0, 1, 2] rfl
                    refine va_calli (va_runV (As := [.int r_4, .int (nI (Wr_11)), .int (nI (Wr_77))]) (rest := []) ⟨hx, hb, hml, hown, hts⟩ (s_keep4 l dC dI jT t0 cC gT kt (by omega) (by omega) jR r1 r2 c1 c2 S1_90 S2_91 Wr_93 Fi_94 Pl_92 q6 q7 (by omega) (by omega) r_4 (nI (Wr_11)) (nI (Wr_77)) H.size) (cwV 3 hts (kG (List.forall_mem_cons.mpr ⟨(List.mem_cons_of_mem _ (List.mem_append_left _ (List.mem_of_getElem? (i := 54) rfl))), (List.forall_mem_cons.mpr ⟨(List.mem_cons_of_mem _ (List.mem_append_left _ (List.mem_of_getElem? (i := 53) rfl))), (List.forall_mem_cons.mpr ⟨(List.mem_cons_of_mem _ (List.mem_append_left _ (List.mem_of_getElem? (i := 52) rfl))), (List.forall_mem_cons.mpr ⟨(List.mem_cons_of_mem _ (List.mem_append_left _ (List.mem_of_getElem? (i := 0) rfl))), (fun _ h => absurd h List.not_mem_nil)⟩)⟩)⟩)⟩) (kGV _ _ _ _) (fun _ h => List.mem_cons_of_mem _ (List.mem_append_right _ (List.mem_append_right _ (List.mem_append_right _ (List.mem_append_right _ (List.mem_append_right _ (List.mem_append_right _ (List.mem_append_right _ (List.mem_append_right _ (List.mem_append_right _ (List.mem_append_right _ (List.mem_append_right _ h)))))))))))) gw_s_keep4) rfl rfl rfl ⟨rfl, hd_X4_keepClause⟩ ⟨(Nat.le_of_ble_eq_true rfl), (Nat.le_of_ble_eq_true rfl)⟩) (kW_V kT_blind kT_give (va_recv hKc hPc (ci := 4) (q0 := 0) rfl rfl) hPc hKc hDc) rfl rfl hl.1 rfl (lv_room (Nat.le_of_ble_eq_true rfl)) dX4_readClause_147 ⟨(Nat.le_of_ble_eq_true rfl), (Nat.le_of_ble_eq_true rfl)⟩) hS (fun q _ h => hFc q h) hFc (fun r_97 u t H1 locs ht hvm hw hB hz1 hk1 hS => ?_)
                    obtain ⟨S1_98, S2_99, Pl_100, Wr_101, Fi_102⟩ := u
                    obtain ⟨hP1, hK1, hD1⟩ := hB
                    rw [ht] at hP1
                    try dsimp only at hw
                    obtain ⟨hP, hD⟩ : kPD dC dI A [(jR, .inr (4, [.ref jT, .ref r1, .ref r2, .int (nI (Wr_101)), .int (nI (Fi_102)), .int Pl_100, .ref q6, .ref q7])), (r1, .inl (c1, 120, .inl S1_98)), (r2, .inl (c2, 124, .inl S2_99)), (jT, .inr (8, [.ref t0, .int (nI (kt))])), (t0, .inl (cC, 120, .inl gT))] H1 := kJoinI hP hD [0, 1, 2, 3, 4] rfl hk1 hFc hP1 hD1 rfl [some 0, some 1, some 2, some 3, some 4] rfl rfl
                    generalize H1 = H at hP hS ⊢
                    have hw_103 := hw
                    refine lv_if_eq (tgt := 157) hx hb dX4_readClause_150 (by decide) (fun c_104 => ?_) (fun c_104 => ?_)
                    · refine lv_iconst (v := 0) hx hb dX4_readClause_157 (by decide) ?_
                      have hP9 := hP
                      have hD9 := hD
                      have hK9 := hK
                      rw [hQ]
                      exact W.zret (v := 0) hx hb hr rfl (fun t ht hW => ⟨⟨0, (S1_98, S2_99, Pl_100, Wr_101, Fi_102), rfl, ⟨(Or.inl rfl), by omega, by omega⟩,  by rw [ht]; exact hP9, va_K.moved hW.alike hK9, hD9⟩, hS.F ht⟩) hS.2.2 dX4_readClause_158
                    · refine lv_iconst (v := 1) hx hb dX4_readClause_153 (by decide) ?_
                      refine lv_goto (tgt := 158) hx hb dX4_readClause_154 (by decide) ?_
                      have hP9 := hP
                      have hD9 := hD
                      have hK9 := hK
                      rw [hQ]
                      exact W.zret (v := 1) hx hb hr rfl (fun t ht hW => ⟨⟨1, (S1_98, S2_99, Pl_100, Wr_101, Fi_102), rfl, ⟨(Or.inr rfl), by omega, by omega⟩,  by rw [ht]; exact hP9, va_K.moved hW.alike hK9, hD9⟩, hS.F ht⟩) hS.2.2 dX4_readClause_158
              · refine lv_iconst (v := 0) hx hb dX4_readClause_117 (by decide) ?_
                have hP9 := hP
                have hD9 := hD
                have hK9 := hK
                rw [hQ]
                exact W.zret (v := 0) hx hb hr rfl (fun t ht hW => ⟨⟨0, (S1_74, S2_75, Pl_76, Wr_77, Fi_78), rfl, ⟨(Or.inl rfl), by omega, by omega⟩,  by rw [ht]; exact hP9, va_K.moved hW.alike hK9, hD9⟩, hS.F ht⟩) hS.2.2 dX4_readClause_118
            · refine lv_aload_n hx hb dX4_readClause_92 rfl (lv_at hl 3 rfl) ?_
              refine lv_iload_n hx hb dX4_readClause_93 rfl (lv_at hl 2 rfl) ?_
              refine lv_iload_n hx hb dX4_readClause_94 rfl (lv_at hl 1 rfl) ?_
              refine lv_iload_n hx hb dX4_readClause_95 rfl (lv_at hl 1 rfl) ?_
              obtain ⟨hPc, hDc, hFc⟩ := kCut (wc := [(jR, .inr (4, [.ref jT, .ref r1, .ref r2, .int (nI (Wr_62)), .int (nI (Fi_63)), .int Pl_67, .ref q6, .ref q7])), (r1, .inl (c1, 120, .inl S1_59)), (r2, .inl (c2, 124, .inl S2_60)), (jT, .inr (8, [.ref t0, .int (nI (kt))])), (t0, .inl (cC, 120, .inl gT))]) hP hD hS hA [0, 1, 2, 3, 4] rfl (by decide) rfl
              have hKc := hK.sb (tys2 := [(c1, .int), (c2, .int), (cC, .char)]) [0, 1, 2] rfl
              refine va_calli (va_runV (As := [.int r_4, .int (nI (Wr_11)), .int (nI (Wr_11))]) (rest := []) ⟨hx, hb, hml, hown, hts⟩ (s_keep4 l dC dI jT t0 cC gT kt (by omega) (by omega) jR r1 r2 c1 c2 S1_59 S2_60 Wr_62 Fi_63 Pl_67 q6 q7 (by omega) (by omega) r_4 (nI (Wr_11)) (nI (Wr_11)) H.size) (cwV 3 hts (kG (List.forall_mem_cons.mpr ⟨(List.mem_cons_of_mem _ (List.mem_append_left _ (List.mem_of_getElem? (i := 54) rfl))), (List.forall_mem_cons.mpr ⟨(List.mem_cons_of_mem _ (List.mem_append_left _ (List.mem_of_getElem? (i := 53) rfl))), (List.forall_mem_cons.mpr ⟨(List.mem_cons_of_mem _ (List.mem_append_left _ (List.mem_of_getElem? (i := 52) rfl))), (List.forall_mem_cons.mpr ⟨(List.mem_cons_of_mem _ (List.mem_append_left _ (List.mem_of_getElem? (i := 0) rfl))), (fun _ h => absurd h List.not_mem_nil)⟩)⟩)⟩)⟩) (kGV _ _ _ _) (fun _ h => List.mem_cons_of_mem _ (List.mem_append_right _ (List.mem_append_right _ (List.mem_append_right _ (List.mem_append_right _ (List.mem_append_right _ (List.mem_append_right _ (List.mem_append_right _ (List.mem_append_right _ (List.mem_append_right _ (List.mem_append_right _ (List.mem_append_right _ h)))))))))))) gw_s_keep4) rfl rfl rfl ⟨rfl, hd_X4_keepClause⟩ ⟨(Nat.le_of_ble_eq_true rfl), (Nat.le_of_ble_eq_true rfl)⟩) (kW_V kT_blind kT_give (va_recv hKc hPc (ci := 4) (q0 := 0) rfl rfl) hPc hKc hDc) rfl rfl hl.1 rfl (lv_room (Nat.le_of_ble_eq_true rfl)) dX4_readClause_96 ⟨(Nat.le_of_ble_eq_true rfl), (Nat.le_of_ble_eq_true rfl)⟩) hS (fun q _ h => hFc q h) hFc (fun r_105 u t H1 locs ht hvm hw hB hz1 hk1 hS => ?_)
              obtain ⟨S1_106, S2_107, Pl_108, Wr_109, Fi_110⟩ := u
              obtain ⟨hP1, hK1, hD1⟩ := hB
              rw [ht] at hP1
              try dsimp only at hw
              obtain ⟨hP, hD⟩ : kPD dC dI A [(jR, .inr (4, [.ref jT, .ref r1, .ref r2, .int (nI (Wr_109)), .int (nI (Fi_110)), .int Pl_108, .ref q6, .ref q7])), (r1, .inl (c1, 120, .inl S1_106)), (r2, .inl (c2, 124, .inl S2_107)), (jT, .inr (8, [.ref t0, .int (nI (kt))])), (t0, .inl (cC, 120, .inl gT))] H1 := kJoinI hP hD [0, 1, 2, 3, 4] rfl hk1 hFc hP1 hD1 rfl [some 0, some 1, some 2, some 3, some 4] rfl rfl
              generalize H1 = H at hP hS ⊢
              have hw_111 := hw
              have hP9 := hP
              have hD9 := hD
              have hK9 := hK
              rw [hQ]
              exact W.zret (v := r_105) hx hb hr (kB01 hw_111.1) (fun t ht hW => ⟨⟨r_105, (S1_106, S2_107, Pl_108, Wr_109, Fi_110), rfl, ⟨hw_111.1, by omega, by omega⟩,  by rw [ht]; exact hP9, va_K.moved hW.alike hK9, hD9⟩, hS.F ht⟩) hS.2.2 dX4_readClause_99
          · refine lv_iconst (v := 0) hx hb dX4_readClause_80 (by decide) ?_
            have hP9 := hP
            have hD9 := hD
            have hK9 := hK
            rw [hQ]
            exact W.zret (v := 0) hx hb hr rfl (fun t ht hW => ⟨⟨0, (S1_59, S2_60, Pl_61, Wr_62, Fi_63), rfl, ⟨(Or.inl rfl), by omega, by omega⟩,  by rw [ht]; exact hP9, va_K.moved hW.alike hK9, hD9⟩, hS.F ht⟩) hS.2.2 dX4_readClause_81
        · refine lv_iconst (v := 1) hx hb dX4_readClause_62 (by decide) ?_
          refine lv_goto (tgt := 67) hx hb dX4_readClause_63 (by decide) ?_
          refine lv_istore_n hx hb dX4_readClause_67 rfl hl (by decide) (kTo [(3, .int 1), (2, .int (nI (Wr_11))), (1, .int r_4), (0, .ref jR)]) (fun ls hl => ?_)
          refine lv_iload_n hx hb dX4_readClause_68 rfl (lv_at hl 0 rfl) ?_
          refine lv_if_ne (tgt := 100) hx hb dX4_readClause_69 (by decide) (fun c_112 => ?_) (fun c_112 => absurd c_112 (by decide))
          refine lv_aload_n hx hb dX4_readClause_100 rfl (lv_at hl 3 rfl) ?_
          refine lv_iconst (v := 0) hx hb dX4_readClause_101 (by decide) ?_
          refine lv_iload_n hx hb dX4_readClause_102 rfl (lv_at hl 0 rfl) ?_
          refine lv_if_ne (tgt := 110) hx hb dX4_readClause_103 (by decide) (fun c_113 => ?_) (fun c_113 => absurd c_113 (by decide))
          refine lv_iconst (v := 0) hx hb dX4_readClause_110 (by decide) ?_
          obtain ⟨hPc, hDc, hFc⟩ := kCut (wc := [(jR, .inr (4, [.ref jT, .ref r1, .ref r2, .int (nI (Wr_11)), .int (nI (Fi_12)), .int Pl_54, .ref q6, .ref q7])), (r1, .inl (c1, 120, .inl S1_8)), (r2, .inl (c2, 124, .inl S2_9)), (jT, .inr (8, [.ref t0, .int (nI (kt))])), (t0, .inl (cC, 120, .inl gT))]) hP hD hS hA [0, 1, 2, 3, 4] rfl (by decide) rfl
          have hKc := hK.sb (tys2 := [(c1, .int), (c2, .int), (cC, .char)]) [0, 1, 2] rfl
          refine va_calli (va_runV (As := [.int 0, .int 0]) (rest := []) ⟨hx, hb, hml, hown, hts⟩ (s_cond4_0_0 l dC dI jT t0 cC gT kt (by omega) (by omega) jR r1 r2 c1 c2 S1_8 S2_9 Wr_11 Fi_12 Pl_54 q6 q7 (by omega) (by omega) b6 n6 g6 (by omega) b7 n7 g7 (by omega) H.size) (cwV 2 hts (kG (List.forall_mem_cons.mpr ⟨(List.mem_cons_of_mem _ (List.mem_append_left _ (List.mem_of_getElem? (i := 49) rfl))), (List.forall_mem_cons.mpr ⟨(List.mem_cons_of_mem _ (List.mem_append_left _ (List.mem_of_getElem? (i := 48) rfl))), (List.forall_mem_cons.mpr ⟨(List.mem_cons_of_mem _ (List.mem_append_left _ (List.mem_of_getElem? (i := 47) rfl))), (List.forall_mem_cons.mpr ⟨(List.mem_cons_of_mem _ (List.mem_append_left _ (List.mem_of_getElem? (i := 0) rfl))), (fun _ h => absurd h List.not_mem_nil)⟩)⟩)⟩)⟩) (kGV _ _ _ _) (kFam (List.mem_cons_of_mem _ (List.mem_append_left _ (List.mem_of_getElem? (i := 46) rfl)))) gw_s_cond4_0_0) rfl rfl rfl ⟨rfl, hd_X4_readCondition⟩ ⟨(Nat.le_of_ble_eq_true rfl), (Nat.le_of_ble_eq_true rfl)⟩) (kW_V kS2_blind (kS2_give hX hS hFc) (va_recv hKc hPc (ci := 4) (q0 := 0) rfl rfl) hPc hKc hDc) rfl rfl hl.1 rfl (lv_room (Nat.le_of_ble_eq_true rfl)) dX4_readClause_111 ⟨(Nat.le_of_ble_eq_true rfl), (Nat.le_of_ble_eq_true rfl)⟩) hS (fun q _ h => hFc q h) hFc (fun r_114 u t H1 locs ht hvm hw hB hz1 hk1 hS => ?_)
          obtain ⟨S1_115, S2_116, Pl_117, Wr_118, Fi_119⟩ := u
          obtain ⟨hP1, hK1, hD1⟩ := hB
          rw [ht] at hP1
          try dsimp only at hw
          obtain ⟨hP, hD⟩ : kPD dC dI A [(jR, .inr (4, [.ref jT, .ref r1, .ref r2, .int (nI (Wr_118)), .int (nI (Fi_119)), .int Pl_117, .ref q6, .ref q7])), (r1, .inl (c1, 120, .inl S1_115)), (r2, .inl (c2, 124, .inl S2_116)), (jT, .inr (8, [.ref t0, .int (nI (kt))])), (t0, .inl (cC, 120, .inl gT))] H1 := kJoinI hP hD [0, 1, 2, 3, 4] rfl hk1 hFc hP1 hD1 rfl [some 0, some 1, some 2, some 3, some 4] rfl rfl
          generalize H1 = H at hP hS ⊢
          have hw_120 := hw
          refine lv_if_ne (tgt := 119) hx hb dX4_readClause_114 (by decide) (fun c_121 => ?_) (fun c_121 => ?_)
          · refine lv_aload_n hx hb dX4_readClause_119 rfl (lv_at hl 3 rfl) ?_
            refine va_get (D := (dC, dI)) (ci := 4) (v := .int (nI (Wr_118))) (C := RX4) (T := TX4) (N := 8) hx hb hts (fun _ h => List.mem_cons_of_mem _ (List.mem_append_right _ (List.mem_append_right _ (List.mem_append_right _ (List.mem_append_left _ h))))) hown hK hP 0 rfl rfl 3 (by decide) (hts (.fieldLink RX4 18 "NotEnded$Reader" "written" "I") (List.mem_cons_of_mem _ (List.mem_append_left _ (List.mem_of_getElem? (i := 51) rfl)))) (fun _ h9 => h9) rfl dX4_readClause_120 ?_
            refine lv_istore hx hb dX4_readClause_123 hl (by decide) (kTo [(4, .int (nI (Wr_118))), (3, .int 1), (2, .int (nI (Wr_11))), (1, .int r_4), (0, .ref jR)]) (fun ls hl => ?_)
            refine lv_aload_n hx hb dX4_readClause_125 rfl (lv_at hl 4 rfl) ?_
            refine lv_bipush (v := 63) hx hb dX4_readClause_126 (by decide) ?_
            obtain ⟨hPc, hDc, hFc⟩ := kCut (wc := [(jR, .inr (4, [.ref jT, .ref r1, .ref r2, .int (nI (Wr_118)), .int (nI (Fi_119)), .int Pl_117, .ref q6, .ref q7])), (r1, .inl (c1, 120, .inl S1_115)), (r2, .inl (c2, 124, .inl S2_116)), (jT, .inr (8, [.ref t0, .int (nI (kt))])), (t0, .inl (cC, 120, .inl gT))]) hP hD hS hA [0, 1, 2, 3, 4] rfl (by decide) rfl
            have hKc := hK.sb (tys2 := [(c1, .int), (c2, .int), (cC, .char)]) [0, 1, 2] rfl
            refine va_calli (va_runV (As := [.int 63]) (rest := []) ⟨hx, hb, hml, hown, hts⟩ (s_take4 l dC dI jT t0 cC gT kt (by omega) (by omega) jR r1 r2 c1 c2 S1_115 S2_116 Wr_118 Fi_119 Pl_117 q6 q7 (by omega) (by omega) 63 H.size) (cwV 1 hts (kG (List.forall_mem_cons.mpr ⟨(List.mem_cons_of_mem _ (List.mem_append_left _ (List.mem_of_getElem? (i := 45) rfl))), (List.forall_mem_cons.mpr ⟨(List.mem_cons_of_mem _ (List.mem_append_left _ (List.mem_of_getElem? (i := 44) rfl))), (List.forall_mem_cons.mpr ⟨(List.mem_cons_of_mem _ (List.mem_append_left _ (List.mem_of_getElem? (i := 43) rfl))), (List.forall_mem_cons.mpr ⟨(List.mem_cons_of_mem _ (List.mem_append_left _ (List.mem_of_getElem? (i := 0) rfl))), (fun _ h => absurd h List.not_mem_nil)⟩)⟩)⟩)⟩) (kGV _ _ _ _) (fun _ h => List.mem_cons_of_mem _ (List.mem_append_right _ (List.mem_append_right _ (List.mem_append_right _ (List.mem_append_right _ (List.mem_append_right _ (List.mem_append_right _ (List.mem_append_right _ (List.mem_append_right _ (List.mem_append_right _ (List.mem_append_right _ (List.mem_append_left _ h)))))))))))) gw_s_take4) rfl rfl rfl ⟨rfl, hd_X4_take⟩ ⟨(Nat.le_of_ble_eq_true rfl), (Nat.le_of_ble_eq_true rfl)⟩) (kW_V kT_blind kT_give (va_recv hKc hPc (ci := 4) (q0 := 0) rfl rfl) hPc hKc hDc) rfl rfl hl.1 rfl (lv_room (Nat.le_of_ble_eq_true rfl)) dX4_readClause_128 ⟨(Nat.le_of_ble_eq_true rfl), (Nat.le_of_ble_eq_true rfl)⟩) hS (fun q _ h => hFc q h) hFc (fun r_122 u t H1 locs ht hvm hw hB hz1 hk1 hS => ?_)
            obtain ⟨S1_123, S2_124, Pl_125, Wr_126, Fi_127⟩ := u
            obtain ⟨hP1, hK1, hD1⟩ := hB
            rw [ht] at hP1
            try dsimp only at hw
            obtain ⟨hP, hD⟩ : kPD dC dI A [(jR, .inr (4, [.ref jT, .ref r1, .ref r2, .int (nI (Wr_126)), .int (nI (Fi_127)), .int Pl_125, .ref q6, .ref q7])), (r1, .inl (c1, 120, .inl S1_123)), (r2, .inl (c2, 124, .inl S2_124)), (jT, .inr (8, [.ref t0, .int (nI (kt))])), (t0, .inl (cC, 120, .inl gT))] H1 := kJoinI hP hD [0, 1, 2, 3, 4] rfl hk1 hFc hP1 hD1 rfl [some 0, some 1, some 2, some 3, some 4] rfl rfl
            generalize H1 = H at hP hS ⊢
            have hw_128 := hw
            refine lv_if_eq (tgt := 157) hx hb dX4_readClause_131 (by decide) (fun c_129 => ?_) (fun c_129 => ?_)
            · refine lv_iconst (v := 0) hx hb dX4_readClause_157 (by decide) ?_
              have hP9 := hP
              have hD9 := hD
              have hK9 := hK
              rw [hQ]
              exact W.zret (v := 0) hx hb hr rfl (fun t ht hW => ⟨⟨0, (S1_123, S2_124, Pl_125, Wr_126, Fi_127), rfl, ⟨(Or.inl rfl), by omega, by omega⟩,  by rw [ht]; exact hP9, va_K.moved hW.alike hK9, hD9⟩, hS.F ht⟩) hS.2.2 dX4_readClause_158
            · refine lv_aload_n hx hb dX4_readClause_134 rfl (lv_at hl 4 rfl) ?_
              refine lv_iconst (v := 0) hx hb dX4_readClause_135 (by decide) ?_
              obtain ⟨hPc, hDc, hFc⟩ := kCut (wc := [(jR, .inr (4, [.ref jT, .ref r1, .ref r2, .int (nI (Wr_126)), .int (nI (Fi_127)), .int Pl_125, .ref q6, .ref q7])), (r1, .inl (c1, 120, .inl S1_123)), (r2, .inl (c2, 124, .inl S2_124)), (jT, .inr (8, [.ref t0, .int (nI (kt))])), (t0, .inl (cC, 120, .inl gT))]) hP hD hS hA [0, 1, 2, 3, 4] rfl (by decide) rfl
              have hKc := hK.sb (tys2 := [(c1, .int), (c2, .int), (cC, .char)]) [0, 1, 2] rfl
              refine va_calli (va_runV (As := [.int 0]) (rest := []) ⟨hx, hb, hml, hown, hts⟩ (s_sum4_0 l dC dI jT t0 cC gT kt (by omega) (by omega) jR r1 r2 c1 c2 S1_123 S2_124 Wr_126 Fi_127 Pl_125 q6 q7 (by omega) (by omega) b6 n6 g6 (by omega) b7 n7 g7 (by omega) H.size) (cwV 1 hts (kG (List.forall_mem_cons.mpr ⟨(List.mem_cons_of_mem _ (List.mem_append_left _ (List.mem_of_getElem? (i := 32) rfl))), (List.forall_mem_cons.mpr ⟨(List.mem_cons_of_mem _ (List.mem_append_left _ (List.mem_of_getElem? (i := 31) rfl))), (List.forall_mem_cons.mpr ⟨(List.mem_cons_of_mem _ (List.mem_append_left _ (List.mem_of_getElem? (i := 30) rfl))), (List.forall_mem_cons.mpr ⟨(List.mem_cons_of_mem _ (List.mem_append_left _ (List.mem_of_getElem? (i := 0) rfl))), (fun _ h => absurd h List.not_mem_nil)⟩)⟩)⟩)⟩) (kGV _ _ _ _) (kFam (List.mem_cons_of_mem _ (List.mem_append_left _ (List.mem_of_getElem? (i := 29) rfl)))) gw_s_sum4_0) rfl rfl rfl ⟨rfl, hd_X4_readSum⟩ ⟨(Nat.le_of_ble_eq_true rfl), (Nat.le_of_ble_eq_true rfl)⟩) (kW_V kS2_blind (kS2_give hX hS hFc) (va_recv hKc hPc (ci := 4) (q0 := 0) rfl rfl) hPc hKc hDc) rfl rfl hl.1 rfl (lv_room (Nat.le_of_ble_eq_true rfl)) dX4_readClause_136 ⟨(Nat.le_of_ble_eq_true rfl), (Nat.le_of_ble_eq_true rfl)⟩) hS (fun q _ h => hFc q h) hFc (fun r_130 u t H1 locs ht hvm hw hB hz1 hk1 hS => ?_)
              obtain ⟨S1_131, S2_132, Pl_133, Wr_134, Fi_135⟩ := u
              obtain ⟨hP1, hK1, hD1⟩ := hB
              rw [ht] at hP1
              try dsimp only at hw
              obtain ⟨hP, hD⟩ : kPD dC dI A [(jR, .inr (4, [.ref jT, .ref r1, .ref r2, .int (nI (Wr_134)), .int (nI (Fi_135)), .int Pl_133, .ref q6, .ref q7])), (r1, .inl (c1, 120, .inl S1_131)), (r2, .inl (c2, 124, .inl S2_132)), (jT, .inr (8, [.ref t0, .int (nI (kt))])), (t0, .inl (cC, 120, .inl gT))] H1 := kJoinI hP hD [0, 1, 2, 3, 4] rfl hk1 hFc hP1 hD1 rfl [some 0, some 1, some 2, some 3, some 4] rfl rfl
              generalize H1 = H at hP hS ⊢
              have hw_136 := hw
              refine lv_if_eq (tgt := 157) hx hb dX4_readClause_139 (by decide) (fun c_137 => ?_) (fun c_137 => ?_)
              · refine lv_iconst (v := 0) hx hb dX4_readClause_157 (by decide) ?_
                have hP9 := hP
                have hD9 := hD
                have hK9 := hK
                rw [hQ]
                exact W.zret (v := 0) hx hb hr rfl (fun t ht hW => ⟨⟨0, (S1_131, S2_132, Pl_133, Wr_134, Fi_135), rfl, ⟨(Or.inl rfl), by omega, by omega⟩,  by rw [ht]; exact hP9, va_K.moved hW.alike hK9, hD9⟩, hS.F ht⟩) hS.2.2 dX4_readClause_158
              · refine lv_aload_n hx hb dX4_readClause_142 rfl (lv_at hl 4 rfl) ?_
                refine lv_iload_n hx hb dX4_readClause_143 rfl (lv_at hl 3 rfl) ?_
                refine lv_iload_n hx hb dX4_readClause_144 rfl (lv_at hl 2 rfl) ?_
                refine lv_iload hx hb dX4_readClause_145 (lv_at hl 0 rfl) ?_
                obtain ⟨hPc, hDc, hFc⟩ := kCut (wc := [(jR, .inr (4, [.ref jT, .ref r1, .ref r2, .int (nI (Wr_134)), .int (nI (Fi_135)), .int Pl_133, .ref q6, .ref q7])), (r1, .inl (c1, 120, .inl S1_131)), (r2, .inl (c2, 124, .inl S2_132)), (jT, .inr (8, [.ref t0, .int (nI (kt))])), (t0, .inl (cC, 120, .inl gT))]) hP hD hS hA [0, 1, 2, 3, 4] rfl (by decide) rfl
                have hKc := hK.sb (tys2 := [(c1, .int), (c2, .int), (cC, .char)]) [0, 1, 2] rfl
                refine va_calli (va_runV (As := [.int r_4, .int (nI (Wr_11)), .int (nI (Wr_118))]) (rest := []) ⟨hx, hb, hml, hown, hts⟩ (s_keep4 l dC dI jT t0 cC gT kt (by omega) (by omega) jR r1 r2 c1 c2 S1_131 S2_132 Wr_134 Fi_135 Pl_133 q6 q7 (by omega) (by omega) r_4 (nI (Wr_11)) (nI (Wr_118)) H.size) (cwV 3 hts (kG (List.forall_mem_cons.mpr ⟨(List.mem_cons_of_mem _ (List.mem_append_left _ (List.mem_of_getElem? (i := 54) rfl))), (List.forall_mem_cons.mpr ⟨(List.mem_cons_of_mem _ (List.mem_append_left _ (List.mem_of_getElem? (i := 53) rfl))), (List.forall_mem_cons.mpr ⟨(List.mem_cons_of_mem _ (List.mem_append_left _ (List.mem_of_getElem? (i := 52) rfl))), (List.forall_mem_cons.mpr ⟨(List.mem_cons_of_mem _ (List.mem_append_left _ (List.mem_of_getElem? (i := 0) rfl))), (fun _ h => absurd h List.not_mem_nil)⟩)⟩)⟩)⟩) (kGV _ _ _ _) (fun _ h => List.mem_cons_of_mem _ (List.mem_append_right _ (List.mem_append_right _ (List.mem_append_right _ (List.mem_append_right _ (List.mem_append_right _ (List.mem_append_right _ (List.mem_append_right _ (List.mem_append_right _ (List.mem_append_right _ (List.mem_append_right _ (List.mem_append_right _ h)))))))))))) gw_s_keep4) rfl rfl rfl ⟨rfl, hd_X4_keepClause⟩ ⟨(Nat.le_of_ble_eq_true rfl), (Nat.le_of_ble_eq_true rfl)⟩) (kW_V kT_blind kT_give (va_recv hKc hPc (ci := 4) (q0 := 0) rfl rfl) hPc hKc hDc) rfl rfl hl.1 rfl (lv_room (Nat.le_of_ble_eq_true rfl)) dX4_readClause_147 ⟨(Nat.le_of_ble_eq_true rfl), (Nat.le_of_ble_eq_true rfl)⟩) hS (fun q _ h => hFc q h) hFc (fun r_138 u t H1 locs ht hvm hw hB hz1 hk1 hS => ?_)
                obtain ⟨S1_139, S2_140, Pl_141, Wr_142, Fi_143⟩ := u
                obtain ⟨hP1, hK1, hD1⟩ := hB
                rw [ht] at hP1
                try dsimp only at hw
                obtain ⟨hP, hD⟩ : kPD dC dI A [(jR, .inr (4, [.ref jT, .ref r1, .ref r2, .int (nI (Wr_142)), .int (nI (Fi_143)), .int Pl_141, .ref q6, .ref q7])), (r1, .inl (c1, 120, .inl S1_139)), (r2, .inl (c2, 124, .inl S2_140)), (jT, .inr (8, [.ref t0, .int (nI (kt))])), (t0, .inl (cC, 120, .inl gT))] H1 := kJoinI hP hD [0, 1, 2, 3, 4] rfl hk1 hFc hP1 hD1 rfl [some 0, some 1, some 2, some 3, some 4] rfl rfl
                generalize H1 = H at hP hS ⊢
                have hw_144 := hw
                refine lv_if_eq (tgt := 157) hx hb dX4_readClause_150 (by decide) (fun c_145 => ?_) (fun c_145 => ?_)
                · refine lv_iconst (v := 0) hx hb dX4_readClause_157 (by decide) ?_
                  have hP9 := hP
                  have hD9 := hD
                  have hK9 := hK
                  rw [hQ]
                  exact W.zret (v := 0) hx hb hr rfl (fun t ht hW => ⟨⟨0, (S1_139, S2_140, Pl_141, Wr_142, Fi_143), rfl, ⟨(Or.inl rfl), by omega, by omega⟩,  by rw [ht]; exact hP9, va_K.moved hW.alike hK9, hD9⟩, hS.F ht⟩) hS.2.2 dX4_readClause_158
                · refine lv_iconst (v := 1) hx hb dX4_readClause_153 (by decide) ?_
                  refine lv_goto (tgt := 158) hx hb dX4_readClause_154 (by decide) ?_
                  have hP9 := hP
                  have hD9 := hD
                  have hK9 := hK
                  rw [hQ]
                  exact W.zret (v := 1) hx hb hr rfl (fun t ht hW => ⟨⟨1, (S1_139, S2_140, Pl_141, Wr_142, Fi_143), rfl, ⟨(Or.inr rfl), by omega, by omega⟩,  by rw [ht]; exact hP9, va_K.moved hW.alike hK9, hD9⟩, hS.F ht⟩) hS.2.2 dX4_readClause_158
          · refine lv_iconst (v := 0) hx hb dX4_readClause_117 (by decide) ?_
            have hP9 := hP
            have hD9 := hD
            have hK9 := hK
            rw [hQ]
            exact W.zret (v := 0) hx hb hr rfl (fun t ht hW => ⟨⟨0, (S1_115, S2_116, Pl_117, Wr_118, Fi_119), rfl, ⟨(Or.inl rfl), by omega, by omega⟩,  by rw [ht]; exact hP9, va_K.moved hW.alike hK9, hD9⟩, hS.F ht⟩) hS.2.2 dX4_readClause_118
    · refine lv_iconst (v := 0) hx hb dX4_readClause_37 (by decide) ?_
      have hP9 := hP
      have hD9 := hD
      have hK9 := hK
      rw [hQ]
      exact W.zret (v := 0) hx hb hr rfl (fun t ht hW => ⟨⟨0, (S1_8, S2_9, Pl_10, Wr_11, Fi_12), rfl, ⟨(Or.inl rfl), by omega, by omega⟩,  by rw [ht]; exact hP9, va_K.moved hW.alike hK9, hD9⟩, hS.F ht⟩) hS.2.2 dX4_readClause_38
  · refine lv_iconst (v := 0) hx hb dX4_readClause_16 (by decide) ?_
    have hP9 := hP
    have hD9 := hD
    have hK9 := hK
    rw [hQ]
    exact W.zret (v := 0) hx hb hr rfl (fun t ht hW => ⟨⟨0, (s1, s2, Pl_2, wr, fi), rfl, ⟨(Or.inl rfl), by omega, by omega⟩,  by rw [ht]; exact hP9, va_K.moved hW.alike hK9, hD9⟩, hS.F ht⟩) hS.2.2 dX4_readClause_17
