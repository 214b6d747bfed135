theorem dX4_readClause_0 : decode cX4_readClause 0 = .ok (.aload_n 0, 1) := by decide +kernel
theorem dX4_readClause_1 : decode cX4_readClause 1 = .ok (.getfield 30, 3) := by decide +kernel
theorem dX4_readClause_4 : decode cX4_readClause 4 = .ok (.aload_n 0, 1) := by decide +kernel
theorem dX4_readClause_5 : decode cX4_readClause 5 = .ok (.invokevirtual 53, 3) := by decide +kernel
theorem dX4_readClause_8 : decode cX4_readClause 8 = .ok (.invokevirtual 72, 3) := by decide +kernel
theorem dX4_readClause_11 : decode cX4_readClause 11 = .ok (.istore_n 1, 1) := by decide +kernel
theorem dX4_readClause_12 : decode cX4_readClause 12 = .ok (.iload_n 1, 1) := by decide +kernel
theorem dX4_readClause_13 : decode cX4_readClause 13 = .ok (.ifCond .ge 5, 3) := by decide +kernel
theorem dX4_readClause_18 : decode cX4_readClause 18 = .ok (.aload_n 0, 1) := by decide +kernel
theorem dX4_readClause_19 : decode cX4_readClause 19 = .ok (.dup, 1) := by decide +kernel
theorem dX4_readClause_20 : decode cX4_readClause 20 = .ok (.getfield 25, 3) := by decide +kernel
theorem dX4_readClause_23 : decode cX4_readClause 23 = .ok (.iconst 1, 1) := by decide +kernel
theorem dX4_readClause_24 : decode cX4_readClause 24 = .ok (.iadd, 1) := by decide +kernel
theorem dX4_readClause_25 : decode cX4_readClause 25 = .ok (.putfield 25, 3) := by decide +kernel
theorem dX4_readClause_28 : decode cX4_readClause 28 = .ok (.aload_n 0, 1) := by decide +kernel
theorem dX4_readClause_29 : decode cX4_readClause 29 = .ok (.bipush 58, 2) := by decide +kernel
theorem dX4_readClause_31 : decode cX4_readClause 31 = .ok (.invokevirtual 57, 3) := by decide +kernel
theorem dX4_readClause_34 : decode cX4_readClause 34 = .ok (.ifCond .ne 5, 3) := by decide +kernel
theorem dX4_readClause_39 : decode cX4_readClause 39 = .ok (.aload_n 0, 1) := by decide +kernel
theorem dX4_readClause_40 : decode cX4_readClause 40 = .ok (.getfield 18, 3) := by decide +kernel
theorem dX4_readClause_43 : decode cX4_readClause 43 = .ok (.istore_n 2, 1) := by decide +kernel
theorem dX4_readClause_44 : decode cX4_readClause 44 = .ok (.aload_n 0, 1) := by decide +kernel
theorem dX4_readClause_45 : decode cX4_readClause 45 = .ok (.invokevirtual 53, 3) := by decide +kernel
theorem dX4_readClause_48 : decode cX4_readClause 48 = .ok (.bipush 33, 2) := by decide +kernel
theorem dX4_readClause_50 : decode cX4_readClause 50 = .ok (.if_icmp .eq 12, 3) := by decide +kernel
theorem dX4_readClause_62 : decode cX4_readClause 62 = .ok (.iconst 1, 1) := by decide +kernel
theorem dX4_readClause_63 : decode cX4_readClause 63 = .ok (.goto 4, 3) := by decide +kernel
theorem dX4_readClause_67 : decode cX4_readClause 67 = .ok (.istore_n 3, 1) := by decide +kernel
theorem dX4_readClause_68 : decode cX4_readClause 68 = .ok (.iload_n 3, 1) := by decide +kernel
theorem dX4_readClause_69 : decode cX4_readClause 69 = .ok (.ifCond .ne 31, 3) := by decide +kernel
theorem dX4_readClause_100 : decode cX4_readClause 100 = .ok (.aload_n 0, 1) := by decide +kernel
theorem dX4_readClause_101 : decode cX4_readClause 101 = .ok (.iconst 0, 1) := by decide +kernel
theorem dX4_readClause_102 : decode cX4_readClause 102 = .ok (.iload_n 3, 1) := by decide +kernel
theorem dX4_readClause_103 : decode cX4_readClause 103 = .ok (.ifCond .ne 7, 3) := by decide +kernel
theorem dX4_readClause_110 : decode cX4_readClause 110 = .ok (.iconst 0, 1) := by decide +kernel
theorem dX4_readClause_111 : decode cX4_readClause 111 = .ok (.invokevirtual 89, 3) := by decide +kernel
theorem dX4_readClause_114 : decode cX4_readClause 114 = .ok (.ifCond .ne 5, 3) := by decide +kernel
theorem dX4_readClause_119 : decode cX4_readClause 119 = .ok (.aload_n 0, 1) := by decide +kernel
theorem dX4_readClause_120 : decode cX4_readClause 120 = .ok (.getfield 18, 3) := by decide +kernel
theorem dX4_readClause_123 : decode cX4_readClause 123 = .ok (.istore 4, 2) := by decide +kernel
theorem dX4_readClause_125 : decode cX4_readClause 125 = .ok (.aload_n 0, 1) := by decide +kernel
theorem dX4_readClause_126 : decode cX4_readClause 126 = .ok (.bipush 63, 2) := by decide +kernel
theorem dX4_readClause_128 : decode cX4_readClause 128 = .ok (.invokevirtual 57, 3) := by decide +kernel
theorem dX4_readClause_131 : decode cX4_readClause 131 = .ok (.ifCond .eq 26, 3) := by decide +kernel
theorem dX4_readClause_157 : decode cX4_readClause 157 = .ok (.iconst 0, 1) := by decide +kernel
theorem dX4_readClause_158 : decode cX4_readClause 158 = .ok (.ireturn, 1) := by decide +kernel
theorem dX4_readClause_134 : decode cX4_readClause 134 = .ok (.aload_n 0, 1) := by decide +kernel
theorem dX4_readClause_135 : decode cX4_readClause 135 = .ok (.iconst 0, 1) := by decide +kernel
theorem dX4_readClause_136 : decode cX4_readClause 136 = .ok (.invokevirtual 78, 3) := by decide +kernel
theorem dX4_readClause_139 : decode cX4_readClause 139 = .ok (.ifCond .eq 18, 3) := by decide +kernel
theorem dX4_readClause_142 : decode cX4_readClause 142 = .ok (.aload_n 0, 1) := by decide +kernel
theorem dX4_readClause_143 : decode cX4_readClause 143 = .ok (.iload_n 1, 1) := by decide +kernel
theorem dX4_readClause_144 : decode cX4_readClause 144 = .ok (.iload_n 2, 1) := by decide +kernel
theorem dX4_readClause_145 : decode cX4_readClause 145 = .ok (.iload 4, 2) := by decide +kernel
theorem dX4_readClause_147 : decode cX4_readClause 147 = .ok (.invokevirtual 85, 3) := by decide +kernel
theorem dX4_readClause_150 : decode cX4_readClause 150 = .ok (.ifCond .eq 7, 3) := by decide +kernel
theorem dX4_readClause_153 : decode cX4_readClause 153 = .ok (.iconst 1, 1) := by decide +kernel
theorem dX4_readClause_154 : decode cX4_readClause 154 = .ok (.goto 4, 3) := by decide +kernel
theorem dX4_readClause_117 : decode cX4_readClause 117 = .ok (.iconst 0, 1) := by decide +kernel
theorem dX4_readClause_118 : decode cX4_readClause 118 = .ok (.ireturn, 1) := by decide +kernel
theorem dX4_readClause_53 : decode cX4_readClause 53 = .ok (.aload_n 0, 1) := by decide +kernel
theorem dX4_readClause_54 : decode cX4_readClause 54 = .ok (.invokevirtual 53, 3) := by decide +kernel
theorem dX4_readClause_57 : decode cX4_readClause 57 = .ok (.bipush 40, 2) := by decide +kernel
theorem dX4_readClause_59 : decode cX4_readClause 59 = .ok (.if_icmp .ne 7, 3) := by decide +kernel
theorem dX4_readClause_66 : decode cX4_readClause 66 = .ok (.iconst 0, 1) := by decide +kernel
theorem dX4_readClause_72 : decode cX4_readClause 72 = .ok (.aload_n 0, 1) := by decide +kernel
theorem dX4_readClause_73 : decode cX4_readClause 73 = .ok (.iconst 0, 1) := by decide +kernel
theorem dX4_readClause_74 : decode cX4_readClause 74 = .ok (.invokevirtual 78, 3) := by decide +kernel
theorem dX4_readClause_77 : decode cX4_readClause 77 = .ok (.ifCond .ne 5, 3) := by decide +kernel
theorem dX4_readClause_82 : decode cX4_readClause 82 = .ok (.aload_n 0, 1) := by decide +kernel
theorem dX4_readClause_83 : decode cX4_readClause 83 = .ok (.invokevirtual 53, 3) := by decide +kernel
theorem dX4_readClause_86 : decode cX4_readClause 86 = .ok (.invokestatic 82, 3) := by decide +kernel
theorem dX4_readClause_89 : decode cX4_readClause 89 = .ok (.ifCond .ne 11, 3) := by decide +kernel
theorem dX4_readClause_106 : decode cX4_readClause 106 = .ok (.iconst 1, 1) := by decide +kernel
theorem dX4_readClause_107 : decode cX4_readClause 107 = .ok (.goto 4, 3) := by decide +kernel
theorem dX4_readClause_92 : decode cX4_readClause 92 = .ok (.aload_n 0, 1) := by decide +kernel
theorem dX4_readClause_93 : decode cX4_readClause 93 = .ok (.iload_n 1, 1) := by decide +kernel
theorem dX4_readClause_94 : decode cX4_readClause 94 = .ok (.iload_n 2, 1) := by decide +kernel
theorem dX4_readClause_95 : decode cX4_readClause 95 = .ok (.iload_n 2, 1) := by decide +kernel
theorem dX4_readClause_96 : decode cX4_readClause 96 = .ok (.invokevirtual 85, 3) := by decide +kernel
theorem dX4_readClause_99 : decode cX4_readClause 99 = .ok (.ireturn, 1) := by decide +kernel
theorem dX4_readClause_80 : decode cX4_readClause 80 = .ok (.iconst 0, 1) := by decide +kernel
theorem dX4_readClause_81 : decode cX4_readClause 81 = .ok (.ireturn, 1) := by decide +kernel
theorem dX4_readClause_37 : decode cX4_readClause 37 = .ok (.iconst 0, 1) := by decide +kernel
theorem dX4_readClause_38 : decode cX4_readClause 38 = .ok (.ireturn, 1) := by decide +kernel
theorem dX4_readClause_16 : decode cX4_readClause 16 = .ok (.iconst 0, 1) := by decide +kernel
theorem dX4_readClause_17 : decode cX4_readClause 17 = .ok (.ireturn, 1) := by decide +kernel
def w_s_clause4 : List Cond := .code yX4_readClause cX4_readClause 5 (some .boolean) :: wf_rd
theorem gw_s_clause4 : (w_s_clause4).all goodWord = true := kFamG rfl gf_rd
theorem hd_X4_readClause : yX4_readClause.cls ≠ "java/lang/invoke/MethodHandle" ∧ yX4_readClause.cls ≠ "java/lang/invoke/VarHandle" ∧ (parseMethodDescriptor yX4_readClause.desc).map (fun d => d.parameters.length) = some 0 := by decide +kernel
set_option maxHeartbeats 4000000 in
set_option maxRecDepth 100000 in
theorem s_clause4 (l : Launch) (dC : Nat → ClassId) (dI : Nat → Nat → Nat) (jT : Nat) (t0 : Nat) (cC : ClassId) (gT : Nat → Int32) (kt : Nat) (hkt : kt ≤ 120) (hgT : ∀ j : Nat, narrow .char (.int (gT j)) = .int (gT j)) (jR : Nat) (r1 : Nat) (r2 : Nat) (c1 : ClassId) (c2 : ClassId) (s1 : Nat → Int32) (s2 : Nat → Int32) (wr : Nat) (fi : Nat) (pl : Int32) (q6 : Nat) (q7 : Nat) (hwr : wr ≤ 120) (hfi : fi ≤ 124) (b6 : Nat) (n6 : Nat) (g6 : Nat → Int32) (hn6 : n6 ≤ 8) (b7 : Nat) (n7 : Nat) (g7 : Nat → Int32) (hn7 : n7 ≤ 8) (sz : Nat) : Met l yX4_readClause w_s_clause4 ({ frames := 48, cells := 0, slots := 0, locals := 2880 }) (kW dC dI [.ref jR] [(jR, .inr (4, [.ref jT, .ref r1, .ref r2, .int (nI (wr)), .int (nI (fi)), .int pl, .ref q6, .ref q7])), (r1, .inl (c1, 120, .inl s1)), (r2, .inl (c2, 124, .inl s2)), (jT, .inr (8, [.ref t0, .int (nI (kt))])), (t0, .inl (cC, 120, .inl gT))] [(c1, .int), (c2, .int), (cC, .char)] (kS2 q6 b6 n6 g6 q7 b7 n7 g7 (va_A [(jR, .inr (4, [.ref jT, .ref r1, .ref r2, .int (nI (wr)), .int (nI (fi)), .int pl, .ref q6, .ref q7])), (r1, .inl (c1, 120, .inl s1)), (r2, .inl (c2, 124, .inl s2)), (jT, .inr (8, [.ref t0, .int (nI (kt))])), (t0, .inl (cC, 120, .inl gT))] sz)) sz) (va_Qi (fun (r : Int32) (u : (Nat → Int32) × (Nat → Int32) × Int32 × Nat × Nat) => match u with | (S1, S2, Pl, Wr, Fi) => ((r = 0 ∨ r = 1) ∧ Wr ≤ 120 ∧ Fi ≤ 124)) (fun (u : (Nat → Int32) × (Nat → Int32) × Int32 × Nat × Nat) => match u with | (S1, S2, Pl, Wr, Fi) => fun t : State => kB dC dI [(jR, .inr (4, [.ref jT, .ref r1, .ref r2, .int (nI (Wr)), .int (nI (Fi)), .int Pl, .ref q6, .ref q7])), (r1, .inl (c1, 120, .inl S1)), (r2, .inl (c2, 124, .inl S2)), (jT, .inr (8, [.ref t0, .int (nI (kt))])), (t0, .inl (cC, 120, .inl gT))] [(c1, .int), (c2, .int), (cC, .char)] (va_A [(jR, .inr (4, [.ref jT, .ref r1, .ref r2, .int (nI (wr)), .int (nI (fi)), .int pl, .ref q6, .ref q7])), (r1, .inl (c1, 120, .inl s1)), (r2, .inl (c2, 124, .inl s2)), (jT, .inr (8, [.ref t0, .int (nI (kt))])), (t0, .inl (cC, 120, .inl gT))] sz) t) (va_A [(jR, .inr (4, [.ref jT, .ref r1, .ref r2, .int (nI (wr)), .int (nI (fi)), .int pl, .ref q6, .ref q7])), (r1, .inl (c1, 120, .inl s1)), (r2, .inl (c2, 124, .inl s2)), (jT, .inr (8, [.ref t0, .int (nI (kt))])), (t0, .inl (cC, 120, .inl gT))] sz)) 0 0 (va_A [(jR, .inr (4, [.ref jT, .ref r1, .ref r2, .int (nI (wr)), .int (nI (fi)), .int pl, .ref q6, .ref q7])), (r1, .inl (c1, 120, .inl s1)), (r2, .inl (c2, 124, .inl s2)), (jT, .inr (8, [.ref t0, .int (nI (kt))])), (t0, .inl (cC, 120, .inl gT))] sz) := by
  refine Met.ofW (cc := cX4_readClause) (maxL := 5) (ret := (some .boolean)) (by decide) rfl ?_
  intro p e s m args below meth c s₁ B hml hv
  obtain ⟨rfl, hsz, hP, hK, hD0, hX⟩ := hv
  have hx := B.exec
  have hb := B.bytes
  have hr := B.returns
  have hts := atoms_spec (ws := w_s_clause4) B.pre
  have hown : s.vm.findClass RX4 = some m.cls := findClass_of_methodNamed B.named
  have hlocks := B.notSynchronized
  subst hsz
  have hD := hD0.self (sz := s.heap.size)
  generalize hAe : va_A [(jR, .inr (4, [.ref jT, .ref r1, .ref r2, .int (nI (wr)), .int (nI (fi)), .int pl, .ref q6, .ref q7])), (r1, .inl (c1, 120, .inl s1)), (r2, .inl (c2, 124, .inl s2)), (jT, .inr (8, [.ref t0, .int (nI (kt))])), (t0, .inl (cC, 120, .inl gT))] s.heap.size = A at hD hX ⊢
  have hA : ∀ q : Nat, s.heap.size ≤ q → A q := fun q h => by rw [← hAe]; exact Or.inr h
  have hS : va_S A s.heap s.heap [] := va_S.rf
  have hP : va_P (dC, dI) vwCl [(jR, .inr (4, [.ref jT, .ref r1, .ref r2, .int (nI (wr)), .int (nI (fi)), .int pl, .ref q6, .ref q7])), (r1, .inl (c1, 120, .inl s1)), (r2, .inl (c2, 124, .inl s2)), (jT, .inr (8, [.ref t0, .int (nI (kt))])), (t0, .inl (cC, 120, .inl gT))] s.heap := hP
  have hl := lv_entry ([.ref jR]) (n := 5) (Nat.le_of_ble_eq_true rfl)
  rw [lg_entry_eq]
  generalize (lg_sl ([.ref jR]) ++ List.replicate (5 - (lg_sl ([.ref jR])).length) Slot.unset).toArray = ls at hl ⊢
  have hl : lv_has ls 5 [(0, .ref jR)] := hl
  refine kQ (fun Q hQ => ?_)
  refine lv_aload_n hx hb dX4_readClause_0 rfl (lv_at hl 0 rfl) ?_
  refine va_get (D := (dC, dI)) (ci := 4) (v := .ref q6) (C := RX4) (T := TX4) (N := 8) hx hb hts (fun _ h => List.mem_cons_of_mem _ (List.mem_append_right _ (List.mem_append_right _ (List.mem_append_right _ (List.mem_append_left _ h))))) hown hK hP 0 rfl rfl 6 kc_l_6_8 (hts (.fieldLink RX4 30 "NotEnded$Reader" "labelSigns" "Ljava/lang/String;") (List.mem_cons_of_mem _ (List.mem_append_left _ (List.mem_of_getElem? (i := 50) rfl)))) (fun _ h9 => h9) rfl dX4_readClause_1 ?_
  refine lv_aload_n hx hb dX4_readClause_4 rfl (lv_at hl 0 rfl) ?_
  obtain ⟨hPc, hDc, hFc⟩ := kCut (wc := [(jR, .inr (4, [.ref jT, .ref r1, .ref r2, .int (nI (wr)), .int (nI (fi)), .int pl, .ref q6, .ref q7])), (r1, .inl (c1, 120, .inl s1)), (r2, .inl (c2, 124, .inl s2)), (jT, .inr (8, [.ref t0, .int (nI (kt))])), (t0, .inl (cC, 120, .inl gT))]) hP hD hS hA [0, 1, 2, 3, 4] rfl kc_nd_311 rfl
  have hKc := hK.sb (tys2 := [(c1, .int), (c2, .int), (cC, .char)]) [0, 1, 2] rfl
  refine va_calli (va_runV (As := []) (rest := [.ref q6]) ⟨hx, hb, hml, hown, hts⟩ (s_look4 l dC dI jT t0 cC gT kt hkt hgT jR r1 r2 c1 c2 s1 s2 wr fi pl q6 q7 hwr hfi s.heap.size) (cwV 0 hts (kG (List.forall_mem_cons.mpr ⟨(List.mem_cons_of_mem _ (List.mem_append_left _ (List.mem_of_getElem? (i := 3) rfl))), (List.forall_mem_cons.mpr ⟨(List.mem_cons_of_mem _ (List.mem_append_left _ (List.mem_of_getElem? (i := 2) rfl))), (List.forall_mem_cons.mpr ⟨(List.mem_cons_of_mem _ (List.mem_append_left _ (List.mem_of_getElem? (i := 1) rfl))), (List.forall_mem_cons.mpr ⟨(List.mem_cons_of_mem _ (List.mem_append_left _ (List.mem_of_getElem? (i := 0) rfl))), (fun _ h => absurd h List.not_mem_nil)⟩)⟩)⟩)⟩) (kGV _ _ _ _) (fun _ h => List.mem_cons_of_mem _ (List.mem_append_right _ (List.mem_append_left _ h))) gw_s_look4) rfl rfl rfl ⟨rfl, hd_X4_look⟩ ⟨(Nat.le_of_ble_eq_true rfl), (Nat.le_of_ble_eq_true rfl)⟩) (kW_V kT_blind kT_give (va_recv hKc hPc (ci := 4) (q0 := 0) rfl rfl) hPc hKc hDc) rfl rfl hl.1 rfl (lv_room (Nat.le_of_ble_eq_true rfl)) dX4_readClause_5 ⟨(Nat.le_of_ble_eq_true rfl), (Nat.le_of_ble_eq_true rfl)⟩) hS (fun q _ h => hFc q h) hFc (fun r_1 u t H1 locs ht hvm hw hB hz1 hk1 hS => ?_)
  obtain ⟨Pl_2, rfl⟩ : ∃ z, z = u := ⟨_, rfl⟩
  obtain ⟨hP1, hK1, hD1⟩ := hB
  rw [ht] at hP1
  try dsimp only at hw
  obtain ⟨hP, hD⟩ : kPD dC dI A [(jR, .inr (4, [.ref jT, .ref r1, .ref r2, .int (nI (wr)), .int (nI (fi)), .int Pl_2, .ref q6, .ref q7])), (r1, .inl (c1, 120, .inl s1)), (r2, .inl (c2, 124, .inl s2)), (jT, .inr (8, [.ref t0, .int (nI (kt))])), (t0, .inl (cC, 120, .inl gT))] H1 := kJoinI hP hD [0, 1, 2, 3, 4] rfl hk1 hFc hP1 hD1 rfl [some 0, some 1, some 2, some 3, some 4] rfl rfl
  generalize H1 = H at hP hS ⊢
  have hw_3 := hw
  have hPc := hP.sb (ws2 := []) [] rfl
  have hKc := hK.sb (tys2 := []) [] rfl
  refine vp_callSi (va_runV (As := [.int r_1]) (rest := []) ⟨hx, hb, hml, hown, hts⟩ (s_t_ix l dC dI q6 b6 n6 g6 hn6 A r_1) (cwV 1 hts (kG (List.forall_mem_cons.mpr ⟨(List.mem_cons_of_mem _ (List.mem_append_left _ (List.mem_of_getElem? (i := 10) rfl))), (List.forall_mem_cons.mpr ⟨(List.mem_cons_of_mem _ (List.mem_append_left _ (List.mem_of_getElem? (i := 9) rfl))), (List.forall_mem_cons.mpr ⟨(List.mem_cons_of_mem _ (List.mem_append_left _ (List.mem_of_getElem? (i := 8) rfl))), (List.forall_mem_cons.mpr ⟨(List.mem_cons_of_mem _ (List.mem_append_left _ (List.mem_of_getElem? (i := 7) rfl))), (fun _ h => absurd h List.not_mem_nil)⟩)⟩)⟩)⟩) (kGV _ _ _ _) (fun _ h => List.mem_cons_of_mem _ (List.mem_append_right _ (List.mem_append_right _ (List.mem_append_right _ (List.mem_append_right _ (List.mem_append_left _ h)))))) gw_s_t_ix) rfl rfl rfl ⟨rfl, hd_J0_indexOf_0f7a4⟩ ⟨(Nat.le_of_ble_eq_true rfl), (Nat.le_of_ble_eq_true rfl)⟩) (kR_V kSt_blind (kSt_give hX.1 hS) (kSt_recv hX.1 hS) hPc hKc) rfl rfl hl.1 rfl (lv_room (Nat.le_of_ble_eq_true rfl)) dX4_readClause_8 ⟨(Nat.le_of_ble_eq_true rfl), (Nat.le_of_ble_eq_true rfl)⟩).run (fun r_4 hw => ?_)
  refine lv_istore_n hx hb dX4_readClause_11 rfl hl kc_l_1_5 (kTo [(1, .int r_4), (0, .ref jR)]) (fun ls hl => ?_)
  refine lv_iload_n hx hb dX4_readClause_12 rfl (lv_at hl 0 rfl) ?_
  refine lv_if_ge (tgt := 18) hx hb dX4_readClause_13 kc_t_13_5 (fun c_5 => ?_) (fun c_5 => ?_)
  · refine lv_aload_n hx hb dX4_readClause_18 rfl (lv_at hl 1 rfl) ?_
    refine lv_dup hx hb dX4_readClause_19 rfl ?_
    refine va_get (D := (dC, dI)) (ci := 4) (v := .int Pl_2) (C := RX4) (T := TX4) (N := 8) hx hb hts (fun _ h => List.mem_cons_of_mem _ (List.mem_append_right _ (List.mem_append_right _ (List.mem_append_right _ (List.mem_append_left _ h))))) hown hK hP 0 rfl rfl 5 kc_l_5_8 (hts (.fieldLink RX4 25 "NotEnded$Reader" "place" "I") (List.mem_cons_of_mem _ (List.mem_append_left _ (List.mem_of_getElem? (i := 11) rfl)))) (fun _ h9 => h9) rfl dX4_readClause_20 ?_
    refine lv_iconst (v := 1) hx hb dX4_readClause_23 kc_i_1 ?_
    refine lv_iadd hx hb dX4_readClause_24 ?_
    refine lv_topi (fun x_6 ex_6 => ?_)
    refine va_put (D := (dC, dI)) (ci := 4) (v := .int x_6) (ty := tyX4 5) (C := RX4) (T := TX4) (N := 8) hx hb hts (fun _ h => List.mem_cons_of_mem _ (List.mem_append_right _ (List.mem_append_right _ (List.mem_append_right _ (List.mem_append_left _ h))))) tyX4 tyX4_ok nmX4 hown hK hP hD hS 0 rfl rfl 5 kc_l_5_8 (hts (.fieldLink RX4 25 "NotEnded$Reader" "place" "I") (List.mem_cons_of_mem _ (List.mem_append_left _ (List.mem_of_getElem? (i := 11) rfl)))) (fun _ h9 => h9) rfl (tyX4_ok 5 kc_l_5_8) rfl rfl (Nat.le_of_ble_eq_true rfl) dX4_readClause_25 (fun H locs hP hD hS => ?_)
    obtain ⟨hP, hD⟩ : kPD dC dI A [(jR, .inr (4, [.ref jT, .ref r1, .ref r2, .int (nI (wr)), .int (nI (fi)), .int x_6, .ref q6, .ref q7])), (r1, .inl (c1, 120, .inl s1)), (r2, .inl (c2, 124, .inl s2)), (jT, .inr (8, [.ref t0, .int (nI (kt))])), (t0, .inl (cC, 120, .inl gT))] H := ⟨hP, hD⟩
    refine lv_aload_n hx hb dX4_readClause_28 rfl (lv_at hl 1 rfl) ?_
    refine lv_bipush (v := 58) hx hb dX4_readClause_29 kc_b_58 ?_
    obtain ⟨hPc, hDc, hFc⟩ := kCut (wc := [(jR, .inr (4, [.ref jT, .ref r1, .ref r2, .int (nI (wr)), .int (nI (fi)), .int x_6, .ref q6, .ref q7])), (r1, .inl (c1, 120, .inl s1)), (r2, .inl (c2, 124, .inl s2)), (jT, .inr (8, [.ref t0, .int (nI (kt))])), (t0, .inl (cC, 120, .inl gT))]) hP hD hS hA [0, 1, 2, 3, 4] rfl kc_nd_311 rfl
    have hKc := hK.sb (tys2 := [(c1, .int), (c2, .int), (cC, .char)]) [0, 1, 2] rfl
    refine va_calli (va_runV (As := [.int 58]) (rest := []) ⟨hx, hb, hml, hown, hts⟩ (s_take4 l dC dI jT t0 cC gT kt hkt hgT jR r1 r2 c1 c2 s1 s2 wr fi x_6 q6 q7 hwr hfi 58 H.size) (cwV 1 hts (kG (List.forall_mem_cons.mpr ⟨(List.mem_cons_of_mem _ (List.mem_append_left _ (List.mem_of_getElem? (i := 45) rfl))), (List.forall_mem_cons.mpr ⟨(List.mem_cons_of_mem _ (List.mem_append_left _ (List.mem_of_getElem? (i := 44) rfl))), (List.forall_mem_cons.mpr ⟨(List.mem_cons_of_mem _ (List.mem_append_left _ (List.mem_of_getElem? (i := 43) rfl))), (List.forall_mem_cons.mpr ⟨(List.mem_cons_of_mem _ (List.mem_append_left _ (List.mem_of_getElem? (i := 0) rfl))), (fun _ h => absurd h List.not_mem_nil)⟩)⟩)⟩)⟩) (kGV _ _ _ _) (fun _ h => List.mem_cons_of_mem _ (List.mem_append_right _ (List.mem_append_right _ (List.mem_append_right _ (List.mem_append_right _ (List.mem_append_right _ (List.mem_append_right _ (List.mem_append_right _ (List.mem_append_right _ (List.mem_append_right _ (List.mem_append_right _ (List.mem_append_left _ h)))))))))))) gw_s_take4) rfl rfl rfl ⟨rfl, hd_X4_take⟩ ⟨(Nat.le_of_ble_eq_true rfl), (Nat.le_of_ble_eq_true rfl)⟩) (kW_V kT_blind kT_give (va_recv hKc hPc (ci := 4) (q0 := 0) rfl rfl) hPc hKc hDc) rfl rfl hl.1 rfl (lv_room (Nat.le_of_ble_eq_true rfl)) dX4_readClause_31 ⟨(Nat.le_of_ble_eq_true rfl), (Nat.le_of_ble_eq_true rfl)⟩) hS (fun q _ h => hFc q h) hFc (fun r_7 u t H1 locs ht hvm hw hB hz1 hk1 hS => ?_)
    obtain ⟨S1_8, S2_9, Pl_10, Wr_11, Fi_12⟩ := u
    obtain ⟨hP1, hK1, hD1⟩ := hB
    rw [ht] at hP1
    try dsimp only at hw
    obtain ⟨hP, hD⟩ : kPD dC dI A [(jR, .inr (4, [.ref jT, .ref r1, .ref r2, .int (nI (Wr_11)), .int (nI (Fi_12)), .int Pl_10, .ref q6, .ref q7])), (r1, .inl (c1, 120, .inl S1_8)), (r2, .inl (c2, 124, .inl S2_9)), (jT, .inr (8, [.ref t0, .int (nI (kt))])), (t0, .inl (cC, 120, .inl gT))] H1 := kJoinI hP hD [0, 1, 2, 3, 4] rfl hk1 hFc hP1 hD1 rfl [some 0, some 1, some 2, some 3, some 4] rfl rfl
    generalize H1 = H at hP hS ⊢
    have hw_13 := hw
    refine lv_if_ne (tgt := 39) hx hb dX4_readClause_34 kc_t_34_5 (fun c_14 => ?_) (fun c_14 => ?_)
    · refine lv_aload_n hx hb dX4_readClause_39 rfl (lv_at hl 1 rfl) ?_
      refine va_get (D := (dC, dI)) (ci := 4) (v := .int (nI (Wr_11))) (C := RX4) (T := TX4) (N := 8) hx hb hts (fun _ h => List.mem_cons_of_mem _ (List.mem_append_right _ (List.mem_append_right _ (List.mem_append_right _ (List.mem_append_left _ h))))) hown hK hP 0 rfl rfl 3 kc_l_3_8 (hts (.fieldLink RX4 18 "NotEnded$Reader" "written" "I") (List.mem_cons_of_mem _ (List.mem_append_left _ (List.mem_of_getElem? (i := 51) rfl)))) (fun _ h9 => h9) rfl dX4_readClause_40 ?_
      refine lv_istore_n hx hb dX4_readClause_43 rfl hl kc_l_2_5 (kTo [(2, .int (nI (Wr_11))), (1, .int r_4), (0, .ref jR)]) (fun ls hl => ?_)
      refine lv_aload_n hx hb dX4_readClause_44 rfl (lv_at hl 2 rfl) ?_
      have bd_15 : Wr_11 ≤ 120 := by omega
      have bd_16 : Fi_12 ≤ 124 := by omega
      obtain ⟨hPc, hDc, hFc⟩ := kCut (wc := [(jR, .inr (4, [.ref jT, .ref r1, .ref r2, .int (nI (Wr_11)), .int (nI (Fi_12)), .int Pl_10, .ref q6, .ref q7])), (r1, .inl (c1, 120, .inl S1_8)), (r2, .inl (c2, 124, .inl S2_9)), (jT, .inr (8, [.ref t0, .int (nI (kt))])), (t0, .inl (cC, 120, .inl gT))]) hP hD hS hA [0, 1, 2, 3, 4] rfl kc_nd_311 rfl
      have hKc := hK.sb (tys2 := [(c1, .int), (c2, .int), (cC, .char)]) [0, 1, 2] rfl
      refine va_calli (va_runV (As := []) (rest := []) ⟨hx, hb, hml, hown, hts⟩ (s_look4 l dC dI jT t0 cC gT kt hkt hgT jR r1 r2 c1 c2 S1_8 S2_9 Wr_11 Fi_12 Pl_10 q6 q7 bd_15 bd_16 H.size) (cwV 0 hts (kG (List.forall_mem_cons.mpr ⟨(List.mem_cons_of_mem _ (List.mem_append_left _ (List.mem_of_getElem? (i := 3) rfl))), (List.forall_mem_cons.mpr ⟨(List.mem_cons_of_mem _ (List.mem_append_left _ (List.mem_of_getElem? (i := 2) rfl))), (List.forall_mem_cons.mpr ⟨(List.mem_cons_of_mem _ (List.mem_append_left _ (List.mem_of_getElem? (i := 1) rfl))), (List.forall_mem_cons.mpr ⟨(List.mem_cons_of_mem _ (List.mem_append_left _ (List.mem_of_getElem? (i := 0) rfl))), (fun _ h => absurd h List.not_mem_nil)⟩)⟩)⟩)⟩) (kGV _ _ _ _) (fun _ h => List.mem_cons_of_mem _ (List.mem_append_right _ (List.mem_append_left _ h))) gw_s_look4) rfl rfl rfl ⟨rfl, hd_X4_look⟩ ⟨(Nat.le_of_ble_eq_true rfl), (Nat.le_of_ble_eq_true rfl)⟩) (kW_V kT_blind kT_give (va_recv hKc hPc (ci := 4) (q0 := 0) rfl rfl) hPc hKc hDc) rfl rfl hl.1 rfl (lv_room (Nat.le_of_ble_eq_true rfl)) dX4_readClause_45 ⟨(Nat.le_of_ble_eq_true rfl), (Nat.le_of_ble_eq_true rfl)⟩) hS (fun q _ h => hFc q h) hFc (fun r_17 u t H1 locs ht hvm hw hB hz1 hk1 hS => ?_)
      obtain ⟨Pl_18, rfl⟩ : ∃ z, z = u := ⟨_, rfl⟩
      obtain ⟨hP1, hK1, hD1⟩ := hB
      rw [ht] at hP1
      try dsimp only at hw
      obtain ⟨hP, hD⟩ : kPD dC dI A [(jR, .inr (4, [.ref jT, .ref r1, .ref r2, .int (nI (Wr_11)), .int (nI (Fi_12)), .int Pl_18, .ref q6, .ref q7])), (r1, .inl (c1, 120, .inl S1_8)), (r2, .inl (c2, 124, .inl S2_9)), (jT, .inr (8, [.ref t0, .int (nI (kt))])), (t0, .inl (cC, 120, .inl gT))] H1 := kJoinI hP hD [0, 1, 2, 3, 4] rfl hk1 hFc hP1 hD1 rfl [some 0, some 1, some 2, some 3, some 4] rfl rfl
      generalize H1 = H at hP hS ⊢
      have hw_19 := hw
      refine lv_bipush (v := 33) hx hb dX4_readClause_48 kc_b_33 ?_
      refine lv_icmp_eq (tgt := 62) hx hb dX4_readClause_50 kc_t_50_12 (fun c_20 => ?_) (fun c_20 => ?_)
      · refine lv_iconst (v := 1) hx hb dX4_readClause_62 kc_i_1 ?_
        refine lv_goto (tgt := 67) hx hb dX4_readClause_63 kc_t_63_4 ?_
        refine lv_istore_n hx hb dX4_readClause_67 rfl hl kc_l_3_5 (kTo [(3, .int 1), (2, .int (nI (Wr_11))), (1, .int r_4), (0, .ref jR)]) (fun ls hl => ?_)
        refine lv_iload_n hx hb dX4_readClause_68 rfl (lv_at hl 0 rfl) ?_
        refine lv_if_ne (tgt := 100) hx hb dX4_readClause_69 kc_t_69_31 (fun c_21 => ?_) (fun c_21 => absurd c_21 (by decide))
        refine lv_aload_n hx hb dX4_readClause_100 rfl (lv_at hl 3 rfl) ?_
        refine lv_iconst (v := 0) hx hb dX4_readClause_101 kc_i_0 ?_
        refine lv_iload_n hx hb dX4_readClause_102 rfl (lv_at hl 0 rfl) ?_
        refine lv_if_ne (tgt := 110) hx hb dX4_readClause_103 kc_t_103_7 (fun c_22 => ?_) (fun c_22 => absurd c_22 (by decide))
        refine lv_iconst (v := 0) hx hb dX4_readClause_110 kc_i_0 ?_
        obtain ⟨hPc, hDc, hFc⟩ := kCut (wc := [(jR, .inr (4, [.ref jT, .ref r1, .ref r2, .int (nI (Wr_11)), .int (nI (Fi_12)), .int Pl_18, .ref q6, .ref q7])), (r1, .inl (c1, 120, .inl S1_8)), (r2, .inl (c2, 124, .inl S2_9)), (jT, .inr (8, [.ref t0, .int (nI (kt))])), (t0, .inl (cC, 120, .inl gT))]) hP hD hS hA [0, 1, 2, 3, 4] rfl kc_nd_311 rfl
        have hKc := hK.sb (tys2 := [(c1, .int), (c2, .int), (cC, .char)]) [0, 1, 2] rfl
        refine va_calli (va_runV (As := [.int 0, .int 0]) (rest := []) ⟨hx, hb, hml, hown, hts⟩ (s_cond4_0_0 l dC dI jT t0 cC gT kt hkt hgT jR r1 r2 c1 c2 S1_8 S2_9 Wr_11 Fi_12 Pl_18 q6 q7 bd_15 bd_16 b6 n6 g6 hn6 b7 n7 g7 hn7 H.size) (cwV 2 hts (kG (List.forall_mem_cons.mpr ⟨(List.mem_cons_of_mem _ (List.mem_append_left _ (List.mem_of_getElem? (i := 49) rfl))), (List.forall_mem_cons.mpr ⟨(List.mem_cons_of_mem _ (List.mem_append_left _ (List.mem_of_getElem? (i := 48) rfl))), (List.forall_mem_cons.mpr ⟨(List.mem_cons_of_mem _ (List.mem_append_left _ (List.mem_of_getElem? (i := 47) rfl))), (List.forall_mem_cons.mpr ⟨(List.mem_cons_of_mem _ (List.mem_append_left _ (List.mem_of_getElem? (i := 0) rfl))), (fun _ h => absurd h List.not_mem_nil)⟩)⟩)⟩)⟩) (kGV _ _ _ _) (kFam (List.mem_cons_of_mem _ (List.mem_append_left _ (List.mem_of_getElem? (i := 46) rfl)))) gw_s_cond4_0_0) rfl rfl rfl ⟨rfl, hd_X4_readCondition⟩ ⟨(Nat.le_of_ble_eq_true rfl), (Nat.le_of_ble_eq_true rfl)⟩) (kW_V kS2_blind (kS2_give hX hS hFc) (va_recv hKc hPc (ci := 4) (q0 := 0) rfl rfl) hPc hKc hDc) rfl rfl hl.1 rfl (lv_room (Nat.le_of_ble_eq_true rfl)) dX4_readClause_111 ⟨(Nat.le_of_ble_eq_true rfl), (Nat.le_of_ble_eq_true rfl)⟩) hS (fun q _ h => hFc q h) hFc (fun r_23 u t H1 locs ht hvm hw hB hz1 hk1 hS => ?_)
        obtain ⟨S1_24, S2_25, Pl_26, Wr_27, Fi_28⟩ := u
        obtain ⟨hP1, hK1, hD1⟩ := hB
        rw [ht] at hP1
        try dsimp only at hw
        obtain ⟨hP, hD⟩ : kPD dC dI A [(jR, .inr (4, [.ref jT, .ref r1, .ref r2, .int (nI (Wr_27)), .int (nI (Fi_28)), .int Pl_26, .ref q6, .ref q7])), (r1, .inl (c1, 120, .inl S1_24)), (r2, .inl (c2, 124, .inl S2_25)), (jT, .inr (8, [.ref t0, .int (nI (kt))])), (t0, .inl (cC, 120, .inl gT))] H1 := kJoinI hP hD [0, 1, 2, 3, 4] rfl hk1 hFc hP1 hD1 rfl [some 0, some 1, some 2, some 3, some 4] rfl rfl
        generalize H1 = H at hP hS ⊢
        have hw_29 := hw
        refine lv_if_ne (tgt := 119) hx hb dX4_readClause_114 kc_t_114_5 (fun c_30 => ?_) (fun c_30 => ?_)
        · refine lv_aload_n hx hb dX4_readClause_119 rfl (lv_at hl 3 rfl) ?_
          refine va_get (D := (dC, dI)) (ci := 4) (v := .int (nI (Wr_27))) (C := RX4) (T := TX4) (N := 8) hx hb hts (fun _ h => List.mem_cons_of_mem _ (List.mem_append_right _ (List.mem_append_right _ (List.mem_append_right _ (List.mem_append_left _ h))))) hown hK hP 0 rfl rfl 3 kc_l_3_8 (hts (.fieldLink RX4 18 "NotEnded$Reader" "written" "I") (List.mem_cons_of_mem _ (List.mem_append_left _ (List.mem_of_getElem? (i := 51) rfl)))) (fun _ h9 => h9) rfl dX4_readClause_120 ?_
          refine lv_istore hx hb dX4_readClause_123 hl kc_l_4_5 (kTo [(4, .int (nI (Wr_27))), (3, .int 1), (2, .int (nI (Wr_11))), (1, .int r_4), (0, .ref jR)]) (fun ls hl => ?_)
          refine lv_aload_n hx hb dX4_readClause_125 rfl (lv_at hl 4 rfl) ?_
          refine lv_bipush (v := 63) hx hb dX4_readClause_126 kc_b_63 ?_
          have bd_31 : Wr_27 ≤ 120 := by omega
          have bd_32 : Fi_28 ≤ 124 := by omega
          obtain ⟨hPc, hDc, hFc⟩ := kCut (wc := [(jR, .inr (4, [.ref jT, .ref r1, .ref r2, .int (nI (Wr_27)), .int (nI (Fi_28)), .int Pl_26, .ref q6, .ref q7])), (r1, .inl (c1, 120, .inl S1_24)), (r2, .inl (c2, 124, .inl S2_25)), (jT, .inr (8, [.ref t0, .int (nI (kt))])), (t0, .inl (cC, 120, .inl gT))]) hP hD hS hA [0, 1, 2, 3, 4] rfl kc_nd_311 rfl
          have hKc := hK.sb (tys2 := [(c1, .int), (c2, .int), (cC, .char)]) [0, 1, 2] rfl
          refine va_calli (va_runV (As := [.int 63]) (rest := []) ⟨hx, hb, hml, hown, hts⟩ (s_take4 l dC dI jT t0 cC gT kt hkt hgT jR r1 r2 c1 c2 S1_24 S2_25 Wr_27 Fi_28 Pl_26 q6 q7 bd_31 bd_32 63 H.size) (cwV 1 hts (kG (List.forall_mem_cons.mpr ⟨(List.mem_cons_of_mem _ (List.mem_append_left _ (List.mem_of_getElem? (i := 45) rfl))), (List.forall_mem_cons.mpr ⟨(List.mem_cons_of_mem _ (List.mem_append_left _ (List.mem_of_getElem? (i := 44) rfl))), (List.forall_mem_cons.mpr ⟨(List.mem_cons_of_mem _ (List.mem_append_left _ (List.mem_of_getElem? (i := 43) rfl))), (List.forall_mem_cons.mpr ⟨(List.mem_cons_of_mem _ (List.mem_append_left _ (List.mem_of_getElem? (i := 0) rfl))), (fun _ h => absurd h List.not_mem_nil)⟩)⟩)⟩)⟩) (kGV _ _ _ _) (fun _ h => List.mem_cons_of_mem _ (List.mem_append_right _ (List.mem_append_right _ (List.mem_append_right _ (List.mem_append_right _ (List.mem_append_right _ (List.mem_append_right _ (List.mem_append_right _ (List.mem_append_right _ (List.mem_append_right _ (List.mem_append_right _ (List.mem_append_left _ h)))))))))))) gw_s_take4) rfl rfl rfl ⟨rfl, hd_X4_take⟩ ⟨(Nat.le_of_ble_eq_true rfl), (Nat.le_of_ble_eq_true rfl)⟩) (kW_V kT_blind kT_give (va_recv hKc hPc (ci := 4) (q0 := 0) rfl rfl) hPc hKc hDc) rfl rfl hl.1 rfl (lv_room (Nat.le_of_ble_eq_true rfl)) dX4_readClause_128 ⟨(Nat.le_of_ble_eq_true rfl), (Nat.le_of_ble_eq_true rfl)⟩) hS (fun q _ h => hFc q h) hFc (fun r_33 u t H1 locs ht hvm hw hB hz1 hk1 hS => ?_)
          obtain ⟨S1_34, S2_35, Pl_36, Wr_37, Fi_38⟩ := u
          obtain ⟨hP1, hK1, hD1⟩ := hB
          rw [ht] at hP1
          try dsimp only at hw
          obtain ⟨hP, hD⟩ : kPD dC dI A [(jR, .inr (4, [.ref jT, .ref r1, .ref r2, .int (nI (Wr_37)), .int (nI (Fi_38)), .int Pl_36, .ref q6, .ref q7])), (r1, .inl (c1, 120, .inl S1_34)), (r2, .inl (c2, 124, .inl S2_35)), (jT, .inr (8, [.ref t0, .int (nI (kt))])), (t0, .inl (cC, 120, .inl gT))] H1 := kJoinI hP hD [0, 1, 2, 3, 4] rfl hk1 hFc hP1 hD1 rfl [some 0, some 1, some 2, some 3, some 4] rfl rfl
          generalize H1 = H at hP hS ⊢
          have hw_39 := hw
          refine lv_if_eq (tgt := 157) hx hb dX4_readClause_131 kc_t_131_26 (fun c_40 => ?_) (fun c_40 => ?_)
          · refine lv_iconst (v := 0) hx hb dX4_readClause_157 kc_i_0 ?_
            have hP9 := hP
            have hD9 := hD
            have hK9 := hK
            rw [hQ]
            exact W.zret (v := 0) hx hb hr rfl (fun t ht hW => ⟨⟨0, (S1_34, S2_35, Pl_36, Wr_37, Fi_38), rfl, ⟨(Or.inl rfl), by omega, by omega⟩,  by rw [ht]; exact hP9, va_K.moved hW.alike hK9, hD9⟩, hS.F ht⟩) hS.2.2 dX4_readClause_158
          · refine lv_aload_n hx hb dX4_readClause_134 rfl (lv_at hl 4 rfl) ?_
            refine lv_iconst (v := 0) hx hb dX4_readClause_135 kc_i_0 ?_
            have bd_41 : Wr_37 ≤ 120 := by omega
            have bd_42 : Fi_38 ≤ 124 := by omega
            obtain ⟨hPc, hDc, hFc⟩ := kCut (wc := [(jR, .inr (4, [.ref jT, .ref r1, .ref r2, .int (nI (Wr_37)), .int (nI (Fi_38)), .int Pl_36, .ref q6, .ref q7])), (r1, .inl (c1, 120, .inl S1_34)), (r2, .inl (c2, 124, .inl S2_35)), (jT, .inr (8, [.ref t0, .int (nI (kt))])), (t0, .inl (cC, 120, .inl gT))]) hP hD hS hA [0, 1, 2, 3, 4] rfl kc_nd_311 rfl
            have hKc := hK.sb (tys2 := [(c1, .int), (c2, .int), (cC, .char)]) [0, 1, 2] rfl
            refine va_calli (va_runV (As := [.int 0]) (rest := []) ⟨hx, hb, hml, hown, hts⟩ (s_sum4_0 l dC dI jT t0 cC gT kt hkt hgT jR r1 r2 c1 c2 S1_34 S2_35 Wr_37 Fi_38 Pl_36 q6 q7 bd_41 bd_42 b6 n6 g6 hn6 b7 n7 g7 hn7 H.size) (cwV 1 hts (kG (List.forall_mem_cons.mpr ⟨(List.mem_cons_of_mem _ (List.mem_append_left _ (List.mem_of_getElem? (i := 32) rfl))), (List.forall_mem_cons.mpr ⟨(List.mem_cons_of_mem _ (List.mem_append_left _ (List.mem_of_getElem? (i := 31) rfl))), (List.forall_mem_cons.mpr ⟨(List.mem_cons_of_mem _ (List.mem_append_left _ (List.mem_of_getElem? (i := 30) rfl))), (List.forall_mem_cons.mpr ⟨(List.mem_cons_of_mem _ (List.mem_append_left _ (List.mem_of_getElem? (i := 0) rfl))), (fun _ h => absurd h List.not_mem_nil)⟩)⟩)⟩)⟩) (kGV _ _ _ _) (kFam (List.mem_cons_of_mem _ (List.mem_append_left _ (List.mem_of_getElem? (i := 29) rfl)))) gw_s_sum4_0) rfl rfl rfl ⟨rfl, hd_X4_readSum⟩ ⟨(Nat.le_of_ble_eq_true rfl), (Nat.le_of_ble_eq_true rfl)⟩) (kW_V kS2_blind (kS2_give hX hS hFc) (va_recv hKc hPc (ci := 4) (q0 := 0) rfl rfl) hPc hKc hDc) rfl rfl hl.1 rfl (lv_room (Nat.le_of_ble_eq_true rfl)) dX4_readClause_136 ⟨(Nat.le_of_ble_eq_true rfl), (Nat.le_of_ble_eq_true rfl)⟩) hS (fun q _ h => hFc q h) hFc (fun r_43 u t H1 locs ht hvm hw hB hz1 hk1 hS => ?_)
            obtain ⟨S1_44, S2_45, Pl_46, Wr_47, Fi_48⟩ := u
            obtain ⟨hP1, hK1, hD1⟩ := hB
            rw [ht] at hP1
            try dsimp only at hw
            obtain ⟨hP, hD⟩ : kPD dC dI A [(jR, .inr (4, [.ref jT, .ref r1, .ref r2, .int (nI (Wr_47)), .int (nI (Fi_48)), .int Pl_46, .ref q6, .ref q7])), (r1, .inl (c1, 120, .inl S1_44)), (r2, .inl (c2, 124, .inl S2_45)), (jT, .inr (8, [.ref t0, .int (nI (kt))])), (t0, .inl (cC, 120, .inl gT))] H1 := kJoinI hP hD [0, 1, 2, 3, 4] rfl hk1 hFc hP1 hD1 rfl [some 0, some 1, some 2, some 3, some 4] rfl rfl
            generalize H1 = H at hP hS ⊢
            have hw_49 := hw
            refine lv_if_eq (tgt := 157) hx hb dX4_readClause_139 kc_t_139_18 (fun c_50 => ?_) (fun c_50 => ?_)
            · refine lv_iconst (v := 0) hx hb dX4_readClause_157 kc_i_0 ?_
              have hP9 := hP
              have hD9 := hD
              have hK9 := hK
              rw [hQ]
              exact W.zret (v := 0) hx hb hr rfl (fun t ht hW => ⟨⟨0, (S1_44, S2_45, Pl_46, Wr_47, Fi_48), rfl, ⟨(Or.inl rfl), by omega, by omega⟩,  by rw [ht]; exact hP9, va_K.moved hW.alike hK9, hD9⟩, hS.F ht⟩) hS.2.2 dX4_readClause_158
            · refine lv_aload_n hx hb dX4_readClause_142 rfl (lv_at hl 4 rfl) ?_
              refine lv_iload_n hx hb dX4_readClause_143 rfl (lv_at hl 3 rfl) ?_
              refine lv_iload_n hx hb dX4_readClause_144 rfl (lv_at hl 2 rfl) ?_
              refine lv_iload hx hb dX4_readClause_145 (lv_at hl 0 rfl) ?_
              have bd_51 : Wr_47 ≤ 120 := by omega
              have bd_52 : Fi_48 ≤ 124 := by omega
              obtain ⟨hPc, hDc, hFc⟩ := kCut (wc := [(jR, .inr (4, [.ref jT, .ref r1, .ref r2, .int (nI (Wr_47)), .int (nI (Fi_48)), .int Pl_46, .ref q6, .ref q7])), (r1, .inl (c1, 120, .inl S1_44)), (r2, .inl (c2, 124, .inl S2_45)), (jT, .inr (8, [.ref t0, .int (nI (kt))])), (t0, .inl (cC, 120, .inl gT))]) hP hD hS hA [0, 1, 2, 3, 4] rfl kc_nd_311 rfl
              have hKc := hK.sb (tys2 := [(c1, .int), (c2, .int), (cC, .char)]) [0, 1, 2] rfl
              refine va_calli (va_runV (As := [.int r_4, .int (nI (Wr_11)), .int (nI (Wr_27))]) (rest := []) ⟨hx, hb, hml, hown, hts⟩ (s_keep4 l dC dI jT t0 cC gT kt hkt hgT jR r1 r2 c1 c2 S1_44 S2_45 Wr_47 Fi_48 Pl_46 q6 q7 bd_51 bd_52 r_4 (nI (Wr_11)) (nI (Wr_27)) H.size) (cwV 3 hts (kG (List.forall_mem_cons.mpr ⟨(List.mem_cons_of_mem _ (List.mem_append_left _ (List.mem_of_getElem? (i := 54) rfl))), (List.forall_mem_cons.mpr ⟨(List.mem_cons_of_mem _ (List.mem_append_left _ (List.mem_of_getElem? (i := 53) rfl))), (List.forall_mem_cons.mpr ⟨(List.mem_cons_of_mem _ (List.mem_append_left _ (List.mem_of_getElem? (i := 52) rfl))), (List.forall_mem_cons.mpr ⟨(List.mem_cons_of_mem _ (List.mem_append_left _ (List.mem_of_getElem? (i := 0) rfl))), (fun _ h => absurd h List.not_mem_nil)⟩)⟩)⟩)⟩) (kGV _ _ _ _) (fun _ h => List.mem_cons_of_mem _ (List.mem_append_right _ (List.mem_append_right _ (List.mem_append_right _ (List.mem_append_right _ (List.mem_append_right _ (List.mem_append_right _ (List.mem_append_right _ (List.mem_append_right _ (List.mem_append_right _ (List.mem_append_right _ (List.mem_append_right _ h)))))))))))) gw_s_keep4) rfl rfl rfl ⟨rfl, hd_X4_keepClause⟩ ⟨(Nat.le_of_ble_eq_true rfl), (Nat.le_of_ble_eq_true rfl)⟩) (kW_V kT_blind kT_give (va_recv hKc hPc (ci := 4) (q0 := 0) rfl rfl) hPc hKc hDc) rfl rfl hl.1 rfl (lv_room (Nat.le_of_ble_eq_true rfl)) dX4_readClause_147 ⟨(Nat.le_of_ble_eq_true rfl), (Nat.le_of_ble_eq_true rfl)⟩) hS (fun q _ h => hFc q h) hFc (fun r_53 u t H1 locs ht hvm hw hB hz1 hk1 hS => ?_)
              obtain ⟨S1_54, S2_55, Pl_56, Wr_57, Fi_58⟩ := u
              obtain ⟨hP1, hK1, hD1⟩ := hB
              rw [ht] at hP1
              try dsimp only at hw
              obtain ⟨hP, hD⟩ : kPD dC dI A [(jR, .inr (4, [.ref jT, .ref r1, .ref r2, .int (nI (Wr_57)), .int (nI (Fi_58)), .int Pl_56, .ref q6, .ref q7])), (r1, .inl (c1, 120, .inl S1_54)), (r2, .inl (c2, 124, .inl S2_55)), (jT, .inr (8, [.ref t0, .int (nI (kt))])), (t0, .inl (cC, 120, .inl gT))] H1 := kJoinI hP hD [0, 1, 2, 3, 4] rfl hk1 hFc hP1 hD1 rfl [some 0, some 1, some 2, some 3, some 4] rfl rfl
              generalize H1 = H at hP hS ⊢
              have hw_59 := hw
              refine lv_if_eq (tgt := 157) hx hb dX4_readClause_150 kc_t_150_7 (fun c_60 => ?_) (fun c_60 => ?_)
              · refine lv_iconst (v := 0) hx hb dX4_readClause_157 kc_i_0 ?_
                have hP9 := hP
                have hD9 := hD
                have hK9 := hK
                rw [hQ]
                exact W.zret (v := 0) hx hb hr rfl (fun t ht hW => ⟨⟨0, (S1_54, S2_55, Pl_56, Wr_57, Fi_58), rfl, ⟨(Or.inl rfl), by omega, by omega⟩,  by rw [ht]; exact hP9, va_K.moved hW.alike hK9, hD9⟩, hS.F ht⟩) hS.2.2 dX4_readClause_158
              · refine lv_iconst (v := 1) hx hb dX4_readClause_153 kc_i_1 ?_
                refine lv_goto (tgt := 158) hx hb dX4_readClause_154 kc_t_154_4 ?_
                have hP9 := hP
                have hD9 := hD
                have hK9 := hK
                rw [hQ]
                exact W.zret (v := 1) hx hb hr rfl (fun t ht hW => ⟨⟨1, (S1_54, S2_55, Pl_56, Wr_57, Fi_58), rfl, ⟨(Or.inr rfl), by omega, by omega⟩,  by rw [ht]; exact hP9, va_K.moved hW.alike hK9, hD9⟩, hS.F ht⟩) hS.2.2 dX4_readClause_158
        · refine lv_iconst (v := 0) hx hb dX4_readClause_117 kc_i_0 ?_
          have hP9 := hP
          have hD9 := hD
          have hK9 := hK
          rw [hQ]
          exact W.zret (v := 0) hx hb hr rfl (fun t ht hW => ⟨⟨0, (S1_24, S2_25, Pl_26, Wr_27, Fi_28), rfl, ⟨(Or.inl rfl), by omega, by omega⟩,  by rw [ht]; exact hP9, va_K.moved hW.alike hK9, hD9⟩, hS.F ht⟩) hS.2.2 dX4_readClause_118
      · refine lv_aload_n hx hb dX4_readClause_53 rfl (lv_at hl 2 rfl) ?_
        obtain ⟨hPc, hDc, hFc⟩ := kCut (wc := [(jR, .inr (4, [.ref jT, .ref r1, .ref r2, .int (nI (Wr_11)), .int (nI (Fi_12)), .int Pl_18, .ref q6, .ref q7])), (r1, .inl (c1, 120, .inl S1_8)), (r2, .inl (c2, 124, .inl S2_9)), (jT, .inr (8, [.ref t0, .int (nI (kt))])), (t0, .inl (cC, 120, .inl gT))]) hP hD hS hA [0, 1, 2, 3, 4] rfl kc_nd_311 rfl
        have hKc := hK.sb (tys2 := [(c1, .int), (c2, .int), (cC, .char)]) [0, 1, 2] rfl
        refine va_calli (va_runV (As := []) (rest := []) ⟨hx, hb, hml, hown, hts⟩ (s_look4 l dC dI jT t0 cC gT kt hkt hgT jR r1 r2 c1 c2 S1_8 S2_9 Wr_11 Fi_12 Pl_18 q6 q7 bd_15 bd_16 H.size) (cwV 0 hts (kG (List.forall_mem_cons.mpr ⟨(List.mem_cons_of_mem _ (List.mem_append_left _ (List.mem_of_getElem? (i := 3) rfl))), (List.forall_mem_cons.mpr ⟨(List.mem_cons_of_mem _ (List.mem_append_left _ (List.mem_of_getElem? (i := 2) rfl))), (List.forall_mem_cons.mpr ⟨(List.mem_cons_of_mem _ (List.mem_append_left _ (List.mem_of_getElem? (i := 1) rfl))), (List.forall_mem_cons.mpr ⟨(List.mem_cons_of_mem _ (List.mem_append_left _ (List.mem_of_getElem? (i := 0) rfl))), (fun _ h => absurd h List.not_mem_nil)⟩)⟩)⟩)⟩) (kGV _ _ _ _) (fun _ h => List.mem_cons_of_mem _ (List.mem_append_right _ (List.mem_append_left _ h))) gw_s_look4) rfl rfl rfl ⟨rfl, hd_X4_look⟩ ⟨(Nat.le_of_ble_eq_true rfl), (Nat.le_of_ble_eq_true rfl)⟩) (kW_V kT_blind kT_give (va_recv hKc hPc (ci := 4) (q0 := 0) rfl rfl) hPc hKc hDc) rfl rfl hl.1 rfl (lv_room (Nat.le_of_ble_eq_true rfl)) dX4_readClause_54 ⟨(Nat.le_of_ble_eq_true rfl), (Nat.le_of_ble_eq_true rfl)⟩) hS (fun q _ h => hFc q h) hFc (fun r_61 u t H1 locs ht hvm hw hB hz1 hk1 hS => ?_)
        obtain ⟨Pl_62, rfl⟩ : ∃ z, z = u := ⟨_, rfl⟩
        obtain ⟨hP1, hK1, hD1⟩ := hB
        rw [ht] at hP1
        try dsimp only at hw
        obtain ⟨hP, hD⟩ : kPD dC dI A [(jR, .inr (4, [.ref jT, .ref r1, .ref r2, .int (nI (Wr_11)), .int (nI (Fi_12)), .int Pl_62, .ref q6, .ref q7])), (r1, .inl (c1, 120, .inl S1_8)), (r2, .inl (c2, 124, .inl S2_9)), (jT, .inr (8, [.ref t0, .int (nI (kt))])), (t0, .inl (cC, 120, .inl gT))] H1 := kJoinI hP hD [0, 1, 2, 3, 4] rfl hk1 hFc hP1 hD1 rfl [some 0, some 1, some 2, some 3, some 4] rfl rfl
        generalize H1 = H at hP hS ⊢
        have hw_63 := hw
        refine lv_bipush (v := 40) hx hb dX4_readClause_57 kc_b_40 ?_
        refine lv_icmp_ne (tgt := 66) hx hb dX4_readClause_59 kc_t_59_7 (fun c_64 => ?_) (fun c_64 => ?_)
        · refine lv_iconst (v := 0) hx hb dX4_readClause_66 kc_i_0 ?_
          refine lv_istore_n hx hb dX4_readClause_67 rfl hl kc_l_3_5 (kTo [(3, .int 0), (2, .int (nI (Wr_11))), (1, .int r_4), (0, .ref jR)]) (fun ls hl => ?_)
          refine lv_iload_n hx hb dX4_readClause_68 rfl (lv_at hl 0 rfl) ?_
          refine lv_if_ne (tgt := 100) hx hb dX4_readClause_69 kc_t_69_31 (fun c_65 => absurd (by decide) c_65) (fun c_65 => ?_)
          refine lv_aload_n hx hb dX4_readClause_72 rfl (lv_at hl 3 rfl) ?_
          refine lv_iconst (v := 0) hx hb dX4_readClause_73 kc_i_0 ?_
          obtain ⟨hPc, hDc, hFc⟩ := kCut (wc := [(jR, .inr (4, [.ref jT, .ref r1, .ref r2, .int (nI (Wr_11)), .int (nI (Fi_12)), .int Pl_62, .ref q6, .ref q7])), (r1, .inl (c1, 120, .inl S1_8)), (r2, .inl (c2, 124, .inl S2_9)), (jT, .inr (8, [.ref t0, .int (nI (kt))])), (t0, .inl (cC, 120, .inl gT))]) hP hD hS hA [0, 1, 2, 3, 4] rfl kc_nd_311 rfl
          have hKc := hK.sb (tys2 := [(c1, .int), (c2, .int), (cC, .char)]) [0, 1, 2] rfl
          refine va_calli (va_runV (As := [.int 0]) (rest := []) ⟨hx, hb, hml, hown, hts⟩ (s_sum4_0 l dC dI jT t0 cC gT kt hkt hgT jR r1 r2 c1 c2 S1_8 S2_9 Wr_11 Fi_12 Pl_62 q6 q7 bd_15 bd_16 b6 n6 g6 hn6 b7 n7 g7 hn7 H.size) (cwV 1 hts (kG (List.forall_mem_cons.mpr ⟨(List.mem_cons_of_mem _ (List.mem_append_left _ (List.mem_of_getElem? (i := 32) rfl))), (List.forall_mem_cons.mpr ⟨(List.mem_cons_of_mem _ (List.mem_append_left _ (List.mem_of_getElem? (i := 31) rfl))), (List.forall_mem_cons.mpr ⟨(List.mem_cons_of_mem _ (List.mem_append_left _ (List.mem_of_getElem? (i := 30) rfl))), (List.forall_mem_cons.mpr ⟨(List.mem_cons_of_mem _ (List.mem_append_left _ (List.mem_of_getElem? (i := 0) rfl))), (fun _ h => absurd h List.not_mem_nil)⟩)⟩)⟩)⟩) (kGV _ _ _ _) (kFam (List.mem_cons_of_mem _ (List.mem_append_left _ (List.mem_of_getElem? (i := 29) rfl)))) gw_s_sum4_0) rfl rfl rfl ⟨rfl, hd_X4_readSum⟩ ⟨(Nat.le_of_ble_eq_true rfl), (Nat.le_of_ble_eq_true rfl)⟩) (kW_V kS2_blind (kS2_give hX hS hFc) (va_recv hKc hPc (ci := 4) (q0 := 0) rfl rfl) hPc hKc hDc) rfl rfl hl.1 rfl (lv_room (Nat.le_of_ble_eq_true rfl)) dX4_readClause_74 ⟨(Nat.le_of_ble_eq_true rfl), (Nat.le_of_ble_eq_true rfl)⟩) hS (fun q _ h => hFc q h) hFc (fun r_66 u t H1 locs ht hvm hw hB hz1 hk1 hS => ?_)
          obtain ⟨S1_67, S2_68, Pl_69, Wr_70, Fi_71⟩ := u
          obtain ⟨hP1, hK1, hD1⟩ := hB
          rw [ht] at hP1
          try dsimp only at hw
          obtain ⟨hP, hD⟩ : kPD dC dI A [(jR, .inr (4, [.ref jT, .ref r1, .ref r2, .int (nI (Wr_70)), .int (nI (Fi_71)), .int Pl_69, .ref q6, .ref q7])), (r1, .inl (c1, 120, .inl S1_67)), (r2, .inl (c2, 124, .inl S2_68)), (jT, .inr (8, [.ref t0, .int (nI (kt))])), (t0, .inl (cC, 120, .inl gT))] H1 := kJoinI hP hD [0, 1, 2, 3, 4] rfl hk1 hFc hP1 hD1 rfl [some 0, some 1, some 2, some 3, some 4] rfl rfl
          generalize H1 = H at hP hS ⊢
          have hw_72 := hw
          refine lv_if_ne (tgt := 82) hx hb dX4_readClause_77 kc_t_77_5 (fun c_73 => ?_) (fun c_73 => ?_)
          · refine lv_aload_n hx hb dX4_readClause_82 rfl (lv_at hl 3 rfl) ?_
            have bd_74 : Wr_70 ≤ 120 := by omega
            have bd_75 : Fi_71 ≤ 124 := by omega
            obtain ⟨hPc, hDc, hFc⟩ := kCut (wc := [(jR, .inr (4, [.ref jT, .ref r1, .ref r2, .int (nI (Wr_70)), .int (nI (Fi_71)), .int Pl_69, .ref q6, .ref q7])), (r1, .inl (c1, 120, .inl S1_67)), (r2, .inl (c2, 124, .inl S2_68)), (jT, .inr (8, [.ref t0, .int (nI (kt))])), (t0, .inl (cC, 120, .inl gT))]) hP hD hS hA [0, 1, 2, 3, 4] rfl kc_nd_311 rfl
            have hKc := hK.sb (tys2 := [(c1, .int), (c2, .int), (cC, .char)]) [0, 1, 2] rfl
            refine va_calli (va_runV (As := []) (rest := []) ⟨hx, hb, hml, hown, hts⟩ (s_look4 l dC dI jT t0 cC gT kt hkt hgT jR r1 r2 c1 c2 S1_67 S2_68 Wr_70 Fi_71 Pl_69 q6 q7 bd_74 bd_75 H.size) (cwV 0 hts (kG (List.forall_mem_cons.mpr ⟨(List.mem_cons_of_mem _ (List.mem_append_left _ (List.mem_of_getElem? (i := 3) rfl))), (List.forall_mem_cons.mpr ⟨(List.mem_cons_of_mem _ (List.mem_append_left _ (List.mem_of_getElem? (i := 2) rfl))), (List.forall_mem_cons.mpr ⟨(List.mem_cons_of_mem _ (List.mem_append_left _ (List.mem_of_getElem? (i := 1) rfl))), (List.forall_mem_cons.mpr ⟨(List.mem_cons_of_mem _ (List.mem_append_left _ (List.mem_of_getElem? (i := 0) rfl))), (fun _ h => absurd h List.not_mem_nil)⟩)⟩)⟩)⟩) (kGV _ _ _ _) (fun _ h => List.mem_cons_of_mem _ (List.mem_append_right _ (List.mem_append_left _ h))) gw_s_look4) rfl rfl rfl ⟨rfl, hd_X4_look⟩ ⟨(Nat.le_of_ble_eq_true rfl), (Nat.le_of_ble_eq_true rfl)⟩) (kW_V kT_blind kT_give (va_recv hKc hPc (ci := 4) (q0 := 0) rfl rfl) hPc hKc hDc) rfl rfl hl.1 rfl (lv_room (Nat.le_of_ble_eq_true rfl)) dX4_readClause_83 ⟨(Nat.le_of_ble_eq_true rfl), (Nat.le_of_ble_eq_true rfl)⟩) hS (fun q _ h => hFc q h) hFc (fun r_76 u t H1 locs ht hvm hw hB hz1 hk1 hS => ?_)
            obtain ⟨Pl_77, rfl⟩ : ∃ z, z = u := ⟨_, rfl⟩
            obtain ⟨hP1, hK1, hD1⟩ := hB
            rw [ht] at hP1
            try dsimp only at hw
            obtain ⟨hP, hD⟩ : kPD dC dI A [(jR, .inr (4, [.ref jT, .ref r1, .ref r2, .int (nI (Wr_70)), .int (nI (Fi_71)), .int Pl_77, .ref q6, .ref q7])), (r1, .inl (c1, 120, .inl S1_67)), (r2, .inl (c2, 124, .inl S2_68)), (jT, .inr (8, [.ref t0, .int (nI (kt))])), (t0, .inl (cC, 120, .inl gT))] H1 := kJoinI hP hD [0, 1, 2, 3, 4] rfl hk1 hFc hP1 hD1 rfl [some 0, some 1, some 2, some 3, some 4] rfl rfl
            generalize H1 = H at hP hS ⊢
            have hw_78 := hw
            have hPc := hP.sb (ws2 := []) [] rfl
            have hKc := hK.sb (tys2 := []) [] rfl
            refine vp_callSi (va_runS (As := [.int r_76]) (rest := []) ⟨hx, hb, hml, hown, hts⟩ (s_comp4 l dC dI r_76) (va_cwS 1 hts (kG (List.forall_mem_cons.mpr ⟨(List.mem_cons_of_mem _ (List.mem_append_left _ (List.mem_of_getElem? (i := 34) rfl))), (List.forall_mem_cons.mpr ⟨(List.mem_cons_of_mem _ (List.mem_append_left _ (List.mem_of_getElem? (i := 33) rfl))), (List.forall_mem_cons.mpr ⟨(List.mem_cons_of_mem _ (List.mem_append_left _ (List.mem_of_getElem? (i := 0) rfl))), (fun _ h => absurd h List.not_mem_nil)⟩)⟩)⟩) (kGS _ _ _) (fun _ h => List.mem_cons_of_mem _ (List.mem_append_right _ (List.mem_append_right _ (List.mem_append_right _ (List.mem_append_right _ (List.mem_append_right _ (List.mem_append_right _ (List.mem_append_right _ (List.mem_append_right _ (List.mem_append_left _ h)))))))))) gw_s_comp4) rfl rfl rfl hd_X4_isComparison ⟨(Nat.le_of_ble_eq_true rfl), (Nat.le_of_ble_eq_true rfl)⟩) (kR_S kT_blind kT_give hPc hKc) rfl rfl hl.1 rfl (lv_room (Nat.le_of_ble_eq_true rfl)) dX4_readClause_86 ⟨(Nat.le_of_ble_eq_true rfl), (Nat.le_of_ble_eq_true rfl)⟩).run (fun r_79 hw => ?_)
            have hw_80 := hw
            refine lv_if_ne (tgt := 100) hx hb dX4_readClause_89 kc_t_89_11 (fun c_81 => ?_) (fun c_81 => ?_)
            · refine lv_aload_n hx hb dX4_readClause_100 rfl (lv_at hl 3 rfl) ?_
              refine lv_iconst (v := 0) hx hb dX4_readClause_101 kc_i_0 ?_
              refine lv_iload_n hx hb dX4_readClause_102 rfl (lv_at hl 0 rfl) ?_
              refine lv_if_ne (tgt := 110) hx hb dX4_readClause_103 kc_t_103_7 (fun c_82 => absurd (by decide) c_82) (fun c_82 => ?_)
              refine lv_iconst (v := 1) hx hb dX4_readClause_106 kc_i_1 ?_
              refine lv_goto (tgt := 111) hx hb dX4_readClause_107 kc_t_107_4 ?_
              obtain ⟨hPc, hDc, hFc⟩ := kCut (wc := [(jR, .inr (4, [.ref jT, .ref r1, .ref r2, .int (nI (Wr_70)), .int (nI (Fi_71)), .int Pl_77, .ref q6, .ref q7])), (r1, .inl (c1, 120, .inl S1_67)), (r2, .inl (c2, 124, .inl S2_68)), (jT, .inr (8, [.ref t0, .int (nI (kt))])), (t0, .inl (cC, 120, .inl gT))]) hP hD hS hA [0, 1, 2, 3, 4] rfl kc_nd_311 rfl
              have hKc := hK.sb (tys2 := [(c1, .int), (c2, .int), (cC, .char)]) [0, 1, 2] rfl
              refine va_calli (va_runV (As := [.int 0, .int 1]) (rest := []) ⟨hx, hb, hml, hown, hts⟩ (s_cond4_0_1 l dC dI jT t0 cC gT kt hkt hgT jR r1 r2 c1 c2 S1_67 S2_68 Wr_70 Fi_71 Pl_77 q6 q7 bd_74 bd_75 b6 n6 g6 hn6 b7 n7 g7 hn7 H.size) (cwV 2 hts (kG (List.forall_mem_cons.mpr ⟨(List.mem_cons_of_mem _ (List.mem_append_left _ (List.mem_of_getElem? (i := 49) rfl))), (List.forall_mem_cons.mpr ⟨(List.mem_cons_of_mem _ (List.mem_append_left _ (List.mem_of_getElem? (i := 48) rfl))), (List.forall_mem_cons.mpr ⟨(List.mem_cons_of_mem _ (List.mem_append_left _ (List.mem_of_getElem? (i := 47) rfl))), (List.forall_mem_cons.mpr ⟨(List.mem_cons_of_mem _ (List.mem_append_left _ (List.mem_of_getElem? (i := 0) rfl))), (fun _ h => absurd h List.not_mem_nil)⟩)⟩)⟩)⟩) (kGV _ _ _ _) (kFam (List.mem_cons_of_mem _ (List.mem_append_left _ (List.mem_of_getElem? (i := 46) rfl)))) gw_s_cond4_0_1) rfl rfl rfl ⟨rfl, hd_X4_readCondition⟩ ⟨(Nat.le_of_ble_eq_true rfl), (Nat.le_of_ble_eq_true rfl)⟩) (kW_V kS2_blind (kS2_give hX hS hFc) (va_recv hKc hPc (ci := 4) (q0 := 0) rfl rfl) hPc hKc hDc) rfl rfl hl.1 rfl (lv_room (Nat.le_of_ble_eq_true rfl)) dX4_readClause_111 ⟨(Nat.le_of_ble_eq_true rfl), (Nat.le_of_ble_eq_true rfl)⟩) hS (fun q _ h => hFc q h) hFc (fun r_83 u t H1 locs ht hvm hw hB hz1 hk1 hS => ?_)
              obtain ⟨S1_84, S2_85, Pl_86, Wr_87, Fi_88⟩ := u
              obtain ⟨hP1, hK1, hD1⟩ := hB
              rw [ht] at hP1
              try dsimp only at hw
              obtain ⟨hP, hD⟩ : kPD dC dI A [(jR, .inr (4, [.ref jT, .ref r1, .ref r2, .int (nI (Wr_87)), .int (nI (Fi_88)), .int Pl_86, .ref q6, .ref q7])), (r1, .inl (c1, 120, .inl S1_84)), (r2, .inl (c2, 124, .inl S2_85)), (jT, .inr (8, [.ref t0, .int (nI (kt))])), (t0, .inl (cC, 120, .inl gT))] H1 := kJoinI hP hD [0, 1, 2, 3, 4] rfl hk1 hFc hP1 hD1 rfl [some 0, some 1, some 2, some 3, some 4] rfl rfl
              generalize H1 = H at hP hS ⊢
              have hw_89 := hw
              refine lv_if_ne (tgt := 119) hx hb dX4_readClause_114 kc_t_114_5 (fun c_90 => ?_) (fun c_90 => ?_)
              · refine lv_aload_n hx hb dX4_readClause_119 rfl (lv_at hl 3 rfl) ?_
                refine va_get (D := (dC, dI)) (ci := 4) (v := .int (nI (Wr_87))) (C := RX4) (T := TX4) (N := 8) hx hb hts (fun _ h => List.mem_cons_of_mem _ (List.mem_append_right _ (List.mem_append_right _ (List.mem_append_right _ (List.mem_append_left _ h))))) hown hK hP 0 rfl rfl 3 kc_l_3_8 (hts (.fieldLink RX4 18 "NotEnded$Reader" "written" "I") (List.mem_cons_of_mem _ (List.mem_append_left _ (List.mem_of_getElem? (i := 51) rfl)))) (fun _ h9 => h9) rfl dX4_readClause_120 ?_
                refine lv_istore hx hb dX4_readClause_123 hl kc_l_4_5 (kTo [(4, .int (nI (Wr_87))), (3, .int 0), (2, .int (nI (Wr_11))), (1, .int r_4), (0, .ref jR)]) (fun ls hl => ?_)
                refine lv_aload_n hx hb dX4_readClause_125 rfl (lv_at hl 4 rfl) ?_
                refine lv_bipush (v := 63) hx hb dX4_readClause_126 kc_b_63 ?_
                have bd_91 : Wr_87 ≤ 120 := by omega
                have bd_92 : Fi_88 ≤ 124 := by omega
                obtain ⟨hPc, hDc, hFc⟩ := kCut (wc := [(jR, .inr (4, [.ref jT, .ref r1, .ref r2, .int (nI (Wr_87)), .int (nI (Fi_88)), .int Pl_86, .ref q6, .ref q7])), (r1, .inl (c1, 120, .inl S1_84)), (r2, .inl (c2, 124, .inl S2_85)), (jT, .inr (8, [.ref t0, .int (nI (kt))])), (t0, .inl (cC, 120, .inl gT))]) hP hD hS hA [0, 1, 2, 3, 4] rfl kc_nd_311 rfl
                have hKc := hK.sb (tys2 := [(c1, .int), (c2, .int), (cC, .char)]) [0, 1, 2] rfl
                refine va_calli (va_runV (As := [.int 63]) (rest := []) ⟨hx, hb, hml, hown, hts⟩ (s_take4 l dC dI jT t0 cC gT kt hkt hgT jR r1 r2 c1 c2 S1_84 S2_85 Wr_87 Fi_88 Pl_86 q6 q7 bd_91 bd_92 63 H.size) (cwV 1 hts (kG (List.forall_mem_cons.mpr ⟨(List.mem_cons_of_mem _ (List.mem_append_left _ (List.mem_of_getElem? (i := 45) rfl))), (List.forall_mem_cons.mpr ⟨(List.mem_cons_of_mem _ (List.mem_append_left _ (List.mem_of_getElem? (i := 44) rfl))), (List.forall_mem_cons.mpr ⟨(List.mem_cons_of_mem _ (List.mem_append_left _ (List.mem_of_getElem? (i := 43) rfl))), (List.forall_mem_cons.mpr ⟨(List.mem_cons_of_mem _ (List.mem_append_left _ (List.mem_of_getElem? (i := 0) rfl))), (fun _ h => absurd h List.not_mem_nil)⟩)⟩)⟩)⟩) (kGV _ _ _ _) (fun _ h => List.mem_cons_of_mem _ (List.mem_append_right _ (List.mem_append_right _ (List.mem_append_right _ (List.mem_append_right _ (List.mem_append_right _ (List.mem_append_right _ (List.mem_append_right _ (List.mem_append_right _ (List.mem_append_right _ (List.mem_append_right _ (List.mem_append_left _ h)))))))))))) gw_s_take4) rfl rfl rfl ⟨rfl, hd_X4_take⟩ ⟨(Nat.le_of_ble_eq_true rfl), (Nat.le_of_ble_eq_true rfl)⟩) (kW_V kT_blind kT_give (va_recv hKc hPc (ci := 4) (q0 := 0) rfl rfl) hPc hKc hDc) rfl rfl hl.1 rfl (lv_room (Nat.le_of_ble_eq_true rfl)) dX4_readClause_128 ⟨(Nat.le_of_ble_eq_true rfl), (Nat.le_of_ble_eq_true rfl)⟩) hS (fun q _ h => hFc q h) hFc (fun r_93 u t H1 locs ht hvm hw hB hz1 hk1 hS => ?_)
                obtain ⟨S1_94, S2_95, Pl_96, Wr_97, Fi_98⟩ := u
                obtain ⟨hP1, hK1, hD1⟩ := hB
                rw [ht] at hP1
                try dsimp only at hw
                obtain ⟨hP, hD⟩ : kPD dC dI A [(jR, .inr (4, [.ref jT, .ref r1, .ref r2, .int (nI (Wr_97)), .int (nI (Fi_98)), .int Pl_96, .ref q6, .ref q7])), (r1, .inl (c1, 120, .inl S1_94)), (r2, .inl (c2, 124, .inl S2_95)), (jT, .inr (8, [.ref t0, .int (nI (kt))])), (t0, .inl (cC, 120, .inl gT))] H1 := kJoinI hP hD [0, 1, 2, 3, 4] rfl hk1 hFc hP1 hD1 rfl [some 0, some 1, some 2, some 3, some 4] rfl rfl
                generalize H1 = H at hP hS ⊢
                have hw_99 := hw
                refine lv_if_eq (tgt := 157) hx hb dX4_readClause_131 kc_t_131_26 (fun c_100 => ?_) (fun c_100 => ?_)
                · refine lv_iconst (v := 0) hx hb dX4_readClause_157 kc_i_0 ?_
                  have hP9 := hP
                  have hD9 := hD
                  have hK9 := hK
                  rw [hQ]
                  exact W.zret (v := 0) hx hb hr rfl (fun t ht hW => ⟨⟨0, (S1_94, S2_95, Pl_96, Wr_97, Fi_98), rfl, ⟨(Or.inl rfl), by omega, by omega⟩,  by rw [ht]; exact hP9, va_K.moved hW.alike hK9, hD9⟩, hS.F ht⟩) hS.2.2 dX4_readClause_158
                · refine lv_aload_n hx hb dX4_readClause_134 rfl (lv_at hl 4 rfl) ?_
                  refine lv_iconst (v := 0) hx hb dX4_readClause_135 kc_i_0 ?_
                  have bd_101 : Wr_97 ≤ 120 := by omega
                  have bd_102 : Fi_98 ≤ 124 := by omega
                  obtain ⟨hPc, hDc, hFc⟩ := kCut (wc := [(jR, .inr (4, [.ref jT, .ref r1, .ref r2, .int (nI (Wr_97)), .int (nI (Fi_98)), .int Pl_96, .ref q6, .ref q7])), (r1, .inl (c1, 120, .inl S1_94)), (r2, .inl (c2, 124, .inl S2_95)), (jT, .inr (8, [.ref t0, .int (nI (kt))])), (t0, .inl (cC, 120, .inl gT))]) hP hD hS hA [0, 1, 2, 3, 4] rfl kc_nd_311 rfl
                  have hKc := hK.sb (tys2 := [(c1, .int), (c2, .int), (cC, .char)]) [0, 1, 2] rfl
                  refine va_calli (va_runV (As := [.int 0]) (rest := []) ⟨hx, hb, hml, hown, hts⟩ (s_sum4_0 l dC dI jT t0 cC gT kt hkt hgT jR r1 r2 c1 c2 S1_94 S2_95 Wr_97 Fi_98 Pl_96 q6 q7 bd_101 bd_102 b6 n6 g6 hn6 b7 n7 g7 hn7 H.size) (cwV 1 hts (kG (List.forall_mem_cons.mpr ⟨(List.mem_cons_of_mem _ (List.mem_append_left _ (List.mem_of_getElem? (i := 32) rfl))), (List.forall_mem_cons.mpr ⟨(List.mem_cons_of_mem _ (List.mem_append_left _ (List.mem_of_getElem? (i := 31) rfl))), (List.forall_mem_cons.mpr ⟨(List.mem_cons_of_mem _ (List.mem_append_left _ (List.mem_of_getElem? (i := 30) rfl))), (List.forall_mem_cons.mpr ⟨(List.mem_cons_of_mem _ (List.mem_append_left _ (List.mem_of_getElem? (i := 0) rfl))), (fun _ h => absurd h List.not_mem_nil)⟩)⟩)⟩)⟩) (kGV _ _ _ _) (kFam (List.mem_cons_of_mem _ (List.mem_append_left _ (List.mem_of_getElem? (i := 29) rfl)))) gw_s_sum4_0) rfl rfl rfl ⟨rfl, hd_X4_readSum⟩ ⟨(Nat.le_of_ble_eq_true rfl), (Nat.le_of_ble_eq_true rfl)⟩) (kW_V kS2_blind (kS2_give hX hS hFc) (va_recv hKc hPc (ci := 4) (q0 := 0) rfl rfl) hPc hKc hDc) rfl rfl hl.1 rfl (lv_room (Nat.le_of_ble_eq_true rfl)) dX4_readClause_136 ⟨(Nat.le_of_ble_eq_true rfl), (Nat.le_of_ble_eq_true rfl)⟩) hS (fun q _ h => hFc q h) hFc (fun r_103 u t H1 locs ht hvm hw hB hz1 hk1 hS => ?_)
                  obtain ⟨S1_104, S2_105, Pl_106, Wr_107, Fi_108⟩ := u
                  obtain ⟨hP1, hK1, hD1⟩ := hB
                  rw [ht] at hP1
                  try dsimp only at hw
                  obtain ⟨hP, hD⟩ : kPD dC dI A [(jR, .inr (4, [.ref jT, .ref r1, .ref r2, .int (nI (Wr_107)), .int (nI (Fi_108)), .int Pl_106, .ref q6, .ref q7])), (r1, .inl (c1, 120, .inl S1_104)), (r2, .inl (c2, 124, .inl S2_105)), (jT, .inr (8, [.ref t0, .int (nI (kt))])), (t0, .inl (cC, 120, .inl gT))] H1 := kJoinI hP hD [0, 1, 2, 3, 4] rfl hk1 hFc hP1 hD1 rfl [some 0, some 1, some 2, some 3, some 4] rfl rfl
                  generalize H1 = H at hP hS ⊢
                  have hw_109 := hw
                  refine lv_if_eq (tgt := 157) hx hb dX4_readClause_139 kc_t_139_18 (fun c_110 => ?_) (fun c_110 => ?_)
                  · refine lv_iconst (v := 0) hx hb dX4_readClause_157 kc_i_0 ?_
                    have hP9 := hP
                    have hD9 := hD
                    have hK9 := hK
                    rw [hQ]
                    exact W.zret (v := 0) hx hb hr rfl (fun t ht hW => ⟨⟨0, (S1_104, S2_105, Pl_106, Wr_107, Fi_108), rfl, ⟨(Or.inl rfl), by omega, by omega⟩,  by rw [ht]; exact hP9, va_K.moved hW.alike hK9, hD9⟩, hS.F ht⟩) hS.2.2 dX4_readClause_158
                  · refine lv_aload_n hx hb dX4_readClause_142 rfl (lv_at hl 4 rfl) ?_
                    refine lv_iload_n hx hb dX4_readClause_143 rfl (lv_at hl 3 rfl) ?_
                    refine lv_iload_n hx hb dX4_readClause_144 rfl (lv_at hl 2 rfl) ?_
                    refine lv_iload hx hb dX4_readClause_145 (lv_at hl 0 rfl) ?_
                    have bd_111 : Wr_107 ≤ 120 := by omega
                    have bd_112 : Fi_108 ≤ 124 := by omega
                    obtain ⟨hPc, hDc, hFc⟩ := kCut (wc := [(jR, .inr (4, [.ref jT, .ref r1, .ref r2, .int (nI (Wr_107)), .int (nI (Fi_108)), .int Pl_106, .ref q6, .ref q7])), (r1, .inl (c1, 120, .inl S1_104)), (r2, .inl (c2, 124, .inl S2_105)), (jT, .inr (8, [.ref t0, .int (nI (kt))])), (t0, .inl (cC, 120, .inl gT))]) hP hD hS hA [0, 1, 2, 3, 4] rfl kc_nd_311 rfl
                    have hKc := hK.sb (tys2 := [(c1, .int), (c2, .int), (cC, .char)]) [0, 1, 2] rfl
                    refine va_calli (va_runV (As := [.int r_4, .int (nI (Wr_11)), .int (nI (Wr_87))]) (rest := []) ⟨hx, hb, hml, hown, hts⟩ (s_keep4 l dC dI jT t0 cC gT kt hkt hgT jR r1 r2 c1 c2 S1_104 S2_105 Wr_107 Fi_108 Pl_106 q6 q7 bd_111 bd_112 r_4 (nI (Wr_11)) (nI (Wr_87)) H.size) (cwV 3 hts (kG (List.forall_mem_cons.mpr ⟨(List.mem_cons_of_mem _ (List.mem_append_left _ (List.mem_of_getElem? (i := 54) rfl))), (List.forall_mem_cons.mpr ⟨(List.mem_cons_of_mem _ (List.mem_append_left _ (List.mem_of_getElem? (i := 53) rfl))), (List.forall_mem_cons.mpr ⟨(List.mem_cons_of_mem _ (List.mem_append_left _ (List.mem_of_getElem? (i := 52) rfl))), (List.forall_mem_cons.mpr ⟨(List.mem_cons_of_mem _ (List.mem_append_left _ (List.mem_of_getElem? (i := 0) rfl))), (fun _ h => absurd h List.not_mem_nil)⟩)⟩)⟩)⟩) (kGV _ _ _ _) (fun _ h => List.mem_cons_of_mem _ (List.mem_append_right _ (List.mem_append_right _ (List.mem_append_right _ (List.mem_append_right _ (List.mem_append_right _ (List.mem_append_right _ (List.mem_append_right _ (List.mem_append_right _ (List.mem_append_right _ (List.mem_append_right _ (List.mem_append_right _ h)))))))))))) gw_s_keep4) rfl rfl rfl ⟨rfl, hd_X4_keepClause⟩ ⟨(Nat.le_of_ble_eq_true rfl), (Nat.le_of_ble_eq_true rfl)⟩) (kW_V kT_blind kT_give (va_recv hKc hPc (ci := 4) (q0 := 0) rfl rfl) hPc hKc hDc) rfl rfl hl.1 rfl (lv_room (Nat.le_of_ble_eq_true rfl)) dX4_readClause_147 ⟨(Nat.le_of_ble_eq_true rfl), (Nat.le_of_ble_eq_true rfl)⟩) hS (fun q _ h => hFc q h) hFc (fun r_113 u t H1 locs ht hvm hw hB hz1 hk1 hS => ?_)
                    obtain ⟨S1_114, S2_115, Pl_116, Wr_117, Fi_118⟩ := u
                    obtain ⟨hP1, hK1, hD1⟩ := hB
                    rw [ht] at hP1
                    try dsimp only at hw
                    obtain ⟨hP, hD⟩ : kPD dC dI A [(jR, .inr (4, [.ref jT, .ref r1, .ref r2, .int (nI (Wr_117)), .int (nI (Fi_118)), .int Pl_116, .ref q6, .ref q7])), (r1, .inl (c1, 120, .inl S1_114)), (r2, .inl (c2, 124, .inl S2_115)), (jT, .inr (8, [.ref t0, .int (nI (kt))])), (t0, .inl (cC, 120, .inl gT))] H1 := kJoinI hP hD [0, 1, 2, 3, 4] rfl hk1 hFc hP1 hD1 rfl [some 0, some 1, some 2, some 3, some 4] rfl rfl
                    generalize H1 = H at hP hS ⊢
                    have hw_119 := hw
                    refine lv_if_eq (tgt := 157) hx hb dX4_readClause_150 kc_t_150_7 (fun c_120 => ?_) (fun c_120 => ?_)
                    · refine lv_iconst (v := 0) hx hb dX4_readClause_157 kc_i_0 ?_
                      have hP9 := hP
                      have hD9 := hD
                      have hK9 := hK
                      rw [hQ]
                      exact W.zret (v := 0) hx hb hr rfl (fun t ht hW => ⟨⟨0, (S1_114, S2_115, Pl_116, Wr_117, Fi_118), rfl, ⟨(Or.inl rfl), by omega, by omega⟩,  by rw [ht]; exact hP9, va_K.moved hW.alike hK9, hD9⟩, hS.F ht⟩) hS.2.2 dX4_readClause_158
                    · refine lv_iconst (v := 1) hx hb dX4_readClause_153 kc_i_1 ?_
                      refine lv_goto (tgt := 158) hx hb dX4_readClause_154 kc_t_154_4 ?_
                      have hP9 := hP
                      have hD9 := hD
                      have hK9 := hK
                      rw [hQ]
                      exact W.zret (v := 1) hx hb hr rfl (fun t ht hW => ⟨⟨1, (S1_114, S2_115, Pl_116, Wr_117, Fi_118), rfl, ⟨(Or.inr rfl), by omega, by omega⟩,  by rw [ht]; exact hP9, va_K.moved hW.alike hK9, hD9⟩, hS.F ht⟩) hS.2.2 dX4_readClause_158
              · refine lv_iconst (v := 0) hx hb dX4_readClause_117 kc_i_0 ?_
                have hP9 := hP
                have hD9 := hD
                have hK9 := hK
                rw [hQ]
                exact W.zret (v := 0) hx hb hr rfl (fun t ht hW => ⟨⟨0, (S1_84, S2_85, Pl_86, Wr_87, Fi_88), rfl, ⟨(Or.inl rfl), by omega, by omega⟩,  by rw [ht]; exact hP9, va_K.moved hW.alike hK9, hD9⟩, hS.F ht⟩) hS.2.2 dX4_readClause_118
            · refine lv_aload_n hx hb dX4_readClause_92 rfl (lv_at hl 3 rfl) ?_
              refine lv_iload_n hx hb dX4_readClause_93 rfl (lv_at hl 2 rfl) ?_
              refine lv_iload_n hx hb dX4_readClause_94 rfl (lv_at hl 1 rfl) ?_
              refine lv_iload_n hx hb dX4_readClause_95 rfl (lv_at hl 1 rfl) ?_
              obtain ⟨hPc, hDc, hFc⟩ := kCut (wc := [(jR, .inr (4, [.ref jT, .ref r1, .ref r2, .int (nI (Wr_70)), .int (nI (Fi_71)), .int Pl_77, .ref q6, .ref q7])), (r1, .inl (c1, 120, .inl S1_67)), (r2, .inl (c2, 124, .inl S2_68)), (jT, .inr (8, [.ref t0, .int (nI (kt))])), (t0, .inl (cC, 120, .inl gT))]) hP hD hS hA [0, 1, 2, 3, 4] rfl kc_nd_311 rfl
              have hKc := hK.sb (tys2 := [(c1, .int), (c2, .int), (cC, .char)]) [0, 1, 2] rfl
              refine va_calli (va_runV (As := [.int r_4, .int (nI (Wr_11)), .int (nI (Wr_11))]) (rest := []) ⟨hx, hb, hml, hown, hts⟩ (s_keep4 l dC dI jT t0 cC gT kt hkt hgT jR r1 r2 c1 c2 S1_67 S2_68 Wr_70 Fi_71 Pl_77 q6 q7 bd_74 bd_75 r_4 (nI (Wr_11)) (nI (Wr_11)) H.size) (cwV 3 hts (kG (List.forall_mem_cons.mpr ⟨(List.mem_cons_of_mem _ (List.mem_append_left _ (List.mem_of_getElem? (i := 54) rfl))), (List.forall_mem_cons.mpr ⟨(List.mem_cons_of_mem _ (List.mem_append_left _ (List.mem_of_getElem? (i := 53) rfl))), (List.forall_mem_cons.mpr ⟨(List.mem_cons_of_mem _ (List.mem_append_left _ (List.mem_of_getElem? (i := 52) rfl))), (List.forall_mem_cons.mpr ⟨(List.mem_cons_of_mem _ (List.mem_append_left _ (List.mem_of_getElem? (i := 0) rfl))), (fun _ h => absurd h List.not_mem_nil)⟩)⟩)⟩)⟩) (kGV _ _ _ _) (fun _ h => List.mem_cons_of_mem _ (List.mem_append_right _ (List.mem_append_right _ (List.mem_append_right _ (List.mem_append_right _ (List.mem_append_right _ (List.mem_append_right _ (List.mem_append_right _ (List.mem_append_right _ (List.mem_append_right _ (List.mem_append_right _ (List.mem_append_right _ h)))))))))))) gw_s_keep4) rfl rfl rfl ⟨rfl, hd_X4_keepClause⟩ ⟨(Nat.le_of_ble_eq_true rfl), (Nat.le_of_ble_eq_true rfl)⟩) (kW_V kT_blind kT_give (va_recv hKc hPc (ci := 4) (q0 := 0) rfl rfl) hPc hKc hDc) rfl rfl hl.1 rfl (lv_room (Nat.le_of_ble_eq_true rfl)) dX4_readClause_96 ⟨(Nat.le_of_ble_eq_true rfl), (Nat.le_of_ble_eq_true rfl)⟩) hS (fun q _ h => hFc q h) hFc (fun r_121 u t H1 locs ht hvm hw hB hz1 hk1 hS => ?_)
              obtain ⟨S1_122, S2_123, Pl_124, Wr_125, Fi_126⟩ := u
              obtain ⟨hP1, hK1, hD1⟩ := hB
              rw [ht] at hP1
              try dsimp only at hw
              obtain ⟨hP, hD⟩ : kPD dC dI A [(jR, .inr (4, [.ref jT, .ref r1, .ref r2, .int (nI (Wr_125)), .int (nI (Fi_126)), .int Pl_124, .ref q6, .ref q7])), (r1, .inl (c1, 120, .inl S1_122)), (r2, .inl (c2, 124, .inl S2_123)), (jT, .inr (8, [.ref t0, .int (nI (kt))])), (t0, .inl (cC, 120, .inl gT))] H1 := kJoinI hP hD [0, 1, 2, 3, 4] rfl hk1 hFc hP1 hD1 rfl [some 0, some 1, some 2, some 3, some 4] rfl rfl
              generalize H1 = H at hP hS ⊢
              have hw_127 := hw
              have hP9 := hP
              have hD9 := hD
              have hK9 := hK
              rw [hQ]
              exact W.zret (v := r_121) hx hb hr (kB01 hw_127.1) (fun t ht hW => ⟨⟨r_121, (S1_122, S2_123, Pl_124, Wr_125, Fi_126), rfl, ⟨hw_127.1, by omega, by omega⟩,  by rw [ht]; exact hP9, va_K.moved hW.alike hK9, hD9⟩, hS.F ht⟩) hS.2.2 dX4_readClause_99
          · refine lv_iconst (v := 0) hx hb dX4_readClause_80 kc_i_0 ?_
            have hP9 := hP
            have hD9 := hD
            have hK9 := hK
            rw [hQ]
            exact W.zret (v := 0) hx hb hr rfl (fun t ht hW => ⟨⟨0, (S1_67, S2_68, Pl_69, Wr_70, Fi_71), rfl, ⟨(Or.inl rfl), by omega, by omega⟩,  by rw [ht]; exact hP9, va_K.moved hW.alike hK9, hD9⟩, hS.F ht⟩) hS.2.2 dX4_readClause_81
        · refine lv_iconst (v := 1) hx hb dX4_readClause_62 kc_i_1 ?_
          refine lv_goto (tgt := 67) hx hb dX4_readClause_63 kc_t_63_4 ?_
          refine lv_istore_n hx hb dX4_readClause_67 rfl hl kc_l_3_5 (kTo [(3, .int 1), (2, .int (nI (Wr_11))), (1, .int r_4), (0, .ref jR)]) (fun ls hl => ?_)
          refine lv_iload_n hx hb dX4_readClause_68 rfl (lv_at hl 0 rfl) ?_
          refine lv_if_ne (tgt := 100) hx hb dX4_readClause_69 kc_t_69_31 (fun c_128 => ?_) (fun c_128 => absurd c_128 (by decide))
          refine lv_aload_n hx hb dX4_readClause_100 rfl (lv_at hl 3 rfl) ?_
          refine lv_iconst (v := 0) hx hb dX4_readClause_101 kc_i_0 ?_
          refine lv_iload_n hx hb dX4_readClause_102 rfl (lv_at hl 0 rfl) ?_
          refine lv_if_ne (tgt := 110) hx hb dX4_readClause_103 kc_t_103_7 (fun c_129 => ?_) (fun c_129 => absurd c_129 (by decide))
          refine lv_iconst (v := 0) hx hb dX4_readClause_110 kc_i_0 ?_
          obtain ⟨hPc, hDc, hFc⟩ := kCut (wc := [(jR, .inr (4, [.ref jT, .ref r1, .ref r2, .int (nI (Wr_11)), .int (nI (Fi_12)), .int Pl_62, .ref q6, .ref q7])), (r1, .inl (c1, 120, .inl S1_8)), (r2, .inl (c2, 124, .inl S2_9)), (jT, .inr (8, [.ref t0, .int (nI (kt))])), (t0, .inl (cC, 120, .inl gT))]) hP hD hS hA [0, 1, 2, 3, 4] rfl kc_nd_311 rfl
          have hKc := hK.sb (tys2 := [(c1, .int), (c2, .int), (cC, .char)]) [0, 1, 2] rfl
          refine va_calli (va_runV (As := [.int 0, .int 0]) (rest := []) ⟨hx, hb, hml, hown, hts⟩ (s_cond4_0_0 l dC dI jT t0 cC gT kt hkt hgT jR r1 r2 c1 c2 S1_8 S2_9 Wr_11 Fi_12 Pl_62 q6 q7 bd_15 bd_16 b6 n6 g6 hn6 b7 n7 g7 hn7 H.size) (cwV 2 hts (kG (List.forall_mem_cons.mpr ⟨(List.mem_cons_of_mem _ (List.mem_append_left _ (List.mem_of_getElem? (i := 49) rfl))), (List.forall_mem_cons.mpr ⟨(List.mem_cons_of_mem _ (List.mem_append_left _ (List.mem_of_getElem? (i := 48) rfl))), (List.forall_mem_cons.mpr ⟨(List.mem_cons_of_mem _ (List.mem_append_left _ (List.mem_of_getElem? (i := 47) rfl))), (List.forall_mem_cons.mpr ⟨(List.mem_cons_of_mem _ (List.mem_append_left _ (List.mem_of_getElem? (i := 0) rfl))), (fun _ h => absurd h List.not_mem_nil)⟩)⟩)⟩)⟩) (kGV _ _ _ _) (kFam (List.mem_cons_of_mem _ (List.mem_append_left _ (List.mem_of_getElem? (i := 46) rfl)))) gw_s_cond4_0_0) rfl rfl rfl ⟨rfl, hd_X4_readCondition⟩ ⟨(Nat.le_of_ble_eq_true rfl), (Nat.le_of_ble_eq_true rfl)⟩) (kW_V kS2_blind (kS2_give hX hS hFc) (va_recv hKc hPc (ci := 4) (q0 := 0) rfl rfl) hPc hKc hDc) rfl rfl hl.1 rfl (lv_room (Nat.le_of_ble_eq_true rfl)) dX4_readClause_111 ⟨(Nat.le_of_ble_eq_true rfl), (Nat.le_of_ble_eq_true rfl)⟩) hS (fun q _ h => hFc q h) hFc (fun r_130 u t H1 locs ht hvm hw hB hz1 hk1 hS => ?_)
          obtain ⟨S1_131, S2_132, Pl_133, Wr_134, Fi_135⟩ := u
          obtain ⟨hP1, hK1, hD1⟩ := hB
          rw [ht] at hP1
          try dsimp only at hw
          obtain ⟨hP, hD⟩ : kPD dC dI A [(jR, .inr (4, [.ref jT, .ref r1, .ref r2, .int (nI (Wr_134)), .int (nI (Fi_135)), .int Pl_133, .ref q6, .ref q7])), (r1, .inl (c1, 120, .inl S1_131)), (r2, .inl (c2, 124, .inl S2_132)), (jT, .inr (8, [.ref t0, .int (nI (kt))])), (t0, .inl (cC, 120, .inl gT))] H1 := kJoinI hP hD [0, 1, 2, 3, 4] rfl hk1 hFc hP1 hD1 rfl [some 0, some 1, some 2, some 3, some 4] rfl rfl
          generalize H1 = H at hP hS ⊢
          have hw_136 := hw
          refine lv_if_ne (tgt := 119) hx hb dX4_readClause_114 kc_t_114_5 (fun c_137 => ?_) (fun c_137 => ?_)
          · refine lv_aload_n hx hb dX4_readClause_119 rfl (lv_at hl 3 rfl) ?_
            refine va_get (D := (dC, dI)) (ci := 4) (v := .int (nI (Wr_134))) (C := RX4) (T := TX4) (N := 8) hx hb hts (fun _ h => List.mem_cons_of_mem _ (List.mem_append_right _ (List.mem_append_right _ (List.mem_append_right _ (List.mem_append_left _ h))))) hown hK hP 0 rfl rfl 3 kc_l_3_8 (hts (.fieldLink RX4 18 "NotEnded$Reader" "written" "I") (List.mem_cons_of_mem _ (List.mem_append_left _ (List.mem_of_getElem? (i := 51) rfl)))) (fun _ h9 => h9) rfl dX4_readClause_120 ?_
            refine lv_istore hx hb dX4_readClause_123 hl kc_l_4_5 (kTo [(4, .int (nI (Wr_134))), (3, .int 1), (2, .int (nI (Wr_11))), (1, .int r_4), (0, .ref jR)]) (fun ls hl => ?_)
            refine lv_aload_n hx hb dX4_readClause_125 rfl (lv_at hl 4 rfl) ?_
            refine lv_bipush (v := 63) hx hb dX4_readClause_126 kc_b_63 ?_
            have bd_138 : Wr_134 ≤ 120 := by omega
            have bd_139 : Fi_135 ≤ 124 := by omega
            obtain ⟨hPc, hDc, hFc⟩ := kCut (wc := [(jR, .inr (4, [.ref jT, .ref r1, .ref r2, .int (nI (Wr_134)), .int (nI (Fi_135)), .int Pl_133, .ref q6, .ref q7])), (r1, .inl (c1, 120, .inl S1_131)), (r2, .inl (c2, 124, .inl S2_132)), (jT, .inr (8, [.ref t0, .int (nI (kt))])), (t0, .inl (cC, 120, .inl gT))]) hP hD hS hA [0, 1, 2, 3, 4] rfl kc_nd_311 rfl
            have hKc := hK.sb (tys2 := [(c1, .int), (c2, .int), (cC, .char)]) [0, 1, 2] rfl
            refine va_calli (va_runV (As := [.int 63]) (rest := []) ⟨hx, hb, hml, hown, hts⟩ (s_take4 l dC dI jT t0 cC gT kt hkt hgT jR r1 r2 c1 c2 S1_131 S2_132 Wr_134 Fi_135 Pl_133 q6 q7 bd_138 bd_139 63 H.size) (cwV 1 hts (kG (List.forall_mem_cons.mpr ⟨(List.mem_cons_of_mem _ (List.mem_append_left _ (List.mem_of_getElem? (i := 45) rfl))), (List.forall_mem_cons.mpr ⟨(List.mem_cons_of_mem _ (List.mem_append_left _ (List.mem_of_getElem? (i := 44) rfl))), (List.forall_mem_cons.mpr ⟨(List.mem_cons_of_mem _ (List.mem_append_left _ (List.mem_of_getElem? (i := 43) rfl))), (List.forall_mem_cons.mpr ⟨(List.mem_cons_of_mem _ (List.mem_append_left _ (List.mem_of_getElem? (i := 0) rfl))), (fun _ h => absurd h List.not_mem_nil)⟩)⟩)⟩)⟩) (kGV _ _ _ _) (fun _ h => List.mem_cons_of_mem _ (List.mem_append_right _ (List.mem_append_right _ (List.mem_append_right _ (List.mem_append_right _ (List.mem_append_right _ (List.mem_append_right _ (List.mem_append_right _ (List.mem_append_right _ (List.mem_append_right _ (List.mem_append_right _ (List.mem_append_left _ h)))))))))))) gw_s_take4) rfl rfl rfl ⟨rfl, hd_X4_take⟩ ⟨(Nat.le_of_ble_eq_true rfl), (Nat.le_of_ble_eq_true rfl)⟩) (kW_V kT_blind kT_give (va_recv hKc hPc (ci := 4) (q0 := 0) rfl rfl) hPc hKc hDc) rfl rfl hl.1 rfl (lv_room (Nat.le_of_ble_eq_true rfl)) dX4_readClause_128 ⟨(Nat.le_of_ble_eq_true rfl), (Nat.le_of_ble_eq_true rfl)⟩) hS (fun q _ h => hFc q h) hFc (fun r_140 u t H1 locs ht hvm hw hB hz1 hk1 hS => ?_)
            obtain ⟨S1_141, S2_142, Pl_143, Wr_144, Fi_145⟩ := u
            obtain ⟨hP1, hK1, hD1⟩ := hB
            rw [ht] at hP1
            try dsimp only at hw
            obtain ⟨hP, hD⟩ : kPD dC dI A [(jR, .inr (4, [.ref jT, .ref r1, .ref r2, .int (nI (Wr_144)), .int (nI (Fi_145)), .int Pl_143, .ref q6, .ref q7])), (r1, .inl (c1, 120, .inl S1_141)), (r2, .inl (c2, 124, .inl S2_142)), (jT, .inr (8, [.ref t0, .int (nI (kt))])), (t0, .inl (cC, 120, .inl gT))] H1 := kJoinI hP hD [0, 1, 2, 3, 4] rfl hk1 hFc hP1 hD1 rfl [some 0, some 1, some 2, some 3, some 4] rfl rfl
            generalize H1 = H at hP hS ⊢
            have hw_146 := hw
            refine lv_if_eq (tgt := 157) hx hb dX4_readClause_131 kc_t_131_26 (fun c_147 => ?_) (fun c_147 => ?_)
            · refine lv_iconst (v := 0) hx hb dX4_readClause_157 kc_i_0 ?_
              have hP9 := hP
              have hD9 := hD
              have hK9 := hK
              rw [hQ]
              exact W.zret (v := 0) hx hb hr rfl (fun t ht hW => ⟨⟨0, (S1_141, S2_142, Pl_143, Wr_144, Fi_145), rfl, ⟨(Or.inl rfl), by omega, by omega⟩,  by rw [ht]; exact hP9, va_K.moved hW.alike hK9, hD9⟩, hS.F ht⟩) hS.2.2 dX4_readClause_158
            · refine lv_aload_n hx hb dX4_readClause_134 rfl (lv_at hl 4 rfl) ?_
              refine lv_iconst (v := 0) hx hb dX4_readClause_135 kc_i_0 ?_
              have bd_148 : Wr_144 ≤ 120 := by omega
              have bd_149 : Fi_145 ≤ 124 := by omega
              obtain ⟨hPc, hDc, hFc⟩ := kCut (wc := [(jR, .inr (4, [.ref jT, .ref r1, .ref r2, .int (nI (Wr_144)), .int (nI (Fi_145)), .int Pl_143, .ref q6, .ref q7])), (r1, .inl (c1, 120, .inl S1_141)), (r2, .inl (c2, 124, .inl S2_142)), (jT, .inr (8, [.ref t0, .int (nI (kt))])), (t0, .inl (cC, 120, .inl gT))]) hP hD hS hA [0, 1, 2, 3, 4] rfl kc_nd_311 rfl
              have hKc := hK.sb (tys2 := [(c1, .int), (c2, .int), (cC, .char)]) [0, 1, 2] rfl
              refine va_calli (va_runV (As := [.int 0]) (rest := []) ⟨hx, hb, hml, hown, hts⟩ (s_sum4_0 l dC dI jT t0 cC gT kt hkt hgT jR r1 r2 c1 c2 S1_141 S2_142 Wr_144 Fi_145 Pl_143 q6 q7 bd_148 bd_149 b6 n6 g6 hn6 b7 n7 g7 hn7 H.size) (cwV 1 hts (kG (List.forall_mem_cons.mpr ⟨(List.mem_cons_of_mem _ (List.mem_append_left _ (List.mem_of_getElem? (i := 32) rfl))), (List.forall_mem_cons.mpr ⟨(List.mem_cons_of_mem _ (List.mem_append_left _ (List.mem_of_getElem? (i := 31) rfl))), (List.forall_mem_cons.mpr ⟨(List.mem_cons_of_mem _ (List.mem_append_left _ (List.mem_of_getElem? (i := 30) rfl))), (List.forall_mem_cons.mpr ⟨(List.mem_cons_of_mem _ (List.mem_append_left _ (List.mem_of_getElem? (i := 0) rfl))), (fun _ h => absurd h List.not_mem_nil)⟩)⟩)⟩)⟩) (kGV _ _ _ _) (kFam (List.mem_cons_of_mem _ (List.mem_append_left _ (List.mem_of_getElem? (i := 29) rfl)))) gw_s_sum4_0) rfl rfl rfl ⟨rfl, hd_X4_readSum⟩ ⟨(Nat.le_of_ble_eq_true rfl), (Nat.le_of_ble_eq_true rfl)⟩) (kW_V kS2_blind (kS2_give hX hS hFc) (va_recv hKc hPc (ci := 4) (q0 := 0) rfl rfl) hPc hKc hDc) rfl rfl hl.1 rfl (lv_room (Nat.le_of_ble_eq_true rfl)) dX4_readClause_136 ⟨(Nat.le_of_ble_eq_true rfl), (Nat.le_of_ble_eq_true rfl)⟩) hS (fun q _ h => hFc q h) hFc (fun r_150 u t H1 locs ht hvm hw hB hz1 hk1 hS => ?_)
              obtain ⟨S1_151, S2_152, Pl_153, Wr_154, Fi_155⟩ := u
              obtain ⟨hP1, hK1, hD1⟩ := hB
              rw [ht] at hP1
              try dsimp only at hw
              obtain ⟨hP, hD⟩ : kPD dC dI A [(jR, .inr (4, [.ref jT, .ref r1, .ref r2, .int (nI (Wr_154)), .int (nI (Fi_155)), .int Pl_153, .ref q6, .ref q7])), (r1, .inl (c1, 120, .inl S1_151)), (r2, .inl (c2, 124, .inl S2_152)), (jT, .inr (8, [.ref t0, .int (nI (kt))])), (t0, .inl (cC, 120, .inl gT))] H1 := kJoinI hP hD [0, 1, 2, 3, 4] rfl hk1 hFc hP1 hD1 rfl [some 0, some 1, some 2, some 3, some 4] rfl rfl
              generalize H1 = H at hP hS ⊢
              have hw_156 := hw
              refine lv_if_eq (tgt := 157) hx hb dX4_readClause_139 kc_t_139_18 (fun c_157 => ?_) (fun c_157 => ?_)
              · refine lv_iconst (v := 0) hx hb dX4_readClause_157 kc_i_0 ?_
                have hP9 := hP
                have hD9 := hD
                have hK9 := hK
                rw [hQ]
                exact W.zret (v := 0) hx hb hr rfl (fun t ht hW => ⟨⟨0, (S1_151, S2_152, Pl_153, Wr_154, Fi_155), rfl, ⟨(Or.inl rfl), by omega, by omega⟩,  by rw [ht]; exact hP9, va_K.moved hW.alike hK9, hD9⟩, hS.F ht⟩) hS.2.2 dX4_readClause_158
              · refine lv_aload_n hx hb dX4_readClause_142 rfl (lv_at hl 4 rfl) ?_
                refine lv_iload_n hx hb dX4_readClause_143 rfl (lv_at hl 3 rfl) ?_
                refine lv_iload_n hx hb dX4_readClause_144 rfl (lv_at hl 2 rfl) ?_
                refine lv_iload hx hb dX4_readClause_145 (lv_at hl 0 rfl) ?_
                have bd_158 : Wr_154 ≤ 120 := by omega
                have bd_159 : Fi_155 ≤ 124 := by omega
                obtain ⟨hPc, hDc, hFc⟩ := kCut (wc := [(jR, .inr (4, [.ref jT, .ref r1, .ref r2, .int (nI (Wr_154)), .int (nI (Fi_155)), .int Pl_153, .ref q6, .ref q7])), (r1, .inl (c1, 120, .inl S1_151)), (r2, .inl (c2, 124, .inl S2_152)), (jT, .inr (8, [.ref t0, .int (nI (kt))])), (t0, .inl (cC, 120, .inl gT))]) hP hD hS hA [0, 1, 2, 3, 4] rfl kc_nd_311 rfl
                have hKc := hK.sb (tys2 := [(c1, .int), (c2, .int), (cC, .char)]) [0, 1, 2] rfl
                refine va_calli (va_runV (As := [.int r_4, .int (nI (Wr_11)), .int (nI (Wr_134))]) (rest := []) ⟨hx, hb, hml, hown, hts⟩ (s_keep4 l dC dI jT t0 cC gT kt hkt hgT jR r1 r2 c1 c2 S1_151 S2_152 Wr_154 Fi_155 Pl_153 q6 q7 bd_158 bd_159 r_4 (nI (Wr_11)) (nI (Wr_134)) H.size) (cwV 3 hts (kG (List.forall_mem_cons.mpr ⟨(List.mem_cons_of_mem _ (List.mem_append_left _ (List.mem_of_getElem? (i := 54) rfl))), (List.forall_mem_cons.mpr ⟨(List.mem_cons_of_mem _ (List.mem_append_left _ (List.mem_of_getElem? (i := 53) rfl))), (List.forall_mem_cons.mpr ⟨(List.mem_cons_of_mem _ (List.mem_append_left _ (List.mem_of_getElem? (i := 52) rfl))), (List.forall_mem_cons.mpr ⟨(List.mem_cons_of_mem _ (List.mem_append_left _ (List.mem_of_getElem? (i := 0) rfl))), (fun _ h => absurd h List.not_mem_nil)⟩)⟩)⟩)⟩) (kGV _ _ _ _) (fun _ h => List.mem_cons_of_mem _ (List.mem_append_right _ (List.mem_append_right _ (List.mem_append_right _ (List.mem_append_right _ (List.mem_append_right _ (List.mem_append_right _ (List.mem_append_right _ (List.mem_append_right _ (List.mem_append_right _ (List.mem_append_right _ (List.mem_append_right _ h)))))))))))) gw_s_keep4) rfl rfl rfl ⟨rfl, hd_X4_keepClause⟩ ⟨(Nat.le_of_ble_eq_true rfl), (Nat.le_of_ble_eq_true rfl)⟩) (kW_V kT_blind kT_give (va_recv hKc hPc (ci := 4) (q0 := 0) rfl rfl) hPc hKc hDc) rfl rfl hl.1 rfl (lv_room (Nat.le_of_ble_eq_true rfl)) dX4_readClause_147 ⟨(Nat.le_of_ble_eq_true rfl), (Nat.le_of_ble_eq_true rfl)⟩) hS (fun q _ h => hFc q h) hFc (fun r_160 u t H1 locs ht hvm hw hB hz1 hk1 hS => ?_)
                obtain ⟨S1_161, S2_162, Pl_163, Wr_164, Fi_165⟩ := u
                obtain ⟨hP1, hK1, hD1⟩ := hB
                rw [ht] at hP1
                try dsimp only at hw
                obtain ⟨hP, hD⟩ : kPD dC dI A [(jR, .inr (4, [.ref jT, .ref r1, .ref r2, .int (nI (Wr_164)), .int (nI (Fi_165)), .int Pl_163, .ref q6, .ref q7])), (r1, .inl (c1, 120, .inl S1_161)), (r2, .inl (c2, 124, .inl S2_162)), (jT, .inr (8, [.ref t0, .int (nI (kt))])), (t0, .inl (cC, 120, .inl gT))] H1 := kJoinI hP hD [0, 1, 2, 3, 4] rfl hk1 hFc hP1 hD1 rfl [some 0, some 1, some 2, some 3, some 4] rfl rfl
                generalize H1 = H at hP hS ⊢
                have hw_166 := hw
                refine lv_if_eq (tgt := 157) hx hb dX4_readClause_150 kc_t_150_7 (fun c_167 => ?_) (fun c_167 => ?_)
                · refine lv_iconst (v := 0) hx hb dX4_readClause_157 kc_i_0 ?_
                  have hP9 := hP
                  have hD9 := hD
                  have hK9 := hK
                  rw [hQ]
                  exact W.zret (v := 0) hx hb hr rfl (fun t ht hW => ⟨⟨0, (S1_161, S2_162, Pl_163, Wr_164, Fi_165), rfl, ⟨(Or.inl rfl), by omega, by omega⟩,  by rw [ht]; exact hP9, va_K.moved hW.alike hK9, hD9⟩, hS.F ht⟩) hS.2.2 dX4_readClause_158
                · refine lv_iconst (v := 1) hx hb dX4_readClause_153 kc_i_1 ?_
                  refine lv_goto (tgt := 158) hx hb dX4_readClause_154 kc_t_154_4 ?_
                  have hP9 := hP
                  have hD9 := hD
                  have hK9 := hK
                  rw [hQ]
                  exact W.zret (v := 1) hx hb hr rfl (fun t ht hW => ⟨⟨1, (S1_161, S2_162, Pl_163, Wr_164, Fi_165), rfl, ⟨(Or.inr rfl), by omega, by omega⟩,  by rw [ht]; exact hP9, va_K.moved hW.alike hK9, hD9⟩, hS.F ht⟩) hS.2.2 dX4_readClause_158
          · refine lv_iconst (v := 0) hx hb dX4_readClause_117 kc_i_0 ?_
            have hP9 := hP
            have hD9 := hD
            have hK9 := hK
            rw [hQ]
            exact W.zret (v := 0) hx hb hr rfl (fun t ht hW => ⟨⟨0, (S1_131, S2_132, Pl_133, Wr_134, Fi_135), rfl, ⟨(Or.inl rfl), by omega, by omega⟩,  by rw [ht]; exact hP9, va_K.moved hW.alike hK9, hD9⟩, hS.F ht⟩) hS.2.2 dX4_readClause_118
    · refine lv_iconst (v := 0) hx hb dX4_readClause_37 kc_i_0 ?_
      have hP9 := hP
      have hD9 := hD
      have hK9 := hK
      rw [hQ]
      exact W.zret (v := 0) hx hb hr rfl (fun t ht hW => ⟨⟨0, (S1_8, S2_9, Pl_10, Wr_11, Fi_12), rfl, ⟨(Or.inl rfl), by omega, by omega⟩,  by rw [ht]; exact hP9, va_K.moved hW.alike hK9, hD9⟩, hS.F ht⟩) hS.2.2 dX4_readClause_38
  · refine lv_iconst (v := 0) hx hb dX4_readClause_16 kc_i_0 ?_
    have hP9 := hP
    have hD9 := hD
    have hK9 := hK
    rw [hQ]
    exact W.zret (v := 0) hx hb hr rfl (fun t ht hW => ⟨⟨0, (s1, s2, Pl_2, wr, fi), rfl, ⟨(Or.inl rfl), by omega, by omega⟩,  by rw [ht]; exact hP9, va_K.moved hW.alike hK9, hD9⟩, hS.F ht⟩) hS.2.2 dX4_readClause_17
