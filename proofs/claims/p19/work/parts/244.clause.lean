theorem dX4_readClause_0 : decode cX4_readClause 0 = .ok (.aload_n 0, 1) := by decide +kernel
theorem dX4_readClause_1 : decode cX4_readClause 1 = .ok (.getfield 30, 3) := by decide +kernel
theorem dX4_readClause_4 : decode cX4_readClause 4 = .ok (.aload_n 0, 1) := by decide +kernel
theorem dX4_readClause_5 : decode cX4_readClause 5 = .ok (.invokevirtual 53, 3) := by decide +kernel
theorem dX4_readClause_8 : decode cX4_readClause 8 = .ok (.invokevirtual 72, 3) := by decide +kernel
theorem dX4_readClause_11 : decode cX4_readClause 11 = .ok (.istore_n 1, 1) := by decide +kernel
theorem dX4_readClause_12 : decode cX4_readClause 12 = .ok (.iload_n 1, 1) := by decide +kernel
theorem dX4_readClause_13 : decode cX4_readClause 13 = .ok (.ifCond .ge 5, 3) := by decide +kernel
theorem dX4_readClause_16 : decode cX4_readClause 16 = .ok (.iconst 0, 1) := by decide +kernel
theorem dX4_readClause_17 : decode cX4_readClause 17 = .ok (.ireturn, 1) := by decide +kernel
theorem dX4_readClause_18 : decode cX4_readClause 18 = .ok (.aload_n 0, 1) := by decide +kernel
theorem dX4_readClause_19 : decode cX4_readClause 19 = .ok (.dup, 1) := by decide +kernel
theorem dX4_readClause_20 : decode cX4_readClause 20 = .ok (.getfield 25, 3) := by decide +kernel
theorem dX4_readClause_23 : decode cX4_readClause 23 = .ok (.iconst 1, 1) := by decide +kernel
theorem dX4_readClause_24 : decode cX4_readClause 24 = .ok (.iadd, 1) := by decide +kernel
theorem dX4_readClause_25 : decode cX4_readClause 25 = .ok (.putfield 25, 3) := by decide +kernel
theorem dX4_readClause_28 : decode cX4_readClause 28 = .ok (.aload_n 0, 1) := by decide +kernel
theorem dX4_readClause_29 : decode cX4_readClause 29 = .ok (.bipush 58, 2) := by decide +kernel
theorem dX4_readClause_31 : decode cX4_readClause 31 = .ok (.invokevirtual 57, 3) := by decide +kernel
theorem dX4_readClause_34 : decode cX4_readClause 34 = .ok (.ifCond .ne 5, 3) := by decide +kernel
theorem dX4_readClause_39 : decode cX4_readClause 39 = .ok (.aload_n 0, 1) := by decide +kernel
theorem dX4_readClause_40 : decode cX4_readClause 40 = .ok (.getfield 18, 3) := by decide +kernel
theorem dX4_readClause_43 : decode cX4_readClause 43 = .ok (.istore_n 2, 1) := by decide +kernel
theorem dX4_readClause_44 : decode cX4_readClause 44 = .ok (.aload_n 0, 1) := by decide +kernel
theorem dX4_readClause_45 : decode cX4_readClause 45 = .ok (.invokevirtual 53, 3) := by decide +kernel
theorem dX4_readClause_48 : decode cX4_readClause 48 = .ok (.bipush 33, 2) := by decide +kernel
theorem dX4_readClause_50 : decode cX4_readClause 50 = .ok (.if_icmp .eq 12, 3) := by decide +kernel
theorem dX4_readClause_62 : decode cX4_readClause 62 = .ok (.iconst 1, 1) := by decide +kernel
theorem dX4_readClause_63 : decode cX4_readClause 63 = .ok (.goto 4, 3) := by decide +kernel
theorem dX4_readClause_67 : decode cX4_readClause 67 = .ok (.istore_n 3, 1) := by decide +kernel
theorem dX4_readClause_68 : decode cX4_readClause 68 = .ok (.iload_n 3, 1) := by decide +kernel
theorem dX4_readClause_69 : decode cX4_readClause 69 = .ok (.ifCond .ne 31, 3) := by decide +kernel
theorem dX4_readClause_100 : decode cX4_readClause 100 = .ok (.aload_n 0, 1) := by decide +kernel
theorem dX4_readClause_101 : decode cX4_readClause 101 = .ok (.iconst 0, 1) := by decide +kernel
theorem dX4_readClause_102 : decode cX4_readClause 102 = .ok (.iload_n 3, 1) := by decide +kernel
theorem dX4_readClause_103 : decode cX4_readClause 103 = .ok (.ifCond .ne 7, 3) := by decide +kernel
theorem dX4_readClause_110 : decode cX4_readClause 110 = .ok (.iconst 0, 1) := by decide +kernel
theorem dX4_readClause_111 : decode cX4_readClause 111 = .ok (.invokevirtual 89, 3) := by decide +kernel
theorem dX4_readClause_114 : decode cX4_readClause 114 = .ok (.ifCond .ne 5, 3) := by decide +kernel
theorem dX4_readClause_119 : decode cX4_readClause 119 = .ok (.aload_n 0, 1) := by decide +kernel
theorem dX4_readClause_120 : decode cX4_readClause 120 = .ok (.getfield 18, 3) := by decide +kernel
theorem dX4_readClause_123 : decode cX4_readClause 123 = .ok (.istore 4, 2) := by decide +kernel
theorem dX4_readClause_125 : decode cX4_readClause 125 = .ok (.aload_n 0, 1) := by decide +kernel
theorem dX4_readClause_126 : decode cX4_readClause 126 = .ok (.bipush 63, 2) := by decide +kernel
theorem dX4_readClause_128 : decode cX4_readClause 128 = .ok (.invokevirtual 57, 3) := by decide +kernel
theorem dX4_readClause_131 : decode cX4_readClause 131 = .ok (.ifCond .eq 26, 3) := by decide +kernel
theorem dX4_readClause_157 : decode cX4_readClause 157 = .ok (.iconst 0, 1) := by decide +kernel
theorem dX4_readClause_158 : decode cX4_readClause 158 = .ok (.ireturn, 1) := by decide +kernel
theorem dX4_readClause_134 : decode cX4_readClause 134 = .ok (.aload_n 0, 1) := by decide +kernel
theorem dX4_readClause_135 : decode cX4_readClause 135 = .ok (.iconst 0, 1) := by decide +kernel
theorem dX4_readClause_136 : decode cX4_readClause 136 = .ok (.invokevirtual 78, 3) := by decide +kernel
theorem dX4_readClause_139 : decode cX4_readClause 139 = .ok (.ifCond .eq 18, 3) := by decide +kernel
theorem dX4_readClause_142 : decode cX4_readClause 142 = .ok (.aload_n 0, 1) := by decide +kernel
theorem dX4_readClause_143 : decode cX4_readClause 143 = .ok (.iload_n 1, 1) := by decide +kernel
theorem dX4_readClause_144 : decode cX4_readClause 144 = .ok (.iload_n 2, 1) := by decide +kernel
theorem dX4_readClause_145 : decode cX4_readClause 145 = .ok (.iload 4, 2) := by decide +kernel
theorem dX4_readClause_147 : decode cX4_readClause 147 = .ok (.invokevirtual 85, 3) := by decide +kernel
theorem dX4_readClause_150 : decode cX4_readClause 150 = .ok (.ifCond .eq 7, 3) := by decide +kernel
theorem dX4_readClause_153 : decode cX4_readClause 153 = .ok (.iconst 1, 1) := by decide +kernel
theorem dX4_readClause_154 : decode cX4_readClause 154 = .ok (.goto 4, 3) := by decide +kernel
theorem dX4_readClause_117 : decode cX4_readClause 117 = .ok (.iconst 0, 1) := by decide +kernel
theorem dX4_readClause_118 : decode cX4_readClause 118 = .ok (.ireturn, 1) := by decide +kernel
theorem dX4_readClause_53 : decode cX4_readClause 53 = .ok (.aload_n 0, 1) := by decide +kernel
theorem dX4_readClause_54 : decode cX4_readClause 54 = .ok (.invokevirtual 53, 3) := by decide +kernel
theorem dX4_readClause_57 : decode cX4_readClause 57 = .ok (.bipush 40, 2) := by decide +kernel
theorem dX4_readClause_59 : decode cX4_readClause 59 = .ok (.if_icmp .ne 7, 3) := by decide +kernel
theorem dX4_readClause_66 : decode cX4_readClause 66 = .ok (.iconst 0, 1) := by decide +kernel
theorem dX4_readClause_72 : decode cX4_readClause 72 = .ok (.aload_n 0, 1) := by decide +kernel
theorem dX4_readClause_73 : decode cX4_readClause 73 = .ok (.iconst 0, 1) := by decide +kernel
theorem dX4_readClause_74 : decode cX4_readClause 74 = .ok (.invokevirtual 78, 3) := by decide +kernel
theorem dX4_readClause_77 : decode cX4_readClause 77 = .ok (.ifCond .ne 5, 3) := by decide +kernel
theorem dX4_readClause_82 : decode cX4_readClause 82 = .ok (.aload_n 0, 1) := by decide +kernel
theorem dX4_readClause_83 : decode cX4_readClause 83 = .ok (.invokevirtual 53, 3) := by decide +kernel
theorem dX4_readClause_86 : decode cX4_readClause 86 = .ok (.invokestatic 82, 3) := by decide +kernel
theorem dX4_readClause_89 : decode cX4_readClause 89 = .ok (.ifCond .ne 11, 3) := by decide +kernel
theorem dX4_readClause_106 : decode cX4_readClause 106 = .ok (.iconst 1, 1) := by decide +kernel
theorem dX4_readClause_107 : decode cX4_readClause 107 = .ok (.goto 4, 3) := by decide +kernel
theorem dX4_readClause_92 : decode cX4_readClause 92 = .ok (.aload_n 0, 1) := by decide +kernel
theorem dX4_readClause_93 : decode cX4_readClause 93 = .ok (.iload_n 1, 1) := by decide +kernel
theorem dX4_readClause_94 : decode cX4_readClause 94 = .ok (.iload_n 2, 1) := by decide +kernel
theorem dX4_readClause_95 : decode cX4_readClause 95 = .ok (.iload_n 2, 1) := by decide +kernel
theorem dX4_readClause_96 : decode cX4_readClause 96 = .ok (.invokevirtual 85, 3) := by decide +kernel
theorem dX4_readClause_99 : decode cX4_readClause 99 = .ok (.ireturn, 1) := by decide +kernel
theorem dX4_readClause_80 : decode cX4_readClause 80 = .ok (.iconst 0, 1) := by decide +kernel
theorem dX4_readClause_81 : decode cX4_readClause 81 = .ok (.ireturn, 1) := by decide +kernel
theorem dX4_readClause_37 : decode cX4_readClause 37 = .ok (.iconst 0, 1) := by decide +kernel
theorem dX4_readClause_38 : decode cX4_readClause 38 = .ok (.ireturn, 1) := by decide +kernel
def w_s_clause4x : List Cond := .code yX4_readClause cX4_readClause 5 (some .boolean) :: wf_rq
theorem gw_s_clause4x : (w_s_clause4x).all goodWord = true := kFamG rfl gf_rq
theorem hd_X4_readClause : yX4_readClause.cls ≠ "java/lang/invoke/MethodHandle" ∧ yX4_readClause.cls ≠ "java/lang/invoke/VarHandle" ∧ (parseMethodDescriptor yX4_readClause.desc).map (fun d => d.parameters.length) = some 0 := by decide +kernel
set_option maxHeartbeats 4000000 in
set_option maxRecDepth 100000 in
theorem s_clause4x (l : Launch) (dC : Nat → ClassId) (dI : Nat → Nat → Nat) (jT : Nat) (t0 : Nat) (cC : ClassId) (gT : Nat → Int32) (kt : Nat) (hkt : kt ≤ 120) (hgT : ∀ j : Nat, narrow .char (.int (gT j)) = .int (gT j)) (bt : Nat → Nat) (hbt : ∀ j : Nat, gT j = nI (bt j)) (hb8 : ∀ j : Nat, bt j < 256) (jR : Nat) (r1 : Nat) (r2 : Nat) (c1 : ClassId) (c2 : ClassId) (s1 : Nat → Int32) (s2 : Nat → Int32) (wr : Nat) (fi : Nat) (q6 : Nat) (q7 : Nat) (hwr : wr ≤ 120) (hfi : fi ≤ 124) (pn : Nat) (hpn : pn ≤ kt) (hwp : wr ≤ pn) (b6 : Nat) (n6 : Nat) (g6 : Nat → Int32) (hn6 : n6 ≤ 8) (b7 : Nat) (n7 : Nat) (g7 : Nat → Int32) (hn7 : n7 ≤ 8) (gn6 : ∀ k : Nat, ∃ v : Nat, v < 128 ∧ g6 k = nI v) (hz6 : kIx g6 n6 (nI 0) = n6) (gn7 : ∀ k : Nat, ∃ v : Nat, v < 128 ∧ g7 k = nI v) (hz7 : kIx g7 n7 (nI 0) = n7) (hf9 : fi ≤ 120) (sz : Nat) : Met l yX4_readClause w_s_clause4x ({ frames := 48, cells := 0, slots := 0, locals := 2880 }) (kW dC dI [.ref jR] [(jR, .inr (4, [.ref jT, .ref r1, .ref r2, .int (nI (wr)), .int (nI (fi)), .int (nI (pn)), .ref q6, .ref q7])), (r1, .inl (c1, 120, .inl s1)), (r2, .inl (c2, 124, .inl s2)), (jT, .inr (8, [.ref t0, .int (nI (kt))])), (t0, .inl (cC, 120, .inl gT))] [(c1, .int), (c2, .int), (cC, .char)] (kS2 q6 b6 n6 g6 q7 b7 n7 g7 (va_A [(jR, .inr (4, [.ref jT, .ref r1, .ref r2, .int (nI (wr)), .int (nI (fi)), .int (nI (pn)), .ref q6, .ref q7])), (r1, .inl (c1, 120, .inl s1)), (r2, .inl (c2, 124, .inl s2)), (jT, .inr (8, [.ref t0, .int (nI (kt))])), (t0, .inl (cC, 120, .inl gT))] sz)) sz) (va_Qi (fun (r : Int32) (u : (Nat → Int32) × (Nat → Int32) × Nat × Nat × Nat × Bool × (List Int32) × Nat × Nat) => match u with | (S1, S2, Wr, Fi, Pn, xo, xl, xj, xk) => (r = kBo xo ∧ kCla bt kt g6 n6 g7 n7 pn = (xo, Pn, xl, xj, xk) ∧ Pn ≤ kt ∧ Wr ≤ 120 ∧ Fi ≤ 124 ∧ (xo = true → Wr = wr + xl.length ∧ S1 = kWrt s1 wr xl ∧ Fi = fi + 4 ∧ S2 = kWrt s2 fi [nI xj, nI wr, nI (wr + xk), nI (wr + xl.length)] ∧ pn + xl.length ≤ Pn ∧ pn + 3 ≤ Pn))) (fun (u : (Nat → Int32) × (Nat → Int32) × Nat × Nat × Nat × Bool × (List Int32) × Nat × Nat) => match u with | (S1, S2, Wr, Fi, Pn, xo, xl, xj, xk) => fun t : State => kB dC dI [(jR, .inr (4, [.ref jT, .ref r1, .ref r2, .int (nI (Wr)), .int (nI (Fi)), .int (nI (Pn)), .ref q6, .ref q7])), (r1, .inl (c1, 120, .inl S1)), (r2, .inl (c2, 124, .inl S2)), (jT, .inr (8, [.ref t0, .int (nI (kt))])), (t0, .inl (cC, 120, .inl gT))] [(c1, .int), (c2, .int), (cC, .char)] (va_A [(jR, .inr (4, [.ref jT, .ref r1, .ref r2, .int (nI (wr)), .int (nI (fi)), .int (nI (pn)), .ref q6, .ref q7])), (r1, .inl (c1, 120, .inl s1)), (r2, .inl (c2, 124, .inl s2)), (jT, .inr (8, [.ref t0, .int (nI (kt))])), (t0, .inl (cC, 120, .inl gT))] sz) t) (va_A [(jR, .inr (4, [.ref jT, .ref r1, .ref r2, .int (nI (wr)), .int (nI (fi)), .int (nI (pn)), .ref q6, .ref q7])), (r1, .inl (c1, 120, .inl s1)), (r2, .inl (c2, 124, .inl s2)), (jT, .inr (8, [.ref t0, .int (nI (kt))])), (t0, .inl (cC, 120, .inl gT))] sz)) 0 0 (va_A [(jR, .inr (4, [.ref jT, .ref r1, .ref r2, .int (nI (wr)), .int (nI (fi)), .int (nI (pn)), .ref q6, .ref q7])), (r1, .inl (c1, 120, .inl s1)), (r2, .inl (c2, 124, .inl s2)), (jT, .inr (8, [.ref t0, .int (nI (kt))])), (t0, .inl (cC, 120, .inl gT))] sz) := by
  refine Met.ofW (cc := cX4_readClause) (maxL := 5) (ret := (some .boolean)) (by decide) rfl ?_
  intro p e s m args below meth c s₁ B hml hv
  obtain ⟨rfl, hsz, hP, hK, hD0, hX⟩ := hv
  have hx := B.exec
  have hb := B.bytes
  have hr := B.returns
  have hts := atoms_spec (ws := w_s_clause4x) B.pre
  have hown : s.vm.findClass RX4 = some m.cls := findClass_of_methodNamed B.named
  have hlocks := B.notSynchronized
  subst hsz
  have hD := hD0.self (sz := s.heap.size)
  generalize hAe : va_A [(jR, .inr (4, [.ref jT, .ref r1, .ref r2, .int (nI (wr)), .int (nI (fi)), .int (nI (pn)), .ref q6, .ref q7])), (r1, .inl (c1, 120, .inl s1)), (r2, .inl (c2, 124, .inl s2)), (jT, .inr (8, [.ref t0, .int (nI (kt))])), (t0, .inl (cC, 120, .inl gT))] s.heap.size = A at hD hX ⊢
  have hA : ∀ q : Nat, s.heap.size ≤ q → A q := fun q h => by rw [← hAe]; exact Or.inr h
  have hS : va_S A s.heap s.heap [] := va_S.rf
  have hP : va_P (dC, dI) vwCl [(jR, .inr (4, [.ref jT, .ref r1, .ref r2, .int (nI (wr)), .int (nI (fi)), .int (nI (pn)), .ref q6, .ref q7])), (r1, .inl (c1, 120, .inl s1)), (r2, .inl (c2, 124, .inl s2)), (jT, .inr (8, [.ref t0, .int (nI (kt))])), (t0, .inl (cC, 120, .inl gT))] s.heap := hP
  have hl := lv_entry ([.ref jR]) (n := 5) (Nat.le_of_ble_eq_true rfl)
  rw [lg_entry_eq]
  generalize (lg_sl ([.ref jR]) ++ List.replicate (5 - (lg_sl ([.ref jR])).length) Slot.unset).toArray = ls at hl ⊢
  have hl : lv_has ls 5 [(0, .ref jR)] := hl
  refine kQ (fun Q hQ => ?_)
  refine lv_aload_n hx hb dX4_readClause_0 rfl (lv_at hl 0 rfl) ?_
  refine va_get (D := (dC, dI)) (ci := 4) (v := .ref q6) (C := RX4) (T := TX4) (N := 8) hx hb hts (fun _ h => List.mem_cons_of_mem _ (List.mem_append_right _ (List.mem_append_right _ (List.mem_append_right _ (List.mem_append_left _ h))))) hown hK hP 0 rfl rfl 6 (by decide) (hts (.fieldLink RX4 30 "NotEnded$Reader" "labelSigns" "Ljava/lang/String;") (List.mem_cons_of_mem _ (List.mem_append_left _ (List.mem_of_getElem? (i := 50) rfl)))) (fun _ h9 => h9) rfl dX4_readClause_1 ?_
  refine lv_aload_n hx hb dX4_readClause_4 rfl (lv_at hl 0 rfl) ?_
  obtain ⟨hPc, hDc, hFc⟩ := kCut (wc := [(jR, .inr (4, [.ref jT, .ref r1, .ref r2, .int (nI (wr)), .int (nI (fi)), .int (nI (pn)), .ref q6, .ref q7])), (r1, .inl (c1, 120, .inl s1)), (r2, .inl (c2, 124, .inl s2)), (jT, .inr (8, [.ref t0, .int (nI (kt))])), (t0, .inl (cC, 120, .inl gT))]) hP hD hS hA [0, 1, 2, 3, 4] rfl (by decide) rfl
  have hKc := hK.sb (tys2 := [(c1, .int), (c2, .int), (cC, .char)]) [0, 1, 2] rfl
  refine va_calli (va_runV (As := []) (rest := [.ref q6]) ⟨hx, hb, hml, hown, hts⟩ (s_look4x l dC dI jT t0 cC gT kt (by omega) hgT bt hbt hb8 jR r1 r2 c1 c2 s1 s2 wr fi q6 q7 (by omega) (by omega) pn (by omega) s.heap.size) (cwV 0 hts (kG (List.forall_mem_cons.mpr ⟨(List.mem_cons_of_mem _ (List.mem_append_left _ (List.mem_of_getElem? (i := 3) rfl))), (List.forall_mem_cons.mpr ⟨(List.mem_cons_of_mem _ (List.mem_append_left _ (List.mem_of_getElem? (i := 2) rfl))), (List.forall_mem_cons.mpr ⟨(List.mem_cons_of_mem _ (List.mem_append_left _ (List.mem_of_getElem? (i := 1) rfl))), (List.forall_mem_cons.mpr ⟨(List.mem_cons_of_mem _ (List.mem_append_left _ (List.mem_of_getElem? (i := 0) rfl))), (fun _ h => absurd h List.not_mem_nil)⟩)⟩)⟩)⟩) (kGV _ _ _ _) (fun _ h => List.mem_cons_of_mem _ (List.mem_append_right _ (List.mem_append_left _ h))) gw_s_look4x) rfl rfl rfl ⟨rfl, hd_X4_look⟩ ⟨(Nat.le_of_ble_eq_true rfl), (Nat.le_of_ble_eq_true rfl)⟩) (kW_V kT_blind kT_give (va_recv hKc hPc (ci := 4) (q0 := 0) rfl rfl) hPc hKc hDc) rfl rfl hl.1 rfl (lv_room (Nat.le_of_ble_eq_true rfl)) dX4_readClause_5 ⟨(Nat.le_of_ble_eq_true rfl), (Nat.le_of_ble_eq_true rfl)⟩) hS (fun q _ h => hFc q h) hFc (fun r_1 u t H1 locs ht hvm hw hB hz1 hk1 hS => ?_)
  obtain ⟨Pn_2, ch_3⟩ := u
  obtain ⟨hP1, hK1, hD1⟩ := hB
  rw [ht] at hP1
  try dsimp only at hw
  obtain ⟨hP, hD⟩ : kPD dC dI A [(jR, .inr (4, [.ref jT, .ref r1, .ref r2, .int (nI (wr)), .int (nI (fi)), .int (nI (Pn_2)), .ref q6, .ref q7])), (r1, .inl (c1, 120, .inl s1)), (r2, .inl (c2, 124, .inl s2)), (jT, .inr (8, [.ref t0, .int (nI (kt))])), (t0, .inl (cC, 120, .inl gT))] H1 := kJoinI hP hD [0, 1, 2, 3, 4] rfl hk1 hFc hP1 hD1 rfl [some 0, some 1, some 2, some 3, some 4] rfl rfl
  generalize H1 = H at hP hS ⊢
  obtain ⟨rfl, hw_4_0, hw_4_1, hw_4_2, hw_4_3, hw_4_4, hw_4_5, hw_4_6⟩ := hw
  have hPc := hP.sb (ws2 := []) [] rfl
  have hKc := hK.sb (tys2 := []) [] rfl
  refine vp_callSi (va_runV (As := [.int (nI (ch_3))]) (rest := []) ⟨hx, hb, hml, hown, hts⟩ (s_t_ixx l dC dI q6 b6 n6 g6 (by omega) A gn6 ch_3 (by omega)) (cwV 1 hts (kG (List.forall_mem_cons.mpr ⟨(List.mem_cons_of_mem _ (List.mem_append_left _ (List.mem_of_getElem? (i := 10) rfl))), (List.forall_mem_cons.mpr ⟨(List.mem_cons_of_mem _ (List.mem_append_left _ (List.mem_of_getElem? (i := 9) rfl))), (List.forall_mem_cons.mpr ⟨(List.mem_cons_of_mem _ (List.mem_append_left _ (List.mem_of_getElem? (i := 8) rfl))), (List.forall_mem_cons.mpr ⟨(List.mem_cons_of_mem _ (List.mem_append_left _ (List.mem_of_getElem? (i := 7) rfl))), (fun _ h => absurd h List.not_mem_nil)⟩)⟩)⟩)⟩) (kGV _ _ _ _) (fun _ h => List.mem_cons_of_mem _ (List.mem_append_right _ (List.mem_append_right _ (List.mem_append_right _ (List.mem_append_right _ (List.mem_append_left _ h)))))) gw_s_t_ixx) rfl rfl rfl ⟨rfl, hd_J0_indexOf_0f7a4⟩ ⟨(Nat.le_of_ble_eq_true rfl), (Nat.le_of_ble_eq_true rfl)⟩) (kR_V kSt_blind (kSt_give hX.1 hS) (kSt_recv hX.1 hS) hPc hKc) rfl rfl hl.1 rfl (lv_room (Nat.le_of_ble_eq_true rfl)) dX4_readClause_8 ⟨(Nat.le_of_ble_eq_true rfl), (Nat.le_of_ble_eq_true rfl)⟩).run (fun r_5 hw => ?_)
  have hw_6 := hw
  rcases hw_6 with ⟨rfl, hj_8⟩ | ⟨j_7, hj_8_1, rfl, hj_8⟩
  · refine lv_istore_n hx hb dX4_readClause_11 rfl hl (by decide) (kTo [(1, .int (-1)), (0, .ref jR)]) (fun ls hl => ?_)
    refine lv_iload_n hx hb dX4_readClause_12 rfl (lv_at hl 0 rfl) ?_
    refine lv_if_ge (tgt := 18) hx hb dX4_readClause_13 (by decide) (fun c_9 => absurd c_9 (by decide)) (fun c_9 => ?_)
    refine lv_iconst (v := 0) hx hb dX4_readClause_16 (by decide) ?_
    have hP9 := hP
    have hD9 := hD
    have hK9 := hK
    rw [hQ]
    exact W.zret (v := 0) hx hb hr rfl (fun t ht hW => ⟨⟨0, (s1, s2, wr, fi, Pn_2, false, ([]), 0, 0), rfl, ⟨rfl, (by unfold kCla; rw [← hw_4_0, ← hw_4_1]; rw [if_neg (by omega)]), by omega, by omega, by omega, fun z => absurd z (by decide)⟩,  by rw [ht]; exact hP9, va_K.moved hW.alike hK9, hD9⟩, hS.F ht⟩) hS.2.2 dX4_readClause_17
  · have hlt9 : Pn_2 < kt := by rcases (show ch_3 = 0 ∨ Pn_2 < kt by assumption) with z | z; (exfalso; rw [z, hz6] at hj_8; omega); exact z
    refine lv_istore_n hx hb dX4_readClause_11 rfl hl (by decide) (kTo [(1, .int (nI (j_7))), (0, .ref jR)]) (fun ls hl => ?_)
    refine lv_iload_n hx hb dX4_readClause_12 rfl (lv_at hl 0 rfl) ?_
    refine lv_if_ge (tgt := 18) hx hb dX4_readClause_13 (by decide) (fun c_10 => ?_) (fun c_10 => absurd (nI_pos' (n := j_7) (by omega)) c_10)
    refine lv_aload_n hx hb dX4_readClause_18 rfl (lv_at hl 1 rfl) ?_
    refine lv_dup hx hb dX4_readClause_19 rfl ?_
    refine va_get (D := (dC, dI)) (ci := 4) (v := .int (nI (Pn_2))) (C := RX4) (T := TX4) (N := 8) hx hb hts (fun _ h => List.mem_cons_of_mem _ (List.mem_append_right _ (List.mem_append_right _ (List.mem_append_right _ (List.mem_append_left _ h))))) hown hK hP 0 rfl rfl 5 (by decide) (hts (.fieldLink RX4 25 "NotEnded$Reader" "place" "I") (List.mem_cons_of_mem _ (List.mem_append_left _ (List.mem_of_getElem? (i := 11) rfl)))) (fun _ h9 => h9) rfl dX4_readClause_20 ?_
    refine lv_iconst (v := 1) hx hb dX4_readClause_23 (by decide) ?_
    refine lv_iadd hx hb dX4_readClause_24 ?_
    refine lv_topi (fun y_11 ey_11 => ?_)
    obtain rfl : y_11 = nI (Pn_2 + 1) := ey_11.trans (nI_add (Pn_2) (1))
    refine va_put (D := (dC, dI)) (ci := 4) (v := .int (nI (Pn_2 + 1))) (ty := tyX4 5) (C := RX4) (T := TX4) (N := 8) hx hb hts (fun _ h => List.mem_cons_of_mem _ (List.mem_append_right _ (List.mem_append_right _ (List.mem_append_right _ (List.mem_append_left _ h))))) tyX4 tyX4_ok nmX4 hown hK hP hD hS 0 rfl rfl 5 (by decide) (hts (.fieldLink RX4 25 "NotEnded$Reader" "place" "I") (List.mem_cons_of_mem _ (List.mem_append_left _ (List.mem_of_getElem? (i := 11) rfl)))) (fun _ h9 => h9) rfl (tyX4_ok 5 (by decide)) rfl rfl (Nat.le_of_ble_eq_true rfl) dX4_readClause_25 (fun H locs hP hD hS => ?_)
    obtain ⟨hP, hD⟩ : kPD dC dI A [(jR, .inr (4, [.ref jT, .ref r1, .ref r2, .int (nI (wr)), .int (nI (fi)), .int (nI (Pn_2 + 1)), .ref q6, .ref q7])), (r1, .inl (c1, 120, .inl s1)), (r2, .inl (c2, 124, .inl s2)), (jT, .inr (8, [.ref t0, .int (nI (kt))])), (t0, .inl (cC, 120, .inl gT))] H := ⟨hP, hD⟩
    refine lv_aload_n hx hb dX4_readClause_28 rfl (lv_at hl 1 rfl) ?_
    refine lv_bipush (v := 58) hx hb dX4_readClause_29 (by decide) ?_
    obtain ⟨hPc, hDc, hFc⟩ := kCut (wc := [(jR, .inr (4, [.ref jT, .ref r1, .ref r2, .int (nI (wr)), .int (nI (fi)), .int (nI (Pn_2 + 1)), .ref q6, .ref q7])), (r1, .inl (c1, 120, .inl s1)), (r2, .inl (c2, 124, .inl s2)), (jT, .inr (8, [.ref t0, .int (nI (kt))])), (t0, .inl (cC, 120, .inl gT))]) hP hD hS hA [0, 1, 2, 3, 4] rfl (by decide) rfl
    have hKc := hK.sb (tys2 := [(c1, .int), (c2, .int), (cC, .char)]) [0, 1, 2] rfl
    refine va_calli (va_runV (As := [.int 58]) (rest := []) ⟨hx, hb, hml, hown, hts⟩ (s_take4_58 l dC dI jT t0 cC gT kt (by omega) hgT bt hbt hb8 jR r1 r2 c1 c2 s1 s2 wr fi q6 q7 (by omega) (by omega) (Pn_2 + 1) (by omega) H.size) (cwV 1 hts (kG (List.forall_mem_cons.mpr ⟨(List.mem_cons_of_mem _ (List.mem_append_left _ (List.mem_of_getElem? (i := 45) rfl))), (List.forall_mem_cons.mpr ⟨(List.mem_cons_of_mem _ (List.mem_append_left _ (List.mem_of_getElem? (i := 44) rfl))), (List.forall_mem_cons.mpr ⟨(List.mem_cons_of_mem _ (List.mem_append_left _ (List.mem_of_getElem? (i := 43) rfl))), (List.forall_mem_cons.mpr ⟨(List.mem_cons_of_mem _ (List.mem_append_left _ (List.mem_of_getElem? (i := 0) rfl))), (fun _ h => absurd h List.not_mem_nil)⟩)⟩)⟩)⟩) (kGV _ _ _ _) (fun _ h => List.mem_cons_of_mem _ (List.mem_append_right _ (List.mem_append_right _ (List.mem_append_right _ (List.mem_append_right _ (List.mem_append_right _ (List.mem_append_right _ (List.mem_append_right _ (List.mem_append_right _ (List.mem_append_right _ (List.mem_append_right _ (List.mem_append_right _ (List.mem_append_right _ (List.mem_append_right _ (List.mem_append_right _ (List.mem_append_right _ (List.mem_append_right _ (List.mem_append_right _ (List.mem_append_left _ h))))))))))))))))))) gw_s_take4_58) rfl rfl rfl ⟨rfl, hd_X4_take⟩ ⟨(Nat.le_of_ble_eq_true rfl), (Nat.le_of_ble_eq_true rfl)⟩) (kW_V kT_blind kT_give (va_recv hKc hPc (ci := 4) (q0 := 0) rfl rfl) hPc hKc hDc) rfl rfl hl.1 rfl (lv_room (Nat.le_of_ble_eq_true rfl)) dX4_readClause_31 ⟨(Nat.le_of_ble_eq_true rfl), (Nat.le_of_ble_eq_true rfl)⟩) hS (fun q _ h => hFc q h) hFc (fun r_12 u t H1 locs ht hvm hw hB hz1 hk1 hS => ?_)
    obtain ⟨Pn_13, xo_14⟩ := u
    obtain ⟨hP1, hK1, hD1⟩ := hB
    rw [ht] at hP1
    try dsimp only at hw
    obtain ⟨hP, hD⟩ : kPD dC dI A [(jR, .inr (4, [.ref jT, .ref r1, .ref r2, .int (nI (wr)), .int (nI (fi)), .int (nI (Pn_13)), .ref q6, .ref q7])), (r1, .inl (c1, 120, .inl s1)), (r2, .inl (c2, 124, .inl s2)), (jT, .inr (8, [.ref t0, .int (nI (kt))])), (t0, .inl (cC, 120, .inl gT))] H1 := kJoinI hP hD [0, 1, 2, 3, 4] rfl hk1 hFc hP1 hD1 rfl [some 0, some 1, some 2, some 3, some 4] rfl rfl
    generalize H1 = H at hP hS ⊢
    have hw_15 := hw
    refine lv_if_ne (tgt := 39) hx hb dX4_readClause_34 (by decide) (fun c_16 => ?_) (fun c_16 => ?_)
    · obtain rfl : xo_14 = true := kBo_t (kNz9 hw_15.1 c_16)
      have hw_15_p := hw_15.2.2.2.2 rfl
      have hw_15_k := hw_15.2.2.2.1
      refine lv_aload_n hx hb dX4_readClause_39 rfl (lv_at hl 1 rfl) ?_
      refine va_get (D := (dC, dI)) (ci := 4) (v := .int (nI (wr))) (C := RX4) (T := TX4) (N := 8) hx hb hts (fun _ h => List.mem_cons_of_mem _ (List.mem_append_right _ (List.mem_append_right _ (List.mem_append_right _ (List.mem_append_left _ h))))) hown hK hP 0 rfl rfl 3 (by decide) (hts (.fieldLink RX4 18 "NotEnded$Reader" "written" "I") (List.mem_cons_of_mem _ (List.mem_append_left _ (List.mem_of_getElem? (i := 51) rfl)))) (fun _ h9 => h9) rfl dX4_readClause_40 ?_
      refine lv_istore_n hx hb dX4_readClause_43 rfl hl (by decide) (kTo [(2, .int (nI (wr))), (1, .int (nI (j_7))), (0, .ref jR)]) (fun ls hl => ?_)
      refine lv_aload_n hx hb dX4_readClause_44 rfl (lv_at hl 2 rfl) ?_
      obtain ⟨hPc, hDc, hFc⟩ := kCut (wc := [(jR, .inr (4, [.ref jT, .ref r1, .ref r2, .int (nI (wr)), .int (nI (fi)), .int (nI (Pn_13)), .ref q6, .ref q7])), (r1, .inl (c1, 120, .inl s1)), (r2, .inl (c2, 124, .inl s2)), (jT, .inr (8, [.ref t0, .int (nI (kt))])), (t0, .inl (cC, 120, .inl gT))]) hP hD hS hA [0, 1, 2, 3, 4] rfl (by decide) rfl
      have hKc := hK.sb (tys2 := [(c1, .int), (c2, .int), (cC, .char)]) [0, 1, 2] rfl
      refine va_calli (va_runV (As := []) (rest := []) ⟨hx, hb, hml, hown, hts⟩ (s_look4x l dC dI jT t0 cC gT kt (by omega) hgT bt hbt hb8 jR r1 r2 c1 c2 s1 s2 wr fi q6 q7 (by omega) (by omega) Pn_13 (by omega) H.size) (cwV 0 hts (kG (List.forall_mem_cons.mpr ⟨(List.mem_cons_of_mem _ (List.mem_append_left _ (List.mem_of_getElem? (i := 3) rfl))), (List.forall_mem_cons.mpr ⟨(List.mem_cons_of_mem _ (List.mem_append_left _ (List.mem_of_getElem? (i := 2) rfl))), (List.forall_mem_cons.mpr ⟨(List.mem_cons_of_mem _ (List.mem_append_left _ (List.mem_of_getElem? (i := 1) rfl))), (List.forall_mem_cons.mpr ⟨(List.mem_cons_of_mem _ (List.mem_append_left _ (List.mem_of_getElem? (i := 0) rfl))), (fun _ h => absurd h List.not_mem_nil)⟩)⟩)⟩)⟩) (kGV _ _ _ _) (fun _ h => List.mem_cons_of_mem _ (List.mem_append_right _ (List.mem_append_left _ h))) gw_s_look4x) rfl rfl rfl ⟨rfl, hd_X4_look⟩ ⟨(Nat.le_of_ble_eq_true rfl), (Nat.le_of_ble_eq_true rfl)⟩) (kW_V kT_blind kT_give (va_recv hKc hPc (ci := 4) (q0 := 0) rfl rfl) hPc hKc hDc) rfl rfl hl.1 rfl (lv_room (Nat.le_of_ble_eq_true rfl)) dX4_readClause_45 ⟨(Nat.le_of_ble_eq_true rfl), (Nat.le_of_ble_eq_true rfl)⟩) hS (fun q _ h => hFc q h) hFc (fun r_17 u t H1 locs ht hvm hw hB hz1 hk1 hS => ?_)
      obtain ⟨Pn_18, ch_19⟩ := u
      obtain ⟨hP1, hK1, hD1⟩ := hB
      rw [ht] at hP1
      try dsimp only at hw
      obtain ⟨hP, hD⟩ : kPD dC dI A [(jR, .inr (4, [.ref jT, .ref r1, .ref r2, .int (nI (wr)), .int (nI (fi)), .int (nI (Pn_18)), .ref q6, .ref q7])), (r1, .inl (c1, 120, .inl s1)), (r2, .inl (c2, 124, .inl s2)), (jT, .inr (8, [.ref t0, .int (nI (kt))])), (t0, .inl (cC, 120, .inl gT))] H1 := kJoinI hP hD [0, 1, 2, 3, 4] rfl hk1 hFc hP1 hD1 rfl [some 0, some 1, some 2, some 3, some 4] rfl rfl
      generalize H1 = H at hP hS ⊢
      obtain ⟨rfl, hw_20_0, hw_20_1, hw_20_2, hw_20_3, hw_20_4, hw_20_5, hw_20_6⟩ := hw
      refine lv_bipush (v := 33) hx hb dX4_readClause_48 (by decide) ?_
      refine lv_icmp_eq (tgt := 62) hx hb dX4_readClause_50 (by decide) (fun c_21 => ?_) (fun c_21 => ?_)
      · have hn_22 := keq (a := ch_19) (b := 33) (by omega) (by omega) c_21
        refine lv_iconst (v := 1) hx hb dX4_readClause_62 (by decide) ?_
        refine lv_goto (tgt := 67) hx hb dX4_readClause_63 (by decide) ?_
        refine lv_istore_n hx hb dX4_readClause_67 rfl hl (by decide) (kTo [(3, .int 1), (2, .int (nI (wr))), (1, .int (nI (j_7))), (0, .ref jR)]) (fun ls hl => ?_)
        refine lv_iload_n hx hb dX4_readClause_68 rfl (lv_at hl 0 rfl) ?_
        refine lv_if_ne (tgt := 100) hx hb dX4_readClause_69 (by decide) (fun c_23 => ?_) (fun c_23 => absurd c_23 (by decide))
        refine lv_aload_n hx hb dX4_readClause_100 rfl (lv_at hl 3 rfl) ?_
        refine lv_iconst (v := 0) hx hb dX4_readClause_101 (by decide) ?_
        refine lv_iload_n hx hb dX4_readClause_102 rfl (lv_at hl 0 rfl) ?_
        refine lv_if_ne (tgt := 110) hx hb dX4_readClause_103 (by decide) (fun c_24 => ?_) (fun c_24 => absurd c_24 (by decide))
        refine lv_iconst (v := 0) hx hb dX4_readClause_110 (by decide) ?_
        obtain ⟨hPc, hDc, hFc⟩ := kCut (wc := [(jR, .inr (4, [.ref jT, .ref r1, .ref r2, .int (nI (wr)), .int (nI (fi)), .int (nI (Pn_18)), .ref q6, .ref q7])), (r1, .inl (c1, 120, .inl s1)), (r2, .inl (c2, 124, .inl s2)), (jT, .inr (8, [.ref t0, .int (nI (kt))])), (t0, .inl (cC, 120, .inl gT))]) hP hD hS hA [0, 1, 2, 3, 4] rfl (by decide) rfl
        have hKc := hK.sb (tys2 := [(c1, .int), (c2, .int), (cC, .char)]) [0, 1, 2] rfl
        refine va_calli (va_runV (As := [.int 0, .int 0]) (rest := []) ⟨hx, hb, hml, hown, hts⟩ (s_cond4x_0_0 l dC dI jT t0 cC gT kt (by omega) hgT bt hbt hb8 jR r1 r2 c1 c2 s1 s2 wr fi q6 q7 (by omega) (by omega) Pn_18 (by omega) (by omega) b6 n6 g6 (by omega) b7 n7 g7 (by omega) gn6 hz6 gn7 hz7 H.size) (cwV 2 hts (kG (List.forall_mem_cons.mpr ⟨(List.mem_cons_of_mem _ (List.mem_append_left _ (List.mem_of_getElem? (i := 49) rfl))), (List.forall_mem_cons.mpr ⟨(List.mem_cons_of_mem _ (List.mem_append_left _ (List.mem_of_getElem? (i := 48) rfl))), (List.forall_mem_cons.mpr ⟨(List.mem_cons_of_mem _ (List.mem_append_left _ (List.mem_of_getElem? (i := 47) rfl))), (List.forall_mem_cons.mpr ⟨(List.mem_cons_of_mem _ (List.mem_append_left _ (List.mem_of_getElem? (i := 0) rfl))), (fun _ h => absurd h List.not_mem_nil)⟩)⟩)⟩)⟩) (kGV _ _ _ _) (kFam (List.mem_cons_of_mem _ (List.mem_append_left _ (List.mem_of_getElem? (i := 46) rfl)))) gw_s_cond4x_0_0) rfl rfl rfl ⟨rfl, hd_X4_readCondition⟩ ⟨(Nat.le_of_ble_eq_true rfl), (Nat.le_of_ble_eq_true rfl)⟩) (kW_V kS2_blind (kS2_give hX hS hFc) (va_recv hKc hPc (ci := 4) (q0 := 0) rfl rfl) hPc hKc hDc) rfl rfl hl.1 rfl (lv_room (Nat.le_of_ble_eq_true rfl)) dX4_readClause_111 ⟨(Nat.le_of_ble_eq_true rfl), (Nat.le_of_ble_eq_true rfl)⟩) hS (fun q _ h => hFc q h) hFc (fun r_25 u t H1 locs ht hvm hw hB hz1 hk1 hS => ?_)
        obtain ⟨S1_26, Wr_27, Pn_28, xo_29, xl_30⟩ := u
        obtain ⟨hP1, hK1, hD1⟩ := hB
        rw [ht] at hP1
        try dsimp only at hw
        obtain ⟨hP, hD⟩ : kPD dC dI A [(jR, .inr (4, [.ref jT, .ref r1, .ref r2, .int (nI (Wr_27)), .int (nI (fi)), .int (nI (Pn_28)), .ref q6, .ref q7])), (r1, .inl (c1, 120, .inl S1_26)), (r2, .inl (c2, 124, .inl s2)), (jT, .inr (8, [.ref t0, .int (nI (kt))])), (t0, .inl (cC, 120, .inl gT))] H1 := kJoinI hP hD [0, 1, 2, 3, 4] rfl hk1 hFc hP1 hD1 rfl [some 0, some 1, some 2, some 3, some 4] rfl rfl
        generalize H1 = H at hP hS ⊢
        have hw_31 := hw
        refine lv_if_ne (tgt := 119) hx hb dX4_readClause_114 (by decide) (fun c_32 => ?_) (fun c_32 => ?_)
        · obtain rfl : xo_29 = true := kBo_t (kNz9 hw_31.1 c_32)
          obtain ⟨hw_31_W, hw_31_S, hw_31_l, hw_31_p⟩ := hw_31.2.1.2.2 rfl
          have hw_31_k := hw_31.2.1.2.1
          refine lv_aload_n hx hb dX4_readClause_119 rfl (lv_at hl 3 rfl) ?_
          refine va_get (D := (dC, dI)) (ci := 4) (v := .int (nI (Wr_27))) (C := RX4) (T := TX4) (N := 8) hx hb hts (fun _ h => List.mem_cons_of_mem _ (List.mem_append_right _ (List.mem_append_right _ (List.mem_append_right _ (List.mem_append_left _ h))))) hown hK hP 0 rfl rfl 3 (by decide) (hts (.fieldLink RX4 18 "NotEnded$Reader" "written" "I") (List.mem_cons_of_mem _ (List.mem_append_left _ (List.mem_of_getElem? (i := 51) rfl)))) (fun _ h9 => h9) rfl dX4_readClause_120 ?_
          refine lv_istore hx hb dX4_readClause_123 hl (by decide) (kTo [(4, .int (nI (Wr_27))), (3, .int 1), (2, .int (nI (wr))), (1, .int (nI (j_7))), (0, .ref jR)]) (fun ls hl => ?_)
          refine lv_aload_n hx hb dX4_readClause_125 rfl (lv_at hl 4 rfl) ?_
          refine lv_bipush (v := 63) hx hb dX4_readClause_126 (by decide) ?_
          obtain ⟨hPc, hDc, hFc⟩ := kCut (wc := [(jR, .inr (4, [.ref jT, .ref r1, .ref r2, .int (nI (Wr_27)), .int (nI (fi)), .int (nI (Pn_28)), .ref q6, .ref q7])), (r1, .inl (c1, 120, .inl S1_26)), (r2, .inl (c2, 124, .inl s2)), (jT, .inr (8, [.ref t0, .int (nI (kt))])), (t0, .inl (cC, 120, .inl gT))]) hP hD hS hA [0, 1, 2, 3, 4] rfl (by decide) rfl
          have hKc := hK.sb (tys2 := [(c1, .int), (c2, .int), (cC, .char)]) [0, 1, 2] rfl
          refine va_calli (va_runV (As := [.int 63]) (rest := []) ⟨hx, hb, hml, hown, hts⟩ (s_take4_63 l dC dI jT t0 cC gT kt (by omega) hgT bt hbt hb8 jR r1 r2 c1 c2 S1_26 s2 Wr_27 fi q6 q7 (by omega) (by omega) Pn_28 (by omega) H.size) (cwV 1 hts (kG (List.forall_mem_cons.mpr ⟨(List.mem_cons_of_mem _ (List.mem_append_left _ (List.mem_of_getElem? (i := 45) rfl))), (List.forall_mem_cons.mpr ⟨(List.mem_cons_of_mem _ (List.mem_append_left _ (List.mem_of_getElem? (i := 44) rfl))), (List.forall_mem_cons.mpr ⟨(List.mem_cons_of_mem _ (List.mem_append_left _ (List.mem_of_getElem? (i := 43) rfl))), (List.forall_mem_cons.mpr ⟨(List.mem_cons_of_mem _ (List.mem_append_left _ (List.mem_of_getElem? (i := 0) rfl))), (fun _ h => absurd h List.not_mem_nil)⟩)⟩)⟩)⟩) (kGV _ _ _ _) (fun _ h => List.mem_cons_of_mem _ (List.mem_append_right _ (List.mem_append_right _ (List.mem_append_right _ (List.mem_append_right _ (List.mem_append_right _ (List.mem_append_right _ (List.mem_append_right _ (List.mem_append_right _ (List.mem_append_right _ (List.mem_append_right _ (List.mem_append_right _ (List.mem_append_right _ (List.mem_append_right _ (List.mem_append_right _ (List.mem_append_right _ (List.mem_append_right _ (List.mem_append_right _ (List.mem_append_right _ (List.mem_append_left _ h)))))))))))))))))))) gw_s_take4_63) rfl rfl rfl ⟨rfl, hd_X4_take⟩ ⟨(Nat.le_of_ble_eq_true rfl), (Nat.le_of_ble_eq_true rfl)⟩) (kW_V kT_blind kT_give (va_recv hKc hPc (ci := 4) (q0 := 0) rfl rfl) hPc hKc hDc) rfl rfl hl.1 rfl (lv_room (Nat.le_of_ble_eq_true rfl)) dX4_readClause_128 ⟨(Nat.le_of_ble_eq_true rfl), (Nat.le_of_ble_eq_true rfl)⟩) hS (fun q _ h => hFc q h) hFc (fun r_33 u t H1 locs ht hvm hw hB hz1 hk1 hS => ?_)
          obtain ⟨Pn_34, xo_35⟩ := u
          obtain ⟨hP1, hK1, hD1⟩ := hB
          rw [ht] at hP1
          try dsimp only at hw
          obtain ⟨hP, hD⟩ : kPD dC dI A [(jR, .inr (4, [.ref jT, .ref r1, .ref r2, .int (nI (Wr_27)), .int (nI (fi)), .int (nI (Pn_34)), .ref q6, .ref q7])), (r1, .inl (c1, 120, .inl S1_26)), (r2, .inl (c2, 124, .inl s2)), (jT, .inr (8, [.ref t0, .int (nI (kt))])), (t0, .inl (cC, 120, .inl gT))] H1 := kJoinI hP hD [0, 1, 2, 3, 4] rfl hk1 hFc hP1 hD1 rfl [some 0, some 1, some 2, some 3, some 4] rfl rfl
          generalize H1 = H at hP hS ⊢
          have hw_36 := hw
          refine lv_if_eq (tgt := 157) hx hb dX4_readClause_131 (by decide) (fun c_37 => ?_) (fun c_37 => ?_)
          · obtain rfl : xo_35 = false := kBo_f (kZr9 hw_36.1 c_37)
            have hw_36_k := hw_36.2.2.2.1
            refine lv_iconst (v := 0) hx hb dX4_readClause_157 (by decide) ?_
            have hP9 := hP
            have hD9 := hD
            have hK9 := hK
            rw [hQ]
            exact W.zret (v := 0) hx hb hr rfl (fun t ht hW => ⟨⟨0, (S1_26, s2, Wr_27, fi, Pn_34, false, ([]), 0, 0), rfl, ⟨rfl, (by unfold kCla; rw [← hw_4_0, ← hw_4_1]; rw [hj_8, if_pos (by omega), hw_15.2.1, kThC_t]; unfold kCla1; rw [← hw_20_0, ← hw_20_1, if_pos (by omega), hw_31.2.1.1, kThC_t]; unfold kCla2; rw [hw_36.2.1]; rfl), by omega, by omega, by omega, fun z => absurd z (by decide)⟩,  by rw [ht]; exact hP9, va_K.moved hW.alike hK9, hD9⟩, hS.F ht⟩) hS.2.2 dX4_readClause_158
          · obtain rfl : xo_35 = true := kBo_t (kNz9 hw_36.1 c_37)
            have hw_36_p := hw_36.2.2.2.2 rfl
            have hw_36_k := hw_36.2.2.2.1
            refine lv_aload_n hx hb dX4_readClause_134 rfl (lv_at hl 4 rfl) ?_
            refine lv_iconst (v := 0) hx hb dX4_readClause_135 (by decide) ?_
            obtain ⟨hPc, hDc, hFc⟩ := kCut (wc := [(jR, .inr (4, [.ref jT, .ref r1, .ref r2, .int (nI (Wr_27)), .int (nI (fi)), .int (nI (Pn_34)), .ref q6, .ref q7])), (r1, .inl (c1, 120, .inl S1_26)), (r2, .inl (c2, 124, .inl s2)), (jT, .inr (8, [.ref t0, .int (nI (kt))])), (t0, .inl (cC, 120, .inl gT))]) hP hD hS hA [0, 1, 2, 3, 4] rfl (by decide) rfl
            have hKc := hK.sb (tys2 := [(c1, .int), (c2, .int), (cC, .char)]) [0, 1, 2] rfl
            refine va_calli (va_runV (As := [.int 0]) (rest := []) ⟨hx, hb, hml, hown, hts⟩ (s_sum4x_0 l dC dI jT t0 cC gT kt (by omega) hgT bt hbt hb8 jR r1 r2 c1 c2 S1_26 s2 Wr_27 fi q6 q7 (by omega) (by omega) Pn_34 (by omega) (by omega) b6 n6 g6 (by omega) b7 n7 g7 (by omega) gn6 hz6 gn7 hz7 H.size) (cwV 1 hts (kG (List.forall_mem_cons.mpr ⟨(List.mem_cons_of_mem _ (List.mem_append_left _ (List.mem_of_getElem? (i := 32) rfl))), (List.forall_mem_cons.mpr ⟨(List.mem_cons_of_mem _ (List.mem_append_left _ (List.mem_of_getElem? (i := 31) rfl))), (List.forall_mem_cons.mpr ⟨(List.mem_cons_of_mem _ (List.mem_append_left _ (List.mem_of_getElem? (i := 30) rfl))), (List.forall_mem_cons.mpr ⟨(List.mem_cons_of_mem _ (List.mem_append_left _ (List.mem_of_getElem? (i := 0) rfl))), (fun _ h => absurd h List.not_mem_nil)⟩)⟩)⟩)⟩) (kGV _ _ _ _) (kFam (List.mem_cons_of_mem _ (List.mem_append_left _ (List.mem_of_getElem? (i := 29) rfl)))) gw_s_sum4x_0) rfl rfl rfl ⟨rfl, hd_X4_readSum⟩ ⟨(Nat.le_of_ble_eq_true rfl), (Nat.le_of_ble_eq_true rfl)⟩) (kW_V kS2_blind (kS2_give hX hS hFc) (va_recv hKc hPc (ci := 4) (q0 := 0) rfl rfl) hPc hKc hDc) rfl rfl hl.1 rfl (lv_room (Nat.le_of_ble_eq_true rfl)) dX4_readClause_136 ⟨(Nat.le_of_ble_eq_true rfl), (Nat.le_of_ble_eq_true rfl)⟩) hS (fun q _ h => hFc q h) hFc (fun r_38 u t H1 locs ht hvm hw hB hz1 hk1 hS => ?_)
            obtain ⟨S1_39, Wr_40, Pn_41, xo_42, xl_43⟩ := u
            obtain ⟨hP1, hK1, hD1⟩ := hB
            rw [ht] at hP1
            try dsimp only at hw
            obtain ⟨hP, hD⟩ : kPD dC dI A [(jR, .inr (4, [.ref jT, .ref r1, .ref r2, .int (nI (Wr_40)), .int (nI (fi)), .int (nI (Pn_41)), .ref q6, .ref q7])), (r1, .inl (c1, 120, .inl S1_39)), (r2, .inl (c2, 124, .inl s2)), (jT, .inr (8, [.ref t0, .int (nI (kt))])), (t0, .inl (cC, 120, .inl gT))] H1 := kJoinI hP hD [0, 1, 2, 3, 4] rfl hk1 hFc hP1 hD1 rfl [some 0, some 1, some 2, some 3, some 4] rfl rfl
            generalize H1 = H at hP hS ⊢
            have hw_44 := hw
            refine lv_if_eq (tgt := 157) hx hb dX4_readClause_139 (by decide) (fun c_45 => ?_) (fun c_45 => ?_)
            · obtain rfl : xo_42 = false := kBo_f (kZr9 hw_44.1 c_45)
              have hw_44_k := hw_44.2.1.2.1
              refine lv_iconst (v := 0) hx hb dX4_readClause_157 (by decide) ?_
              have hP9 := hP
              have hD9 := hD
              have hK9 := hK
              rw [hQ]
              exact W.zret (v := 0) hx hb hr rfl (fun t ht hW => ⟨⟨0, (S1_39, s2, Wr_40, fi, Pn_41, false, ([]), 0, 0), rfl, ⟨rfl, (by unfold kCla; rw [← hw_4_0, ← hw_4_1]; rw [hj_8, if_pos (by omega), hw_15.2.1, kThC_t]; unfold kCla1; rw [← hw_20_0, ← hw_20_1, if_pos (by omega), hw_31.2.1.1, kThC_t]; unfold kCla2; rw [hw_36.2.1, kThC_t, hw_44.2.1.1]; rfl), by omega, by omega, by omega, fun z => absurd z (by decide)⟩,  by rw [ht]; exact hP9, va_K.moved hW.alike hK9, hD9⟩, hS.F ht⟩) hS.2.2 dX4_readClause_158
            · obtain rfl : xo_42 = true := kBo_t (kNz9 hw_44.1 c_45)
              obtain ⟨hw_44_W, hw_44_S, hw_44_l, hw_44_p⟩ := hw_44.2.1.2.2 rfl
              have hw_44_k := hw_44.2.1.2.1
              refine lv_aload_n hx hb dX4_readClause_142 rfl (lv_at hl 4 rfl) ?_
              refine lv_iload_n hx hb dX4_readClause_143 rfl (lv_at hl 3 rfl) ?_
              refine lv_iload_n hx hb dX4_readClause_144 rfl (lv_at hl 2 rfl) ?_
              refine lv_iload hx hb dX4_readClause_145 (lv_at hl 0 rfl) ?_
              obtain ⟨hPc, hDc, hFc⟩ := kCut (wc := [(jR, .inr (4, [.ref jT, .ref r1, .ref r2, .int (nI (Wr_40)), .int (nI (fi)), .int (nI (Pn_41)), .ref q6, .ref q7])), (r1, .inl (c1, 120, .inl S1_39)), (r2, .inl (c2, 124, .inl s2)), (jT, .inr (8, [.ref t0, .int (nI (kt))])), (t0, .inl (cC, 120, .inl gT))]) hP hD hS hA [0, 1, 2, 3, 4] rfl (by decide) rfl
              have hKc := hK.sb (tys2 := [(c1, .int), (c2, .int), (cC, .char)]) [0, 1, 2] rfl
              refine va_calli (va_runV (As := [.int (nI (j_7)), .int (nI (wr)), .int (nI (Wr_27))]) (rest := []) ⟨hx, hb, hml, hown, hts⟩ (s_keep4x l dC dI jT t0 cC gT kt (by omega) hgT bt hbt hb8 jR r1 r2 c1 c2 S1_39 s2 Wr_40 fi q6 q7 (by omega) (by omega) Pn_41 (by omega) j_7 wr Wr_27 (by omega) H.size) (cwV 3 hts (kG (List.forall_mem_cons.mpr ⟨(List.mem_cons_of_mem _ (List.mem_append_left _ (List.mem_of_getElem? (i := 54) rfl))), (List.forall_mem_cons.mpr ⟨(List.mem_cons_of_mem _ (List.mem_append_left _ (List.mem_of_getElem? (i := 53) rfl))), (List.forall_mem_cons.mpr ⟨(List.mem_cons_of_mem _ (List.mem_append_left _ (List.mem_of_getElem? (i := 52) rfl))), (List.forall_mem_cons.mpr ⟨(List.mem_cons_of_mem _ (List.mem_append_left _ (List.mem_of_getElem? (i := 0) rfl))), (fun _ h => absurd h List.not_mem_nil)⟩)⟩)⟩)⟩) (kGV _ _ _ _) (fun _ h => List.mem_cons_of_mem _ (List.mem_append_right _ (List.mem_append_right _ (List.mem_append_right _ (List.mem_append_right _ (List.mem_append_right _ (List.mem_append_right _ (List.mem_append_right _ (List.mem_append_right _ (List.mem_append_right _ (List.mem_append_right _ (List.mem_append_right _ (List.mem_append_right _ (List.mem_append_right _ (List.mem_append_right _ (List.mem_append_right _ (List.mem_append_right _ (List.mem_append_right _ (List.mem_append_right _ (List.mem_append_right _ h)))))))))))))))))))) gw_s_keep4x) rfl rfl rfl ⟨rfl, hd_X4_keepClause⟩ ⟨(Nat.le_of_ble_eq_true rfl), (Nat.le_of_ble_eq_true rfl)⟩) (kW_V kT_blind kT_give (va_recv hKc hPc (ci := 4) (q0 := 0) rfl rfl) hPc hKc hDc) rfl rfl hl.1 rfl (lv_room (Nat.le_of_ble_eq_true rfl)) dX4_readClause_147 ⟨(Nat.le_of_ble_eq_true rfl), (Nat.le_of_ble_eq_true rfl)⟩) hS (fun q _ h => hFc q h) hFc (fun r_46 u t H1 locs ht hvm hw hB hz1 hk1 hS => ?_)
              obtain ⟨S2_47, Fi_48⟩ := u
              obtain ⟨hP1, hK1, hD1⟩ := hB
              rw [ht] at hP1
              try dsimp only at hw
              obtain ⟨hP, hD⟩ : kPD dC dI A [(jR, .inr (4, [.ref jT, .ref r1, .ref r2, .int (nI (Wr_40)), .int (nI (Fi_48)), .int (nI (Pn_41)), .ref q6, .ref q7])), (r1, .inl (c1, 120, .inl S1_39)), (r2, .inl (c2, 124, .inl S2_47)), (jT, .inr (8, [.ref t0, .int (nI (kt))])), (t0, .inl (cC, 120, .inl gT))] H1 := kJoinI hP hD [0, 1, 2, 3, 4] rfl hk1 hFc hP1 hD1 rfl [some 0, some 1, some 2, some 3, some 4] rfl rfl
              generalize H1 = H at hP hS ⊢
              obtain ⟨rfl, hw_49⟩ := hw
              refine lv_if_eq (tgt := 157) hx hb dX4_readClause_150 (by decide) (fun c_50 => absurd c_50 (by decide)) (fun c_50 => ?_)
              refine lv_iconst (v := 1) hx hb dX4_readClause_153 (by decide) ?_
              refine lv_goto (tgt := 158) hx hb dX4_readClause_154 (by decide) ?_
              have hP9 := hP
              have hD9 := hD
              have hK9 := hK
              rw [hQ]
              exact W.zret (v := 1) hx hb hr rfl (fun t ht hW => ⟨⟨1, (S1_39, S2_47, Wr_40, Fi_48, Pn_41, true, (xl_30 ++ xl_43), j_7, ((xl_30).length)), rfl, ⟨rfl, (by unfold kCla; rw [← hw_4_0, ← hw_4_1]; rw [hj_8, if_pos (by omega), hw_15.2.1, kThC_t]; unfold kCla1; rw [← hw_20_0, ← hw_20_1, if_pos (by omega), hw_31.2.1.1, kThC_t]; unfold kCla2; rw [hw_36.2.1, kThC_t, hw_44.2.1.1, kThC_t]), by omega, by omega, by omega, fun _ => ⟨(by first | omega | (simp only [List.length_append]; omega)), (kWrtC hw_31_S hw_31_W hw_44_S), hw_49.1, kKeep hw_49.2 (by first | omega | (simp only [List.length_append]; omega)) (by first | omega | (simp only [List.length_append]; omega)), (by first | omega | (simp only [List.length_append]; omega)), by omega⟩⟩,  by rw [ht]; exact hP9, va_K.moved hW.alike hK9, hD9⟩, hS.F ht⟩) hS.2.2 dX4_readClause_158
        · obtain rfl : xo_29 = false := kBo_f (kZr9 hw_31.1 c_32)
          have hw_31_k := hw_31.2.1.2.1
          refine lv_iconst (v := 0) hx hb dX4_readClause_117 (by decide) ?_
          have hP9 := hP
          have hD9 := hD
          have hK9 := hK
          rw [hQ]
          exact W.zret (v := 0) hx hb hr rfl (fun t ht hW => ⟨⟨0, (S1_26, s2, Wr_27, fi, Pn_28, false, ([]), 0, 0), rfl, ⟨rfl, (by unfold kCla; rw [← hw_4_0, ← hw_4_1]; rw [hj_8, if_pos (by omega), hw_15.2.1, kThC_t]; unfold kCla1; rw [← hw_20_0, ← hw_20_1, if_pos (by omega), hw_31.2.1.1]; rfl), by omega, by omega, by omega, fun z => absurd z (by decide)⟩,  by rw [ht]; exact hP9, va_K.moved hW.alike hK9, hD9⟩, hS.F ht⟩) hS.2.2 dX4_readClause_118
      · have hn_51 := kneq (a := ch_19) (b := 33) (by omega) (by omega) c_21
        refine lv_aload_n hx hb dX4_readClause_53 rfl (lv_at hl 2 rfl) ?_
        obtain ⟨hPc, hDc, hFc⟩ := kCut (wc := [(jR, .inr (4, [.ref jT, .ref r1, .ref r2, .int (nI (wr)), .int (nI (fi)), .int (nI (Pn_18)), .ref q6, .ref q7])), (r1, .inl (c1, 120, .inl s1)), (r2, .inl (c2, 124, .inl s2)), (jT, .inr (8, [.ref t0, .int (nI (kt))])), (t0, .inl (cC, 120, .inl gT))]) hP hD hS hA [0, 1, 2, 3, 4] rfl (by decide) rfl
        have hKc := hK.sb (tys2 := [(c1, .int), (c2, .int), (cC, .char)]) [0, 1, 2] rfl
        refine va_calli (va_runV (As := []) (rest := []) ⟨hx, hb, hml, hown, hts⟩ (s_look4x l dC dI jT t0 cC gT kt (by omega) hgT bt hbt hb8 jR r1 r2 c1 c2 s1 s2 wr fi q6 q7 (by omega) (by omega) Pn_18 (by omega) H.size) (cwV 0 hts (kG (List.forall_mem_cons.mpr ⟨(List.mem_cons_of_mem _ (List.mem_append_left _ (List.mem_of_getElem? (i := 3) rfl))), (List.forall_mem_cons.mpr ⟨(List.mem_cons_of_mem _ (List.mem_append_left _ (List.mem_of_getElem? (i := 2) rfl))), (List.forall_mem_cons.mpr ⟨(List.mem_cons_of_mem _ (List.mem_append_left _ (List.mem_of_getElem? (i := 1) rfl))), (List.forall_mem_cons.mpr ⟨(List.mem_cons_of_mem _ (List.mem_append_left _ (List.mem_of_getElem? (i := 0) rfl))), (fun _ h => absurd h List.not_mem_nil)⟩)⟩)⟩)⟩) (kGV _ _ _ _) (fun _ h => List.mem_cons_of_mem _ (List.mem_append_right _ (List.mem_append_left _ h))) gw_s_look4x) rfl rfl rfl ⟨rfl, hd_X4_look⟩ ⟨(Nat.le_of_ble_eq_true rfl), (Nat.le_of_ble_eq_true rfl)⟩) (kW_V kT_blind kT_give (va_recv hKc hPc (ci := 4) (q0 := 0) rfl rfl) hPc hKc hDc) rfl rfl hl.1 rfl (lv_room (Nat.le_of_ble_eq_true rfl)) dX4_readClause_54 ⟨(Nat.le_of_ble_eq_true rfl), (Nat.le_of_ble_eq_true rfl)⟩) hS (fun q _ h => hFc q h) hFc (fun r_52 u t H1 locs ht hvm hw hB hz1 hk1 hS => ?_)
        obtain ⟨Pn_53, ch_54⟩ := u
        obtain ⟨hP1, hK1, hD1⟩ := hB
        rw [ht] at hP1
        try dsimp only at hw
        obtain ⟨hP, hD⟩ : kPD dC dI A [(jR, .inr (4, [.ref jT, .ref r1, .ref r2, .int (nI (wr)), .int (nI (fi)), .int (nI (Pn_53)), .ref q6, .ref q7])), (r1, .inl (c1, 120, .inl s1)), (r2, .inl (c2, 124, .inl s2)), (jT, .inr (8, [.ref t0, .int (nI (kt))])), (t0, .inl (cC, 120, .inl gT))] H1 := kJoinI hP hD [0, 1, 2, 3, 4] rfl hk1 hFc hP1 hD1 rfl [some 0, some 1, some 2, some 3, some 4] rfl rfl
        generalize H1 = H at hP hS ⊢
        obtain ⟨rfl, hw_55_0, hw_55_1, hw_55_2, hw_55_3, hw_55_4, hw_55_5, hw_55_6⟩ := hw
        have e9 : Pn_18 = Pn_53 := by rw [hw_55_1, hw_20_1]; exact (kSp_sp (by omega)).symm
        have e8 : ch_19 = ch_54 := by rw [hw_55_0, hw_20_0, hw_20_1]; exact (kLk_sp (by omega)).symm
        subst e9
        subst e8
        refine lv_bipush (v := 40) hx hb dX4_readClause_57 (by decide) ?_
        refine lv_icmp_ne (tgt := 66) hx hb dX4_readClause_59 (by decide) (fun c_56 => ?_) (fun c_56 => ?_)
        · have hn_57 := kneq (a := ch_19) (b := 40) (by omega) (by omega) c_56
          refine lv_iconst (v := 0) hx hb dX4_readClause_66 (by decide) ?_
          refine lv_istore_n hx hb dX4_readClause_67 rfl hl (by decide) (kTo [(3, .int 0), (2, .int (nI (wr))), (1, .int (nI (j_7))), (0, .ref jR)]) (fun ls hl => ?_)
          refine lv_iload_n hx hb dX4_readClause_68 rfl (lv_at hl 0 rfl) ?_
          refine lv_if_ne (tgt := 100) hx hb dX4_readClause_69 (by decide) (fun c_58 => absurd (by decide) c_58) (fun c_58 => ?_)
          refine lv_aload_n hx hb dX4_readClause_72 rfl (lv_at hl 3 rfl) ?_
          refine lv_iconst (v := 0) hx hb dX4_readClause_73 (by decide) ?_
          obtain ⟨hPc, hDc, hFc⟩ := kCut (wc := [(jR, .inr (4, [.ref jT, .ref r1, .ref r2, .int (nI (wr)), .int (nI (fi)), .int (nI (Pn_18)), .ref q6, .ref q7])), (r1, .inl (c1, 120, .inl s1)), (r2, .inl (c2, 124, .inl s2)), (jT, .inr (8, [.ref t0, .int (nI (kt))])), (t0, .inl (cC, 120, .inl gT))]) hP hD hS hA [0, 1, 2, 3, 4] rfl (by decide) rfl
          have hKc := hK.sb (tys2 := [(c1, .int), (c2, .int), (cC, .char)]) [0, 1, 2] rfl
          refine va_calli (va_runV (As := [.int 0]) (rest := []) ⟨hx, hb, hml, hown, hts⟩ (s_sum4x_0 l dC dI jT t0 cC gT kt (by omega) hgT bt hbt hb8 jR r1 r2 c1 c2 s1 s2 wr fi q6 q7 (by omega) (by omega) Pn_18 (by omega) (by omega) b6 n6 g6 (by omega) b7 n7 g7 (by omega) gn6 hz6 gn7 hz7 H.size) (cwV 1 hts (kG (List.forall_mem_cons.mpr ⟨(List.mem_cons_of_mem _ (List.mem_append_left _ (List.mem_of_getElem? (i := 32) rfl))), (List.forall_mem_cons.mpr ⟨(List.mem_cons_of_mem _ (List.mem_append_left _ (List.mem_of_getElem? (i := 31) rfl))), (List.forall_mem_cons.mpr ⟨(List.mem_cons_of_mem _ (List.mem_append_left _ (List.mem_of_getElem? (i := 30) rfl))), (List.forall_mem_cons.mpr ⟨(List.mem_cons_of_mem _ (List.mem_append_left _ (List.mem_of_getElem? (i := 0) rfl))), (fun _ h => absurd h List.not_mem_nil)⟩)⟩)⟩)⟩) (kGV _ _ _ _) (kFam (List.mem_cons_of_mem _ (List.mem_append_left _ (List.mem_of_getElem? (i := 29) rfl)))) gw_s_sum4x_0) rfl rfl rfl ⟨rfl, hd_X4_readSum⟩ ⟨(Nat.le_of_ble_eq_true rfl), (Nat.le_of_ble_eq_true rfl)⟩) (kW_V kS2_blind (kS2_give hX hS hFc) (va_recv hKc hPc (ci := 4) (q0 := 0) rfl rfl) hPc hKc hDc) rfl rfl hl.1 rfl (lv_room (Nat.le_of_ble_eq_true rfl)) dX4_readClause_74 ⟨(Nat.le_of_ble_eq_true rfl), (Nat.le_of_ble_eq_true rfl)⟩) hS (fun q _ h => hFc q h) hFc (fun r_59 u t H1 locs ht hvm hw hB hz1 hk1 hS => ?_)
          obtain ⟨S1_60, Wr_61, Pn_62, xo_63, xl_64⟩ := u
          obtain ⟨hP1, hK1, hD1⟩ := hB
          rw [ht] at hP1
          try dsimp only at hw
          obtain ⟨hP, hD⟩ : kPD dC dI A [(jR, .inr (4, [.ref jT, .ref r1, .ref r2, .int (nI (Wr_61)), .int (nI (fi)), .int (nI (Pn_62)), .ref q6, .ref q7])), (r1, .inl (c1, 120, .inl S1_60)), (r2, .inl (c2, 124, .inl s2)), (jT, .inr (8, [.ref t0, .int (nI (kt))])), (t0, .inl (cC, 120, .inl gT))] H1 := kJoinI hP hD [0, 1, 2, 3, 4] rfl hk1 hFc hP1 hD1 rfl [some 0, some 1, some 2, some 3, some 4] rfl rfl
          generalize H1 = H at hP hS ⊢
          have hw_65 := hw
          refine lv_if_ne (tgt := 82) hx hb dX4_readClause_77 (by decide) (fun c_66 => ?_) (fun c_66 => ?_)
          · obtain rfl : xo_63 = true := kBo_t (kNz9 hw_65.1 c_66)
            obtain ⟨hw_65_W, hw_65_S, hw_65_l, hw_65_p⟩ := hw_65.2.1.2.2 rfl
            have hw_65_k := hw_65.2.1.2.1
            refine lv_aload_n hx hb dX4_readClause_82 rfl (lv_at hl 3 rfl) ?_
            obtain ⟨hPc, hDc, hFc⟩ := kCut (wc := [(jR, .inr (4, [.ref jT, .ref r1, .ref r2, .int (nI (Wr_61)), .int (nI (fi)), .int (nI (Pn_62)), .ref q6, .ref q7])), (r1, .inl (c1, 120, .inl S1_60)), (r2, .inl (c2, 124, .inl s2)), (jT, .inr (8, [.ref t0, .int (nI (kt))])), (t0, .inl (cC, 120, .inl gT))]) hP hD hS hA [0, 1, 2, 3, 4] rfl (by decide) rfl
            have hKc := hK.sb (tys2 := [(c1, .int), (c2, .int), (cC, .char)]) [0, 1, 2] rfl
            refine va_calli (va_runV (As := []) (rest := []) ⟨hx, hb, hml, hown, hts⟩ (s_look4x l dC dI jT t0 cC gT kt (by omega) hgT bt hbt hb8 jR r1 r2 c1 c2 S1_60 s2 Wr_61 fi q6 q7 (by omega) (by omega) Pn_62 (by omega) H.size) (cwV 0 hts (kG (List.forall_mem_cons.mpr ⟨(List.mem_cons_of_mem _ (List.mem_append_left _ (List.mem_of_getElem? (i := 3) rfl))), (List.forall_mem_cons.mpr ⟨(List.mem_cons_of_mem _ (List.mem_append_left _ (List.mem_of_getElem? (i := 2) rfl))), (List.forall_mem_cons.mpr ⟨(List.mem_cons_of_mem _ (List.mem_append_left _ (List.mem_of_getElem? (i := 1) rfl))), (List.forall_mem_cons.mpr ⟨(List.mem_cons_of_mem _ (List.mem_append_left _ (List.mem_of_getElem? (i := 0) rfl))), (fun _ h => absurd h List.not_mem_nil)⟩)⟩)⟩)⟩) (kGV _ _ _ _) (fun _ h => List.mem_cons_of_mem _ (List.mem_append_right _ (List.mem_append_left _ h))) gw_s_look4x) rfl rfl rfl ⟨rfl, hd_X4_look⟩ ⟨(Nat.le_of_ble_eq_true rfl), (Nat.le_of_ble_eq_true rfl)⟩) (kW_V kT_blind kT_give (va_recv hKc hPc (ci := 4) (q0 := 0) rfl rfl) hPc hKc hDc) rfl rfl hl.1 rfl (lv_room (Nat.le_of_ble_eq_true rfl)) dX4_readClause_83 ⟨(Nat.le_of_ble_eq_true rfl), (Nat.le_of_ble_eq_true rfl)⟩) hS (fun q _ h => hFc q h) hFc (fun r_67 u t H1 locs ht hvm hw hB hz1 hk1 hS => ?_)
            obtain ⟨Pn_68, ch_69⟩ := u
            obtain ⟨hP1, hK1, hD1⟩ := hB
            rw [ht] at hP1
            try dsimp only at hw
            obtain ⟨hP, hD⟩ : kPD dC dI A [(jR, .inr (4, [.ref jT, .ref r1, .ref r2, .int (nI (Wr_61)), .int (nI (fi)), .int (nI (Pn_68)), .ref q6, .ref q7])), (r1, .inl (c1, 120, .inl S1_60)), (r2, .inl (c2, 124, .inl s2)), (jT, .inr (8, [.ref t0, .int (nI (kt))])), (t0, .inl (cC, 120, .inl gT))] H1 := kJoinI hP hD [0, 1, 2, 3, 4] rfl hk1 hFc hP1 hD1 rfl [some 0, some 1, some 2, some 3, some 4] rfl rfl
            generalize H1 = H at hP hS ⊢
            obtain ⟨rfl, hw_70_0, hw_70_1, hw_70_2, hw_70_3, hw_70_4, hw_70_5, hw_70_6⟩ := hw
            have hPc := hP.sb (ws2 := []) [] rfl
            have hKc := hK.sb (tys2 := []) [] rfl
            refine vp_callSi (va_runS (As := [.int (nI (ch_69))]) (rest := []) ⟨hx, hb, hml, hown, hts⟩ (s_comp4x l dC dI ch_69 (by omega)) (va_cwS 1 hts (kG (List.forall_mem_cons.mpr ⟨(List.mem_cons_of_mem _ (List.mem_append_left _ (List.mem_of_getElem? (i := 34) rfl))), (List.forall_mem_cons.mpr ⟨(List.mem_cons_of_mem _ (List.mem_append_left _ (List.mem_of_getElem? (i := 33) rfl))), (List.forall_mem_cons.mpr ⟨(List.mem_cons_of_mem _ (List.mem_append_left _ (List.mem_of_getElem? (i := 0) rfl))), (fun _ h => absurd h List.not_mem_nil)⟩)⟩)⟩) (kGS _ _ _) (fun _ h => List.mem_cons_of_mem _ (List.mem_append_right _ (List.mem_append_right _ (List.mem_append_right _ (List.mem_append_right _ (List.mem_append_right _ (List.mem_append_right _ (List.mem_append_right _ (List.mem_append_right _ (List.mem_append_left _ h)))))))))) gw_s_comp4x) rfl rfl rfl hd_X4_isComparison ⟨(Nat.le_of_ble_eq_true rfl), (Nat.le_of_ble_eq_true rfl)⟩) (kR_S kT_blind kT_give hPc hKc) rfl rfl hl.1 rfl (lv_room (Nat.le_of_ble_eq_true rfl)) dX4_readClause_86 ⟨(Nat.le_of_ble_eq_true rfl), (Nat.le_of_ble_eq_true rfl)⟩).run (fun r_71 hw => ?_)
            have hw_72 := hw
            refine lv_if_ne (tgt := 100) hx hb dX4_readClause_89 (by decide) (fun c_73 => ?_) (fun c_73 => ?_)
            · have hcp := hw_72.mp c_73
              refine lv_aload_n hx hb dX4_readClause_100 rfl (lv_at hl 3 rfl) ?_
              refine lv_iconst (v := 0) hx hb dX4_readClause_101 (by decide) ?_
              refine lv_iload_n hx hb dX4_readClause_102 rfl (lv_at hl 0 rfl) ?_
              refine lv_if_ne (tgt := 110) hx hb dX4_readClause_103 (by decide) (fun c_74 => absurd (by decide) c_74) (fun c_74 => ?_)
              refine lv_iconst (v := 1) hx hb dX4_readClause_106 (by decide) ?_
              refine lv_goto (tgt := 111) hx hb dX4_readClause_107 (by decide) ?_
              obtain ⟨hPc, hDc, hFc⟩ := kCut (wc := [(jR, .inr (4, [.ref jT, .ref r1, .ref r2, .int (nI (Wr_61)), .int (nI (fi)), .int (nI (Pn_68)), .ref q6, .ref q7])), (r1, .inl (c1, 120, .inl S1_60)), (r2, .inl (c2, 124, .inl s2)), (jT, .inr (8, [.ref t0, .int (nI (kt))])), (t0, .inl (cC, 120, .inl gT))]) hP hD hS hA [0, 1, 2, 3, 4] rfl (by decide) rfl
              have hKc := hK.sb (tys2 := [(c1, .int), (c2, .int), (cC, .char)]) [0, 1, 2] rfl
              refine va_calli (va_runV (As := [.int 0, .int 1]) (rest := []) ⟨hx, hb, hml, hown, hts⟩ (s_cond4x_0_1 l dC dI jT t0 cC gT kt (by omega) hgT bt hbt hb8 jR r1 r2 c1 c2 S1_60 s2 Wr_61 fi q6 q7 (by omega) (by omega) Pn_68 (by omega) (by omega) b6 n6 g6 (by omega) b7 n7 g7 (by omega) gn6 hz6 gn7 hz7 H.size) (cwV 2 hts (kG (List.forall_mem_cons.mpr ⟨(List.mem_cons_of_mem _ (List.mem_append_left _ (List.mem_of_getElem? (i := 49) rfl))), (List.forall_mem_cons.mpr ⟨(List.mem_cons_of_mem _ (List.mem_append_left _ (List.mem_of_getElem? (i := 48) rfl))), (List.forall_mem_cons.mpr ⟨(List.mem_cons_of_mem _ (List.mem_append_left _ (List.mem_of_getElem? (i := 47) rfl))), (List.forall_mem_cons.mpr ⟨(List.mem_cons_of_mem _ (List.mem_append_left _ (List.mem_of_getElem? (i := 0) rfl))), (fun _ h => absurd h List.not_mem_nil)⟩)⟩)⟩)⟩) (kGV _ _ _ _) (kFam (List.mem_cons_of_mem _ (List.mem_append_left _ (List.mem_of_getElem? (i := 46) rfl)))) gw_s_cond4x_0_1) rfl rfl rfl ⟨rfl, hd_X4_readCondition⟩ ⟨(Nat.le_of_ble_eq_true rfl), (Nat.le_of_ble_eq_true rfl)⟩) (kW_V kS2_blind (kS2_give hX hS hFc) (va_recv hKc hPc (ci := 4) (q0 := 0) rfl rfl) hPc hKc hDc) rfl rfl hl.1 rfl (lv_room (Nat.le_of_ble_eq_true rfl)) dX4_readClause_111 ⟨(Nat.le_of_ble_eq_true rfl), (Nat.le_of_ble_eq_true rfl)⟩) hS (fun q _ h => hFc q h) hFc (fun r_75 u t H1 locs ht hvm hw hB hz1 hk1 hS => ?_)
              obtain ⟨S1_76, Wr_77, Pn_78, xo_79, xl_80⟩ := u
              obtain ⟨hP1, hK1, hD1⟩ := hB
              rw [ht] at hP1
              try dsimp only at hw
              obtain ⟨hP, hD⟩ : kPD dC dI A [(jR, .inr (4, [.ref jT, .ref r1, .ref r2, .int (nI (Wr_77)), .int (nI (fi)), .int (nI (Pn_78)), .ref q6, .ref q7])), (r1, .inl (c1, 120, .inl S1_76)), (r2, .inl (c2, 124, .inl s2)), (jT, .inr (8, [.ref t0, .int (nI (kt))])), (t0, .inl (cC, 120, .inl gT))] H1 := kJoinI hP hD [0, 1, 2, 3, 4] rfl hk1 hFc hP1 hD1 rfl [some 0, some 1, some 2, some 3, some 4] rfl rfl
              generalize H1 = H at hP hS ⊢
              have hw_81 := hw
              refine lv_if_ne (tgt := 119) hx hb dX4_readClause_114 (by decide) (fun c_82 => ?_) (fun c_82 => ?_)
              · obtain rfl : xo_79 = true := kBo_t (kNz9 hw_81.1 c_82)
                obtain ⟨hw_81_W, hw_81_S, hw_81_l, hw_81_p⟩ := hw_81.2.1.2.2 rfl
                have hw_81_k := hw_81.2.1.2.1
                refine lv_aload_n hx hb dX4_readClause_119 rfl (lv_at hl 3 rfl) ?_
                refine va_get (D := (dC, dI)) (ci := 4) (v := .int (nI (Wr_77))) (C := RX4) (T := TX4) (N := 8) hx hb hts (fun _ h => List.mem_cons_of_mem _ (List.mem_append_right _ (List.mem_append_right _ (List.mem_append_right _ (List.mem_append_left _ h))))) hown hK hP 0 rfl rfl 3 (by decide) (hts (.fieldLink RX4 18 "NotEnded$Reader" "written" "I") (List.mem_cons_of_mem _ (List.mem_append_left _ (List.mem_of_getElem? (i := 51) rfl)))) (fun _ h9 => h9) rfl dX4_readClause_120 ?_
                refine lv_istore hx hb dX4_readClause_123 hl (by decide) (kTo [(4, .int (nI (Wr_77))), (3, .int 0), (2, .int (nI (wr))), (1, .int (nI (j_7))), (0, .ref jR)]) (fun ls hl => ?_)
                refine lv_aload_n hx hb dX4_readClause_125 rfl (lv_at hl 4 rfl) ?_
                refine lv_bipush (v := 63) hx hb dX4_readClause_126 (by decide) ?_
                obtain ⟨hPc, hDc, hFc⟩ := kCut (wc := [(jR, .inr (4, [.ref jT, .ref r1, .ref r2, .int (nI (Wr_77)), .int (nI (fi)), .int (nI (Pn_78)), .ref q6, .ref q7])), (r1, .inl (c1, 120, .inl S1_76)), (r2, .inl (c2, 124, .inl s2)), (jT, .inr (8, [.ref t0, .int (nI (kt))])), (t0, .inl (cC, 120, .inl gT))]) hP hD hS hA [0, 1, 2, 3, 4] rfl (by decide) rfl
                have hKc := hK.sb (tys2 := [(c1, .int), (c2, .int), (cC, .char)]) [0, 1, 2] rfl
                refine va_calli (va_runV (As := [.int 63]) (rest := []) ⟨hx, hb, hml, hown, hts⟩ (s_take4_63 l dC dI jT t0 cC gT kt (by omega) hgT bt hbt hb8 jR r1 r2 c1 c2 S1_76 s2 Wr_77 fi q6 q7 (by omega) (by omega) Pn_78 (by omega) H.size) (cwV 1 hts (kG (List.forall_mem_cons.mpr ⟨(List.mem_cons_of_mem _ (List.mem_append_left _ (List.mem_of_getElem? (i := 45) rfl))), (List.forall_mem_cons.mpr ⟨(List.mem_cons_of_mem _ (List.mem_append_left _ (List.mem_of_getElem? (i := 44) rfl))), (List.forall_mem_cons.mpr ⟨(List.mem_cons_of_mem _ (List.mem_append_left _ (List.mem_of_getElem? (i := 43) rfl))), (List.forall_mem_cons.mpr ⟨(List.mem_cons_of_mem _ (List.mem_append_left _ (List.mem_of_getElem? (i := 0) rfl))), (fun _ h => absurd h List.not_mem_nil)⟩)⟩)⟩)⟩) (kGV _ _ _ _) (fun _ h => List.mem_cons_of_mem _ (List.mem_append_right _ (List.mem_append_right _ (List.mem_append_right _ (List.mem_append_right _ (List.mem_append_right _ (List.mem_append_right _ (List.mem_append_right _ (List.mem_append_right _ (List.mem_append_right _ (List.mem_append_right _ (List.mem_append_right _ (List.mem_append_right _ (List.mem_append_right _ (List.mem_append_right _ (List.mem_append_right _ (List.mem_append_right _ (List.mem_append_right _ (List.mem_append_right _ (List.mem_append_left _ h)))))))))))))))))))) gw_s_take4_63) rfl rfl rfl ⟨rfl, hd_X4_take⟩ ⟨(Nat.le_of_ble_eq_true rfl), (Nat.le_of_ble_eq_true rfl)⟩) (kW_V kT_blind kT_give (va_recv hKc hPc (ci := 4) (q0 := 0) rfl rfl) hPc hKc hDc) rfl rfl hl.1 rfl (lv_room (Nat.le_of_ble_eq_true rfl)) dX4_readClause_128 ⟨(Nat.le_of_ble_eq_true rfl), (Nat.le_of_ble_eq_true rfl)⟩) hS (fun q _ h => hFc q h) hFc (fun r_83 u t H1 locs ht hvm hw hB hz1 hk1 hS => ?_)
                obtain ⟨Pn_84, xo_85⟩ := u
                obtain ⟨hP1, hK1, hD1⟩ := hB
                rw [ht] at hP1
                try dsimp only at hw
                obtain ⟨hP, hD⟩ : kPD dC dI A [(jR, .inr (4, [.ref jT, .ref r1, .ref r2, .int (nI (Wr_77)), .int (nI (fi)), .int (nI (Pn_84)), .ref q6, .ref q7])), (r1, .inl (c1, 120, .inl S1_76)), (r2, .inl (c2, 124, .inl s2)), (jT, .inr (8, [.ref t0, .int (nI (kt))])), (t0, .inl (cC, 120, .inl gT))] H1 := kJoinI hP hD [0, 1, 2, 3, 4] rfl hk1 hFc hP1 hD1 rfl [some 0, some 1, some 2, some 3, some 4] rfl rfl
                generalize H1 = H at hP hS ⊢
                have hw_86 := hw
                refine lv_if_eq (tgt := 157) hx hb dX4_readClause_131 (by decide) (fun c_87 => ?_) (fun c_87 => ?_)
                · obtain rfl : xo_85 = false := kBo_f (kZr9 hw_86.1 c_87)
                  have hw_86_k := hw_86.2.2.2.1
                  refine lv_iconst (v := 0) hx hb dX4_readClause_157 (by decide) ?_
                  have hP9 := hP
                  have hD9 := hD
                  have hK9 := hK
                  rw [hQ]
                  exact W.zret (v := 0) hx hb hr rfl (fun t ht hW => ⟨⟨0, (S1_76, s2, Wr_77, fi, Pn_84, false, ([]), 0, 0), rfl, ⟨rfl, (by unfold kCla; rw [← hw_4_0, ← hw_4_1]; rw [hj_8, if_pos (by omega), hw_15.2.1, kThC_t]; unfold kCla1; rw [← hw_20_0, ← hw_20_1, if_neg (by omega), hw_65.2.1.1, kThC_t, ← hw_70_0, ← hw_70_1, if_pos (by omega), hw_81.2.1.1, kThC_t]; unfold kCla2; rw [hw_86.2.1]; rfl), by omega, by omega, by omega, fun z => absurd z (by decide)⟩,  by rw [ht]; exact hP9, va_K.moved hW.alike hK9, hD9⟩, hS.F ht⟩) hS.2.2 dX4_readClause_158
                · obtain rfl : xo_85 = true := kBo_t (kNz9 hw_86.1 c_87)
                  have hw_86_p := hw_86.2.2.2.2 rfl
                  have hw_86_k := hw_86.2.2.2.1
                  refine lv_aload_n hx hb dX4_readClause_134 rfl (lv_at hl 4 rfl) ?_
                  refine lv_iconst (v := 0) hx hb dX4_readClause_135 (by decide) ?_
                  obtain ⟨hPc, hDc, hFc⟩ := kCut (wc := [(jR, .inr (4, [.ref jT, .ref r1, .ref r2, .int (nI (Wr_77)), .int (nI (fi)), .int (nI (Pn_84)), .ref q6, .ref q7])), (r1, .inl (c1, 120, .inl S1_76)), (r2, .inl (c2, 124, .inl s2)), (jT, .inr (8, [.ref t0, .int (nI (kt))])), (t0, .inl (cC, 120, .inl gT))]) hP hD hS hA [0, 1, 2, 3, 4] rfl (by decide) rfl
                  have hKc := hK.sb (tys2 := [(c1, .int), (c2, .int), (cC, .char)]) [0, 1, 2] rfl
                  refine va_calli (va_runV (As := [.int 0]) (rest := []) ⟨hx, hb, hml, hown, hts⟩ (s_sum4x_0 l dC dI jT t0 cC gT kt (by omega) hgT bt hbt hb8 jR r1 r2 c1 c2 S1_76 s2 Wr_77 fi q6 q7 (by omega) (by omega) Pn_84 (by omega) (by omega) b6 n6 g6 (by omega) b7 n7 g7 (by omega) gn6 hz6 gn7 hz7 H.size) (cwV 1 hts (kG (List.forall_mem_cons.mpr ⟨(List.mem_cons_of_mem _ (List.mem_append_left _ (List.mem_of_getElem? (i := 32) rfl))), (List.forall_mem_cons.mpr ⟨(List.mem_cons_of_mem _ (List.mem_append_left _ (List.mem_of_getElem? (i := 31) rfl))), (List.forall_mem_cons.mpr ⟨(List.mem_cons_of_mem _ (List.mem_append_left _ (List.mem_of_getElem? (i := 30) rfl))), (List.forall_mem_cons.mpr ⟨(List.mem_cons_of_mem _ (List.mem_append_left _ (List.mem_of_getElem? (i := 0) rfl))), (fun _ h => absurd h List.not_mem_nil)⟩)⟩)⟩)⟩) (kGV _ _ _ _) (kFam (List.mem_cons_of_mem _ (List.mem_append_left _ (List.mem_of_getElem? (i := 29) rfl)))) gw_s_sum4x_0) rfl rfl rfl ⟨rfl, hd_X4_readSum⟩ ⟨(Nat.le_of_ble_eq_true rfl), (Nat.le_of_ble_eq_true rfl)⟩) (kW_V kS2_blind (kS2_give hX hS hFc) (va_recv hKc hPc (ci := 4) (q0 := 0) rfl rfl) hPc hKc hDc) rfl rfl hl.1 rfl (lv_room (Nat.le_of_ble_eq_true rfl)) dX4_readClause_136 ⟨(Nat.le_of_ble_eq_true rfl), (Nat.le_of_ble_eq_true rfl)⟩) hS (fun q _ h => hFc q h) hFc (fun r_88 u t H1 locs ht hvm hw hB hz1 hk1 hS => ?_)
                  obtain ⟨S1_89, Wr_90, Pn_91, xo_92, xl_93⟩ := u
                  obtain ⟨hP1, hK1, hD1⟩ := hB
                  rw [ht] at hP1
                  try dsimp only at hw
                  obtain ⟨hP, hD⟩ : kPD dC dI A [(jR, .inr (4, [.ref jT, .ref r1, .ref r2, .int (nI (Wr_90)), .int (nI (fi)), .int (nI (Pn_91)), .ref q6, .ref q7])), (r1, .inl (c1, 120, .inl S1_89)), (r2, .inl (c2, 124, .inl s2)), (jT, .inr (8, [.ref t0, .int (nI (kt))])), (t0, .inl (cC, 120, .inl gT))] H1 := kJoinI hP hD [0, 1, 2, 3, 4] rfl hk1 hFc hP1 hD1 rfl [some 0, some 1, some 2, some 3, some 4] rfl rfl
                  generalize H1 = H at hP hS ⊢
                  have hw_94 := hw
                  refine lv_if_eq (tgt := 157) hx hb dX4_readClause_139 (by decide) (fun c_95 => ?_) (fun c_95 => ?_)
                  · obtain rfl : xo_92 = false := kBo_f (kZr9 hw_94.1 c_95)
                    have hw_94_k := hw_94.2.1.2.1
                    refine lv_iconst (v := 0) hx hb dX4_readClause_157 (by decide) ?_
                    have hP9 := hP
                    have hD9 := hD
                    have hK9 := hK
                    rw [hQ]
                    exact W.zret (v := 0) hx hb hr rfl (fun t ht hW => ⟨⟨0, (S1_89, s2, Wr_90, fi, Pn_91, false, ([]), 0, 0), rfl, ⟨rfl, (by unfold kCla; rw [← hw_4_0, ← hw_4_1]; rw [hj_8, if_pos (by omega), hw_15.2.1, kThC_t]; unfold kCla1; rw [← hw_20_0, ← hw_20_1, if_neg (by omega), hw_65.2.1.1, kThC_t, ← hw_70_0, ← hw_70_1, if_pos (by omega), hw_81.2.1.1, kThC_t]; unfold kCla2; rw [hw_86.2.1, kThC_t, hw_94.2.1.1]; rfl), by omega, by omega, by omega, fun z => absurd z (by decide)⟩,  by rw [ht]; exact hP9, va_K.moved hW.alike hK9, hD9⟩, hS.F ht⟩) hS.2.2 dX4_readClause_158
                  · obtain rfl : xo_92 = true := kBo_t (kNz9 hw_94.1 c_95)
                    obtain ⟨hw_94_W, hw_94_S, hw_94_l, hw_94_p⟩ := hw_94.2.1.2.2 rfl
                    have hw_94_k := hw_94.2.1.2.1
                    refine lv_aload_n hx hb dX4_readClause_142 rfl (lv_at hl 4 rfl) ?_
                    refine lv_iload_n hx hb dX4_readClause_143 rfl (lv_at hl 3 rfl) ?_
                    refine lv_iload_n hx hb dX4_readClause_144 rfl (lv_at hl 2 rfl) ?_
                    refine lv_iload hx hb dX4_readClause_145 (lv_at hl 0 rfl) ?_
                    obtain ⟨hPc, hDc, hFc⟩ := kCut (wc := [(jR, .inr (4, [.ref jT, .ref r1, .ref r2, .int (nI (Wr_90)), .int (nI (fi)), .int (nI (Pn_91)), .ref q6, .ref q7])), (r1, .inl (c1, 120, .inl S1_89)), (r2, .inl (c2, 124, .inl s2)), (jT, .inr (8, [.ref t0, .int (nI (kt))])), (t0, .inl (cC, 120, .inl gT))]) hP hD hS hA [0, 1, 2, 3, 4] rfl (by decide) rfl
                    have hKc := hK.sb (tys2 := [(c1, .int), (c2, .int), (cC, .char)]) [0, 1, 2] rfl
                    refine va_calli (va_runV (As := [.int (nI (j_7)), .int (nI (wr)), .int (nI (Wr_77))]) (rest := []) ⟨hx, hb, hml, hown, hts⟩ (s_keep4x l dC dI jT t0 cC gT kt (by omega) hgT bt hbt hb8 jR r1 r2 c1 c2 S1_89 s2 Wr_90 fi q6 q7 (by omega) (by omega) Pn_91 (by omega) j_7 wr Wr_77 (by omega) H.size) (cwV 3 hts (kG (List.forall_mem_cons.mpr ⟨(List.mem_cons_of_mem _ (List.mem_append_left _ (List.mem_of_getElem? (i := 54) rfl))), (List.forall_mem_cons.mpr ⟨(List.mem_cons_of_mem _ (List.mem_append_left _ (List.mem_of_getElem? (i := 53) rfl))), (List.forall_mem_cons.mpr ⟨(List.mem_cons_of_mem _ (List.mem_append_left _ (List.mem_of_getElem? (i := 52) rfl))), (List.forall_mem_cons.mpr ⟨(List.mem_cons_of_mem _ (List.mem_append_left _ (List.mem_of_getElem? (i := 0) rfl))), (fun _ h => absurd h List.not_mem_nil)⟩)⟩)⟩)⟩) (kGV _ _ _ _) (fun _ h => List.mem_cons_of_mem _ (List.mem_append_right _ (List.mem_append_right _ (List.mem_append_right _ (List.mem_append_right _ (List.mem_append_right _ (List.mem_append_right _ (List.mem_append_right _ (List.mem_append_right _ (List.mem_append_right _ (List.mem_append_right _ (List.mem_append_right _ (List.mem_append_right _ (List.mem_append_right _ (List.mem_append_right _ (List.mem_append_right _ (List.mem_append_right _ (List.mem_append_right _ (List.mem_append_right _ (List.mem_append_right _ h)))))))))))))))))))) gw_s_keep4x) rfl rfl rfl ⟨rfl, hd_X4_keepClause⟩ ⟨(Nat.le_of_ble_eq_true rfl), (Nat.le_of_ble_eq_true rfl)⟩) (kW_V kT_blind kT_give (va_recv hKc hPc (ci := 4) (q0 := 0) rfl rfl) hPc hKc hDc) rfl rfl hl.1 rfl (lv_room (Nat.le_of_ble_eq_true rfl)) dX4_readClause_147 ⟨(Nat.le_of_ble_eq_true rfl), (Nat.le_of_ble_eq_true rfl)⟩) hS (fun q _ h => hFc q h) hFc (fun r_96 u t H1 locs ht hvm hw hB hz1 hk1 hS => ?_)
                    obtain ⟨S2_97, Fi_98⟩ := u
                    obtain ⟨hP1, hK1, hD1⟩ := hB
                    rw [ht] at hP1
                    try dsimp only at hw
                    obtain ⟨hP, hD⟩ : kPD dC dI A [(jR, .inr (4, [.ref jT, .ref r1, .ref r2, .int (nI (Wr_90)), .int (nI (Fi_98)), .int (nI (Pn_91)), .ref q6, .ref q7])), (r1, .inl (c1, 120, .inl S1_89)), (r2, .inl (c2, 124, .inl S2_97)), (jT, .inr (8, [.ref t0, .int (nI (kt))])), (t0, .inl (cC, 120, .inl gT))] H1 := kJoinI hP hD [0, 1, 2, 3, 4] rfl hk1 hFc hP1 hD1 rfl [some 0, some 1, some 2, some 3, some 4] rfl rfl
                    generalize H1 = H at hP hS ⊢
                    obtain ⟨rfl, hw_99⟩ := hw
                    refine lv_if_eq (tgt := 157) hx hb dX4_readClause_150 (by decide) (fun c_100 => absurd c_100 (by decide)) (fun c_100 => ?_)
                    refine lv_iconst (v := 1) hx hb dX4_readClause_153 (by decide) ?_
                    refine lv_goto (tgt := 158) hx hb dX4_readClause_154 (by decide) ?_
                    have hP9 := hP
                    have hD9 := hD
                    have hK9 := hK
                    rw [hQ]
                    exact W.zret (v := 1) hx hb hr rfl (fun t ht hW => ⟨⟨1, (S1_89, S2_97, Wr_90, Fi_98, Pn_91, true, (xl_64 ++ xl_80 ++ xl_93), j_7, ((xl_64 ++ xl_80).length)), rfl, ⟨rfl, (by unfold kCla; rw [← hw_4_0, ← hw_4_1]; rw [hj_8, if_pos (by omega), hw_15.2.1, kThC_t]; unfold kCla1; rw [← hw_20_0, ← hw_20_1, if_neg (by omega), hw_65.2.1.1, kThC_t, ← hw_70_0, ← hw_70_1, if_pos (by omega), hw_81.2.1.1, kThC_t]; unfold kCla2; rw [hw_86.2.1, kThC_t, hw_94.2.1.1, kThC_t]), by omega, by omega, by omega, fun _ => ⟨(by first | omega | (simp only [List.length_append]; omega)), (kWrtC (kWrtC hw_65_S hw_65_W hw_81_S) (by first | omega | (simp only [List.length_append]; omega)) hw_94_S), hw_99.1, kKeep hw_99.2 (by first | omega | (simp only [List.length_append]; omega)) (by first | omega | (simp only [List.length_append]; omega)), (by first | omega | (simp only [List.length_append]; omega)), by omega⟩⟩,  by rw [ht]; exact hP9, va_K.moved hW.alike hK9, hD9⟩, hS.F ht⟩) hS.2.2 dX4_readClause_158
              · obtain rfl : xo_79 = false := kBo_f (kZr9 hw_81.1 c_82)
                have hw_81_k := hw_81.2.1.2.1
                refine lv_iconst (v := 0) hx hb dX4_readClause_117 (by decide) ?_
                have hP9 := hP
                have hD9 := hD
                have hK9 := hK
                rw [hQ]
                exact W.zret (v := 0) hx hb hr rfl (fun t ht hW => ⟨⟨0, (S1_76, s2, Wr_77, fi, Pn_78, false, ([]), 0, 0), rfl, ⟨rfl, (by unfold kCla; rw [← hw_4_0, ← hw_4_1]; rw [hj_8, if_pos (by omega), hw_15.2.1, kThC_t]; unfold kCla1; rw [← hw_20_0, ← hw_20_1, if_neg (by omega), hw_65.2.1.1, kThC_t, ← hw_70_0, ← hw_70_1, if_pos (by omega), hw_81.2.1.1]; rfl), by omega, by omega, by omega, fun z => absurd z (by decide)⟩,  by rw [ht]; exact hP9, va_K.moved hW.alike hK9, hD9⟩, hS.F ht⟩) hS.2.2 dX4_readClause_118
            · have hcp : ¬ (ch_69 = 61 ∨ ch_69 = 60 ∨ ch_69 = 62) := fun z9 => hw_72.mpr z9 c_73
              refine lv_aload_n hx hb dX4_readClause_92 rfl (lv_at hl 3 rfl) ?_
              refine lv_iload_n hx hb dX4_readClause_93 rfl (lv_at hl 2 rfl) ?_
              refine lv_iload_n hx hb dX4_readClause_94 rfl (lv_at hl 1 rfl) ?_
              refine lv_iload_n hx hb dX4_readClause_95 rfl (lv_at hl 1 rfl) ?_
              obtain ⟨hPc, hDc, hFc⟩ := kCut (wc := [(jR, .inr (4, [.ref jT, .ref r1, .ref r2, .int (nI (Wr_61)), .int (nI (fi)), .int (nI (Pn_68)), .ref q6, .ref q7])), (r1, .inl (c1, 120, .inl S1_60)), (r2, .inl (c2, 124, .inl s2)), (jT, .inr (8, [.ref t0, .int (nI (kt))])), (t0, .inl (cC, 120, .inl gT))]) hP hD hS hA [0, 1, 2, 3, 4] rfl (by decide) rfl
              have hKc := hK.sb (tys2 := [(c1, .int), (c2, .int), (cC, .char)]) [0, 1, 2] rfl
              refine va_calli (va_runV (As := [.int (nI (j_7)), .int (nI (wr)), .int (nI (wr))]) (rest := []) ⟨hx, hb, hml, hown, hts⟩ (s_keep4x l dC dI jT t0 cC gT kt (by omega) hgT bt hbt hb8 jR r1 r2 c1 c2 S1_60 s2 Wr_61 fi q6 q7 (by omega) (by omega) Pn_68 (by omega) j_7 wr wr (by omega) H.size) (cwV 3 hts (kG (List.forall_mem_cons.mpr ⟨(List.mem_cons_of_mem _ (List.mem_append_left _ (List.mem_of_getElem? (i := 54) rfl))), (List.forall_mem_cons.mpr ⟨(List.mem_cons_of_mem _ (List.mem_append_left _ (List.mem_of_getElem? (i := 53) rfl))), (List.forall_mem_cons.mpr ⟨(List.mem_cons_of_mem _ (List.mem_append_left _ (List.mem_of_getElem? (i := 52) rfl))), (List.forall_mem_cons.mpr ⟨(List.mem_cons_of_mem _ (List.mem_append_left _ (List.mem_of_getElem? (i := 0) rfl))), (fun _ h => absurd h List.not_mem_nil)⟩)⟩)⟩)⟩) (kGV _ _ _ _) (fun _ h => List.mem_cons_of_mem _ (List.mem_append_right _ (List.mem_append_right _ (List.mem_append_right _ (List.mem_append_right _ (List.mem_append_right _ (List.mem_append_right _ (List.mem_append_right _ (List.mem_append_right _ (List.mem_append_right _ (List.mem_append_right _ (List.mem_append_right _ (List.mem_append_right _ (List.mem_append_right _ (List.mem_append_right _ (List.mem_append_right _ (List.mem_append_right _ (List.mem_append_right _ (List.mem_append_right _ (List.mem_append_right _ h)))))))))))))))))))) gw_s_keep4x) rfl rfl rfl ⟨rfl, hd_X4_keepClause⟩ ⟨(Nat.le_of_ble_eq_true rfl), (Nat.le_of_ble_eq_true rfl)⟩) (kW_V kT_blind kT_give (va_recv hKc hPc (ci := 4) (q0 := 0) rfl rfl) hPc hKc hDc) rfl rfl hl.1 rfl (lv_room (Nat.le_of_ble_eq_true rfl)) dX4_readClause_96 ⟨(Nat.le_of_ble_eq_true rfl), (Nat.le_of_ble_eq_true rfl)⟩) hS (fun q _ h => hFc q h) hFc (fun r_101 u t H1 locs ht hvm hw hB hz1 hk1 hS => ?_)
              obtain ⟨S2_102, Fi_103⟩ := u
              obtain ⟨hP1, hK1, hD1⟩ := hB
              rw [ht] at hP1
              try dsimp only at hw
              obtain ⟨hP, hD⟩ : kPD dC dI A [(jR, .inr (4, [.ref jT, .ref r1, .ref r2, .int (nI (Wr_61)), .int (nI (Fi_103)), .int (nI (Pn_68)), .ref q6, .ref q7])), (r1, .inl (c1, 120, .inl S1_60)), (r2, .inl (c2, 124, .inl S2_102)), (jT, .inr (8, [.ref t0, .int (nI (kt))])), (t0, .inl (cC, 120, .inl gT))] H1 := kJoinI hP hD [0, 1, 2, 3, 4] rfl hk1 hFc hP1 hD1 rfl [some 0, some 1, some 2, some 3, some 4] rfl rfl
              generalize H1 = H at hP hS ⊢
              obtain ⟨rfl, hw_104⟩ := hw
              have hP9 := hP
              have hD9 := hD
              have hK9 := hK
              rw [hQ]
              exact W.zret (v := 1) hx hb hr rfl (fun t ht hW => ⟨⟨1, (S1_60, S2_102, Wr_61, Fi_103, Pn_68, true, (xl_64), j_7, 0), rfl, ⟨rfl, (by unfold kCla; rw [← hw_4_0, ← hw_4_1]; rw [hj_8, if_pos (by omega), hw_15.2.1, kThC_t]; unfold kCla1; rw [← hw_20_0, ← hw_20_1, if_neg (by omega), hw_65.2.1.1, kThC_t, ← hw_70_0, ← hw_70_1, if_neg (by omega)]), by omega, by omega, by omega, fun _ => ⟨(by first | omega | (simp only [List.length_append]; omega)), hw_65_S, hw_104.1, kKeep hw_104.2 (by first | omega | (simp only [List.length_append]; omega)) (by first | omega | (simp only [List.length_append]; omega)), (by first | omega | (simp only [List.length_append]; omega)), by omega⟩⟩,  by rw [ht]; exact hP9, va_K.moved hW.alike hK9, hD9⟩, hS.F ht⟩) hS.2.2 dX4_readClause_99
          · obtain rfl : xo_63 = false := kBo_f (kZr9 hw_65.1 c_66)
            have hw_65_k := hw_65.2.1.2.1
            refine lv_iconst (v := 0) hx hb dX4_readClause_80 (by decide) ?_
            have hP9 := hP
            have hD9 := hD
            have hK9 := hK
            rw [hQ]
            exact W.zret (v := 0) hx hb hr rfl (fun t ht hW => ⟨⟨0, (S1_60, s2, Wr_61, fi, Pn_62, false, ([]), 0, 0), rfl, ⟨rfl, (by unfold kCla; rw [← hw_4_0, ← hw_4_1]; rw [hj_8, if_pos (by omega), hw_15.2.1, kThC_t]; unfold kCla1; rw [← hw_20_0, ← hw_20_1, if_neg (by omega), hw_65.2.1.1]; rfl), by omega, by omega, by omega, fun z => absurd z (by decide)⟩,  by rw [ht]; exact hP9, va_K.moved hW.alike hK9, hD9⟩, hS.F ht⟩) hS.2.2 dX4_readClause_81
        · have hn_105 := keq (a := ch_19) (b := 40) (by omega) (by omega) c_56
          refine lv_iconst (v := 1) hx hb dX4_readClause_62 (by decide) ?_
          refine lv_goto (tgt := 67) hx hb dX4_readClause_63 (by decide) ?_
          refine lv_istore_n hx hb dX4_readClause_67 rfl hl (by decide) (kTo [(3, .int 1), (2, .int (nI (wr))), (1, .int (nI (j_7))), (0, .ref jR)]) (fun ls hl => ?_)
          refine lv_iload_n hx hb dX4_readClause_68 rfl (lv_at hl 0 rfl) ?_
          refine lv_if_ne (tgt := 100) hx hb dX4_readClause_69 (by decide) (fun c_106 => ?_) (fun c_106 => absurd c_106 (by decide))
          refine lv_aload_n hx hb dX4_readClause_100 rfl (lv_at hl 3 rfl) ?_
          refine lv_iconst (v := 0) hx hb dX4_readClause_101 (by decide) ?_
          refine lv_iload_n hx hb dX4_readClause_102 rfl (lv_at hl 0 rfl) ?_
          refine lv_if_ne (tgt := 110) hx hb dX4_readClause_103 (by decide) (fun c_107 => ?_) (fun c_107 => absurd c_107 (by decide))
          refine lv_iconst (v := 0) hx hb dX4_readClause_110 (by decide) ?_
          obtain ⟨hPc, hDc, hFc⟩ := kCut (wc := [(jR, .inr (4, [.ref jT, .ref r1, .ref r2, .int (nI (wr)), .int (nI (fi)), .int (nI (Pn_18)), .ref q6, .ref q7])), (r1, .inl (c1, 120, .inl s1)), (r2, .inl (c2, 124, .inl s2)), (jT, .inr (8, [.ref t0, .int (nI (kt))])), (t0, .inl (cC, 120, .inl gT))]) hP hD hS hA [0, 1, 2, 3, 4] rfl (by decide) rfl
          have hKc := hK.sb (tys2 := [(c1, .int), (c2, .int), (cC, .char)]) [0, 1, 2] rfl
          refine va_calli (va_runV (As := [.int 0, .int 0]) (rest := []) ⟨hx, hb, hml, hown, hts⟩ (s_cond4x_0_0 l dC dI jT t0 cC gT kt (by omega) hgT bt hbt hb8 jR r1 r2 c1 c2 s1 s2 wr fi q6 q7 (by omega) (by omega) Pn_18 (by omega) (by omega) b6 n6 g6 (by omega) b7 n7 g7 (by omega) gn6 hz6 gn7 hz7 H.size) (cwV 2 hts (kG (List.forall_mem_cons.mpr ⟨(List.mem_cons_of_mem _ (List.mem_append_left _ (List.mem_of_getElem? (i := 49) rfl))), (List.forall_mem_cons.mpr ⟨(List.mem_cons_of_mem _ (List.mem_append_left _ (List.mem_of_getElem? (i := 48) rfl))), (List.forall_mem_cons.mpr ⟨(List.mem_cons_of_mem _ (List.mem_append_left _ (List.mem_of_getElem? (i := 47) rfl))), (List.forall_mem_cons.mpr ⟨(List.mem_cons_of_mem _ (List.mem_append_left _ (List.mem_of_getElem? (i := 0) rfl))), (fun _ h => absurd h List.not_mem_nil)⟩)⟩)⟩)⟩) (kGV _ _ _ _) (kFam (List.mem_cons_of_mem _ (List.mem_append_left _ (List.mem_of_getElem? (i := 46) rfl)))) gw_s_cond4x_0_0) rfl rfl rfl ⟨rfl, hd_X4_readCondition⟩ ⟨(Nat.le_of_ble_eq_true rfl), (Nat.le_of_ble_eq_true rfl)⟩) (kW_V kS2_blind (kS2_give hX hS hFc) (va_recv hKc hPc (ci := 4) (q0 := 0) rfl rfl) hPc hKc hDc) rfl rfl hl.1 rfl (lv_room (Nat.le_of_ble_eq_true rfl)) dX4_readClause_111 ⟨(Nat.le_of_ble_eq_true rfl), (Nat.le_of_ble_eq_true rfl)⟩) hS (fun q _ h => hFc q h) hFc (fun r_108 u t H1 locs ht hvm hw hB hz1 hk1 hS => ?_)
          obtain ⟨S1_109, Wr_110, Pn_111, xo_112, xl_113⟩ := u
          obtain ⟨hP1, hK1, hD1⟩ := hB
          rw [ht] at hP1
          try dsimp only at hw
          obtain ⟨hP, hD⟩ : kPD dC dI A [(jR, .inr (4, [.ref jT, .ref r1, .ref r2, .int (nI (Wr_110)), .int (nI (fi)), .int (nI (Pn_111)), .ref q6, .ref q7])), (r1, .inl (c1, 120, .inl S1_109)), (r2, .inl (c2, 124, .inl s2)), (jT, .inr (8, [.ref t0, .int (nI (kt))])), (t0, .inl (cC, 120, .inl gT))] H1 := kJoinI hP hD [0, 1, 2, 3, 4] rfl hk1 hFc hP1 hD1 rfl [some 0, some 1, some 2, some 3, some 4] rfl rfl
          generalize H1 = H at hP hS ⊢
          have hw_114 := hw
          refine lv_if_ne (tgt := 119) hx hb dX4_readClause_114 (by decide) (fun c_115 => ?_) (fun c_115 => ?_)
          · obtain rfl : xo_112 = true := kBo_t (kNz9 hw_114.1 c_115)
            obtain ⟨hw_114_W, hw_114_S, hw_114_l, hw_114_p⟩ := hw_114.2.1.2.2 rfl
            have hw_114_k := hw_114.2.1.2.1
            refine lv_aload_n hx hb dX4_readClause_119 rfl (lv_at hl 3 rfl) ?_
            refine va_get (D := (dC, dI)) (ci := 4) (v := .int (nI (Wr_110))) (C := RX4) (T := TX4) (N := 8) hx hb hts (fun _ h => List.mem_cons_of_mem _ (List.mem_append_right _ (List.mem_append_right _ (List.mem_append_right _ (List.mem_append_left _ h))))) hown hK hP 0 rfl rfl 3 (by decide) (hts (.fieldLink RX4 18 "NotEnded$Reader" "written" "I") (List.mem_cons_of_mem _ (List.mem_append_left _ (List.mem_of_getElem? (i := 51) rfl)))) (fun _ h9 => h9) rfl dX4_readClause_120 ?_
            refine lv_istore hx hb dX4_readClause_123 hl (by decide) (kTo [(4, .int (nI (Wr_110))), (3, .int 1), (2, .int (nI (wr))), (1, .int (nI (j_7))), (0, .ref jR)]) (fun ls hl => ?_)
            refine lv_aload_n hx hb dX4_readClause_125 rfl (lv_at hl 4 rfl) ?_
            refine lv_bipush (v := 63) hx hb dX4_readClause_126 (by decide) ?_
            obtain ⟨hPc, hDc, hFc⟩ := kCut (wc := [(jR, .inr (4, [.ref jT, .ref r1, .ref r2, .int (nI (Wr_110)), .int (nI (fi)), .int (nI (Pn_111)), .ref q6, .ref q7])), (r1, .inl (c1, 120, .inl S1_109)), (r2, .inl (c2, 124, .inl s2)), (jT, .inr (8, [.ref t0, .int (nI (kt))])), (t0, .inl (cC, 120, .inl gT))]) hP hD hS hA [0, 1, 2, 3, 4] rfl (by decide) rfl
            have hKc := hK.sb (tys2 := [(c1, .int), (c2, .int), (cC, .char)]) [0, 1, 2] rfl
            refine va_calli (va_runV (As := [.int 63]) (rest := []) ⟨hx, hb, hml, hown, hts⟩ (s_take4_63 l dC dI jT t0 cC gT kt (by omega) hgT bt hbt hb8 jR r1 r2 c1 c2 S1_109 s2 Wr_110 fi q6 q7 (by omega) (by omega) Pn_111 (by omega) H.size) (cwV 1 hts (kG (List.forall_mem_cons.mpr ⟨(List.mem_cons_of_mem _ (List.mem_append_left _ (List.mem_of_getElem? (i := 45) rfl))), (List.forall_mem_cons.mpr ⟨(List.mem_cons_of_mem _ (List.mem_append_left _ (List.mem_of_getElem? (i := 44) rfl))), (List.forall_mem_cons.mpr ⟨(List.mem_cons_of_mem _ (List.mem_append_left _ (List.mem_of_getElem? (i := 43) rfl))), (List.forall_mem_cons.mpr ⟨(List.mem_cons_of_mem _ (List.mem_append_left _ (List.mem_of_getElem? (i := 0) rfl))), (fun _ h => absurd h List.not_mem_nil)⟩)⟩)⟩)⟩) (kGV _ _ _ _) (fun _ h => List.mem_cons_of_mem _ (List.mem_append_right _ (List.mem_append_right _ (List.mem_append_right _ (List.mem_append_right _ (List.mem_append_right _ (List.mem_append_right _ (List.mem_append_right _ (List.mem_append_right _ (List.mem_append_right _ (List.mem_append_right _ (List.mem_append_right _ (List.mem_append_right _ (List.mem_append_right _ (List.mem_append_right _ (List.mem_append_right _ (List.mem_append_right _ (List.mem_append_right _ (List.mem_append_right _ (List.mem_append_left _ h)))))))))))))))))))) gw_s_take4_63) rfl rfl rfl ⟨rfl, hd_X4_take⟩ ⟨(Nat.le_of_ble_eq_true rfl), (Nat.le_of_ble_eq_true rfl)⟩) (kW_V kT_blind kT_give (va_recv hKc hPc (ci := 4) (q0 := 0) rfl rfl) hPc hKc hDc) rfl rfl hl.1 rfl (lv_room (Nat.le_of_ble_eq_true rfl)) dX4_readClause_128 ⟨(Nat.le_of_ble_eq_true rfl), (Nat.le_of_ble_eq_true rfl)⟩) hS (fun q _ h => hFc q h) hFc (fun r_116 u t H1 locs ht hvm hw hB hz1 hk1 hS => ?_)
            obtain ⟨Pn_117, xo_118⟩ := u
            obtain ⟨hP1, hK1, hD1⟩ := hB
            rw [ht] at hP1
            try dsimp only at hw
            obtain ⟨hP, hD⟩ : kPD dC dI A [(jR, .inr (4, [.ref jT, .ref r1, .ref r2, .int (nI (Wr_110)), .int (nI (fi)), .int (nI (Pn_117)), .ref q6, .ref q7])), (r1, .inl (c1, 120, .inl S1_109)), (r2, .inl (c2, 124, .inl s2)), (jT, .inr (8, [.ref t0, .int (nI (kt))])), (t0, .inl (cC, 120, .inl gT))] H1 := kJoinI hP hD [0, 1, 2, 3, 4] rfl hk1 hFc hP1 hD1 rfl [some 0, some 1, some 2, some 3, some 4] rfl rfl
            generalize H1 = H at hP hS ⊢
            have hw_119 := hw
            refine lv_if_eq (tgt := 157) hx hb dX4_readClause_131 (by decide) (fun c_120 => ?_) (fun c_120 => ?_)
            · obtain rfl : xo_118 = false := kBo_f (kZr9 hw_119.1 c_120)
              have hw_119_k := hw_119.2.2.2.1
              refine lv_iconst (v := 0) hx hb dX4_readClause_157 (by decide) ?_
              have hP9 := hP
              have hD9 := hD
              have hK9 := hK
              rw [hQ]
              exact W.zret (v := 0) hx hb hr rfl (fun t ht hW => ⟨⟨0, (S1_109, s2, Wr_110, fi, Pn_117, false, ([]), 0, 0), rfl, ⟨rfl, (by unfold kCla; rw [← hw_4_0, ← hw_4_1]; rw [hj_8, if_pos (by omega), hw_15.2.1, kThC_t]; unfold kCla1; rw [← hw_20_0, ← hw_20_1, if_pos (by omega), hw_114.2.1.1, kThC_t]; unfold kCla2; rw [hw_119.2.1]; rfl), by omega, by omega, by omega, fun z => absurd z (by decide)⟩,  by rw [ht]; exact hP9, va_K.moved hW.alike hK9, hD9⟩, hS.F ht⟩) hS.2.2 dX4_readClause_158
            · obtain rfl : xo_118 = true := kBo_t (kNz9 hw_119.1 c_120)
              have hw_119_p := hw_119.2.2.2.2 rfl
              have hw_119_k := hw_119.2.2.2.1
              refine lv_aload_n hx hb dX4_readClause_134 rfl (lv_at hl 4 rfl) ?_
              refine lv_iconst (v := 0) hx hb dX4_readClause_135 (by decide) ?_
              obtain ⟨hPc, hDc, hFc⟩ := kCut (wc := [(jR, .inr (4, [.ref jT, .ref r1, .ref r2, .int (nI (Wr_110)), .int (nI (fi)), .int (nI (Pn_117)), .ref q6, .ref q7])), (r1, .inl (c1, 120, .inl S1_109)), (r2, .inl (c2, 124, .inl s2)), (jT, .inr (8, [.ref t0, .int (nI (kt))])), (t0, .inl (cC, 120, .inl gT))]) hP hD hS hA [0, 1, 2, 3, 4] rfl (by decide) rfl
              have hKc := hK.sb (tys2 := [(c1, .int), (c2, .int), (cC, .char)]) [0, 1, 2] rfl
              refine va_calli (va_runV (As := [.int 0]) (rest := []) ⟨hx, hb, hml, hown, hts⟩ (s_sum4x_0 l dC dI jT t0 cC gT kt (by omega) hgT bt hbt hb8 jR r1 r2 c1 c2 S1_109 s2 Wr_110 fi q6 q7 (by omega) (by omega) Pn_117 (by omega) (by omega) b6 n6 g6 (by omega) b7 n7 g7 (by omega) gn6 hz6 gn7 hz7 H.size) (cwV 1 hts (kG (List.forall_mem_cons.mpr ⟨(List.mem_cons_of_mem _ (List.mem_append_left _ (List.mem_of_getElem? (i := 32) rfl))), (List.forall_mem_cons.mpr ⟨(List.mem_cons_of_mem _ (List.mem_append_left _ (List.mem_of_getElem? (i := 31) rfl))), (List.forall_mem_cons.mpr ⟨(List.mem_cons_of_mem _ (List.mem_append_left _ (List.mem_of_getElem? (i := 30) rfl))), (List.forall_mem_cons.mpr ⟨(List.mem_cons_of_mem _ (List.mem_append_left _ (List.mem_of_getElem? (i := 0) rfl))), (fun _ h => absurd h List.not_mem_nil)⟩)⟩)⟩)⟩) (kGV _ _ _ _) (kFam (List.mem_cons_of_mem _ (List.mem_append_left _ (List.mem_of_getElem? (i := 29) rfl)))) gw_s_sum4x_0) rfl rfl rfl ⟨rfl, hd_X4_readSum⟩ ⟨(Nat.le_of_ble_eq_true rfl), (Nat.le_of_ble_eq_true rfl)⟩) (kW_V kS2_blind (kS2_give hX hS hFc) (va_recv hKc hPc (ci := 4) (q0 := 0) rfl rfl) hPc hKc hDc) rfl rfl hl.1 rfl (lv_room (Nat.le_of_ble_eq_true rfl)) dX4_readClause_136 ⟨(Nat.le_of_ble_eq_true rfl), (Nat.le_of_ble_eq_true rfl)⟩) hS (fun q _ h => hFc q h) hFc (fun r_121 u t H1 locs ht hvm hw hB hz1 hk1 hS => ?_)
              obtain ⟨S1_122, Wr_123, Pn_124, xo_125, xl_126⟩ := u
              obtain ⟨hP1, hK1, hD1⟩ := hB
              rw [ht] at hP1
              try dsimp only at hw
              obtain ⟨hP, hD⟩ : kPD dC dI A [(jR, .inr (4, [.ref jT, .ref r1, .ref r2, .int (nI (Wr_123)), .int (nI (fi)), .int (nI (Pn_124)), .ref q6, .ref q7])), (r1, .inl (c1, 120, .inl S1_122)), (r2, .inl (c2, 124, .inl s2)), (jT, .inr (8, [.ref t0, .int (nI (kt))])), (t0, .inl (cC, 120, .inl gT))] H1 := kJoinI hP hD [0, 1, 2, 3, 4] rfl hk1 hFc hP1 hD1 rfl [some 0, some 1, some 2, some 3, some 4] rfl rfl
              generalize H1 = H at hP hS ⊢
              have hw_127 := hw
              refine lv_if_eq (tgt := 157) hx hb dX4_readClause_139 (by decide) (fun c_128 => ?_) (fun c_128 => ?_)
              · obtain rfl : xo_125 = false := kBo_f (kZr9 hw_127.1 c_128)
                have hw_127_k := hw_127.2.1.2.1
                refine lv_iconst (v := 0) hx hb dX4_readClause_157 (by decide) ?_
                have hP9 := hP
                have hD9 := hD
                have hK9 := hK
                rw [hQ]
                exact W.zret (v := 0) hx hb hr rfl (fun t ht hW => ⟨⟨0, (S1_122, s2, Wr_123, fi, Pn_124, false, ([]), 0, 0), rfl, ⟨rfl, (by unfold kCla; rw [← hw_4_0, ← hw_4_1]; rw [hj_8, if_pos (by omega), hw_15.2.1, kThC_t]; unfold kCla1; rw [← hw_20_0, ← hw_20_1, if_pos (by omega), hw_114.2.1.1, kThC_t]; unfold kCla2; rw [hw_119.2.1, kThC_t, hw_127.2.1.1]; rfl), by omega, by omega, by omega, fun z => absurd z (by decide)⟩,  by rw [ht]; exact hP9, va_K.moved hW.alike hK9, hD9⟩, hS.F ht⟩) hS.2.2 dX4_readClause_158
              · obtain rfl : xo_125 = true := kBo_t (kNz9 hw_127.1 c_128)
                obtain ⟨hw_127_W, hw_127_S, hw_127_l, hw_127_p⟩ := hw_127.2.1.2.2 rfl
                have hw_127_k := hw_127.2.1.2.1
                refine lv_aload_n hx hb dX4_readClause_142 rfl (lv_at hl 4 rfl) ?_
                refine lv_iload_n hx hb dX4_readClause_143 rfl (lv_at hl 3 rfl) ?_
                refine lv_iload_n hx hb dX4_readClause_144 rfl (lv_at hl 2 rfl) ?_
                refine lv_iload hx hb dX4_readClause_145 (lv_at hl 0 rfl) ?_
                obtain ⟨hPc, hDc, hFc⟩ := kCut (wc := [(jR, .inr (4, [.ref jT, .ref r1, .ref r2, .int (nI (Wr_123)), .int (nI (fi)), .int (nI (Pn_124)), .ref q6, .ref q7])), (r1, .inl (c1, 120, .inl S1_122)), (r2, .inl (c2, 124, .inl s2)), (jT, .inr (8, [.ref t0, .int (nI (kt))])), (t0, .inl (cC, 120, .inl gT))]) hP hD hS hA [0, 1, 2, 3, 4] rfl (by decide) rfl
                have hKc := hK.sb (tys2 := [(c1, .int), (c2, .int), (cC, .char)]) [0, 1, 2] rfl
                refine va_calli (va_runV (As := [.int (nI (j_7)), .int (nI (wr)), .int (nI (Wr_110))]) (rest := []) ⟨hx, hb, hml, hown, hts⟩ (s_keep4x l dC dI jT t0 cC gT kt (by omega) hgT bt hbt hb8 jR r1 r2 c1 c2 S1_122 s2 Wr_123 fi q6 q7 (by omega) (by omega) Pn_124 (by omega) j_7 wr Wr_110 (by omega) H.size) (cwV 3 hts (kG (List.forall_mem_cons.mpr ⟨(List.mem_cons_of_mem _ (List.mem_append_left _ (List.mem_of_getElem? (i := 54) rfl))), (List.forall_mem_cons.mpr ⟨(List.mem_cons_of_mem _ (List.mem_append_left _ (List.mem_of_getElem? (i := 53) rfl))), (List.forall_mem_cons.mpr ⟨(List.mem_cons_of_mem _ (List.mem_append_left _ (List.mem_of_getElem? (i := 52) rfl))), (List.forall_mem_cons.mpr ⟨(List.mem_cons_of_mem _ (List.mem_append_left _ (List.mem_of_getElem? (i := 0) rfl))), (fun _ h => absurd h List.not_mem_nil)⟩)⟩)⟩)⟩) (kGV _ _ _ _) (fun _ h => List.mem_cons_of_mem _ (List.mem_append_right _ (List.mem_append_right _ (List.mem_append_right _ (List.mem_append_right _ (List.mem_append_right _ (List.mem_append_right _ (List.mem_append_right _ (List.mem_append_right _ (List.mem_append_right _ (List.mem_append_right _ (List.mem_append_right _ (List.mem_append_right _ (List.mem_append_right _ (List.mem_append_right _ (List.mem_append_right _ (List.mem_append_right _ (List.mem_append_right _ (List.mem_append_right _ (List.mem_append_right _ h)))))))))))))))))))) gw_s_keep4x) rfl rfl rfl ⟨rfl, hd_X4_keepClause⟩ ⟨(Nat.le_of_ble_eq_true rfl), (Nat.le_of_ble_eq_true rfl)⟩) (kW_V kT_blind kT_give (va_recv hKc hPc (ci := 4) (q0 := 0) rfl rfl) hPc hKc hDc) rfl rfl hl.1 rfl (lv_room (Nat.le_of_ble_eq_true rfl)) dX4_readClause_147 ⟨(Nat.le_of_ble_eq_true rfl), (Nat.le_of_ble_eq_true rfl)⟩) hS (fun q _ h => hFc q h) hFc (fun r_129 u t H1 locs ht hvm hw hB hz1 hk1 hS => ?_)
                obtain ⟨S2_130, Fi_131⟩ := u
                obtain ⟨hP1, hK1, hD1⟩ := hB
                rw [ht] at hP1
                try dsimp only at hw
                obtain ⟨hP, hD⟩ : kPD dC dI A [(jR, .inr (4, [.ref jT, .ref r1, .ref r2, .int (nI (Wr_123)), .int (nI (Fi_131)), .int (nI (Pn_124)), .ref q6, .ref q7])), (r1, .inl (c1, 120, .inl S1_122)), (r2, .inl (c2, 124, .inl S2_130)), (jT, .inr (8, [.ref t0, .int (nI (kt))])), (t0, .inl (cC, 120, .inl gT))] H1 := kJoinI hP hD [0, 1, 2, 3, 4] rfl hk1 hFc hP1 hD1 rfl [some 0, some 1, some 2, some 3, some 4] rfl rfl
                generalize H1 = H at hP hS ⊢
                obtain ⟨rfl, hw_132⟩ := hw
                refine lv_if_eq (tgt := 157) hx hb dX4_readClause_150 (by decide) (fun c_133 => absurd c_133 (by decide)) (fun c_133 => ?_)
                refine lv_iconst (v := 1) hx hb dX4_readClause_153 (by decide) ?_
                refine lv_goto (tgt := 158) hx hb dX4_readClause_154 (by decide) ?_
                have hP9 := hP
                have hD9 := hD
                have hK9 := hK
                rw [hQ]
                exact W.zret (v := 1) hx hb hr rfl (fun t ht hW => ⟨⟨1, (S1_122, S2_130, Wr_123, Fi_131, Pn_124, true, (xl_113 ++ xl_126), j_7, ((xl_113).length)), rfl, ⟨rfl, (by unfold kCla; rw [← hw_4_0, ← hw_4_1]; rw [hj_8, if_pos (by omega), hw_15.2.1, kThC_t]; unfold kCla1; rw [← hw_20_0, ← hw_20_1, if_pos (by omega), hw_114.2.1.1, kThC_t]; unfold kCla2; rw [hw_119.2.1, kThC_t, hw_127.2.1.1, kThC_t]), by omega, by omega, by omega, fun _ => ⟨(by first | omega | (simp only [List.length_append]; omega)), (kWrtC hw_114_S hw_114_W hw_127_S), hw_132.1, kKeep hw_132.2 (by first | omega | (simp only [List.length_append]; omega)) (by first | omega | (simp only [List.length_append]; omega)), (by first | omega | (simp only [List.length_append]; omega)), by omega⟩⟩,  by rw [ht]; exact hP9, va_K.moved hW.alike hK9, hD9⟩, hS.F ht⟩) hS.2.2 dX4_readClause_158
          · obtain rfl : xo_112 = false := kBo_f (kZr9 hw_114.1 c_115)
            have hw_114_k := hw_114.2.1.2.1
            refine lv_iconst (v := 0) hx hb dX4_readClause_117 (by decide) ?_
            have hP9 := hP
            have hD9 := hD
            have hK9 := hK
            rw [hQ]
            exact W.zret (v := 0) hx hb hr rfl (fun t ht hW => ⟨⟨0, (S1_109, s2, Wr_110, fi, Pn_111, false, ([]), 0, 0), rfl, ⟨rfl, (by unfold kCla; rw [← hw_4_0, ← hw_4_1]; rw [hj_8, if_pos (by omega), hw_15.2.1, kThC_t]; unfold kCla1; rw [← hw_20_0, ← hw_20_1, if_pos (by omega), hw_114.2.1.1]; rfl), by omega, by omega, by omega, fun z => absurd z (by decide)⟩,  by rw [ht]; exact hP9, va_K.moved hW.alike hK9, hD9⟩, hS.F ht⟩) hS.2.2 dX4_readClause_118
    · obtain rfl : xo_14 = false := kBo_f (kZr9 hw_15.1 c_16)
      have hw_15_k := hw_15.2.2.2.1
      refine lv_iconst (v := 0) hx hb dX4_readClause_37 (by decide) ?_
      have hP9 := hP
      have hD9 := hD
      have hK9 := hK
      rw [hQ]
      exact W.zret (v := 0) hx hb hr rfl (fun t ht hW => ⟨⟨0, (s1, s2, wr, fi, Pn_13, false, ([]), 0, 0), rfl, ⟨rfl, (by unfold kCla; rw [← hw_4_0, ← hw_4_1]; rw [hj_8, if_pos (by omega), hw_15.2.1]; rfl), by omega, by omega, by omega, fun z => absurd z (by decide)⟩,  by rw [ht]; exact hP9, va_K.moved hW.alike hK9, hD9⟩, hS.F ht⟩) hS.2.2 dX4_readClause_38
