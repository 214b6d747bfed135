theorem dX10_clause_0 : decode cX10_clause 0 = .ok (.aload_n 0, 1) := by decide +kernel
theorem dX10_clause_1 : decode cX10_clause 1 = .ok (.invokevirtual 160, 3) := by decide +kernel
theorem dX10_clause_4 : decode cX10_clause 4 = .ok (.istore_n 1, 1) := by decide +kernel
theorem dX10_clause_5 : decode cX10_clause 5 = .ok (.aload_n 0, 1) := by decide +kernel
theorem dX10_clause_6 : decode cX10_clause 6 = .ok (.getfield 28, 3) := by decide +kernel
theorem dX10_clause_9 : decode cX10_clause 9 = .ok (.iload_n 1, 1) := by decide +kernel
theorem dX10_clause_10 : decode cX10_clause 10 = .ok (.invokestatic 176, 3) := by decide +kernel
theorem dX10_clause_13 : decode cX10_clause 13 = .ok (.ifCond .ne 9, 3) := by decide +kernel
theorem dX10_clause_22 : decode cX10_clause 22 = .ok (.aload_n 0, 1) := by decide +kernel
theorem dX10_clause_23 : decode cX10_clause 23 = .ok (.dup, 1) := by decide +kernel
theorem dX10_clause_24 : decode cX10_clause 24 = .ok (.getfield 141, 3) := by decide +kernel
theorem dX10_clause_27 : decode cX10_clause 27 = .ok (.iconst 1, 1) := by decide +kernel
theorem dX10_clause_28 : decode cX10_clause 28 = .ok (.iadd, 1) := by decide +kernel
theorem dX10_clause_29 : decode cX10_clause 29 = .ok (.putfield 141, 3) := by decide +kernel
theorem dX10_clause_32 : decode cX10_clause 32 = .ok (.aload_n 0, 1) := by decide +kernel
theorem dX10_clause_33 : decode cX10_clause 33 = .ok (.bipush 58, 2) := by decide +kernel
theorem dX10_clause_35 : decode cX10_clause 35 = .ok (.invokevirtual 186, 3) := by decide +kernel
theorem dX10_clause_38 : decode cX10_clause 38 = .ok (.ifCond .ne 4, 3) := by decide +kernel
theorem dX10_clause_42 : decode cX10_clause 42 = .ok (.iconst 1, 1) := by decide +kernel
theorem dX10_clause_43 : decode cX10_clause 43 = .ok (.istore_n 2, 1) := by decide +kernel
theorem dX10_clause_44 : decode cX10_clause 44 = .ok (.iconst 0, 1) := by decide +kernel
theorem dX10_clause_45 : decode cX10_clause 45 = .ok (.istore_n 3, 1) := by decide +kernel
theorem dX10_clause_136 : decode cX10_clause 136 = .ok (.aload_n 0, 1) := by decide +kernel
theorem dX10_clause_137 : decode cX10_clause 137 = .ok (.getfield 150, 3) := by decide +kernel
theorem dX10_clause_140 : decode cX10_clause 140 = .ok (.iconst (-1), 1) := by decide +kernel
theorem dX10_clause_141 : decode cX10_clause 141 = .ok (.if_icmp .ne 22, 3) := by decide +kernel
theorem dX10_clause_163 : decode cX10_clause 163 = .ok (.return_, 1) := by decide +kernel
theorem dX10_clause_144 : decode cX10_clause 144 = .ok (.aload_n 0, 1) := by decide +kernel
theorem dX10_clause_145 : decode cX10_clause 145 = .ok (.getfield 219, 3) := by decide +kernel
theorem dX10_clause_148 : decode cX10_clause 148 = .ok (.ifCond .ne 15, 3) := by decide +kernel
theorem dX10_clause_151 : decode cX10_clause 151 = .ok (.iload_n 1, 1) := by decide +kernel
theorem dX10_clause_152 : decode cX10_clause 152 = .ok (.aload_n 0, 1) := by decide +kernel
theorem dX10_clause_153 : decode cX10_clause 153 = .ok (.getfield 223, 3) := by decide +kernel
theorem dX10_clause_156 : decode cX10_clause 156 = .ok (.if_icmp .ne 7, 3) := by decide +kernel
theorem dX10_clause_159 : decode cX10_clause 159 = .ok (.iload_n 2, 1) := by decide +kernel
theorem dX10_clause_160 : decode cX10_clause 160 = .ok (.ifCond .ne 4, 3) := by decide +kernel
theorem dX10_clause_164 : decode cX10_clause 164 = .ok (.aload_n 0, 1) := by decide +kernel
theorem dX10_clause_165 : decode cX10_clause 165 = .ok (.iconst 1, 1) := by decide +kernel
theorem dX10_clause_166 : decode cX10_clause 166 = .ok (.putfield 219, 3) := by decide +kernel
theorem dX10_clause_169 : decode cX10_clause 169 = .ok (.aload_n 0, 1) := by decide +kernel
theorem dX10_clause_170 : decode cX10_clause 170 = .ok (.iload_n 3, 1) := by decide +kernel
theorem dX10_clause_171 : decode cX10_clause 171 = .ok (.putfield 226, 3) := by decide +kernel
theorem dX10_clause_174 : decode cX10_clause 174 = .ok (.return_, 1) := by decide +kernel
theorem dX10_clause_66 : decode cX10_clause 66 = .ok (.aload_n 0, 1) := by decide +kernel
theorem dX10_clause_67 : decode cX10_clause 67 = .ok (.iconst 0, 1) := by decide +kernel
theorem dX10_clause_68 : decode cX10_clause 68 = .ok (.iconst 0, 1) := by decide +kernel
theorem dX10_clause_69 : decode cX10_clause 69 = .ok (.invokevirtual 209, 3) := by decide +kernel
theorem dX10_clause_72 : decode cX10_clause 72 = .ok (.istore_n 2, 1) := by decide +kernel
theorem dX10_clause_73 : decode cX10_clause 73 = .ok (.aload_n 0, 1) := by decide +kernel
theorem dX10_clause_74 : decode cX10_clause 74 = .ok (.bipush 63, 2) := by decide +kernel
theorem dX10_clause_76 : decode cX10_clause 76 = .ok (.invokevirtual 186, 3) := by decide +kernel
theorem dX10_clause_79 : decode cX10_clause 79 = .ok (.ifCond .ne 4, 3) := by decide +kernel
theorem dX10_clause_83 : decode cX10_clause 83 = .ok (.aload_n 0, 1) := by decide +kernel
theorem dX10_clause_84 : decode cX10_clause 84 = .ok (.invokevirtual 183, 3) := by decide +kernel
theorem dX10_clause_87 : decode cX10_clause 87 = .ok (.istore_n 3, 1) := by decide +kernel
theorem dX10_clause_88 : decode cX10_clause 88 = .ok (.goto 48, 3) := by decide +kernel
theorem dX10_clause_82 : decode cX10_clause 82 = .ok (.return_, 1) := by decide +kernel
theorem dX10_clause_46 : decode cX10_clause 46 = .ok (.aload_n 0, 1) := by decide +kernel
theorem dX10_clause_47 : decode cX10_clause 47 = .ok (.invokevirtual 160, 3) := by decide +kernel
theorem dX10_clause_50 : decode cX10_clause 50 = .ok (.istore 4, 2) := by decide +kernel
theorem dX10_clause_52 : decode cX10_clause 52 = .ok (.iload 4, 2) := by decide +kernel
theorem dX10_clause_54 : decode cX10_clause 54 = .ok (.bipush 33, 2) := by decide +kernel
theorem dX10_clause_56 : decode cX10_clause 56 = .ok (.if_icmp .eq 10, 3) := by decide +kernel
theorem dX10_clause_59 : decode cX10_clause 59 = .ok (.iload 4, 2) := by decide +kernel
theorem dX10_clause_61 : decode cX10_clause 61 = .ok (.bipush 40, 2) := by decide +kernel
theorem dX10_clause_63 : decode cX10_clause 63 = .ok (.if_icmp .ne 28, 3) := by decide +kernel
theorem dX10_clause_91 : decode cX10_clause 91 = .ok (.aload_n 0, 1) := by decide +kernel
theorem dX10_clause_92 : decode cX10_clause 92 = .ok (.invokevirtual 183, 3) := by decide +kernel
theorem dX10_clause_95 : decode cX10_clause 95 = .ok (.istore_n 3, 1) := by decide +kernel
theorem dX10_clause_96 : decode cX10_clause 96 = .ok (.aload_n 0, 1) := by decide +kernel
theorem dX10_clause_97 : decode cX10_clause 97 = .ok (.getfield 150, 3) := by decide +kernel
theorem dX10_clause_100 : decode cX10_clause 100 = .ok (.iconst (-1), 1) := by decide +kernel
theorem dX10_clause_101 : decode cX10_clause 101 = .ok (.if_icmp .ne 35, 3) := by decide +kernel
theorem dX10_clause_104 : decode cX10_clause 104 = .ok (.aload_n 0, 1) := by decide +kernel
theorem dX10_clause_105 : decode cX10_clause 105 = .ok (.invokevirtual 160, 3) := by decide +kernel
theorem dX10_clause_108 : decode cX10_clause 108 = .ok (.invokestatic 203, 3) := by decide +kernel
theorem dX10_clause_111 : decode cX10_clause 111 = .ok (.ifCond .eq 25, 3) := by decide +kernel
theorem dX10_clause_114 : decode cX10_clause 114 = .ok (.aload_n 0, 1) := by decide +kernel
theorem dX10_clause_115 : decode cX10_clause 115 = .ok (.iconst 1, 1) := by decide +kernel
theorem dX10_clause_116 : decode cX10_clause 116 = .ok (.iload_n 3, 1) := by decide +kernel
theorem dX10_clause_117 : decode cX10_clause 117 = .ok (.invokevirtual 209, 3) := by decide +kernel
theorem dX10_clause_120 : decode cX10_clause 120 = .ok (.istore_n 2, 1) := by decide +kernel
theorem dX10_clause_121 : decode cX10_clause 121 = .ok (.aload_n 0, 1) := by decide +kernel
theorem dX10_clause_122 : decode cX10_clause 122 = .ok (.bipush 63, 2) := by decide +kernel
theorem dX10_clause_124 : decode cX10_clause 124 = .ok (.invokevirtual 186, 3) := by decide +kernel
theorem dX10_clause_127 : decode cX10_clause 127 = .ok (.ifCond .ne 4, 3) := by decide +kernel
theorem dX10_clause_131 : decode cX10_clause 131 = .ok (.aload_n 0, 1) := by decide +kernel
theorem dX10_clause_132 : decode cX10_clause 132 = .ok (.invokevirtual 183, 3) := by decide +kernel
theorem dX10_clause_135 : decode cX10_clause 135 = .ok (.istore_n 3, 1) := by decide +kernel
theorem dX10_clause_130 : decode cX10_clause 130 = .ok (.return_, 1) := by decide +kernel
theorem dX10_clause_41 : decode cX10_clause 41 = .ok (.return_, 1) := by decide +kernel
theorem dX10_clause_16 : decode cX10_clause 16 = .ok (.aload_n 0, 1) := by decide +kernel
theorem dX10_clause_17 : decode cX10_clause 17 = .ok (.invokevirtual 156, 3) := by decide +kernel
theorem dX10_clause_20 : decode cX10_clause 20 = .ok (.pop, 1) := by decide +kernel
theorem dX10_clause_21 : decode cX10_clause 21 = .ok (.return_, 1) := by decide +kernel
def w_s_clause10 : List Cond := .code yX10_clause cX10_clause 5 none :: wf_md
theorem gw_s_clause10 : (w_s_clause10).all goodWord = true := kFamG rfl gf_md
theorem hd_X10_clause : yX10_clause.cls ≠ "java/lang/invoke/MethodHandle" ∧ yX10_clause.cls ≠ "java/lang/invoke/VarHandle" ∧ (parseMethodDescriptor yX10_clause.desc).map (fun d => d.parameters.length) = some 0 := by decide +kernel
set_option maxHeartbeats 4000000 in
set_option maxRecDepth 100000 in
theorem s_clause10 (l : Launch) (dC : Nat → ClassId) (dI : Nat → Nat → Nat) (jM : Nat) (vs : Nat → Value) (lt : Nat) (q6 : Nat) (q7 : Nat) (tx : Nat) (cT : ClassId) (nT : Nat) (gT : Nat → Int32) (be : Nat) (en : Nat) (a : Nat) (hbe : be + en ≤ nT) (hnT : nT ≤ 1680) (ha : a ≤ en) (cE : ClassId) (gE : Nat → Int32) (b6 : Nat) (n6 : Nat) (g6 : Nat → Int32) (hn6 : n6 ≤ 8) (hg6 : ∀ k : Nat, ∃ v : Nat, v < 128 ∧ g6 k = nI v) (b7 : Nat) (n7 : Nat) (g7 : Nat → Int32) (hn7 : n7 ≤ 8) (hg7 : ∀ k : Nat, ∃ v : Nat, v < 128 ∧ g7 k = nI v) (lb : Int32) (fd : Int32) (hf : Int32) (sz : Nat) : Met l yX10_clause w_s_clause10 ({ frames := 56, cells := 0, slots := 0, locals := 3360 }) (kW dC dI [.ref jM] [(jM, kMo vs (.ref lt) (.ref tx) (.int (nI (be))) (.int (nI (en))) (.int (nI (a))) (.int (-1)) (.int 0) (.int lb) (.int fd) (.ref q6) (.ref q7) (.int hf)), (tx, .inl (cT, nT, .inl gT)), (lt, .inl (cE, 128, .inl gE))] [(cT, .byte), (cE, .int)] (kS2 q6 b6 n6 g6 q7 b7 n7 g7 (va_A [(jM, kMo vs (.ref lt) (.ref tx) (.int (nI (be))) (.int (nI (en))) (.int (nI (a))) (.int (-1)) (.int 0) (.int lb) (.int fd) (.ref q6) (.ref q7) (.int hf)), (tx, .inl (cT, nT, .inl gT)), (lt, .inl (cE, 128, .inl gE))] sz)) sz) (va_Qv (fun (u : Nat × Int32 × Int32 × Int32 × Int32) => match u with | (a1, xf, xd, fd1, hf1) => ((a ≤ a1 ∧ a1 ≤ en) ∧ (xf = -1 → xd = 0))) (fun (u : Nat × Int32 × Int32 × Int32 × Int32) => match u with | (a1, xf, xd, fd1, hf1) => fun t : State => kB dC dI [(jM, kMo vs (.ref lt) (.ref tx) (.int (nI (be))) (.int (nI (en))) (.int (nI (a1))) (.int xf) (.int xd) (.int lb) (.int fd1) (.ref q6) (.ref q7) (.int hf1)), (tx, .inl (cT, nT, .inl gT)), (lt, .inl (cE, 128, .inl gE))] [(cT, .byte), (cE, .int)] (va_A [(jM, kMo vs (.ref lt) (.ref tx) (.int (nI (be))) (.int (nI (en))) (.int (nI (a))) (.int (-1)) (.int 0) (.int lb) (.int fd) (.ref q6) (.ref q7) (.int hf)), (tx, .inl (cT, nT, .inl gT)), (lt, .inl (cE, 128, .inl gE))] sz) t) (va_A [(jM, kMo vs (.ref lt) (.ref tx) (.int (nI (be))) (.int (nI (en))) (.int (nI (a))) (.int (-1)) (.int 0) (.int lb) (.int fd) (.ref q6) (.ref q7) (.int hf)), (tx, .inl (cT, nT, .inl gT)), (lt, .inl (cE, 128, .inl gE))] sz)) 0 0 (va_A [(jM, kMo vs (.ref lt) (.ref tx) (.int (nI (be))) (.int (nI (en))) (.int (nI (a))) (.int (-1)) (.int 0) (.int lb) (.int fd) (.ref q6) (.ref q7) (.int hf)), (tx, .inl (cT, nT, .inl gT)), (lt, .inl (cE, 128, .inl gE))] sz) := by
  refine Met.ofW (cc := cX10_clause) (maxL := 5) (ret := none) (by decide) rfl ?_
  intro p e s m args below meth c s₁ B hml hv
  obtain ⟨rfl, hsz, hP, hK, hD0, hX⟩ := hv
  have hx := B.exec
  have hb := B.bytes
  have hr := B.returns
  have hts := atoms_spec (ws := w_s_clause10) B.pre
  have hown : s.vm.findClass RX10 = some m.cls := findClass_of_methodNamed B.named
  have hlocks := B.notSynchronized
  subst hsz
  have hD := hD0.self (sz := s.heap.size)
  generalize hAe : va_A [(jM, kMo vs (.ref lt) (.ref tx) (.int (nI (be))) (.int (nI (en))) (.int (nI (a))) (.int (-1)) (.int 0) (.int lb) (.int fd) (.ref q6) (.ref q7) (.int hf)), (tx, .inl (cT, nT, .inl gT)), (lt, .inl (cE, 128, .inl gE))] s.heap.size = A at hD hX ⊢
  have hA : ∀ q : Nat, s.heap.size ≤ q → A q := fun q h => by rw [← hAe]; exact Or.inr h
  have hS : va_S A s.heap s.heap [] := va_S.rf
  have hP : va_P (dC, dI) vwCl [(jM, kMo vs (.ref lt) (.ref tx) (.int (nI (be))) (.int (nI (en))) (.int (nI (a))) (.int (-1)) (.int 0) (.int lb) (.int fd) (.ref q6) (.ref q7) (.int hf)), (tx, .inl (cT, nT, .inl gT)), (lt, .inl (cE, 128, .inl gE))] s.heap := hP
  have hl := lv_entry ([.ref jM]) (n := 5) (Nat.le_of_ble_eq_true rfl)
  rw [lg_entry_eq]
  generalize (lg_sl ([.ref jM]) ++ List.replicate (5 - (lg_sl ([.ref jM])).length) Slot.unset).toArray = ls at hl ⊢
  have hl : lv_has ls 5 [(0, .ref jM)] := hl
  refine kQ (fun Q hQ => ?_)
  refine lv_aload_n hx hb dX10_clause_0 rfl (lv_at hl 0 rfl) ?_
  obtain ⟨hPc, hDc, hFc⟩ := kCut (wc := [(jM, kMo vs (.ref lt) (.ref tx) (.int (nI (be))) (.int (nI (en))) (.int (nI (a))) (.int (-1)) (.int 0) (.int lb) (.int fd) (.ref q6) (.ref q7) (.int hf)), (tx, .inl (cT, nT, .inl gT))]) hP hD hS hA [0, 1] rfl (by decide) rfl
  have hKc := hK.sb (tys2 := [(cT, .byte)]) [0] rfl
  refine va_calli (va_runV (As := []) (rest := []) ⟨hx, hb, hml, hown, hts⟩ (s_look10 l dC dI jM vs (.int (-1) : Value) (.int 0 : Value) (.int lb : Value) (.int fd : Value) (.int hf : Value) lt q6 q7 tx cT nT gT be en a (by omega) (by omega) (by omega) s.heap.size) (cwV 0 hts (kG (List.forall_mem_cons.mpr ⟨(List.mem_cons_of_mem _ (List.mem_append_left _ (List.mem_of_getElem? (i := 3) rfl))), (List.forall_mem_cons.mpr ⟨(List.mem_cons_of_mem _ (List.mem_append_left _ (List.mem_of_getElem? (i := 2) rfl))), (List.forall_mem_cons.mpr ⟨(List.mem_cons_of_mem _ (List.mem_append_left _ (List.mem_of_getElem? (i := 1) rfl))), (List.forall_mem_cons.mpr ⟨(List.mem_cons_of_mem _ (List.mem_append_left _ (List.mem_of_getElem? (i := 0) rfl))), (fun _ h => absurd h List.not_mem_nil)⟩)⟩)⟩)⟩) (kGV _ _ _ _) (fun _ h => List.mem_cons_of_mem _ (List.mem_append_right _ (List.mem_append_left _ h))) gw_s_look10) rfl rfl rfl ⟨rfl, hd_X10_look⟩ ⟨(Nat.le_of_ble_eq_true rfl), (Nat.le_of_ble_eq_true rfl)⟩) (kW_V kT_blind kT_give (va_recv hKc hPc (ci := 10) (q0 := 0) rfl rfl) hPc hKc hDc) rfl rfl hl.1 rfl (lv_room (Nat.le_of_ble_eq_true rfl)) dX10_clause_1 ⟨(Nat.le_of_ble_eq_true rfl), (Nat.le_of_ble_eq_true rfl)⟩) hS (fun q _ h => hFc q h) hFc (fun r_1 u t H1 locs ht hvm hw hB hz1 hk1 hS => ?_)
  obtain ⟨a1_2, rfl⟩ : ∃ z, z = u := ⟨_, rfl⟩
  obtain ⟨hP1, hK1, hD1⟩ := hB
  rw [ht] at hP1
  try dsimp only at hw
  obtain ⟨hP, hD⟩ : kPD dC dI A [(jM, kMo vs (.ref lt) (.ref tx) (.int (nI (be))) (.int (nI (en))) (.int (nI (a1_2))) (.int (-1)) (.int 0) (.int lb) (.int fd) (.ref q6) (.ref q7) (.int hf)), (tx, .inl (cT, nT, .inl gT)), (lt, .inl (cE, 128, .inl gE))] H1 := kJoinI hP hD [0, 1] rfl hk1 hFc hP1 hD1 rfl [some 0, some 1, none] rfl rfl
  generalize H1 = H at hP hS ⊢
  have hw_3 := hw
  have hw_3_3 := hw_3.2.1
  refine lv_istore_n hx hb dX10_clause_4 rfl hl (by decide) (kTo [(1, .int r_1), (0, .ref jM)]) (fun ls hl => ?_)
  refine lv_aload_n hx hb dX10_clause_5 rfl (lv_at hl 1 rfl) ?_
  refine va_get (D := (dC, dI)) (ci := 10) (v := .ref q6) (C := RX10) (T := TX10) (N := 52) hx hb hts (fun _ h => List.mem_cons_of_mem _ (List.mem_append_right _ (List.mem_append_right _ (List.mem_append_left _ h)))) hown hK hP 0 rfl rfl 16 (by decide) (hts (.fieldLink RX10 28 "NotEndedModel" "labels" "Ljava/lang/String;") (List.mem_cons_of_mem _ (List.mem_append_left _ (List.mem_of_getElem? (i := 57) rfl)))) (fun _ h9 => h9) rfl dX10_clause_6 ?_
  refine lv_iload_n hx hb dX10_clause_9 rfl (lv_at hl 0 rfl) ?_
  have hPc := hP.sb (ws2 := []) [] rfl
  have hKc := hK.sb (tys2 := []) [] rfl
  refine vp_callSi (va_runS (As := [.ref q6, .int r_1]) (rest := []) ⟨hx, hb, hml, hown, hts⟩ (s_among10 l dC dI q6 b6 n6 g6 hn6 A hg6 r_1) (va_cwS 2 hts (kG (List.forall_mem_cons.mpr ⟨(List.mem_cons_of_mem _ (List.mem_append_left _ (List.mem_of_getElem? (i := 6) rfl))), (List.forall_mem_cons.mpr ⟨(List.mem_cons_of_mem _ (List.mem_append_left _ (List.mem_of_getElem? (i := 5) rfl))), (List.forall_mem_cons.mpr ⟨(List.mem_cons_of_mem _ (List.mem_append_left _ (List.mem_of_getElem? (i := 0) rfl))), (fun _ h => absurd h List.not_mem_nil)⟩)⟩)⟩) (kGS _ _ _) (fun _ h => List.mem_cons_of_mem _ (List.mem_append_right _ (List.mem_append_right _ (List.mem_append_right _ (List.mem_append_left _ h))))) gw_s_among10) rfl rfl rfl hd_X10_isAmong ⟨(Nat.le_of_ble_eq_true rfl), (Nat.le_of_ble_eq_true rfl)⟩) (kR_S kSt_blind (kSt_give hX.1 hS) hPc hKc) rfl rfl hl.1 rfl (lv_room (Nat.le_of_ble_eq_true rfl)) dX10_clause_10 ⟨(Nat.le_of_ble_eq_true rfl), (Nat.le_of_ble_eq_true rfl)⟩).run (fun r_4 hw => ?_)
  have hw_5 := hw
  refine lv_if_ne (tgt := 22) hx hb dX10_clause_13 (by decide) (fun c_6 => ?_) (fun c_6 => ?_)
  · obtain ⟨j_7, hj_7, ej_7⟩ := hw_5 c_6
    subst ej_7
    have hns_8 := hw_3.1.resolve_left (kNeM (n := j_7) (by omega))
    have hns_8_1 := hns_8.1
    refine lv_aload_n hx hb dX10_clause_22 rfl (lv_at hl 1 rfl) ?_
    refine lv_dup hx hb dX10_clause_23 rfl ?_
    refine va_get (D := (dC, dI)) (ci := 10) (v := .int (nI (a1_2))) (C := RX10) (T := TX10) (N := 52) hx hb hts (fun _ h => List.mem_cons_of_mem _ (List.mem_append_right _ (List.mem_append_right _ (List.mem_append_left _ h)))) hown hK hP 0 rfl rfl 11 (by decide) (hts (.fieldLink RX10 141 "NotEndedModel" "at" "I") (List.mem_cons_of_mem _ (List.mem_append_left _ (List.mem_of_getElem? (i := 13) rfl)))) (fun _ h9 => h9) rfl dX10_clause_24 ?_
    refine lv_iconst (v := 1) hx hb dX10_clause_27 (by decide) ?_
    refine lv_iadd hx hb dX10_clause_28 ?_
    refine lv_topi (fun y_9 ey_9 => ?_)
    obtain rfl : y_9 = nI (a1_2 + 1) := ey_9.trans (nI_add (a1_2) (1))
    refine va_put (D := (dC, dI)) (ci := 10) (v := .int (nI (a1_2 + 1))) (ty := tyX10 11) (C := RX10) (T := TX10) (N := 52) hx hb hts (fun _ h => List.mem_cons_of_mem _ (List.mem_append_right _ (List.mem_append_right _ (List.mem_append_left _ h)))) tyX10 tyX10_ok nmX10 hown hK hP hD hS 0 rfl rfl 11 (by decide) (hts (.fieldLink RX10 141 "NotEndedModel" "at" "I") (List.mem_cons_of_mem _ (List.mem_append_left _ (List.mem_of_getElem? (i := 13) rfl)))) (fun _ h9 => h9) rfl (tyX10_ok 11 (by decide)) rfl rfl (Nat.le_of_ble_eq_true rfl) dX10_clause_29 (fun H locs hP hD hS => ?_)
    obtain ⟨hP, hD⟩ : kPD dC dI A [(jM, kMo vs (.ref lt) (.ref tx) (.int (nI (be))) (.int (nI (en))) (.int (nI (a1_2 + 1))) (.int (-1)) (.int 0) (.int lb) (.int fd) (.ref q6) (.ref q7) (.int hf)), (tx, .inl (cT, nT, .inl gT)), (lt, .inl (cE, 128, .inl gE))] H := ⟨hP, hD⟩
    refine lv_aload_n hx hb dX10_clause_32 rfl (lv_at hl 1 rfl) ?_
    refine lv_bipush (v := 58) hx hb dX10_clause_33 (by decide) ?_
    obtain ⟨hPc, hDc, hFc⟩ := kCut (wc := [(jM, kMo vs (.ref lt) (.ref tx) (.int (nI (be))) (.int (nI (en))) (.int (nI (a1_2 + 1))) (.int (-1)) (.int 0) (.int lb) (.int fd) (.ref q6) (.ref q7) (.int hf)), (tx, .inl (cT, nT, .inl gT))]) hP hD hS hA [0, 1] rfl (by decide) rfl
    have hKc := hK.sb (tys2 := [(cT, .byte)]) [0] rfl
    refine va_calli (va_runV (As := [.int 58]) (rest := []) ⟨hx, hb, hml, hown, hts⟩ (s_takes10 l dC dI jM vs (.int 0 : Value) (.int lb : Value) (.int fd : Value) (.int hf : Value) lt q6 q7 tx cT nT gT be en (a1_2 + 1) (by omega) (by omega) (by omega) (-1) 58 (by decide) H.size) (cwV 1 hts (kG (List.forall_mem_cons.mpr ⟨(List.mem_cons_of_mem _ (List.mem_append_left _ (List.mem_of_getElem? (i := 51) rfl))), (List.forall_mem_cons.mpr ⟨(List.mem_cons_of_mem _ (List.mem_append_left _ (List.mem_of_getElem? (i := 50) rfl))), (List.forall_mem_cons.mpr ⟨(List.mem_cons_of_mem _ (List.mem_append_left _ (List.mem_of_getElem? (i := 49) rfl))), (List.forall_mem_cons.mpr ⟨(List.mem_cons_of_mem _ (List.mem_append_left _ (List.mem_of_getElem? (i := 0) rfl))), (fun _ h => absurd h List.not_mem_nil)⟩)⟩)⟩)⟩) (kGV _ _ _ _) (fun _ h => List.mem_cons_of_mem _ (List.mem_append_right _ (List.mem_append_right _ (List.mem_append_right _ (List.mem_append_right _ (List.mem_append_right _ (List.mem_append_right _ (List.mem_append_right _ (List.mem_append_right _ (List.mem_append_right _ (List.mem_append_right _ (List.mem_append_left _ h)))))))))))) gw_s_takes10) rfl rfl rfl ⟨rfl, hd_X10_takes⟩ ⟨(Nat.le_of_ble_eq_true rfl), (Nat.le_of_ble_eq_true rfl)⟩) (kW_V kT_blind kT_give (va_recv hKc hPc (ci := 10) (q0 := 0) rfl rfl) hPc hKc hDc) rfl rfl hl.1 rfl (lv_room (Nat.le_of_ble_eq_true rfl)) dX10_clause_35 ⟨(Nat.le_of_ble_eq_true rfl), (Nat.le_of_ble_eq_true rfl)⟩) hS (fun q _ h => hFc q h) hFc (fun r_10 u t H1 locs ht hvm hw hB hz1 hk1 hS => ?_)
    obtain ⟨a1_11, xf_12⟩ := u
    obtain ⟨hP1, hK1, hD1⟩ := hB
    rw [ht] at hP1
    try dsimp only at hw
    obtain ⟨hP, hD⟩ : kPD dC dI A [(jM, kMo vs (.ref lt) (.ref tx) (.int (nI (be))) (.int (nI (en))) (.int (nI (a1_11))) (.int xf_12) (.int 0) (.int lb) (.int fd) (.ref q6) (.ref q7) (.int hf)), (tx, .inl (cT, nT, .inl gT)), (lt, .inl (cE, 128, .inl gE))] H1 := kJoinI hP hD [0, 1] rfl hk1 hFc hP1 hD1 rfl [some 0, some 1, none] rfl rfl
    generalize H1 = H at hP hS ⊢
    have hw_13 := hw
    have hw_13_0 := hw_13.2.1
    refine lv_if_ne (tgt := 42) hx hb dX10_clause_38 (by decide) (fun c_14 => ?_) (fun c_14 => ?_)
    · obtain ⟨e_15, e_15_2⟩ := hw_13.2.2.2 c_14
      subst e_15_2
      refine lv_iconst (v := 1) hx hb dX10_clause_42 (by decide) ?_
      refine lv_istore_n hx hb dX10_clause_43 rfl hl (by decide) (kTo [(2, .int 1), (1, .int (nI (j_7))), (0, .ref jM)]) (fun ls hl => ?_)
      refine lv_iconst (v := 0) hx hb dX10_clause_44 (by decide) ?_
      refine lv_istore_n hx hb dX10_clause_45 rfl hl (by decide) (kTo [(3, .int 0), (2, .int 1), (1, .int (nI (j_7))), (0, .ref jM)]) (fun ls hl => ?_)
      have lp_k_16 : ∀ (n9 : Nat) (i : Nat) (lf : Int32) (ld : Int32) (xi : Int32) (xv : Int32) (ivk_16_0 : (a ≤ i ∧ i ≤ en)) (ivk_16_1 : (lf = -1 → ld = 0)) (H : Heap) (locs : List Loc) (_ : va_P (dC, dI) vwCl [(jM, kMo vs (.ref lt) (.ref tx) (.int (nI (be))) (.int (nI (en))) (.int (nI (i))) (.int lf) (.int ld) (.int lb) (.int fd) (.ref q6) (.ref q7) (.int hf)), (tx, .inl (cT, nT, .inl gT)), (lt, .inl (cE, 128, .inl gE))] H) (_ : va_D A [(jM, kMo vs (.ref lt) (.ref tx) (.int (nI (be))) (.int (nI (en))) (.int (nI (i))) (.int lf) (.int ld) (.int lb) (.int fd) (.ref q6) (.ref q7) (.int hf)), (tx, .inl (cT, nT, .inl gT)), (lt, .inl (cE, 128, .inl gE))]) (_ : va_S A s.heap H locs) (ls : Array Slot) (_ : lv_has ls 5 [(3, .int xv), (2, .int xi), (1, .int (nI (j_7))), (0, .ref jM)]) (_ : 0 < n9), W p l e (headSpec w_s_clause10 ({ frames := 56, cells := 0, slots := 0, locals := 3360 })).room s m (#[.ref jM] : Array Value) below meth c H locs 0 0 Q (F0 m 136 ls []) := by
        intro n9
        induction n9 with
        | zero => intro i lf ld xi xv ivk_16_0 ivk_16_1 H locs hP hD hS ls hl hm9; exact absurd hm9 (Nat.not_lt_zero _)
        | succ n9 ih_k_16 =>
          intro i lf ld xi xv ivk_16_0 ivk_16_1 H locs hP hD hS ls hl hm9
          refine lv_aload_n hx hb dX10_clause_136 rfl (lv_at hl 3 rfl) ?_
          refine va_get (D := (dC, dI)) (ci := 10) (v := .int lf) (C := RX10) (T := TX10) (N := 52) hx hb hts (fun _ h => List.mem_cons_of_mem _ (List.mem_append_right _ (List.mem_append_right _ (List.mem_append_left _ h)))) hown hK hP 0 rfl rfl 12 (by decide) (hts (.fieldLink RX10 150 "NotEndedModel" "fault" "I") (List.mem_cons_of_mem _ (List.mem_append_left _ (List.mem_of_getElem? (i := 10) rfl)))) (fun _ h9 => h9) rfl dX10_clause_137 ?_
          refine lv_iconst (v := (-1)) hx hb dX10_clause_140 (by decide) ?_
          refine lv_icmp_ne (tgt := 163) hx hb dX10_clause_141 (by decide) (fun c_17 => ?_) (fun c_17 => ?_)
          · have hP9 := hP
            have hD9 := hD
            have hK9 := hK
            rw [hQ]
            exact W.vret hx hb hr (fun t ht hW => ⟨⟨(i, lf, ld, fd, hf), rfl, ⟨by omega, ivk_16_1⟩,  by rw [ht]; exact hP9, va_K.moved hW.alike hK9, hD9⟩, hS.F ht⟩) hS.2.2 dX10_clause_163
          · have e_18 := ivk_16_1 c_17
            subst e_18
            subst c_17
            refine lv_aload_n hx hb dX10_clause_144 rfl (lv_at hl 3 rfl) ?_
            refine va_get (D := (dC, dI)) (ci := 10) (v := .int hf) (C := RX10) (T := TX10) (N := 52) hx hb hts (fun _ h => List.mem_cons_of_mem _ (List.mem_append_right _ (List.mem_append_right _ (List.mem_append_left _ h)))) hown hK hP 0 rfl rfl 18 (by decide) (hts (.fieldLink RX10 219 "NotEndedModel" "hasFound" "Z") (List.mem_cons_of_mem _ (List.mem_append_left _ (List.mem_of_getElem? (i := 58) rfl)))) (fun _ h9 => h9) rfl dX10_clause_145 ?_
            refine lv_if_ne (tgt := 163) hx hb dX10_clause_148 (by decide) (fun c_19 => ?_) (fun c_19 => ?_)
            · have hP9 := hP
              have hD9 := hD
              have hK9 := hK
              rw [hQ]
              exact W.vret hx hb hr (fun t ht hW => ⟨⟨(i, (-1), 0, fd, hf), rfl, ⟨by omega, (fun _ => rfl)⟩,  by rw [ht]; exact hP9, va_K.moved hW.alike hK9, hD9⟩, hS.F ht⟩) hS.2.2 dX10_clause_163
            · refine lv_iload_n hx hb dX10_clause_151 rfl (lv_at hl 2 rfl) ?_
              refine lv_aload_n hx hb dX10_clause_152 rfl (lv_at hl 3 rfl) ?_
              refine va_get (D := (dC, dI)) (ci := 10) (v := .int lb) (C := RX10) (T := TX10) (N := 52) hx hb hts (fun _ h => List.mem_cons_of_mem _ (List.mem_append_right _ (List.mem_append_right _ (List.mem_append_left _ h)))) hown hK hP 0 rfl rfl 14 (by decide) (hts (.fieldLink RX10 223 "NotEndedModel" "label" "I") (List.mem_cons_of_mem _ (List.mem_append_left _ (List.mem_of_getElem? (i := 59) rfl)))) (fun _ h9 => h9) rfl dX10_clause_153 ?_
              refine lv_icmp_ne (tgt := 163) hx hb dX10_clause_156 (by decide) (fun c_20 => ?_) (fun c_20 => ?_)
              · have hP9 := hP
                have hD9 := hD
                have hK9 := hK
                rw [hQ]
                exact W.vret hx hb hr (fun t ht hW => ⟨⟨(i, (-1), 0, fd, hf), rfl, ⟨by omega, (fun _ => rfl)⟩,  by rw [ht]; exact hP9, va_K.moved hW.alike hK9, hD9⟩, hS.F ht⟩) hS.2.2 dX10_clause_163
              · refine lv_iload_n hx hb dX10_clause_159 rfl (lv_at hl 1 rfl) ?_
                refine lv_if_ne (tgt := 164) hx hb dX10_clause_160 (by decide) (fun c_21 => ?_) (fun c_21 => ?_)
                · refine lv_aload_n hx hb dX10_clause_164 rfl (lv_at hl 3 rfl) ?_
                  refine lv_iconst (v := 1) hx hb dX10_clause_165 (by decide) ?_
                  refine va_put (D := (dC, dI)) (ci := 10) (v := .int 1) (ty := tyX10 18) (C := RX10) (T := TX10) (N := 52) hx hb hts (fun _ h => List.mem_cons_of_mem _ (List.mem_append_right _ (List.mem_append_right _ (List.mem_append_left _ h)))) tyX10 tyX10_ok nmX10 hown hK hP hD hS 0 rfl rfl 18 (by decide) (hts (.fieldLink RX10 219 "NotEndedModel" "hasFound" "Z") (List.mem_cons_of_mem _ (List.mem_append_left _ (List.mem_of_getElem? (i := 58) rfl)))) (fun _ h9 => h9) rfl (tyX10_ok 18 (by decide)) rfl rfl (Nat.le_of_ble_eq_true rfl) dX10_clause_166 (fun H locs hP hD hS => ?_)
                  obtain ⟨hP, hD⟩ : kPD dC dI A [(jM, kMo vs (.ref lt) (.ref tx) (.int (nI (be))) (.int (nI (en))) (.int (nI (i))) (.int (-1)) (.int 0) (.int lb) (.int fd) (.ref q6) (.ref q7) (.int 1)), (tx, .inl (cT, nT, .inl gT)), (lt, .inl (cE, 128, .inl gE))] H := ⟨hP, hD⟩
                  refine lv_aload_n hx hb dX10_clause_169 rfl (lv_at hl 3 rfl) ?_
                  refine lv_iload_n hx hb dX10_clause_170 rfl (lv_at hl 0 rfl) ?_
                  refine va_put (D := (dC, dI)) (ci := 10) (v := .int xv) (ty := tyX10 15) (C := RX10) (T := TX10) (N := 52) hx hb hts (fun _ h => List.mem_cons_of_mem _ (List.mem_append_right _ (List.mem_append_right _ (List.mem_append_left _ h)))) tyX10 tyX10_ok nmX10 hown hK hP hD hS 0 rfl rfl 15 (by decide) (hts (.fieldLink RX10 226 "NotEndedModel" "found" "I") (List.mem_cons_of_mem _ (List.mem_append_left _ (List.mem_of_getElem? (i := 60) rfl)))) (fun _ h9 => h9) rfl (tyX10_ok 15 (by decide)) rfl rfl (Nat.le_of_ble_eq_true rfl) dX10_clause_171 (fun H locs hP hD hS => ?_)
                  obtain ⟨hP, hD⟩ : kPD dC dI A [(jM, kMo vs (.ref lt) (.ref tx) (.int (nI (be))) (.int (nI (en))) (.int (nI (i))) (.int (-1)) (.int 0) (.int lb) (.int xv) (.ref q6) (.ref q7) (.int 1)), (tx, .inl (cT, nT, .inl gT)), (lt, .inl (cE, 128, .inl gE))] H := ⟨hP, hD⟩
                  have hP9 := hP
                  have hD9 := hD
                  have hK9 := hK
                  rw [hQ]
                  exact W.vret hx hb hr (fun t ht hW => ⟨⟨(i, (-1), 0, xv, 1), rfl, ⟨by omega, (fun _ => rfl)⟩,  by rw [ht]; exact hP9, va_K.moved hW.alike hK9, hD9⟩, hS.F ht⟩) hS.2.2 dX10_clause_174
                · have hP9 := hP
                  have hD9 := hD
                  have hK9 := hK
                  rw [hQ]
                  exact W.vret hx hb hr (fun t ht hW => ⟨⟨(i, (-1), 0, fd, hf), rfl, ⟨by omega, (fun _ => rfl)⟩,  by rw [ht]; exact hP9, va_K.moved hW.alike hK9, hD9⟩, hS.F ht⟩) hS.2.2 dX10_clause_163
      have lp_k_22 : ∀ (n9 : Nat) (i : Nat) (ivk_22_0 : (a ≤ i ∧ i ≤ en)) (H : Heap) (locs : List Loc) (_ : va_P (dC, dI) vwCl [(jM, kMo vs (.ref lt) (.ref tx) (.int (nI (be))) (.int (nI (en))) (.int (nI (i))) (.int (-1)) (.int 0) (.int lb) (.int fd) (.ref q6) (.ref q7) (.int hf)), (tx, .inl (cT, nT, .inl gT)), (lt, .inl (cE, 128, .inl gE))] H) (_ : va_D A [(jM, kMo vs (.ref lt) (.ref tx) (.int (nI (be))) (.int (nI (en))) (.int (nI (i))) (.int (-1)) (.int 0) (.int lb) (.int fd) (.ref q6) (.ref q7) (.int hf)), (tx, .inl (cT, nT, .inl gT)), (lt, .inl (cE, 128, .inl gE))]) (_ : va_S A s.heap H locs) (ls : Array Slot) (_ : lv_has ls 5 [(3, .int 0), (2, .int 1), (1, .int (nI (j_7))), (0, .ref jM)]) (_ : 0 < n9), W p l e (headSpec w_s_clause10 ({ frames := 56, cells := 0, slots := 0, locals := 3360 })).room s m (#[.ref jM] : Array Value) below meth c H locs 0 0 Q (F0 m 66 ls []) := by
        intro n9
        induction n9 with
        | zero => intro i ivk_22_0 H locs hP hD hS ls hl hm9; exact absurd hm9 (Nat.not_lt_zero _)
        | succ n9 ih_k_22 =>
          intro i ivk_22_0 H locs hP hD hS ls hl hm9
          refine lv_aload_n hx hb dX10_clause_66 rfl (lv_at hl 3 rfl) ?_
          refine lv_iconst (v := 0) hx hb dX10_clause_67 (by decide) ?_
          refine lv_iconst (v := 0) hx hb dX10_clause_68 (by decide) ?_
          obtain ⟨hPc, hDc, hFc⟩ := kCut (wc := [(jM, kMo vs (.ref lt) (.ref tx) (.int (nI (be))) (.int (nI (en))) (.int (nI (i))) (.int (-1)) (.int 0) (.int lb) (.int fd) (.ref q6) (.ref q7) (.int hf)), (tx, .inl (cT, nT, .inl gT)), (lt, .inl (cE, 128, .inl gE))]) hP hD hS hA [0, 1, 2] rfl (by decide) rfl
          have hKc := hK.sb (tys2 := [(cT, .byte), (cE, .int)]) [0, 1] rfl
          refine va_calli (va_runV (As := [.int 0, .int 0]) (rest := []) ⟨hx, hb, hml, hown, hts⟩ (s_cond10_0_0 l dC dI jM vs (.int lb : Value) (.int fd : Value) (.int hf : Value) lt q6 q7 tx cT nT gT be en i (by omega) (by omega) (by omega) cE gE b6 n6 g6 hn6 hg6 b7 n7 g7 hn7 hg7 0 H.size) (cwV 2 hts (kG (List.forall_mem_cons.mpr ⟨(List.mem_cons_of_mem _ (List.mem_append_left _ (List.mem_of_getElem? (i := 56) rfl))), (List.forall_mem_cons.mpr ⟨(List.mem_cons_of_mem _ (List.mem_append_left _ (List.mem_of_getElem? (i := 55) rfl))), (List.forall_mem_cons.mpr ⟨(List.mem_cons_of_mem _ (List.mem_append_left _ (List.mem_of_getElem? (i := 54) rfl))), (List.forall_mem_cons.mpr ⟨(List.mem_cons_of_mem _ (List.mem_append_left _ (List.mem_of_getElem? (i := 0) rfl))), (fun _ h => absurd h List.not_mem_nil)⟩)⟩)⟩)⟩) (kGV _ _ _ _) (kFam (List.mem_cons_of_mem _ (List.mem_append_left _ (List.mem_of_getElem? (i := 53) rfl)))) gw_s_cond10_0_0) rfl rfl rfl ⟨rfl, hd_X10_condition⟩ ⟨(Nat.le_of_ble_eq_true rfl), (Nat.le_of_ble_eq_true rfl)⟩) (kW_V kS2_blind (kS2_give hX hS hFc) (va_recv hKc hPc (ci := 10) (q0 := 0) rfl rfl) hPc hKc hDc) rfl rfl hl.1 rfl (lv_room (Nat.le_of_ble_eq_true rfl)) dX10_clause_69 ⟨(Nat.le_of_ble_eq_true rfl), (Nat.le_of_ble_eq_true rfl)⟩) hS (fun q _ h => hFc q h) hFc (fun r_23 u t H1 locs ht hvm hw hB hz1 hk1 hS => ?_)
          obtain ⟨a1_24, xf_25, xd_26⟩ := u
          obtain ⟨hP1, hK1, hD1⟩ := hB
          rw [ht] at hP1
          try dsimp only at hw
          obtain ⟨hP, hD⟩ : kPD dC dI A [(jM, kMo vs (.ref lt) (.ref tx) (.int (nI (be))) (.int (nI (en))) (.int (nI (a1_24))) (.int xf_25) (.int xd_26) (.int lb) (.int fd) (.ref q6) (.ref q7) (.int hf)), (tx, .inl (cT, nT, .inl gT)), (lt, .inl (cE, 128, .inl gE))] H1 := kJoinI hP hD [0, 1, 2] rfl hk1 hFc hP1 hD1 rfl [some 0, some 1, some 2] rfl rfl
          generalize H1 = H at hP hS ⊢
          have hw_27 := hw
          have hw_27_a := hw_27.2.1
          have hw_27_b := hw_27.1
          refine lv_istore_n hx hb dX10_clause_72 rfl hl (by decide) (kTo [(2, .int r_23), (3, .int 0), (1, .int (nI (j_7))), (0, .ref jM)]) (fun ls hl => ?_)
          refine lv_aload_n hx hb dX10_clause_73 rfl (lv_at hl 3 rfl) ?_
          refine lv_bipush (v := 63) hx hb dX10_clause_74 (by decide) ?_
          obtain ⟨hPc, hDc, hFc⟩ := kCut (wc := [(jM, kMo vs (.ref lt) (.ref tx) (.int (nI (be))) (.int (nI (en))) (.int (nI (a1_24))) (.int xf_25) (.int xd_26) (.int lb) (.int fd) (.ref q6) (.ref q7) (.int hf)), (tx, .inl (cT, nT, .inl gT))]) hP hD hS hA [0, 1] rfl (by decide) rfl
          have hKc := hK.sb (tys2 := [(cT, .byte)]) [0] rfl
          refine va_calli (va_runV (As := [.int 63]) (rest := []) ⟨hx, hb, hml, hown, hts⟩ (s_takes10 l dC dI jM vs (.int xd_26 : Value) (.int lb : Value) (.int fd : Value) (.int hf : Value) lt q6 q7 tx cT nT gT be en a1_24 (by omega) (by omega) (by omega) xf_25 63 (by decide) H.size) (cwV 1 hts (kG (List.forall_mem_cons.mpr ⟨(List.mem_cons_of_mem _ (List.mem_append_left _ (List.mem_of_getElem? (i := 51) rfl))), (List.forall_mem_cons.mpr ⟨(List.mem_cons_of_mem _ (List.mem_append_left _ (List.mem_of_getElem? (i := 50) rfl))), (List.forall_mem_cons.mpr ⟨(List.mem_cons_of_mem _ (List.mem_append_left _ (List.mem_of_getElem? (i := 49) rfl))), (List.forall_mem_cons.mpr ⟨(List.mem_cons_of_mem _ (List.mem_append_left _ (List.mem_of_getElem? (i := 0) rfl))), (fun _ h => absurd h List.not_mem_nil)⟩)⟩)⟩)⟩) (kGV _ _ _ _) (fun _ h => List.mem_cons_of_mem _ (List.mem_append_right _ (List.mem_append_right _ (List.mem_append_right _ (List.mem_append_right _ (List.mem_append_right _ (List.mem_append_right _ (List.mem_append_right _ (List.mem_append_right _ (List.mem_append_right _ (List.mem_append_right _ (List.mem_append_left _ h)))))))))))) gw_s_takes10) rfl rfl rfl ⟨rfl, hd_X10_takes⟩ ⟨(Nat.le_of_ble_eq_true rfl), (Nat.le_of_ble_eq_true rfl)⟩) (kW_V kT_blind kT_give (va_recv hKc hPc (ci := 10) (q0 := 0) rfl rfl) hPc hKc hDc) rfl rfl hl.1 rfl (lv_room (Nat.le_of_ble_eq_true rfl)) dX10_clause_76 ⟨(Nat.le_of_ble_eq_true rfl), (Nat.le_of_ble_eq_true rfl)⟩) hS (fun q _ h => hFc q h) hFc (fun r_28 u t H1 locs ht hvm hw hB hz1 hk1 hS => ?_)
          obtain ⟨a1_29, xf_30⟩ := u
          obtain ⟨hP1, hK1, hD1⟩ := hB
          rw [ht] at hP1
          try dsimp only at hw
          obtain ⟨hP, hD⟩ : kPD dC dI A [(jM, kMo vs (.ref lt) (.ref tx) (.int (nI (be))) (.int (nI (en))) (.int (nI (a1_29))) (.int xf_30) (.int xd_26) (.int lb) (.int fd) (.ref q6) (.ref q7) (.int hf)), (tx, .inl (cT, nT, .inl gT)), (lt, .inl (cE, 128, .inl gE))] H1 := kJoinI hP hD [0, 1] rfl hk1 hFc hP1 hD1 rfl [some 0, some 1, none] rfl rfl
          generalize H1 = H at hP hS ⊢
          have hw_31 := hw
          have hw_31_0 := hw_31.2.1
          refine lv_if_ne (tgt := 83) hx hb dX10_clause_79 (by decide) (fun c_32 => ?_) (fun c_32 => ?_)
          · obtain ⟨e_33, e_33_2⟩ := hw_31.2.2.2 c_32
            have e_33_3 := hw_27.2.2 e_33
            subst e_33_3
            subst e_33_2
            refine lv_aload_n hx hb dX10_clause_83 rfl (lv_at hl 3 rfl) ?_
            obtain ⟨hPc, hDc, hFc⟩ := kCut (wc := [(jM, kMo vs (.ref lt) (.ref tx) (.int (nI (be))) (.int (nI (en))) (.int (nI (a1_29))) (.int (-1)) (.int 0) (.int lb) (.int fd) (.ref q6) (.ref q7) (.int hf)), (tx, .inl (cT, nT, .inl gT)), (lt, .inl (cE, 128, .inl gE))]) hP hD hS hA [0, 1, 2] rfl (by decide) rfl
            have hKc := hK.sb (tys2 := [(cT, .byte), (cE, .int)]) [0, 1] rfl
            refine va_calli (va_runV (As := []) (rest := []) ⟨hx, hb, hml, hown, hts⟩ (s_sum10_0 l dC dI jM vs (.int lb : Value) (.int fd : Value) (.int hf : Value) lt q6 q7 tx cT nT gT be en a1_29 (by omega) (by omega) (by omega) cE gE b6 n6 g6 hn6 hg6 b7 n7 g7 hn7 hg7 H.size) (cwV 0 hts (kG (List.forall_mem_cons.mpr ⟨(List.mem_cons_of_mem _ (List.mem_append_left _ (List.mem_of_getElem? (i := 34) rfl))), (List.forall_mem_cons.mpr ⟨(List.mem_cons_of_mem _ (List.mem_append_left _ (List.mem_of_getElem? (i := 33) rfl))), (List.forall_mem_cons.mpr ⟨(List.mem_cons_of_mem _ (List.mem_append_left _ (List.mem_of_getElem? (i := 32) rfl))), (List.forall_mem_cons.mpr ⟨(List.mem_cons_of_mem _ (List.mem_append_left _ (List.mem_of_getElem? (i := 0) rfl))), (fun _ h => absurd h List.not_mem_nil)⟩)⟩)⟩)⟩) (kGV _ _ _ _) (kFam (List.mem_cons_of_mem _ (List.mem_append_left _ (List.mem_of_getElem? (i := 31) rfl)))) gw_s_sum10_0) rfl rfl rfl ⟨rfl, hd_X10_sum⟩ ⟨(Nat.le_of_ble_eq_true rfl), (Nat.le_of_ble_eq_true rfl)⟩) (kW_V kS2_blind (kS2_give hX hS hFc) (va_recv hKc hPc (ci := 10) (q0 := 0) rfl rfl) hPc hKc hDc) rfl rfl hl.1 rfl (lv_room (Nat.le_of_ble_eq_true rfl)) dX10_clause_84 ⟨(Nat.le_of_ble_eq_true rfl), (Nat.le_of_ble_eq_true rfl)⟩) hS (fun q _ h => hFc q h) hFc (fun r_34 u t H1 locs ht hvm hw hB hz1 hk1 hS => ?_)
            obtain ⟨a1_35, xf_36, xd_37⟩ := u
            obtain ⟨hP1, hK1, hD1⟩ := hB
            rw [ht] at hP1
            try dsimp only at hw
            obtain ⟨hP, hD⟩ : kPD dC dI A [(jM, kMo vs (.ref lt) (.ref tx) (.int (nI (be))) (.int (nI (en))) (.int (nI (a1_35))) (.int xf_36) (.int xd_37) (.int lb) (.int fd) (.ref q6) (.ref q7) (.int hf)), (tx, .inl (cT, nT, .inl gT)), (lt, .inl (cE, 128, .inl gE))] H1 := kJoinI hP hD [0, 1, 2] rfl hk1 hFc hP1 hD1 rfl [some 0, some 1, some 2] rfl rfl
            generalize H1 = H at hP hS ⊢
            have hw_38 := hw
            have hw_38_a := hw_38.1
            refine lv_istore_n hx hb dX10_clause_87 rfl hl (by decide) (kTo [(3, .int r_34), (2, .int r_23), (1, .int (nI (j_7))), (0, .ref jM)]) (fun ls hl => ?_)
            refine lv_goto (tgt := 136) hx hb dX10_clause_88 (by decide) ?_
            exact lp_k_16 1 a1_35 xf_36 xd_37 r_23 r_34 (by omega) hw_38.2 _ _ hP hD hS ls (lv_sub hl [0, 1, 2, 3] rfl) (by omega)
          · have e_39 := hw_31.2.2.1 c_32
            have hP9 := hP
            have hD9 := hD
            have hK9 := hK
            rw [hQ]
            exact W.vret hx hb hr (fun t ht hW => ⟨⟨(a1_29, xf_30, xd_26, fd, hf), rfl, ⟨by omega, (fun z9 => absurd z9 e_39)⟩,  by rw [ht]; exact hP9, va_K.moved hW.alike hK9, hD9⟩, hS.F ht⟩) hS.2.2 dX10_clause_82
      refine lv_aload_n hx hb dX10_clause_46 rfl (lv_at hl 3 rfl) ?_
      obtain ⟨hPc, hDc, hFc⟩ := kCut (wc := [(jM, kMo vs (.ref lt) (.ref tx) (.int (nI (be))) (.int (nI (en))) (.int (nI (a1_11))) (.int (-1)) (.int 0) (.int lb) (.int fd) (.ref q6) (.ref q7) (.int hf)), (tx, .inl (cT, nT, .inl gT))]) hP hD hS hA [0, 1] rfl (by decide) rfl
      have hKc := hK.sb (tys2 := [(cT, .byte)]) [0] rfl
      refine va_calli (va_runV (As := []) (rest := []) ⟨hx, hb, hml, hown, hts⟩ (s_look10 l dC dI jM vs (.int (-1) : Value) (.int 0 : Value) (.int lb : Value) (.int fd : Value) (.int hf : Value) lt q6 q7 tx cT nT gT be en a1_11 (by omega) (by omega) (by omega) H.size) (cwV 0 hts (kG (List.forall_mem_cons.mpr ⟨(List.mem_cons_of_mem _ (List.mem_append_left _ (List.mem_of_getElem? (i := 3) rfl))), (List.forall_mem_cons.mpr ⟨(List.mem_cons_of_mem _ (List.mem_append_left _ (List.mem_of_getElem? (i := 2) rfl))), (List.forall_mem_cons.mpr ⟨(List.mem_cons_of_mem _ (List.mem_append_left _ (List.mem_of_getElem? (i := 1) rfl))), (List.forall_mem_cons.mpr ⟨(List.mem_cons_of_mem _ (List.mem_append_left _ (List.mem_of_getElem? (i := 0) rfl))), (fun _ h => absurd h List.not_mem_nil)⟩)⟩)⟩)⟩) (kGV _ _ _ _) (fun _ h => List.mem_cons_of_mem _ (List.mem_append_right _ (List.mem_append_left _ h))) gw_s_look10) rfl rfl rfl ⟨rfl, hd_X10_look⟩ ⟨(Nat.le_of_ble_eq_true rfl), (Nat.le_of_ble_eq_true rfl)⟩) (kW_V kT_blind kT_give (va_recv hKc hPc (ci := 10) (q0 := 0) rfl rfl) hPc hKc hDc) rfl rfl hl.1 rfl (lv_room (Nat.le_of_ble_eq_true rfl)) dX10_clause_47 ⟨(Nat.le_of_ble_eq_true rfl), (Nat.le_of_ble_eq_true rfl)⟩) hS (fun q _ h => hFc q h) hFc (fun r_40 u t H1 locs ht hvm hw hB hz1 hk1 hS => ?_)
      obtain ⟨a1_41, rfl⟩ : ∃ z, z = u := ⟨_, rfl⟩
      obtain ⟨hP1, hK1, hD1⟩ := hB
      rw [ht] at hP1
      try dsimp only at hw
      obtain ⟨hP, hD⟩ : kPD dC dI A [(jM, kMo vs (.ref lt) (.ref tx) (.int (nI (be))) (.int (nI (en))) (.int (nI (a1_41))) (.int (-1)) (.int 0) (.int lb) (.int fd) (.ref q6) (.ref q7) (.int hf)), (tx, .inl (cT, nT, .inl gT)), (lt, .inl (cE, 128, .inl gE))] H1 := kJoinI hP hD [0, 1] rfl hk1 hFc hP1 hD1 rfl [some 0, some 1, none] rfl rfl
      generalize H1 = H at hP hS ⊢
      have hw_42 := hw
      have hw_42_3 := hw_42.2.1
      refine lv_istore hx hb dX10_clause_50 hl (by decide) (kTo [(4, .int r_40), (3, .int 0), (2, .int 1), (1, .int (nI (j_7))), (0, .ref jM)]) (fun ls hl => ?_)
      refine lv_iload hx hb dX10_clause_52 (lv_at hl 0 rfl) ?_
      refine lv_bipush (v := 33) hx hb dX10_clause_54 (by decide) ?_
      refine lv_icmp_eq (tgt := 66) hx hb dX10_clause_56 (by decide) (fun c_43 => ?_) (fun c_43 => ?_)
      · have hns_44 := hw_42.1.resolve_left (fun z9 => absurd (c_43.symm.trans z9) (by decide))
        have hns_44_1 := hns_44.1
        exact lp_k_22 1 a1_41 (by omega) _ _ hP hD hS ls (lv_sub hl [1, 2, 3, 4] rfl) (by omega)
      · refine lv_iload hx hb dX10_clause_59 (lv_at hl 0 rfl) ?_
        refine lv_bipush (v := 40) hx hb dX10_clause_61 (by decide) ?_
        refine lv_icmp_ne (tgt := 91) hx hb dX10_clause_63 (by decide) (fun c_45 => ?_) (fun c_45 => ?_)
        · refine lv_aload_n hx hb dX10_clause_91 rfl (lv_at hl 4 rfl) ?_
          obtain ⟨hPc, hDc, hFc⟩ := kCut (wc := [(jM, kMo vs (.ref lt) (.ref tx) (.int (nI (be))) (.int (nI (en))) (.int (nI (a1_41))) (.int (-1)) (.int 0) (.int lb) (.int fd) (.ref q6) (.ref q7) (.int hf)), (tx, .inl (cT, nT, .inl gT)), (lt, .inl (cE, 128, .inl gE))]) hP hD hS hA [0, 1, 2] rfl (by decide) rfl
          have hKc := hK.sb (tys2 := [(cT, .byte), (cE, .int)]) [0, 1] rfl
          refine va_calli (va_runV (As := []) (rest := []) ⟨hx, hb, hml, hown, hts⟩ (s_sum10_0 l dC dI jM vs (.int lb : Value) (.int fd : Value) (.int hf : Value) lt q6 q7 tx cT nT gT be en a1_41 (by omega) (by omega) (by omega) cE gE b6 n6 g6 hn6 hg6 b7 n7 g7 hn7 hg7 H.size) (cwV 0 hts (kG (List.forall_mem_cons.mpr ⟨(List.mem_cons_of_mem _ (List.mem_append_left _ (List.mem_of_getElem? (i := 34) rfl))), (List.forall_mem_cons.mpr ⟨(List.mem_cons_of_mem _ (List.mem_append_left _ (List.mem_of_getElem? (i := 33) rfl))), (List.forall_mem_cons.mpr ⟨(List.mem_cons_of_mem _ (List.mem_append_left _ (List.mem_of_getElem? (i := 32) rfl))), (List.forall_mem_cons.mpr ⟨(List.mem_cons_of_mem _ (List.mem_append_left _ (List.mem_of_getElem? (i := 0) rfl))), (fun _ h => absurd h List.not_mem_nil)⟩)⟩)⟩)⟩) (kGV _ _ _ _) (kFam (List.mem_cons_of_mem _ (List.mem_append_left _ (List.mem_of_getElem? (i := 31) rfl)))) gw_s_sum10_0) rfl rfl rfl ⟨rfl, hd_X10_sum⟩ ⟨(Nat.le_of_ble_eq_true rfl), (Nat.le_of_ble_eq_true rfl)⟩) (kW_V kS2_blind (kS2_give hX hS hFc) (va_recv hKc hPc (ci := 10) (q0 := 0) rfl rfl) hPc hKc hDc) rfl rfl hl.1 rfl (lv_room (Nat.le_of_ble_eq_true rfl)) dX10_clause_92 ⟨(Nat.le_of_ble_eq_true rfl), (Nat.le_of_ble_eq_true rfl)⟩) hS (fun q _ h => hFc q h) hFc (fun r_46 u t H1 locs ht hvm hw hB hz1 hk1 hS => ?_)
          obtain ⟨a1_47, xf_48, xd_49⟩ := u
          obtain ⟨hP1, hK1, hD1⟩ := hB
          rw [ht] at hP1
          try dsimp only at hw
          obtain ⟨hP, hD⟩ : kPD dC dI A [(jM, kMo vs (.ref lt) (.ref tx) (.int (nI (be))) (.int (nI (en))) (.int (nI (a1_47))) (.int xf_48) (.int xd_49) (.int lb) (.int fd) (.ref q6) (.ref q7) (.int hf)), (tx, .inl (cT, nT, .inl gT)), (lt, .inl (cE, 128, .inl gE))] H1 := kJoinI hP hD [0, 1, 2] rfl hk1 hFc hP1 hD1 rfl [some 0, some 1, some 2] rfl rfl
          generalize H1 = H at hP hS ⊢
          have hw_50 := hw
          have hw_50_a := hw_50.1
          refine lv_istore_n hx hb dX10_clause_95 rfl hl (by decide) (kTo [(3, .int r_46), (4, .int r_40), (2, .int 1), (1, .int (nI (j_7))), (0, .ref jM)]) (fun ls hl => ?_)
          refine lv_aload_n hx hb dX10_clause_96 rfl (lv_at hl 4 rfl) ?_
          refine va_get (D := (dC, dI)) (ci := 10) (v := .int xf_48) (C := RX10) (T := TX10) (N := 52) hx hb hts (fun _ h => List.mem_cons_of_mem _ (List.mem_append_right _ (List.mem_append_right _ (List.mem_append_left _ h)))) hown hK hP 0 rfl rfl 12 (by decide) (hts (.fieldLink RX10 150 "NotEndedModel" "fault" "I") (List.mem_cons_of_mem _ (List.mem_append_left _ (List.mem_of_getElem? (i := 10) rfl)))) (fun _ h9 => h9) rfl dX10_clause_97 ?_
          refine lv_iconst (v := (-1)) hx hb dX10_clause_100 (by decide) ?_
          refine lv_icmp_ne (tgt := 136) hx hb dX10_clause_101 (by decide) (fun c_51 => ?_) (fun c_51 => ?_)
          · exact lp_k_16 1 a1_47 xf_48 xd_49 1 r_46 (by omega) hw_50.2 _ _ hP hD hS ls (lv_sub hl [0, 2, 3, 4] rfl) (by omega)
          · have e_52 := hw_50.2 c_51
            subst e_52
            subst c_51
            refine lv_aload_n hx hb dX10_clause_104 rfl (lv_at hl 4 rfl) ?_
            obtain ⟨hPc, hDc, hFc⟩ := kCut (wc := [(jM, kMo vs (.ref lt) (.ref tx) (.int (nI (be))) (.int (nI (en))) (.int (nI (a1_47))) (.int (-1)) (.int 0) (.int lb) (.int fd) (.ref q6) (.ref q7) (.int hf)), (tx, .inl (cT, nT, .inl gT))]) hP hD hS hA [0, 1] rfl (by decide) rfl
            have hKc := hK.sb (tys2 := [(cT, .byte)]) [0] rfl
            refine va_calli (va_runV (As := []) (rest := []) ⟨hx, hb, hml, hown, hts⟩ (s_look10 l dC dI jM vs (.int (-1) : Value) (.int 0 : Value) (.int lb : Value) (.int fd : Value) (.int hf : Value) lt q6 q7 tx cT nT gT be en a1_47 (by omega) (by omega) (by omega) H.size) (cwV 0 hts (kG (List.forall_mem_cons.mpr ⟨(List.mem_cons_of_mem _ (List.mem_append_left _ (List.mem_of_getElem? (i := 3) rfl))), (List.forall_mem_cons.mpr ⟨(List.mem_cons_of_mem _ (List.mem_append_left _ (List.mem_of_getElem? (i := 2) rfl))), (List.forall_mem_cons.mpr ⟨(List.mem_cons_of_mem _ (List.mem_append_left _ (List.mem_of_getElem? (i := 1) rfl))), (List.forall_mem_cons.mpr ⟨(List.mem_cons_of_mem _ (List.mem_append_left _ (List.mem_of_getElem? (i := 0) rfl))), (fun _ h => absurd h List.not_mem_nil)⟩)⟩)⟩)⟩) (kGV _ _ _ _) (fun _ h => List.mem_cons_of_mem _ (List.mem_append_right _ (List.mem_append_left _ h))) gw_s_look10) rfl rfl rfl ⟨rfl, hd_X10_look⟩ ⟨(Nat.le_of_ble_eq_true rfl), (Nat.le_of_ble_eq_true rfl)⟩) (kW_V kT_blind kT_give (va_recv hKc hPc (ci := 10) (q0 := 0) rfl rfl) hPc hKc hDc) rfl rfl hl.1 rfl (lv_room (Nat.le_of_ble_eq_true rfl)) dX10_clause_105 ⟨(Nat.le_of_ble_eq_true rfl), (Nat.le_of_ble_eq_true rfl)⟩) hS (fun q _ h => hFc q h) hFc (fun r_53 u t H1 locs ht hvm hw hB hz1 hk1 hS => ?_)
            obtain ⟨a1_54, rfl⟩ : ∃ z, z = u := ⟨_, rfl⟩
            obtain ⟨hP1, hK1, hD1⟩ := hB
            rw [ht] at hP1
            try dsimp only at hw
            obtain ⟨hP, hD⟩ : kPD dC dI A [(jM, kMo vs (.ref lt) (.ref tx) (.int (nI (be))) (.int (nI (en))) (.int (nI (a1_54))) (.int (-1)) (.int 0) (.int lb) (.int fd) (.ref q6) (.ref q7) (.int hf)), (tx, .inl (cT, nT, .inl gT)), (lt, .inl (cE, 128, .inl gE))] H1 := kJoinI hP hD [0, 1] rfl hk1 hFc hP1 hD1 rfl [some 0, some 1, none] rfl rfl
            generalize H1 = H at hP hS ⊢
            have hw_55 := hw
            have hw_55_3 := hw_55.2.1
            have hPc := hP.sb (ws2 := []) [] rfl
            have hKc := hK.sb (tys2 := []) [] rfl
            refine vp_callSi (va_runS (As := [.int r_53]) (rest := []) ⟨hx, hb, hml, hown, hts⟩ (s_isSign10 l dC dI r_53) (va_cwS 1 hts (kG (List.forall_mem_cons.mpr ⟨(List.mem_cons_of_mem _ (List.mem_append_left _ (List.mem_of_getElem? (i := 36) rfl))), (List.forall_mem_cons.mpr ⟨(List.mem_cons_of_mem _ (List.mem_append_left _ (List.mem_of_getElem? (i := 35) rfl))), (List.forall_mem_cons.mpr ⟨(List.mem_cons_of_mem _ (List.mem_append_left _ (List.mem_of_getElem? (i := 0) rfl))), (fun _ h => absurd h List.not_mem_nil)⟩)⟩)⟩) (kGS _ _ _) (fun _ h => List.mem_cons_of_mem _ (List.mem_append_right _ (List.mem_append_right _ (List.mem_append_right _ (List.mem_append_right _ (List.mem_append_right _ (List.mem_append_right _ (List.mem_append_right _ (List.mem_append_right _ (List.mem_append_left _ h)))))))))) gw_s_isSign10) rfl rfl rfl hd_X10_isSign ⟨(Nat.le_of_ble_eq_true rfl), (Nat.le_of_ble_eq_true rfl)⟩) (kR_S kT_blind kT_give hPc hKc) rfl rfl hl.1 rfl (lv_room (Nat.le_of_ble_eq_true rfl)) dX10_clause_108 ⟨(Nat.le_of_ble_eq_true rfl), (Nat.le_of_ble_eq_true rfl)⟩).run (fun r_56 hw => ?_)
            have hw_57 := hw
            refine lv_if_eq (tgt := 136) hx hb dX10_clause_111 (by decide) (fun c_58 => ?_) (fun c_58 => ?_)
            · exact lp_k_16 1 a1_54 (-1) 0 1 r_46 (by omega) (fun _ => rfl) _ _ hP hD hS ls (lv_sub hl [0, 2, 3, 4] rfl) (by omega)
            · have hns_59 := hw_55.1.resolve_left (hw_57 c_58)
              have hns_59_1 := hns_59.1
              refine lv_aload_n hx hb dX10_clause_114 rfl (lv_at hl 4 rfl) ?_
              refine lv_iconst (v := 1) hx hb dX10_clause_115 (by decide) ?_
              refine lv_iload_n hx hb dX10_clause_116 rfl (lv_at hl 0 rfl) ?_
              obtain ⟨hPc, hDc, hFc⟩ := kCut (wc := [(jM, kMo vs (.ref lt) (.ref tx) (.int (nI (be))) (.int (nI (en))) (.int (nI (a1_54))) (.int (-1)) (.int 0) (.int lb) (.int fd) (.ref q6) (.ref q7) (.int hf)), (tx, .inl (cT, nT, .inl gT)), (lt, .inl (cE, 128, .inl gE))]) hP hD hS hA [0, 1, 2] rfl (by decide) rfl
              have hKc := hK.sb (tys2 := [(cT, .byte), (cE, .int)]) [0, 1] rfl
              refine va_calli (va_runV (As := [.int 1, .int r_46]) (rest := []) ⟨hx, hb, hml, hown, hts⟩ (s_cond10_0_1 l dC dI jM vs (.int lb : Value) (.int fd : Value) (.int hf : Value) lt q6 q7 tx cT nT gT be en a1_54 (by omega) (by omega) (by omega) cE gE b6 n6 g6 hn6 hg6 b7 n7 g7 hn7 hg7 r_46 H.size) (cwV 2 hts (kG (List.forall_mem_cons.mpr ⟨(List.mem_cons_of_mem _ (List.mem_append_left _ (List.mem_of_getElem? (i := 56) rfl))), (List.forall_mem_cons.mpr ⟨(List.mem_cons_of_mem _ (List.mem_append_left _ (List.mem_of_getElem? (i := 55) rfl))), (List.forall_mem_cons.mpr ⟨(List.mem_cons_of_mem _ (List.mem_append_left _ (List.mem_of_getElem? (i := 54) rfl))), (List.forall_mem_cons.mpr ⟨(List.mem_cons_of_mem _ (List.mem_append_left _ (List.mem_of_getElem? (i := 0) rfl))), (fun _ h => absurd h List.not_mem_nil)⟩)⟩)⟩)⟩) (kGV _ _ _ _) (kFam (List.mem_cons_of_mem _ (List.mem_append_left _ (List.mem_of_getElem? (i := 53) rfl)))) gw_s_cond10_0_1) rfl rfl rfl ⟨rfl, hd_X10_condition⟩ ⟨(Nat.le_of_ble_eq_true rfl), (Nat.le_of_ble_eq_true rfl)⟩) (kW_V kS2_blind (kS2_give hX hS hFc) (va_recv hKc hPc (ci := 10) (q0 := 0) rfl rfl) hPc hKc hDc) rfl rfl hl.1 rfl (lv_room (Nat.le_of_ble_eq_true rfl)) dX10_clause_117 ⟨(Nat.le_of_ble_eq_true rfl), (Nat.le_of_ble_eq_true rfl)⟩) hS (fun q _ h => hFc q h) hFc (fun r_60 u t H1 locs ht hvm hw hB hz1 hk1 hS => ?_)
              obtain ⟨a1_61, xf_62, xd_63⟩ := u
              obtain ⟨hP1, hK1, hD1⟩ := hB
              rw [ht] at hP1
              try dsimp only at hw
              obtain ⟨hP, hD⟩ : kPD dC dI A [(jM, kMo vs (.ref lt) (.ref tx) (.int (nI (be))) (.int (nI (en))) (.int (nI (a1_61))) (.int xf_62) (.int xd_63) (.int lb) (.int fd) (.ref q6) (.ref q7) (.int hf)), (tx, .inl (cT, nT, .inl gT)), (lt, .inl (cE, 128, .inl gE))] H1 := kJoinI hP hD [0, 1, 2] rfl hk1 hFc hP1 hD1 rfl [some 0, some 1, some 2] rfl rfl
              generalize H1 = H at hP hS ⊢
              have hw_64 := hw
              have hw_64_a := hw_64.2.1
              have hw_64_b := hw_64.1
              refine lv_istore_n hx hb dX10_clause_120 rfl hl (by decide) (kTo [(2, .int r_60), (3, .int r_46), (4, .int r_40), (1, .int (nI (j_7))), (0, .ref jM)]) (fun ls hl => ?_)
              refine lv_aload_n hx hb dX10_clause_121 rfl (lv_at hl 4 rfl) ?_
              refine lv_bipush (v := 63) hx hb dX10_clause_122 (by decide) ?_
              obtain ⟨hPc, hDc, hFc⟩ := kCut (wc := [(jM, kMo vs (.ref lt) (.ref tx) (.int (nI (be))) (.int (nI (en))) (.int (nI (a1_61))) (.int xf_62) (.int xd_63) (.int lb) (.int fd) (.ref q6) (.ref q7) (.int hf)), (tx, .inl (cT, nT, .inl gT))]) hP hD hS hA [0, 1] rfl (by decide) rfl
              have hKc := hK.sb (tys2 := [(cT, .byte)]) [0] rfl
              refine va_calli (va_runV (As := [.int 63]) (rest := []) ⟨hx, hb, hml, hown, hts⟩ (s_takes10 l dC dI jM vs (.int xd_63 : Value) (.int lb : Value) (.int fd : Value) (.int hf : Value) lt q6 q7 tx cT nT gT be en a1_61 (by omega) (by omega) (by omega) xf_62 63 (by decide) H.size) (cwV 1 hts (kG (List.forall_mem_cons.mpr ⟨(List.mem_cons_of_mem _ (List.mem_append_left _ (List.mem_of_getElem? (i := 51) rfl))), (List.forall_mem_cons.mpr ⟨(List.mem_cons_of_mem _ (List.mem_append_left _ (List.mem_of_getElem? (i := 50) rfl))), (List.forall_mem_cons.mpr ⟨(List.mem_cons_of_mem _ (List.mem_append_left _ (List.mem_of_getElem? (i := 49) rfl))), (List.forall_mem_cons.mpr ⟨(List.mem_cons_of_mem _ (List.mem_append_left _ (List.mem_of_getElem? (i := 0) rfl))), (fun _ h => absurd h List.not_mem_nil)⟩)⟩)⟩)⟩) (kGV _ _ _ _) (fun _ h => List.mem_cons_of_mem _ (List.mem_append_right _ (List.mem_append_right _ (List.mem_append_right _ (List.mem_append_right _ (List.mem_append_right _ (List.mem_append_right _ (List.mem_append_right _ (List.mem_append_right _ (List.mem_append_right _ (List.mem_append_right _ (List.mem_append_left _ h)))))))))))) gw_s_takes10) rfl rfl rfl ⟨rfl, hd_X10_takes⟩ ⟨(Nat.le_of_ble_eq_true rfl), (Nat.le_of_ble_eq_true rfl)⟩) (kW_V kT_blind kT_give (va_recv hKc hPc (ci := 10) (q0 := 0) rfl rfl) hPc hKc hDc) rfl rfl hl.1 rfl (lv_room (Nat.le_of_ble_eq_true rfl)) dX10_clause_124 ⟨(Nat.le_of_ble_eq_true rfl), (Nat.le_of_ble_eq_true rfl)⟩) hS (fun q _ h => hFc q h) hFc (fun r_65 u t H1 locs ht hvm hw hB hz1 hk1 hS => ?_)
              obtain ⟨a1_66, xf_67⟩ := u
              obtain ⟨hP1, hK1, hD1⟩ := hB
              rw [ht] at hP1
              try dsimp only at hw
              obtain ⟨hP, hD⟩ : kPD dC dI A [(jM, kMo vs (.ref lt) (.ref tx) (.int (nI (be))) (.int (nI (en))) (.int (nI (a1_66))) (.int xf_67) (.int xd_63) (.int lb) (.int fd) (.ref q6) (.ref q7) (.int hf)), (tx, .inl (cT, nT, .inl gT)), (lt, .inl (cE, 128, .inl gE))] H1 := kJoinI hP hD [0, 1] rfl hk1 hFc hP1 hD1 rfl [some 0, some 1, none] rfl rfl
              generalize H1 = H at hP hS ⊢
              have hw_68 := hw
              have hw_68_0 := hw_68.2.1
              refine lv_if_ne (tgt := 131) hx hb dX10_clause_127 (by decide) (fun c_69 => ?_) (fun c_69 => ?_)
              · obtain ⟨e_70, e_70_2⟩ := hw_68.2.2.2 c_69
                have e_70_3 := hw_64.2.2 e_70
                subst e_70_3
                subst e_70_2
                refine lv_aload_n hx hb dX10_clause_131 rfl (lv_at hl 4 rfl) ?_
                obtain ⟨hPc, hDc, hFc⟩ := kCut (wc := [(jM, kMo vs (.ref lt) (.ref tx) (.int (nI (be))) (.int (nI (en))) (.int (nI (a1_66))) (.int (-1)) (.int 0) (.int lb) (.int fd) (.ref q6) (.ref q7) (.int hf)), (tx, .inl (cT, nT, .inl gT)), (lt, .inl (cE, 128, .inl gE))]) hP hD hS hA [0, 1, 2] rfl (by decide) rfl
                have hKc := hK.sb (tys2 := [(cT, .byte), (cE, .int)]) [0, 1] rfl
                refine va_calli (va_runV (As := []) (rest := []) ⟨hx, hb, hml, hown, hts⟩ (s_sum10_0 l dC dI jM vs (.int lb : Value) (.int fd : Value) (.int hf : Value) lt q6 q7 tx cT nT gT be en a1_66 (by omega) (by omega) (by omega) cE gE b6 n6 g6 hn6 hg6 b7 n7 g7 hn7 hg7 H.size) (cwV 0 hts (kG (List.forall_mem_cons.mpr ⟨(List.mem_cons_of_mem _ (List.mem_append_left _ (List.mem_of_getElem? (i := 34) rfl))), (List.forall_mem_cons.mpr ⟨(List.mem_cons_of_mem _ (List.mem_append_left _ (List.mem_of_getElem? (i := 33) rfl))), (List.forall_mem_cons.mpr ⟨(List.mem_cons_of_mem _ (List.mem_append_left _ (List.mem_of_getElem? (i := 32) rfl))), (List.forall_mem_cons.mpr ⟨(List.mem_cons_of_mem _ (List.mem_append_left _ (List.mem_of_getElem? (i := 0) rfl))), (fun _ h => absurd h List.not_mem_nil)⟩)⟩)⟩)⟩) (kGV _ _ _ _) (kFam (List.mem_cons_of_mem _ (List.mem_append_left _ (List.mem_of_getElem? (i := 31) rfl)))) gw_s_sum10_0) rfl rfl rfl ⟨rfl, hd_X10_sum⟩ ⟨(Nat.le_of_ble_eq_true rfl), (Nat.le_of_ble_eq_true rfl)⟩) (kW_V kS2_blind (kS2_give hX hS hFc) (va_recv hKc hPc (ci := 10) (q0 := 0) rfl rfl) hPc hKc hDc) rfl rfl hl.1 rfl (lv_room (Nat.le_of_ble_eq_true rfl)) dX10_clause_132 ⟨(Nat.le_of_ble_eq_true rfl), (Nat.le_of_ble_eq_true rfl)⟩) hS (fun q _ h => hFc q h) hFc (fun r_71 u t H1 locs ht hvm hw hB hz1 hk1 hS => ?_)
                obtain ⟨a1_72, xf_73, xd_74⟩ := u
                obtain ⟨hP1, hK1, hD1⟩ := hB
                rw [ht] at hP1
                try dsimp only at hw
                obtain ⟨hP, hD⟩ : kPD dC dI A [(jM, kMo vs (.ref lt) (.ref tx) (.int (nI (be))) (.int (nI (en))) (.int (nI (a1_72))) (.int xf_73) (.int xd_74) (.int lb) (.int fd) (.ref q6) (.ref q7) (.int hf)), (tx, .inl (cT, nT, .inl gT)), (lt, .inl (cE, 128, .inl gE))] H1 := kJoinI hP hD [0, 1, 2] rfl hk1 hFc hP1 hD1 rfl [some 0, some 1, some 2] rfl rfl
                generalize H1 = H at hP hS ⊢
                have hw_75 := hw
                have hw_75_a := hw_75.1
                refine lv_istore_n hx hb dX10_clause_135 rfl hl (by decide) (kTo [(3, .int r_71), (2, .int r_60), (4, .int r_40), (1, .int (nI (j_7))), (0, .ref jM)]) (fun ls hl => ?_)
                exact lp_k_16 1 a1_72 xf_73 xd_74 r_60 r_71 (by omega) hw_75.2 _ _ hP hD hS ls (lv_sub hl [0, 1, 3, 4] rfl) (by omega)
              · have e_76 := hw_68.2.2.1 c_69
                have hP9 := hP
                have hD9 := hD
                have hK9 := hK
                rw [hQ]
                exact W.vret hx hb hr (fun t ht hW => ⟨⟨(a1_66, xf_67, xd_63, fd, hf), rfl, ⟨by omega, (fun z9 => absurd z9 e_76)⟩,  by rw [ht]; exact hP9, va_K.moved hW.alike hK9, hD9⟩, hS.F ht⟩) hS.2.2 dX10_clause_130
        · have hns_77 := hw_42.1.resolve_left (fun z9 => absurd (c_45.symm.trans z9) (by decide))
          have hns_77_1 := hns_77.1
          exact lp_k_22 1 a1_41 (by omega) _ _ hP hD hS ls (lv_sub hl [1, 2, 3, 4] rfl) (by omega)
    · have e_78 := hw_13.2.2.1 c_14
      have hP9 := hP
      have hD9 := hD
      have hK9 := hK
      rw [hQ]
      exact W.vret hx hb hr (fun t ht hW => ⟨⟨(a1_11, xf_12, 0, fd, hf), rfl, ⟨by omega, (fun z9 => absurd z9 e_78)⟩,  by rw [ht]; exact hP9, va_K.moved hW.alike hK9, hD9⟩, hS.F ht⟩) hS.2.2 dX10_clause_41
  · refine lv_aload_n hx hb dX10_clause_16 rfl (lv_at hl 1 rfl) ?_
    obtain ⟨hPc, hDc, hFc⟩ := kCut (wc := [(jM, kMo vs (.ref lt) (.ref tx) (.int (nI (be))) (.int (nI (en))) (.int (nI (a1_2))) (.int (-1)) (.int 0) (.int lb) (.int fd) (.ref q6) (.ref q7) (.int hf))]) hP hD hS hA [0] rfl (by decide) rfl
    have hKc := hK.sb (tys2 := []) [] rfl
    refine va_calli (va_runV (As := []) (rest := []) ⟨hx, hb, hml, hown, hts⟩ (s_fails10 l dC dI jM vs (.int 0 : Value) (.int lb : Value) (.int fd : Value) (.int hf : Value) lt q6 q7 tx be en a1_2 (by omega) (by omega) (-1) H.size) (cwV 0 hts (kG (List.forall_mem_cons.mpr ⟨(List.mem_cons_of_mem _ (List.mem_append_left _ (List.mem_of_getElem? (i := 16) rfl))), (List.forall_mem_cons.mpr ⟨(List.mem_cons_of_mem _ (List.mem_append_left _ (List.mem_of_getElem? (i := 15) rfl))), (List.forall_mem_cons.mpr ⟨(List.mem_cons_of_mem _ (List.mem_append_left _ (List.mem_of_getElem? (i := 14) rfl))), (List.forall_mem_cons.mpr ⟨(List.mem_cons_of_mem _ (List.mem_append_left _ (List.mem_of_getElem? (i := 0) rfl))), (fun _ h => absurd h List.not_mem_nil)⟩)⟩)⟩)⟩) (kGV _ _ _ _) (fun _ h => List.mem_cons_of_mem _ (List.mem_append_right _ (List.mem_append_right _ (List.mem_append_right _ (List.mem_append_right _ (List.mem_append_right _ (List.mem_append_left _ h))))))) gw_s_fails10) rfl rfl rfl ⟨rfl, hd_X10_fails⟩ ⟨(Nat.le_of_ble_eq_true rfl), (Nat.le_of_ble_eq_true rfl)⟩) (kW_V kT_blind kT_give (va_recv hKc hPc (ci := 10) (q0 := 0) rfl rfl) hPc hKc hDc) rfl rfl hl.1 rfl (lv_room (Nat.le_of_ble_eq_true rfl)) dX10_clause_17 ⟨(Nat.le_of_ble_eq_true rfl), (Nat.le_of_ble_eq_true rfl)⟩) hS (fun q _ h => hFc q h) hFc (fun r_79 u t H1 locs ht hvm hw hB hz1 hk1 hS => ?_)
    obtain ⟨xf_80, rfl⟩ : ∃ z, z = u := ⟨_, rfl⟩
    obtain ⟨hP1, hK1, hD1⟩ := hB
    rw [ht] at hP1
    try dsimp only at hw
    obtain ⟨hP, hD⟩ : kPD dC dI A [(jM, kMo vs (.ref lt) (.ref tx) (.int (nI (be))) (.int (nI (en))) (.int (nI (a1_2))) (.int xf_80) (.int 0) (.int lb) (.int fd) (.ref q6) (.ref q7) (.int hf)), (tx, .inl (cT, nT, .inl gT)), (lt, .inl (cE, 128, .inl gE))] H1 := kJoinI hP hD [0] rfl hk1 hFc hP1 hD1 rfl [some 0, none, none] rfl rfl
    generalize H1 = H at hP hS ⊢
    obtain ⟨rfl, hw_81⟩ := hw
    refine lv_pop hx hb dX10_clause_20 rfl ?_
    have hP9 := hP
    have hD9 := hD
    have hK9 := hK
    rw [hQ]
    exact W.vret hx hb hr (fun t ht hW => ⟨⟨(a1_2, xf_80, 0, fd, hf), rfl, ⟨by omega, (fun z9 => absurd z9 hw_81)⟩,  by rw [ht]; exact hP9, va_K.moved hW.alike hK9, hD9⟩, hS.F ht⟩) hS.2.2 dX10_clause_21
