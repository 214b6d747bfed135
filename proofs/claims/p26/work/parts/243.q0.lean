theorem dX4_readAtom_0 : decode cX4_readAtom 0 = .ok (.aload_n 0, 1) := kDs0 kf_42 (by decide +kernel)
theorem dX4_readAtom_1 : decode cX4_readAtom 1 = .ok (.invokevirtual 53, 3) := kDs2 kf_182 (by decide +kernel)
theorem dX4_readAtom_4 : decode cX4_readAtom 4 = .ok (.istore_n 2, 1) := kDs0 kf_61 (by decide +kernel)
theorem dX4_readAtom_5 : decode cX4_readAtom 5 = .ok (.iload_n 2, 1) := kDs0 kf_28 (by decide +kernel)
theorem dX4_readAtom_6 : decode cX4_readAtom 6 = .ok (.bipush 91, 2) := kDs3 kf_16 (by decide +kernel)
theorem dX4_readAtom_8 : decode cX4_readAtom 8 = .ok (.if_icmp .ne 36, 3) := kDs4 kf_160 (by decide +kernel)
theorem dX4_readAtom_44 : decode cX4_readAtom 44 = .ok (.iload_n 2, 1) := kDs0 kf_28 (by decide +kernel)
theorem dX4_readAtom_45 : decode cX4_readAtom 45 = .ok (.invokestatic 111, 3) := kDs2 kf_184 (by decide +kernel)
theorem dX4_readAtom_48 : decode cX4_readAtom 48 = .ok (.ifCond .eq 8, 3) := kDs4 kf_153 (by decide +kernel)
theorem dX4_readAtom_56 : decode cX4_readAtom 56 = .ok (.aload_n 0, 1) := kDs0 kf_42 (by decide +kernel)
theorem dX4_readAtom_57 : decode cX4_readAtom 57 = .ok (.getfield 34, 3) := kDs2 kf_180 (by decide +kernel)
theorem dX4_readAtom_60 : decode cX4_readAtom 60 = .ok (.iload_n 2, 1) := kDs0 kf_28 (by decide +kernel)
theorem dX4_readAtom_61 : decode cX4_readAtom 61 = .ok (.invokevirtual 72, 3) := kDs2 kf_182 (by decide +kernel)
theorem dX4_readAtom_64 : decode cX4_readAtom 64 = .ok (.istore_n 3, 1) := kDs0 kf_62 (by decide +kernel)
theorem dX4_readAtom_65 : decode cX4_readAtom 65 = .ok (.iload_n 3, 1) := kDs0 kf_29 (by decide +kernel)
theorem dX4_readAtom_66 : decode cX4_readAtom 66 = .ok (.ifCond .ge 5, 3) := kDs4 kf_156 (by decide +kernel)
theorem dX4_readAtom_69 : decode cX4_readAtom 69 = .ok (.iconst 0, 1) := kDs0 kf_3 (by decide +kernel)
theorem dX4_readAtom_70 : decode cX4_readAtom 70 = .ok (.ireturn, 1) := kDs0 kf_172 (by decide +kernel)
theorem dX4_readAtom_71 : decode cX4_readAtom 71 = .ok (.aload_n 0, 1) := kDs0 kf_42 (by decide +kernel)
theorem dX4_readAtom_72 : decode cX4_readAtom 72 = .ok (.dup, 1) := kDs0 kf_89 (by decide +kernel)
theorem dX4_readAtom_73 : decode cX4_readAtom 73 = .ok (.getfield 25, 3) := kDs2 kf_180 (by decide +kernel)
theorem dX4_readAtom_76 : decode cX4_readAtom 76 = .ok (.iconst 1, 1) := kDs0 kf_4 (by decide +kernel)
theorem dX4_readAtom_77 : decode cX4_readAtom 77 = .ok (.iadd, 1) := kDs0 kf_96 (by decide +kernel)
theorem dX4_readAtom_78 : decode cX4_readAtom 78 = .ok (.putfield 25, 3) := kDs2 kf_181 (by decide +kernel)
theorem dX4_readAtom_81 : decode cX4_readAtom 81 = .ok (.aload_n 0, 1) := kDs0 kf_42 (by decide +kernel)
theorem dX4_readAtom_82 : decode cX4_readAtom 82 = .ok (.sipush 10000, 3) := kDs4 kf_17 (by decide +kernel)
theorem dX4_readAtom_85 : decode cX4_readAtom 85 = .ok (.iload_n 3, 1) := kDs0 kf_29 (by decide +kernel)
theorem dX4_readAtom_86 : decode cX4_readAtom 86 = .ok (.iadd, 1) := kDs0 kf_96 (by decide +kernel)
theorem dX4_readAtom_87 : decode cX4_readAtom 87 = .ok (.invokevirtual 96, 3) := kDs2 kf_182 (by decide +kernel)
theorem dX4_readAtom_90 : decode cX4_readAtom 90 = .ok (.ireturn, 1) := kDs0 kf_172 (by decide +kernel)
theorem dX4_readAtom_51 : decode cX4_readAtom 51 = .ok (.aload_n 0, 1) := kDs0 kf_42 (by decide +kernel)
theorem dX4_readAtom_52 : decode cX4_readAtom 52 = .ok (.invokevirtual 114, 3) := kDs2 kf_182 (by decide +kernel)
theorem dX4_readAtom_55 : decode cX4_readAtom 55 = .ok (.ireturn, 1) := kDs0 kf_172 (by decide +kernel)
theorem dX4_readAtom_11 : decode cX4_readAtom 11 = .ok (.aload_n 0, 1) := kDs0 kf_42 (by decide +kernel)
theorem dX4_readAtom_12 : decode cX4_readAtom 12 = .ok (.iload_n 1, 1) := kDs0 kf_27 (by decide +kernel)
theorem dX4_readAtom_13 : decode cX4_readAtom 13 = .ok (.invokevirtual 102, 3) := kDs2 kf_182 (by decide +kernel)
theorem dX4_readAtom_16 : decode cX4_readAtom 16 = .ok (.ifCond .eq 26, 3) := kDs4 kf_153 (by decide +kernel)
theorem dX4_readAtom_42 : decode cX4_readAtom 42 = .ok (.iconst 0, 1) := kDs0 kf_3 (by decide +kernel)
theorem dX4_readAtom_43 : decode cX4_readAtom 43 = .ok (.ireturn, 1) := kDs0 kf_172 (by decide +kernel)
def w_s_atom4x_6 : List Cond := .code yX4_readAtom cX4_readAtom 4 (some .boolean) :: wf_rq
theorem gw_s_atom4x_6 : (w_s_atom4x_6).all goodWord = true := kFamG rfl gf_rq
theorem hd_X4_readAtom : yX4_readAtom.cls ≠ "java/lang/invoke/MethodHandle" ∧ yX4_readAtom.cls ≠ "java/lang/invoke/VarHandle" ∧ (parseMethodDescriptor yX4_readAtom.desc).map (fun d => d.parameters.length) = some 1 := by decide +kernel
set_option maxHeartbeats 4000000 in
set_option maxRecDepth 100000 in
theorem s_atom4x_6 (l : Launch) (dC : Nat → ClassId) (dI : Nat → Nat → Nat) (jT : Nat) (t0 : Nat) (cC : ClassId) (gT : Nat → Int32) (kt : Nat) (hkt : kt ≤ 120) (hgT : ∀ j : Nat, narrow .char (.int (gT j)) = .int (gT j)) (bt : Nat → Nat) (hbt : ∀ j : Nat, gT j = nI (bt j)) (hb8 : ∀ j : Nat, bt j < 256) (jR : Nat) (r1 : Nat) (r2 : Nat) (c1 : ClassId) (c2 : ClassId) (s1 : Nat → Int32) (s2 : Nat → Int32) (wr : Nat) (fi : Nat) (q6 : Nat) (q7 : Nat) (hwr : wr ≤ 120) (hfi : fi ≤ 124) (pn : Nat) (hpn : pn ≤ kt) (hwp : wr ≤ pn) (b6 : Nat) (n6 : Nat) (g6 : Nat → Int32) (hn6 : n6 ≤ 8) (b7 : Nat) (n7 : Nat) (g7 : Nat → Int32) (hn7 : n7 ≤ 8) (gn6 : ∀ k : Nat, ∃ v : Nat, v < 128 ∧ g6 k = nI v) (hz6 : kIx g6 n6 (nI 0) = n6) (gn7 : ∀ k : Nat, ∃ v : Nat, v < 128 ∧ g7 k = nI v) (hz7 : kIx g7 n7 (nI 0) = n7) (sz : Nat) : Met l yX4_readAtom w_s_atom4x_6 ({ frames := 6, cells := 0, slots := 0, locals := 360 }) (kW dC dI [.ref jR, .int 6] [(jR, .inr (4, [.ref jT, .ref r1, .ref r2, .int (nI (wr)), .int (nI (fi)), .int (nI (pn)), .ref q6, .ref q7])), (r1, .inl (c1, 120, .inl s1)), (r2, .inl (c2, 124, .inl s2)), (jT, .inr (8, [.ref t0, .int (nI (kt))])), (t0, .inl (cC, 120, .inl gT))] [(c1, .int), (c2, .int), (cC, .char)] (kS2 q6 b6 n6 g6 q7 b7 n7 g7 (va_A [(jR, .inr (4, [.ref jT, .ref r1, .ref r2, .int (nI (wr)), .int (nI (fi)), .int (nI (pn)), .ref q6, .ref q7])), (r1, .inl (c1, 120, .inl s1)), (r2, .inl (c2, 124, .inl s2)), (jT, .inr (8, [.ref t0, .int (nI (kt))])), (t0, .inl (cC, 120, .inl gT))] sz)) sz) (va_Qi (fun (r : Int32) (u : (Nat → Int32) × Nat × Nat × Bool × (List Int32)) => match u with | (S1, Wr, Pn, xo, xl) => (r = kBo xo ∧ kPR (kAtomD bt kt g7 n7 0 pn) pn kt wr s1 xo Pn xl Wr S1 ∧ Wr ≤ 120)) (fun (u : (Nat → Int32) × Nat × Nat × Bool × (List Int32)) => match u with | (S1, Wr, Pn, xo, xl) => fun t : State => kB dC dI [(jR, .inr (4, [.ref jT, .ref r1, .ref r2, .int (nI (Wr)), .int (nI (fi)), .int (nI (Pn)), .ref q6, .ref q7])), (r1, .inl (c1, 120, .inl S1)), (r2, .inl (c2, 124, .inl s2)), (jT, .inr (8, [.ref t0, .int (nI (kt))])), (t0, .inl (cC, 120, .inl gT))] [(c1, .int), (c2, .int), (cC, .char)] (va_A [(jR, .inr (4, [.ref jT, .ref r1, .ref r2, .int (nI (wr)), .int (nI (fi)), .int (nI (pn)), .ref q6, .ref q7])), (r1, .inl (c1, 120, .inl s1)), (r2, .inl (c2, 124, .inl s2)), (jT, .inr (8, [.ref t0, .int (nI (kt))])), (t0, .inl (cC, 120, .inl gT))] sz) t) (va_A [(jR, .inr (4, [.ref jT, .ref r1, .ref r2, .int (nI (wr)), .int (nI (fi)), .int (nI (pn)), .ref q6, .ref q7])), (r1, .inl (c1, 120, .inl s1)), (r2, .inl (c2, 124, .inl s2)), (jT, .inr (8, [.ref t0, .int (nI (kt))])), (t0, .inl (cC, 120, .inl gT))] sz)) 0 0 (va_A [(jR, .inr (4, [.ref jT, .ref r1, .ref r2, .int (nI (wr)), .int (nI (fi)), .int (nI (pn)), .ref q6, .ref q7])), (r1, .inl (c1, 120, .inl s1)), (r2, .inl (c2, 124, .inl s2)), (jT, .inr (8, [.ref t0, .int (nI (kt))])), (t0, .inl (cC, 120, .inl gT))] sz) := by
  refine Met.ofW (cc := cX4_readAtom) (maxL := 4) (ret := (some .boolean)) (by decide) rfl ?_
  intro p e s m args below meth c s₁ B hml hv
  obtain ⟨rfl, hsz, hP, hK, hD0, hX⟩ := hv
  have hx := B.exec
  have hb := B.bytes
  have hr := B.returns
  have hts := atoms_spec (ws := w_s_atom4x_6) B.pre
  have hown : s.vm.findClass RX4 = some m.cls := findClass_of_methodNamed B.named
  have hlocks := B.notSynchronized
  subst hsz
  have hD := hD0.self (sz := s.heap.size)
  generalize hAe : va_A [(jR, .inr (4, [.ref jT, .ref r1, .ref r2, .int (nI (wr)), .int (nI (fi)), .int (nI (pn)), .ref q6, .ref q7])), (r1, .inl (c1, 120, .inl s1)), (r2, .inl (c2, 124, .inl s2)), (jT, .inr (8, [.ref t0, .int (nI (kt))])), (t0, .inl (cC, 120, .inl gT))] s.heap.size = A at hD hX ⊢
  have hA : ∀ q : Nat, s.heap.size ≤ q → A q := fun q h => by rw [← hAe]; exact Or.inr h
  have hS : va_S A s.heap s.heap [] := va_S.rf
  have hP : va_P (dC, dI) vwCl [(jR, .inr (4, [.ref jT, .ref r1, .ref r2, .int (nI (wr)), .int (nI (fi)), .int (nI (pn)), .ref q6, .ref q7])), (r1, .inl (c1, 120, .inl s1)), (r2, .inl (c2, 124, .inl s2)), (jT, .inr (8, [.ref t0, .int (nI (kt))])), (t0, .inl (cC, 120, .inl gT))] s.heap := hP
  have hl := lv_entry ([.ref jR, .int 6]) (n := 4) (Nat.le_of_ble_eq_true rfl)
  rw [lg_entry_eq]
  generalize (lg_sl ([.ref jR, .int 6]) ++ List.replicate (4 - (lg_sl ([.ref jR, .int 6])).length) Slot.unset).toArray = ls at hl ⊢
  have hl : lv_has ls 4 [(0, .ref jR), (1, .int 6)] := hl
  refine kQ (fun Q hQ => ?_)
  refine lv_aload_n hx hb dX4_readAtom_0 rfl (lv_at hl 0 rfl) ?_
  have hCu := kCut (wc := [(jR, .inr (4, [.ref jT, .ref r1, .ref r2, .int (nI (wr)), .int (nI (fi)), .int (nI (pn)), .ref q6, .ref q7])), (r1, .inl (c1, 120, .inl s1)), (r2, .inl (c2, 124, .inl s2)), (jT, .inr (8, [.ref t0, .int (nI (kt))])), (t0, .inl (cC, 120, .inl gT))]) hP hD hS hA [0, 1, 2, 3, 4] rfl kc_nd_311 rfl
  have hPc := hCu.1
  have hDc := hCu.2.1
  have hFc := hCu.2.2
  have hKc := hK.sb (tys2 := [(c1, .int), (c2, .int), (cC, .char)]) [0, 1, 2] rfl
  refine va_calli (va_runV (As := []) (rest := []) ⟨hx, hb, hml, hown, hts⟩ (s_look4x l dC dI jT t0 cC gT kt hkt hgT bt hbt hb8 jR r1 r2 c1 c2 s1 s2 wr fi q6 q7 hwr hfi pn hpn s.heap.size) (cwV 0 hts (kG (List.forall_mem_cons.mpr ⟨(List.mem_cons_of_mem _ (List.mem_append_left _ (List.mem_of_getElem? (i := 3) rfl))), (List.forall_mem_cons.mpr ⟨(List.mem_cons_of_mem _ (List.mem_append_left _ (List.mem_of_getElem? (i := 2) rfl))), (List.forall_mem_cons.mpr ⟨(List.mem_cons_of_mem _ (List.mem_append_left _ (List.mem_of_getElem? (i := 1) rfl))), (List.forall_mem_cons.mpr ⟨(List.mem_cons_of_mem _ (List.mem_append_left _ (List.mem_of_getElem? (i := 0) rfl))), (fun _ h => absurd h List.not_mem_nil)⟩)⟩)⟩)⟩) (kGV _ _ _ _) (fun _ h => List.mem_cons_of_mem _ (List.mem_append_right _ (List.mem_append_left _ h))) gw_s_look4x) rfl rfl rfl ⟨rfl, hd_X4_look⟩ ⟨(Nat.le_of_ble_eq_true rfl), (Nat.le_of_ble_eq_true rfl)⟩) (kW_V kT_blind kT_give (va_recv hKc hPc (ci := 4) (q0 := 0) rfl rfl) hPc hKc hDc) rfl rfl hl.1 rfl (lv_room (Nat.le_of_ble_eq_true rfl)) dX4_readAtom_1 ⟨(Nat.le_of_ble_eq_true rfl), (Nat.le_of_ble_eq_true rfl)⟩) hS (fun q _ h => hFc q h) hFc (fun r_1 => kU2 (fun Pn_2 ch_3 t H_4 locs ht hvm hw hB hz1 hk1 hS => ?_))
  try dsimp only at hw
  have hPD : kPD dC dI A [(jR, .inr (4, [.ref jT, .ref r1, .ref r2, .int (nI (wr)), .int (nI (fi)), .int (nI (Pn_2)), .ref q6, .ref q7])), (r1, .inl (c1, 120, .inl s1)), (r2, .inl (c2, 124, .inl s2)), (jT, .inr (8, [.ref t0, .int (nI (kt))])), (t0, .inl (cC, 120, .inl gT))] H_4 := kJoinX hP hD [0, 1, 2, 3, 4] rfl hk1 hFc hB.1 ht hB.2.2 rfl [some 0, some 1, some 2, some 3, some 4] rfl rfl
  have hP := hPD.1
  have hD := hPD.2
  obtain ⟨rfl, hw_5_0, hw_5_1, hw_5_2, hw_5_3, hw_5_4, hw_5_5, hw_5_6⟩ := hw
  refine lv_istore_n hx hb dX4_readAtom_4 rfl hl kc_l_2_4 (kTo [(2, .int (nI (ch_3))), (0, .ref jR), (1, .int 6)]) (fun ls hl => ?_)
  refine lv_iload_n hx hb dX4_readAtom_5 rfl (lv_at hl 0 rfl) ?_
  refine lv_bipush (v := 91) hx hb dX4_readAtom_6 kc_b_91 ?_
  refine lv_icmp_ne (tgt := 44) hx hb dX4_readAtom_8 kc_t_8_36 (fun c_6 => ?_) (fun c_6 => ?_)
  · have bd_8 : ch_3 < 2147483648 := by omega
    have hn_7 := kneq (a := ch_3) (b := 91) bd_8 kc_31_91 c_6
    refine lv_iload_n hx hb dX4_readAtom_44 rfl (lv_at hl 0 rfl) ?_
    have bd_9 : ch_3 < 256 := by omega
    have hPc := hP.sb (ws2 := []) [] rfl
    have hKc := hK.sb (tys2 := []) [] rfl
    refine vp_callSi (va_runS (As := [.int (nI (ch_3))]) (rest := []) ⟨hx, hb, hml, hown, hts⟩ (s_digit4x l dC dI ch_3 bd_9) (va_cwS 1 hts (kG (List.forall_mem_cons.mpr ⟨(List.mem_cons_of_mem _ (List.mem_append_left _ (List.mem_of_getElem? (i := 5) rfl))), (List.forall_mem_cons.mpr ⟨(List.mem_cons_of_mem _ (List.mem_append_left _ (List.mem_of_getElem? (i := 4) rfl))), (List.forall_mem_cons.mpr ⟨(List.mem_cons_of_mem _ (List.mem_append_left _ (List.mem_of_getElem? (i := 0) rfl))), (fun _ h => absurd h List.not_mem_nil)⟩)⟩)⟩) (kGS _ _ _) (fun _ h => List.mem_cons_of_mem _ (List.mem_append_right _ (List.mem_append_right _ (List.mem_append_left _ h)))) gw_s_digit4x) rfl rfl rfl hd_X4_isDigit ⟨(Nat.le_of_ble_eq_true rfl), (Nat.le_of_ble_eq_true rfl)⟩) (kR_S kT_blind kT_give hPc hKc) rfl rfl hl.1 rfl (lv_room (Nat.le_of_ble_eq_true rfl)) dX4_readAtom_45 ⟨(Nat.le_of_ble_eq_true rfl), (Nat.le_of_ble_eq_true rfl)⟩).run (fun r_10 hw => ?_)
    have hw_11 := hw
    refine lv_if_eq (tgt := 56) hx hb dX4_readAtom_48 kc_t_48_8 (fun c_12 => ?_) (fun c_12 => ?_)
    · have hdg_13 : ¬ (48 ≤ ch_3 ∧ ch_3 ≤ 57) := fun z9 => hw_11.mpr z9 c_12
      refine lv_aload_n hx hb dX4_readAtom_56 rfl (lv_at hl 1 rfl) ?_
      refine va_get (D := (dC, dI)) (ci := 4) (v := .ref q7) (C := RX4) (T := TX4) (N := 8) hx hb hts (fun _ h => List.mem_cons_of_mem _ (List.mem_append_right _ (List.mem_append_right _ (List.mem_append_right _ (List.mem_append_left _ h))))) hown hK hP 0 rfl rfl 7 kc_l_7_8 (hts (.fieldLink RX4 34 "NotEnded$Reader" "letterSigns" "Ljava/lang/String;") (List.mem_cons_of_mem _ (List.mem_append_left _ (List.mem_of_getElem? (i := 6) rfl)))) (fun _ h9 => h9) rfl dX4_readAtom_57 ?_
      refine lv_iload_n hx hb dX4_readAtom_60 rfl (lv_at hl 0 rfl) ?_
      have hPc := hP.sb (ws2 := []) [] rfl
      have hKc := hK.sb (tys2 := []) [] rfl
      refine vp_callSi (va_runV (As := [.int (nI (ch_3))]) (rest := []) ⟨hx, hb, hml, hown, hts⟩ (s_t_ixx l dC dI q7 b7 n7 g7 hn7 A gn7 ch_3 bd_9) (cwV 1 hts (kG (List.forall_mem_cons.mpr ⟨(List.mem_cons_of_mem _ (List.mem_append_left _ (List.mem_of_getElem? (i := 10) rfl))), (List.forall_mem_cons.mpr ⟨(List.mem_cons_of_mem _ (List.mem_append_left _ (List.mem_of_getElem? (i := 9) rfl))), (List.forall_mem_cons.mpr ⟨(List.mem_cons_of_mem _ (List.mem_append_left _ (List.mem_of_getElem? (i := 8) rfl))), (List.forall_mem_cons.mpr ⟨(List.mem_cons_of_mem _ (List.mem_append_left _ (List.mem_of_getElem? (i := 7) rfl))), (fun _ h => absurd h List.not_mem_nil)⟩)⟩)⟩)⟩) (kGV _ _ _ _) (fun _ h => List.mem_cons_of_mem _ (List.mem_append_right _ (List.mem_append_right _ (List.mem_append_right _ (List.mem_append_right _ (List.mem_append_left _ h)))))) gw_s_t_ixx) rfl rfl rfl ⟨rfl, hd_J0_indexOf_0f7a4⟩ ⟨(Nat.le_of_ble_eq_true rfl), (Nat.le_of_ble_eq_true rfl)⟩) (kR_V kSt_blind (kSt_give hX.2 hS) (kSt_recv hX.2 hS) hPc hKc) rfl rfl hl.1 rfl (lv_room (Nat.le_of_ble_eq_true rfl)) dX4_readAtom_61 ⟨(Nat.le_of_ble_eq_true rfl), (Nat.le_of_ble_eq_true rfl)⟩).run (fun r_14 hw => ?_)
      have hw_15 := hw
      rcases hw_15 with ⟨rfl, hj_17⟩ | ⟨j_16, hj_17_1, rfl, hj_17⟩
      · refine lv_istore_n hx hb dX4_readAtom_64 rfl hl kc_l_3_4 (kTo [(3, .int (-1)), (2, .int (nI (ch_3))), (0, .ref jR), (1, .int 6)]) (fun ls hl => ?_)
        refine lv_iload_n hx hb dX4_readAtom_65 rfl (lv_at hl 0 rfl) ?_
        refine lv_if_ge (tgt := 71) hx hb dX4_readAtom_66 kc_t_66_5 (fun c_18 => absurd c_18 (by decide)) (fun c_18 => ?_)
        refine lv_iconst (v := 0) hx hb dX4_readAtom_69 kc_i_0 ?_
        have hP9 := hP
        have hD9 := hD
        have hK9 := hK
        rw [hQ]
        exact W.zret (v := 0) hx hb hr rfl (fun t ht hW => ⟨⟨0, (s1, wr, Pn_2, false, ([])), rfl, ⟨rfl, kPR_f ((kAtomD_z pn).trans (by unfold kAtomF; rw [← hw_5_0, ← hw_5_1]; rw [if_neg (by omega), if_neg (fun z9 => by have := kDg_t.mp z9; omega), if_neg (by omega)])) (by omega), by omega⟩,  by rw [ht]; exact hP9, va_K.moved hW.alike hK9, hD9⟩, hS.F ht⟩) hS.2.2 dX4_readAtom_70
      · have hlt9 : Pn_2 < kt := by rcases (show ch_3 = 0 ∨ Pn_2 < kt by assumption) with z | z; (exfalso; rw [z, hz7] at hj_17; omega); exact z
        refine lv_istore_n hx hb dX4_readAtom_64 rfl hl kc_l_3_4 (kTo [(3, .int (nI (j_16))), (2, .int (nI (ch_3))), (0, .ref jR), (1, .int 6)]) (fun ls hl => ?_)
        refine lv_iload_n hx hb dX4_readAtom_65 rfl (lv_at hl 0 rfl) ?_
        have bd_19 : j_16 < 2147483648 := by omega
        refine lv_if_ge (tgt := 71) hx hb dX4_readAtom_66 kc_t_66_5 (fun c_20 => ?_) (fun c_20 => absurd (nI_pos' (n := j_16) bd_19) c_20)
        refine lv_aload_n hx hb dX4_readAtom_71 rfl (lv_at hl 2 rfl) ?_
        refine lv_dup hx hb dX4_readAtom_72 rfl ?_
        refine va_get (D := (dC, dI)) (ci := 4) (v := .int (nI (Pn_2))) (C := RX4) (T := TX4) (N := 8) hx hb hts (fun _ h => List.mem_cons_of_mem _ (List.mem_append_right _ (List.mem_append_right _ (List.mem_append_right _ (List.mem_append_left _ h))))) hown hK hP 0 rfl rfl 5 kc_l_5_8 (hts (.fieldLink RX4 25 "NotEnded$Reader" "place" "I") (List.mem_cons_of_mem _ (List.mem_append_left _ (List.mem_of_getElem? (i := 11) rfl)))) (fun _ h9 => h9) rfl dX4_readAtom_73 ?_
        refine lv_iconst (v := 1) hx hb dX4_readAtom_76 kc_i_1 ?_
        refine lv_iadd hx hb dX4_readAtom_77 ?_
        refine lv_topi (fun y_21 ey_21 => ?_)
        obtain rfl : y_21 = nI (Pn_2 + 1) := ey_21.trans (nI_add (Pn_2) (1))
        refine va_put (D := (dC, dI)) (ci := 4) (v := .int (nI (Pn_2 + 1))) (ty := tyX4 5) (C := RX4) (T := TX4) (N := 8) hx hb hts (fun _ h => List.mem_cons_of_mem _ (List.mem_append_right _ (List.mem_append_right _ (List.mem_append_right _ (List.mem_append_left _ h))))) tyX4 tyX4_ok nmX4 hown hK hP hD hS 0 rfl rfl 5 kc_l_5_8 (hts (.fieldLink RX4 25 "NotEnded$Reader" "place" "I") (List.mem_cons_of_mem _ (List.mem_append_left _ (List.mem_of_getElem? (i := 11) rfl)))) (fun _ h9 => h9) rfl (tyX4_ok 5 kc_l_5_8) rfl rfl (Nat.le_of_ble_eq_true rfl) dX4_readAtom_78 (fun H locs hP hD hS => ?_)
        have hPD : kPD dC dI A [(jR, .inr (4, [.ref jT, .ref r1, .ref r2, .int (nI (wr)), .int (nI (fi)), .int (nI (Pn_2 + 1)), .ref q6, .ref q7])), (r1, .inl (c1, 120, .inl s1)), (r2, .inl (c2, 124, .inl s2)), (jT, .inr (8, [.ref t0, .int (nI (kt))])), (t0, .inl (cC, 120, .inl gT))] H := ⟨hP, hD⟩
        have hP := hPD.1
        have hD := hPD.2
        refine lv_aload_n hx hb dX4_readAtom_81 rfl (lv_at hl 2 rfl) ?_
        refine lv_sipush (v := 10000) hx hb dX4_readAtom_82 kc_s_10000 ?_
        refine lv_iload_n hx hb dX4_readAtom_85 rfl (lv_at hl 0 rfl) ?_
        refine lv_iadd hx hb dX4_readAtom_86 ?_
        refine lv_topi (fun y_22 ey_22 => ?_)
        obtain rfl : y_22 = nI (10000 + j_16) := ey_22.trans (nI_add (10000) (j_16))
        have bd_23 : (Pn_2 + 1) ≤ kt := by omega
        have bd_24 : wr < 120 := by omega
        have hCu := kCut (wc := [(jR, .inr (4, [.ref jT, .ref r1, .ref r2, .int (nI (wr)), .int (nI (fi)), .int (nI (Pn_2 + 1)), .ref q6, .ref q7])), (r1, .inl (c1, 120, .inl s1)), (r2, .inl (c2, 124, .inl s2)), (jT, .inr (8, [.ref t0, .int (nI (kt))])), (t0, .inl (cC, 120, .inl gT))]) hP hD hS hA [0, 1, 2, 3, 4] rfl kc_nd_311 rfl
        have hPc := hCu.1
        have hDc := hCu.2.1
        have hFc := hCu.2.2
        have hKc := hK.sb (tys2 := [(c1, .int), (c2, .int), (cC, .char)]) [0, 1, 2] rfl
        refine va_calli (va_runV (As := [.int (nI (10000 + j_16))]) (rest := []) ⟨hx, hb, hml, hown, hts⟩ (s_write4x l dC dI jT t0 cC gT kt hkt hgT bt hbt hb8 jR r1 r2 c1 c2 s1 s2 wr fi q6 q7 hwr hfi (Pn_2 + 1) bd_23 (nI (10000 + j_16)) bd_24 H.size) (cwV 1 hts (kG (List.forall_mem_cons.mpr ⟨(List.mem_cons_of_mem _ (List.mem_append_left _ (List.mem_of_getElem? (i := 14) rfl))), (List.forall_mem_cons.mpr ⟨(List.mem_cons_of_mem _ (List.mem_append_left _ (List.mem_of_getElem? (i := 13) rfl))), (List.forall_mem_cons.mpr ⟨(List.mem_cons_of_mem _ (List.mem_append_left _ (List.mem_of_getElem? (i := 12) rfl))), (List.forall_mem_cons.mpr ⟨(List.mem_cons_of_mem _ (List.mem_append_left _ (List.mem_of_getElem? (i := 0) rfl))), (fun _ h => absurd h List.not_mem_nil)⟩)⟩)⟩)⟩) (kGV _ _ _ _) (fun _ h => List.mem_cons_of_mem _ (List.mem_append_right _ (List.mem_append_right _ (List.mem_append_right _ (List.mem_append_right _ (List.mem_append_right _ (List.mem_append_left _ h))))))) gw_s_write4x) rfl rfl rfl ⟨rfl, hd_X4_write⟩ ⟨(Nat.le_of_ble_eq_true rfl), (Nat.le_of_ble_eq_true rfl)⟩) (kW_V kT_blind kT_give (va_recv hKc hPc (ci := 4) (q0 := 0) rfl rfl) hPc hKc hDc) rfl rfl hl.1 rfl (lv_room (Nat.le_of_ble_eq_true rfl)) dX4_readAtom_87 ⟨(Nat.le_of_ble_eq_true rfl), (Nat.le_of_ble_eq_true rfl)⟩) hS (fun q _ h => hFc q h) hFc (fun r_25 => kU2 (fun S1_26 Wr_27 t H_28 locs ht hvm hw hB hz1 hk1 hS => ?_))
        try dsimp only at hw
        have hPD : kPD dC dI A [(jR, .inr (4, [.ref jT, .ref r1, .ref r2, .int (nI (Wr_27)), .int (nI (fi)), .int (nI (Pn_2 + 1)), .ref q6, .ref q7])), (r1, .inl (c1, 120, .inl S1_26)), (r2, .inl (c2, 124, .inl s2)), (jT, .inr (8, [.ref t0, .int (nI (kt))])), (t0, .inl (cC, 120, .inl gT))] H_28 := kJoinX hP hD [0, 1, 2, 3, 4] rfl hk1 hFc hB.1 ht hB.2.2 rfl [some 0, some 1, some 2, some 3, some 4] rfl rfl
        have hP := hPD.1
        have hD := hPD.2
        obtain ⟨rfl, hw_29⟩ := hw
        have hP9 := hP
        have hD9 := hD
        have hK9 := hK
        rw [hQ]
        exact W.zret (v := 1) hx hb hr rfl (fun t ht hW => ⟨⟨1, (S1_26, Wr_27, (Pn_2 + 1), true, ([nI (10000 + j_16)])), rfl, ⟨rfl, kPR_t (a := kAtomD bt kt g7 n7 0) rfl (kAtomD_good hz7 0) (by omega) ((kAtomD_z pn).trans (by unfold kAtomF; rw [← hw_5_0, ← hw_5_1]; rw [if_neg (by omega), if_neg (fun z9 => by have := kDg_t.mp z9; omega), if_pos (by omega), hj_17])) (by rw [hw_29.1]; rfl) (by rw [hw_29.2]; rfl), by omega⟩,  by rw [ht]; exact hP9, va_K.moved hW.alike hK9, hD9⟩, hS.F ht⟩) hS.2.2 dX4_readAtom_90
    · have hdg_30 := hw_11.mp c_12
      refine lv_aload_n hx hb dX4_readAtom_51 rfl (lv_at hl 1 rfl) ?_
      have bd_31 : Pn_2 ≤ kt := by omega
      have bd_32 : wr ≤ Pn_2 := by omega
      have bd_33 : 48 ≤ kAt bt kt Pn_2 ∧ kAt bt kt Pn_2 ≤ 57 := by omega
      have hCu := kCut (wc := [(jR, .inr (4, [.ref jT, .ref r1, .ref r2, .int (nI (wr)), .int (nI (fi)), .int (nI (Pn_2)), .ref q6, .ref q7])), (r1, .inl (c1, 120, .inl s1)), (r2, .inl (c2, 124, .inl s2)), (jT, .inr (8, [.ref t0, .int (nI (kt))])), (t0, .inl (cC, 120, .inl gT))]) hP hD hS hA [0, 1, 2, 3, 4] rfl kc_nd_311 rfl
      have hPc := hCu.1
      have hDc := hCu.2.1
      have hFc := hCu.2.2
      have hKc := hK.sb (tys2 := [(c1, .int), (c2, .int), (cC, .char)]) [0, 1, 2] rfl
      refine va_calli (va_runV (As := []) (rest := []) ⟨hx, hb, hml, hown, hts⟩ (s_number4x l dC dI jT t0 cC gT kt hkt hgT bt hbt hb8 jR r1 r2 c1 c2 s1 s2 wr fi q6 q7 hwr hfi Pn_2 bd_31 bd_32 bd_33 H_4.size) (cwV 0 hts (kG (List.forall_mem_cons.mpr ⟨(List.mem_cons_of_mem _ (List.mem_append_left _ (List.mem_of_getElem? (i := 17) rfl))), (List.forall_mem_cons.mpr ⟨(List.mem_cons_of_mem _ (List.mem_append_left _ (List.mem_of_getElem? (i := 16) rfl))), (List.forall_mem_cons.mpr ⟨(List.mem_cons_of_mem _ (List.mem_append_left _ (List.mem_of_getElem? (i := 15) rfl))), (List.forall_mem_cons.mpr ⟨(List.mem_cons_of_mem _ (List.mem_append_left _ (List.mem_of_getElem? (i := 0) rfl))), (fun _ h => absurd h List.not_mem_nil)⟩)⟩)⟩)⟩) (kGV _ _ _ _) (fun _ h => List.mem_cons_of_mem _ (List.mem_append_right _ (List.mem_append_right _ (List.mem_append_right _ (List.mem_append_right _ (List.mem_append_right _ (List.mem_append_right _ (List.mem_append_left _ h)))))))) gw_s_number4x) rfl rfl rfl ⟨rfl, hd_X4_readNumber⟩ ⟨(Nat.le_of_ble_eq_true rfl), (Nat.le_of_ble_eq_true rfl)⟩) (kW_V kT_blind kT_give (va_recv hKc hPc (ci := 4) (q0 := 0) rfl rfl) hPc hKc hDc) rfl rfl hl.1 rfl (lv_room (Nat.le_of_ble_eq_true rfl)) dX4_readAtom_52 ⟨(Nat.le_of_ble_eq_true rfl), (Nat.le_of_ble_eq_true rfl)⟩) hS (fun q _ h => hFc q h) hFc (fun r_34 => kU5 (fun S1_35 Wr_36 Pn_37 xo_38 xl_39 t H_40 locs ht hvm hw hB hz1 hk1 hS => ?_))
      try dsimp only at hw
      have hPD : kPD dC dI A [(jR, .inr (4, [.ref jT, .ref r1, .ref r2, .int (nI (Wr_36)), .int (nI (fi)), .int (nI (Pn_37)), .ref q6, .ref q7])), (r1, .inl (c1, 120, .inl S1_35)), (r2, .inl (c2, 124, .inl s2)), (jT, .inr (8, [.ref t0, .int (nI (kt))])), (t0, .inl (cC, 120, .inl gT))] H_40 := kJoinX hP hD [0, 1, 2, 3, 4] rfl hk1 hFc hB.1 ht hB.2.2 rfl [some 0, some 1, some 2, some 3, some 4] rfl rfl
      have hP := hPD.1
      have hD := hPD.2
      have hw_41 := hw
      have hP9 := hP
      have hD9 := hD
      have hK9 := hK
      rw [hQ]
      exact W.zret (v := r_34) hx hb hr (by rw [hw_41.1]; exact kBo_nar _) (fun t ht hW => ⟨⟨r_34, (S1_35, Wr_36, Pn_37, xo_38, xl_39), rfl, ⟨hw_41.1, kPR_up ((kAtomD_z pn).trans (by unfold kAtomF; rw [← hw_5_0, ← hw_5_1]; rw [if_neg (by omega), if_pos (kDg_t.mpr (by omega))])) hw_41.2.1 (by omega), hw_41.2.2⟩,  by rw [ht]; exact hP9, va_K.moved hW.alike hK9, hD9⟩, hS.F ht⟩) hS.2.2 dX4_readAtom_55
  · have bd_43 : ch_3 < 2147483648 := by omega
    have hn_42 := keq (a := ch_3) (b := 91) bd_43 kc_31_91 c_6
    refine lv_aload_n hx hb dX4_readAtom_11 rfl (lv_at hl 1 rfl) ?_
    refine lv_iload_n hx hb dX4_readAtom_12 rfl (lv_at hl 2 rfl) ?_
    have bd_44 : Pn_2 ≤ kt := by omega
    have hPc := hP.sb (ws2 := [(jR, .inr (4, [.ref jT, .ref r1, .ref r2, .int (nI (wr)), .int (nI (fi)), .int (nI (Pn_2)), .ref q6, .ref q7])), (r1, .inl (c1, 120, .inl s1)), (r2, .inl (c2, 124, .inl s2)), (jT, .inr (8, [.ref t0, .int (nI (kt))])), (t0, .inl (cC, 120, .inl gT))]) [0, 1, 2, 3, 4] rfl
    have hKc := hK.sb (tys2 := [(c1, .int), (c2, .int), (cC, .char)]) [0, 1, 2] rfl
    refine vp_callSi (va_runV (As := [.int 6]) (rest := []) ⟨hx, hb, hml, hown, hts⟩ (s_opens4_6 l dC dI jT t0 cC gT kt hkt hgT bt hbt hb8 jR r1 r2 c1 c2 s1 s2 wr fi q6 q7 hwr hfi Pn_2 bd_44) (cwV 1 hts (kG (List.forall_mem_cons.mpr ⟨(List.mem_cons_of_mem _ (List.mem_append_left _ (List.mem_of_getElem? (i := 20) rfl))), (List.forall_mem_cons.mpr ⟨(List.mem_cons_of_mem _ (List.mem_append_left _ (List.mem_of_getElem? (i := 19) rfl))), (List.forall_mem_cons.mpr ⟨(List.mem_cons_of_mem _ (List.mem_append_left _ (List.mem_of_getElem? (i := 18) rfl))), (List.forall_mem_cons.mpr ⟨(List.mem_cons_of_mem _ (List.mem_append_left _ (List.mem_of_getElem? (i := 0) rfl))), (fun _ h => absurd h List.not_mem_nil)⟩)⟩)⟩)⟩) (kGV _ _ _ _) (fun _ h => List.mem_cons_of_mem _ (List.mem_append_right _ (List.mem_append_right _ (List.mem_append_right _ (List.mem_append_right _ (List.mem_append_right _ (List.mem_append_right _ (List.mem_append_right _ (List.mem_append_left _ h))))))))) gw_s_opens4_6) rfl rfl rfl ⟨rfl, hd_X4_opens⟩ ⟨(Nat.le_of_ble_eq_true rfl), (Nat.le_of_ble_eq_true rfl)⟩) (kR_V kT_blind kT_give (va_recv hKc hPc (ci := 4) (q0 := 0) rfl rfl) hPc hKc) rfl rfl hl.1 rfl (lv_room (Nat.le_of_ble_eq_true rfl)) dX4_readAtom_13 ⟨(Nat.le_of_ble_eq_true rfl), (Nat.le_of_ble_eq_true rfl)⟩).run (fun r_45 hw => ?_)
    obtain rfl : r_45 = 0 := hw
    refine lv_if_eq (tgt := 42) hx hb dX4_readAtom_16 kc_t_16_26 (fun c_46 => ?_) (fun c_46 => absurd (by decide) c_46)
    refine lv_iconst (v := 0) hx hb dX4_readAtom_42 kc_i_0 ?_
    have hP9 := hP
    have hD9 := hD
    have hK9 := hK
    rw [hQ]
    exact W.zret (v := 0) hx hb hr rfl (fun t ht hW => ⟨⟨0, (s1, wr, Pn_2, false, ([])), rfl, ⟨rfl, kPR_f ((kAtomD_z pn).trans (by unfold kAtomF; rw [← hw_5_0, ← hw_5_1]; rw [if_pos (by omega)]; rfl)) (by omega), by omega⟩,  by rw [ht]; exact hP9, va_K.moved hW.alike hK9, hD9⟩, hS.F ht⟩) hS.2.2 dX4_readAtom_43

theorem dX4_readTerm_0 : decode cX4_readTerm 0 = .ok (.aload_n 0, 1) := kDs0 kf_42 (by decide +kernel)
theorem dX4_readTerm_1 : decode cX4_readTerm 1 = .ok (.iload_n 1, 1) := kDs0 kf_27 (by decide +kernel)
theorem dX4_readTerm_2 : decode cX4_readTerm 2 = .ok (.invokevirtual 108, 3) := kDs2 kf_182 (by decide +kernel)
theorem dX4_readTerm_5 : decode cX4_readTerm 5 = .ok (.ifCond .ne 5, 3) := kDs4 kf_154 (by decide +kernel)
theorem dX4_readTerm_10 : decode cX4_readTerm 10 = .ok (.iconst 0, 1) := kDs0 kf_3 (by decide +kernel)
theorem dX4_readTerm_11 : decode cX4_readTerm 11 = .ok (.istore_n 2, 1) := kDs0 kf_61 (by decide +kernel)
theorem dX4_readTerm_12 : decode cX4_readTerm 12 = .ok (.iload_n 2, 1) := kDs0 kf_28 (by decide +kernel)
theorem dX4_readTerm_13 : decode cX4_readTerm 13 = .ok (.bipush 120, 2) := kDs3 kf_16 (by decide +kernel)
theorem dX4_readTerm_15 : decode cX4_readTerm 15 = .ok (.if_icmp .ge 64, 3) := kDs4 kf_162 (by decide +kernel)
theorem dX4_readTerm_79 : decode cX4_readTerm 79 = .ok (.iconst 1, 1) := kDs0 kf_4 (by decide +kernel)
theorem dX4_readTerm_80 : decode cX4_readTerm 80 = .ok (.ireturn, 1) := kDs0 kf_172 (by decide +kernel)
theorem dX4_readTerm_18 : decode cX4_readTerm 18 = .ok (.aload_n 0, 1) := kDs0 kf_42 (by decide +kernel)
theorem dX4_readTerm_19 : decode cX4_readTerm 19 = .ok (.invokevirtual 53, 3) := kDs2 kf_182 (by decide +kernel)
theorem dX4_readTerm_22 : decode cX4_readTerm 22 = .ok (.bipush 42, 2) := kDs3 kf_16 (by decide +kernel)
theorem dX4_readTerm_24 : decode cX4_readTerm 24 = .ok (.if_icmp .eq 12, 3) := kDs4 kf_159 (by decide +kernel)
theorem dX4_readTerm_36 : decode cX4_readTerm 36 = .ok (.aload_n 0, 1) := kDs0 kf_42 (by decide +kernel)
theorem dX4_readTerm_37 : decode cX4_readTerm 37 = .ok (.invokevirtual 53, 3) := kDs2 kf_182 (by decide +kernel)
theorem dX4_readTerm_40 : decode cX4_readTerm 40 = .ok (.istore_n 3, 1) := kDs0 kf_62 (by decide +kernel)
theorem dX4_readTerm_41 : decode cX4_readTerm 41 = .ok (.aload_n 0, 1) := kDs0 kf_42 (by decide +kernel)
theorem dX4_readTerm_42 : decode cX4_readTerm 42 = .ok (.dup, 1) := kDs0 kf_89 (by decide +kernel)
theorem dX4_readTerm_43 : decode cX4_readTerm 43 = .ok (.getfield 25, 3) := kDs2 kf_180 (by decide +kernel)
theorem dX4_readTerm_46 : decode cX4_readTerm 46 = .ok (.iconst 1, 1) := kDs0 kf_4 (by decide +kernel)
theorem dX4_readTerm_47 : decode cX4_readTerm 47 = .ok (.iadd, 1) := kDs0 kf_96 (by decide +kernel)
theorem dX4_readTerm_48 : decode cX4_readTerm 48 = .ok (.putfield 25, 3) := kDs2 kf_181 (by decide +kernel)
theorem dX4_readTerm_51 : decode cX4_readTerm 51 = .ok (.aload_n 0, 1) := kDs0 kf_42 (by decide +kernel)
theorem dX4_readTerm_52 : decode cX4_readTerm 52 = .ok (.iload_n 1, 1) := kDs0 kf_27 (by decide +kernel)
theorem dX4_readTerm_53 : decode cX4_readTerm 53 = .ok (.invokevirtual 108, 3) := kDs2 kf_182 (by decide +kernel)
theorem dX4_readTerm_56 : decode cX4_readTerm 56 = .ok (.ifCond .eq 15, 3) := kDs4 kf_153 (by decide +kernel)
theorem dX4_readTerm_71 : decode cX4_readTerm 71 = .ok (.iconst 0, 1) := kDs0 kf_3 (by decide +kernel)
theorem dX4_readTerm_72 : decode cX4_readTerm 72 = .ok (.ireturn, 1) := kDs0 kf_172 (by decide +kernel)
theorem dX4_readTerm_59 : decode cX4_readTerm 59 = .ok (.aload_n 0, 1) := kDs0 kf_42 (by decide +kernel)
theorem dX4_readTerm_60 : decode cX4_readTerm 60 = .ok (.sipush 20000, 3) := kDs4 kf_17 (by decide +kernel)
theorem dX4_readTerm_63 : decode cX4_readTerm 63 = .ok (.iload_n 3, 1) := kDs0 kf_29 (by decide +kernel)
theorem dX4_readTerm_64 : decode cX4_readTerm 64 = .ok (.iadd, 1) := kDs0 kf_96 (by decide +kernel)
theorem dX4_readTerm_65 : decode cX4_readTerm 65 = .ok (.invokevirtual 96, 3) := kDs2 kf_182 (by decide +kernel)
theorem dX4_readTerm_68 : decode cX4_readTerm 68 = .ok (.ifCond .ne 5, 3) := kDs4 kf_154 (by decide +kernel)
theorem dX4_readTerm_73 : decode cX4_readTerm 73 = .ok (.iinc 2 1, 3) := kDs5 kf_132 (by decide +kernel)
theorem dX4_readTerm_76 : decode cX4_readTerm 76 = .ok (.goto (-64), 3) := kDs4 kf_167 (by decide +kernel)
theorem dX4_readTerm_27 : decode cX4_readTerm 27 = .ok (.aload_n 0, 1) := kDs0 kf_42 (by decide +kernel)
theorem dX4_readTerm_28 : decode cX4_readTerm 28 = .ok (.invokevirtual 53, 3) := kDs2 kf_182 (by decide +kernel)
theorem dX4_readTerm_31 : decode cX4_readTerm 31 = .ok (.bipush 47, 2) := kDs3 kf_16 (by decide +kernel)
theorem dX4_readTerm_33 : decode cX4_readTerm 33 = .ok (.if_icmp .ne 46, 3) := kDs4 kf_160 (by decide +kernel)
theorem dX4_readTerm_8 : decode cX4_readTerm 8 = .ok (.iconst 0, 1) := kDs0 kf_3 (by decide +kernel)
theorem dX4_readTerm_9 : decode cX4_readTerm 9 = .ok (.ireturn, 1) := kDs0 kf_172 (by decide +kernel)
def w_s_term4x_6 : List Cond := .code yX4_readTerm cX4_readTerm 4 (some .boolean) :: wf_rq
theorem gw_s_term4x_6 : (w_s_term4x_6).all goodWord = true := kFamG rfl gf_rq
theorem hd_X4_readTerm : yX4_readTerm.cls ≠ "java/lang/invoke/MethodHandle" ∧ yX4_readTerm.cls ≠ "java/lang/invoke/VarHandle" ∧ (parseMethodDescriptor yX4_readTerm.desc).map (fun d => d.parameters.length) = some 1 := by decide +kernel
set_option maxHeartbeats 4000000 in
set_option maxRecDepth 100000 in
theorem s_term4x_6 (l : Launch) (dC : Nat → ClassId) (dI : Nat → Nat → Nat) (jT : Nat) (t0 : Nat) (cC : ClassId) (gT : Nat → Int32) (kt : Nat) (hkt : kt ≤ 120) (hgT : ∀ j : Nat, narrow .char (.int (gT j)) = .int (gT j)) (bt : Nat → Nat) (hbt : ∀ j : Nat, gT j = nI (bt j)) (hb8 : ∀ j : Nat, bt j < 256) (jR : Nat) (r1 : Nat) (r2 : Nat) (c1 : ClassId) (c2 : ClassId) (s1 : Nat → Int32) (s2 : Nat → Int32) (wr : Nat) (fi : Nat) (q6 : Nat) (q7 : Nat) (hwr : wr ≤ 120) (hfi : fi ≤ 124) (pn : Nat) (hpn : pn ≤ kt) (hwp : wr ≤ pn) (b6 : Nat) (n6 : Nat) (g6 : Nat → Int32) (hn6 : n6 ≤ 8) (b7 : Nat) (n7 : Nat) (g7 : Nat → Int32) (hn7 : n7 ≤ 8) (gn6 : ∀ k : Nat, ∃ v : Nat, v < 128 ∧ g6 k = nI v) (hz6 : kIx g6 n6 (nI 0) = n6) (gn7 : ∀ k : Nat, ∃ v : Nat, v < 128 ∧ g7 k = nI v) (hz7 : kIx g7 n7 (nI 0) = n7) (sz : Nat) : Met l yX4_readTerm w_s_term4x_6 ({ frames := 7, cells := 0, slots := 0, locals := 420 }) (kW dC dI [.ref jR, .int 6] [(jR, .inr (4, [.ref jT, .ref r1, .ref r2, .int (nI (wr)), .int (nI (fi)), .int (nI (pn)), .ref q6, .ref q7])), (r1, .inl (c1, 120, .inl s1)), (r2, .inl (c2, 124, .inl s2)), (jT, .inr (8, [.ref t0, .int (nI (kt))])), (t0, .inl (cC, 120, .inl gT))] [(c1, .int), (c2, .int), (cC, .char)] (kS2 q6 b6 n6 g6 q7 b7 n7 g7 (va_A [(jR, .inr (4, [.ref jT, .ref r1, .ref r2, .int (nI (wr)), .int (nI (fi)), .int (nI (pn)), .ref q6, .ref q7])), (r1, .inl (c1, 120, .inl s1)), (r2, .inl (c2, 124, .inl s2)), (jT, .inr (8, [.ref t0, .int (nI (kt))])), (t0, .inl (cC, 120, .inl gT))] sz)) sz) (va_Qi (fun (r : Int32) (u : (Nat → Int32) × Nat × Nat × Bool × (List Int32)) => match u with | (S1, Wr, Pn, xo, xl) => (r = kBo xo ∧ kPR (kTermD bt kt g7 n7 0 pn) pn kt wr s1 xo Pn xl Wr S1 ∧ Wr ≤ 120)) (fun (u : (Nat → Int32) × Nat × Nat × Bool × (List Int32)) => match u with | (S1, Wr, Pn, xo, xl) => fun t : State => kB dC dI [(jR, .inr (4, [.ref jT, .ref r1, .ref r2, .int (nI (Wr)), .int (nI (fi)), .int (nI (Pn)), .ref q6, .ref q7])), (r1, .inl (c1, 120, .inl S1)), (r2, .inl (c2, 124, .inl s2)), (jT, .inr (8, [.ref t0, .int (nI (kt))])), (t0, .inl (cC, 120, .inl gT))] [(c1, .int), (c2, .int), (cC, .char)] (va_A [(jR, .inr (4, [.ref jT, .ref r1, .ref r2, .int (nI (wr)), .int (nI (fi)), .int (nI (pn)), .ref q6, .ref q7])), (r1, .inl (c1, 120, .inl s1)), (r2, .inl (c2, 124, .inl s2)), (jT, .inr (8, [.ref t0, .int (nI (kt))])), (t0, .inl (cC, 120, .inl gT))] sz) t) (va_A [(jR, .inr (4, [.ref jT, .ref r1, .ref r2, .int (nI (wr)), .int (nI (fi)), .int (nI (pn)), .ref q6, .ref q7])), (r1, .inl (c1, 120, .inl s1)), (r2, .inl (c2, 124, .inl s2)), (jT, .inr (8, [.ref t0, .int (nI (kt))])), (t0, .inl (cC, 120, .inl gT))] sz)) 0 0 (va_A [(jR, .inr (4, [.ref jT, .ref r1, .ref r2, .int (nI (wr)), .int (nI (fi)), .int (nI (pn)), .ref q6, .ref q7])), (r1, .inl (c1, 120, .inl s1)), (r2, .inl (c2, 124, .inl s2)), (jT, .inr (8, [.ref t0, .int (nI (kt))])), (t0, .inl (cC, 120, .inl gT))] sz) := by
  refine Met.ofW (cc := cX4_readTerm) (maxL := 4) (ret := (some .boolean)) (by decide) rfl ?_
  intro p e s m args below meth c s₁ B hml hv
  obtain ⟨rfl, hsz, hP, hK, hD0, hX⟩ := hv
  have hx := B.exec
  have hb := B.bytes
  have hr := B.returns
  have hts := atoms_spec (ws := w_s_term4x_6) B.pre
  have hown : s.vm.findClass RX4 = some m.cls := findClass_of_methodNamed B.named
  have hlocks := B.notSynchronized
  subst hsz
  have hD := hD0.self (sz := s.heap.size)
  generalize hAe : va_A [(jR, .inr (4, [.ref jT, .ref r1, .ref r2, .int (nI (wr)), .int (nI (fi)), .int (nI (pn)), .ref q6, .ref q7])), (r1, .inl (c1, 120, .inl s1)), (r2, .inl (c2, 124, .inl s2)), (jT, .inr (8, [.ref t0, .int (nI (kt))])), (t0, .inl (cC, 120, .inl gT))] s.heap.size = A at hD hX ⊢
  have hA : ∀ q : Nat, s.heap.size ≤ q → A q := fun q h => by rw [← hAe]; exact Or.inr h
  have hS : va_S A s.heap s.heap [] := va_S.rf
  have hP : va_P (dC, dI) vwCl [(jR, .inr (4, [.ref jT, .ref r1, .ref r2, .int (nI (wr)), .int (nI (fi)), .int (nI (pn)), .ref q6, .ref q7])), (r1, .inl (c1, 120, .inl s1)), (r2, .inl (c2, 124, .inl s2)), (jT, .inr (8, [.ref t0, .int (nI (kt))])), (t0, .inl (cC, 120, .inl gT))] s.heap := hP
  have hl := lv_entry ([.ref jR, .int 6]) (n := 4) (Nat.le_of_ble_eq_true rfl)
  rw [lg_entry_eq]
  generalize (lg_sl ([.ref jR, .int 6]) ++ List.replicate (4 - (lg_sl ([.ref jR, .int 6])).length) Slot.unset).toArray = ls at hl ⊢
  have hl : lv_has ls 4 [(0, .ref jR), (1, .int 6)] := hl
  refine kQ (fun Q hQ => ?_)
  refine lv_aload_n hx hb dX4_readTerm_0 rfl (lv_at hl 0 rfl) ?_
  refine lv_iload_n hx hb dX4_readTerm_1 rfl (lv_at hl 1 rfl) ?_
  have hCu := kCut (wc := [(jR, .inr (4, [.ref jT, .ref r1, .ref r2, .int (nI (wr)), .int (nI (fi)), .int (nI (pn)), .ref q6, .ref q7])), (r1, .inl (c1, 120, .inl s1)), (r2, .inl (c2, 124, .inl s2)), (jT, .inr (8, [.ref t0, .int (nI (kt))])), (t0, .inl (cC, 120, .inl gT))]) hP hD hS hA [0, 1, 2, 3, 4] rfl kc_nd_311 rfl
  have hPc := hCu.1
  have hDc := hCu.2.1
  have hFc := hCu.2.2
  have hKc := hK.sb (tys2 := [(c1, .int), (c2, .int), (cC, .char)]) [0, 1, 2] rfl
  refine va_calli (va_runV (As := [.int 6]) (rest := []) ⟨hx, hb, hml, hown, hts⟩ (s_atom4x_6 l dC dI jT t0 cC gT kt hkt hgT bt hbt hb8 jR r1 r2 c1 c2 s1 s2 wr fi q6 q7 hwr hfi pn hpn hwp b6 n6 g6 hn6 b7 n7 g7 hn7 gn6 hz6 gn7 hz7 s.heap.size) (cwV 1 hts (kG (List.forall_mem_cons.mpr ⟨(List.mem_cons_of_mem _ (List.mem_append_left _ (List.mem_of_getElem? (i := 24) rfl))), (List.forall_mem_cons.mpr ⟨(List.mem_cons_of_mem _ (List.mem_append_left _ (List.mem_of_getElem? (i := 23) rfl))), (List.forall_mem_cons.mpr ⟨(List.mem_cons_of_mem _ (List.mem_append_left _ (List.mem_of_getElem? (i := 22) rfl))), (List.forall_mem_cons.mpr ⟨(List.mem_cons_of_mem _ (List.mem_append_left _ (List.mem_of_getElem? (i := 0) rfl))), (fun _ h => absurd h List.not_mem_nil)⟩)⟩)⟩)⟩) (kGV _ _ _ _) (kFam (List.mem_cons_of_mem _ (List.mem_append_left _ (List.mem_of_getElem? (i := 21) rfl)))) gw_s_atom4x_6) rfl rfl rfl ⟨rfl, hd_X4_readAtom⟩ ⟨(Nat.le_of_ble_eq_true rfl), (Nat.le_of_ble_eq_true rfl)⟩) (kW_V kS2_blind (kS2_give hX hS hFc) (va_recv hKc hPc (ci := 4) (q0 := 0) rfl rfl) hPc hKc hDc) rfl rfl hl.1 rfl (lv_room (Nat.le_of_ble_eq_true rfl)) dX4_readTerm_2 ⟨(Nat.le_of_ble_eq_true rfl), (Nat.le_of_ble_eq_true rfl)⟩) hS (fun q _ h => hFc q h) hFc (fun r_1 => kU5 (fun S1_2 Wr_3 Pn_4 xo_5 xl_6 t H_7 locs ht hvm hw hB hz1 hk1 hS => ?_))
  try dsimp only at hw
  have hPD : kPD dC dI A [(jR, .inr (4, [.ref jT, .ref r1, .ref r2, .int (nI (Wr_3)), .int (nI (fi)), .int (nI (Pn_4)), .ref q6, .ref q7])), (r1, .inl (c1, 120, .inl S1_2)), (r2, .inl (c2, 124, .inl s2)), (jT, .inr (8, [.ref t0, .int (nI (kt))])), (t0, .inl (cC, 120, .inl gT))] H_7 := kJoinX hP hD [0, 1, 2, 3, 4] rfl hk1 hFc hB.1 ht hB.2.2 rfl [some 0, some 1, some 2, some 3, some 4] rfl rfl
  have hP := hPD.1
  have hD := hPD.2
  have hw_8 := hw
  refine lv_if_ne (tgt := 10) hx hb dX4_readTerm_5 kc_t_5_5 (fun c_9 => ?_) (fun c_9 => ?_)
  · obtain rfl : xo_5 = true := kBo_t (kNz9 hw_8.1 c_9)
    obtain ⟨hw_8_W, hw_8_S, hw_8_l, hw_8_p⟩ := hw_8.2.1.2.2 rfl
    have hw_8_k := hw_8.2.1.2.1
    refine lv_iconst (v := 0) hx hb dX4_readTerm_10 kc_i_0 ?_
    refine lv_istore_n hx hb dX4_readTerm_11 rfl hl kc_l_2_4 (kTo [(2, .int 0), (0, .ref jR), (1, .int 6)]) (fun ls hl => ?_)
    have lp_k_10 : ∀ (n9 : Nat) (i : Nat) (xs1 : Nat → Int32) (xpn : Nat) (xwr : Nat) (xl : List Int32) (ivk_10_0 : i ≤ 120) (ivk_10_1 : xwr ≤ 120) (ivk_10_2 : xpn ≤ kt) (ivk_10_3 : kLoop bt kt 42 47 (kAtomD bt kt g7 n7 0) (120 - i) xpn xl = kTermD bt kt g7 n7 0 pn) (ivk_10_4 : xwr = wr + xl.length) (ivk_10_5 : xs1 = kWrt s1 wr xl) (ivk_10_6 : pn + xl.length ≤ xpn) (ivk_10_7 : pn < xpn) (H : Heap) (locs : List Loc) (_ : va_P (dC, dI) vwCl [(jR, .inr (4, [.ref jT, .ref r1, .ref r2, .int (nI (xwr)), .int (nI (fi)), .int (nI (xpn)), .ref q6, .ref q7])), (r1, .inl (c1, 120, .inl xs1)), (r2, .inl (c2, 124, .inl s2)), (jT, .inr (8, [.ref t0, .int (nI (kt))])), (t0, .inl (cC, 120, .inl gT))] H) (_ : va_D A [(jR, .inr (4, [.ref jT, .ref r1, .ref r2, .int (nI (xwr)), .int (nI (fi)), .int (nI (xpn)), .ref q6, .ref q7])), (r1, .inl (c1, 120, .inl xs1)), (r2, .inl (c2, 124, .inl s2)), (jT, .inr (8, [.ref t0, .int (nI (kt))])), (t0, .inl (cC, 120, .inl gT))]) (_ : va_S A s.heap H locs) (ls : Array Slot) (_ : lv_has ls 4 [(2, .int (nI (i))), (0, .ref jR), (1, .int 6)]) (_ : 120 - i < n9), W p l e (headSpec w_s_term4x_6 ({ frames := 7, cells := 0, slots := 0, locals := 420 })).room s m (#[.ref jR, .int 6] : Array Value) below meth c H locs 0 0 Q (F0 m 12 ls []) := by
      intro n9
      induction n9 with
      | zero => intro i xs1 xpn xwr xl ivk_10_0 ivk_10_1 ivk_10_2 ivk_10_3 ivk_10_4 ivk_10_5 ivk_10_6 ivk_10_7 H locs hP hD hS ls hl hm9; exact absurd hm9 (Nat.not_lt_zero _)
      | succ n9 ih_k_10 =>
        intro i xs1 xpn xwr xl ivk_10_0 ivk_10_1 ivk_10_2 ivk_10_3 ivk_10_4 ivk_10_5 ivk_10_6 ivk_10_7 H locs hP hD hS ls hl hm9
        refine lv_iload_n hx hb dX4_readTerm_12 rfl (lv_at hl 0 rfl) ?_
        refine lv_bipush (v := 120) hx hb dX4_readTerm_13 kc_b_120 ?_
        refine lv_icmp_ge (tgt := 79) hx hb dX4_readTerm_15 kc_t_15_64 (fun c_11 => ?_) (fun c_11 => ?_)
        · have bd_13 : i < 2147483648 := by omega
          have hn_12 := kle (a := 120) (b := i) kc_31_120 bd_13 c_11
          refine lv_iconst (v := 1) hx hb dX4_readTerm_79 kc_i_1 ?_
          have hP9 := hP
          have hD9 := hD
          have hK9 := hK
          rw [hQ]
          exact W.zret (v := 1) hx hb hr rfl (fun t ht hW => ⟨⟨1, (xs1, xwr, xpn, true, xl), rfl, ⟨rfl, kPR_t (a := kTermD bt kt g7 n7 0) rfl (kTermD_good hz7 0) (by omega) (by rw [← ivk_10_3, show 120 - i = 0 by omega]; rfl) ivk_10_4 ivk_10_5, by omega⟩,  by rw [ht]; exact hP9, va_K.moved hW.alike hK9, hD9⟩, hS.F ht⟩) hS.2.2 dX4_readTerm_80
        · have bd_15 : i < 2147483648 := by omega
          have hn_14 := knle (a := 120) (b := i) kc_31_120 bd_15 c_11
          refine lv_aload_n hx hb dX4_readTerm_18 rfl (lv_at hl 1 rfl) ?_
          have bd_16 : xwr ≤ 120 := by omega
          have bd_17 : xpn ≤ kt := by omega
          have hCu := kCut (wc := [(jR, .inr (4, [.ref jT, .ref r1, .ref r2, .int (nI (xwr)), .int (nI (fi)), .int (nI (xpn)), .ref q6, .ref q7])), (r1, .inl (c1, 120, .inl xs1)), (r2, .inl (c2, 124, .inl s2)), (jT, .inr (8, [.ref t0, .int (nI (kt))])), (t0, .inl (cC, 120, .inl gT))]) hP hD hS hA [0, 1, 2, 3, 4] rfl kc_nd_311 rfl
          have hPc := hCu.1
          have hDc := hCu.2.1
          have hFc := hCu.2.2
          have hKc := hK.sb (tys2 := [(c1, .int), (c2, .int), (cC, .char)]) [0, 1, 2] rfl
          refine va_calli (va_runV (As := []) (rest := []) ⟨hx, hb, hml, hown, hts⟩ (s_look4x l dC dI jT t0 cC gT kt hkt hgT bt hbt hb8 jR r1 r2 c1 c2 xs1 s2 xwr fi q6 q7 bd_16 hfi xpn bd_17 H.size) (cwV 0 hts (kG (List.forall_mem_cons.mpr ⟨(List.mem_cons_of_mem _ (List.mem_append_left _ (List.mem_of_getElem? (i := 3) rfl))), (List.forall_mem_cons.mpr ⟨(List.mem_cons_of_mem _ (List.mem_append_left _ (List.mem_of_getElem? (i := 2) rfl))), (List.forall_mem_cons.mpr ⟨(List.mem_cons_of_mem _ (List.mem_append_left _ (List.mem_of_getElem? (i := 1) rfl))), (List.forall_mem_cons.mpr ⟨(List.mem_cons_of_mem _ (List.mem_append_left _ (List.mem_of_getElem? (i := 0) rfl))), (fun _ h => absurd h List.not_mem_nil)⟩)⟩)⟩)⟩) (kGV _ _ _ _) (fun _ h => List.mem_cons_of_mem _ (List.mem_append_right _ (List.mem_append_left _ h))) gw_s_look4x) rfl rfl rfl ⟨rfl, hd_X4_look⟩ ⟨(Nat.le_of_ble_eq_true rfl), (Nat.le_of_ble_eq_true rfl)⟩) (kW_V kT_blind kT_give (va_recv hKc hPc (ci := 4) (q0 := 0) rfl rfl) hPc hKc hDc) rfl rfl hl.1 rfl (lv_room (Nat.le_of_ble_eq_true rfl)) dX4_readTerm_19 ⟨(Nat.le_of_ble_eq_true rfl), (Nat.le_of_ble_eq_true rfl)⟩) hS (fun q _ h => hFc q h) hFc (fun r_18 => kU2 (fun Pn_19 ch_20 t H_21 locs ht hvm hw hB hz1 hk1 hS => ?_))
          try dsimp only at hw
          have hPD : kPD dC dI A [(jR, .inr (4, [.ref jT, .ref r1, .ref r2, .int (nI (xwr)), .int (nI (fi)), .int (nI (Pn_19)), .ref q6, .ref q7])), (r1, .inl (c1, 120, .inl xs1)), (r2, .inl (c2, 124, .inl s2)), (jT, .inr (8, [.ref t0, .int (nI (kt))])), (t0, .inl (cC, 120, .inl gT))] H_21 := kJoinX hP hD [0, 1, 2, 3, 4] rfl hk1 hFc hB.1 ht hB.2.2 rfl [some 0, some 1, some 2, some 3, some 4] rfl rfl
          have hP := hPD.1
          have hD := hPD.2
          obtain ⟨rfl, hw_22_0, hw_22_1, hw_22_2, hw_22_3, hw_22_4, hw_22_5, hw_22_6⟩ := hw
          refine lv_bipush (v := 42) hx hb dX4_readTerm_22 kc_b_42 ?_
          refine lv_icmp_eq (tgt := 36) hx hb dX4_readTerm_24 kc_t_24_12 (fun c_23 => ?_) (fun c_23 => ?_)
          · have bd_25 : ch_20 < 2147483648 := by omega
            have hn_24 := keq (a := ch_20) (b := 42) bd_25 kc_31_42 c_23
            refine lv_aload_n hx hb dX4_readTerm_36 rfl (lv_at hl 1 rfl) ?_
            have bd_26 : Pn_19 ≤ kt := by omega
            have hCu := kCut (wc := [(jR, .inr (4, [.ref jT, .ref r1, .ref r2, .int (nI (xwr)), .int (nI (fi)), .int (nI (Pn_19)), .ref q6, .ref q7])), (r1, .inl (c1, 120, .inl xs1)), (r2, .inl (c2, 124, .inl s2)), (jT, .inr (8, [.ref t0, .int (nI (kt))])), (t0, .inl (cC, 120, .inl gT))]) hP hD hS hA [0, 1, 2, 3, 4] rfl kc_nd_311 rfl
            have hPc := hCu.1
            have hDc := hCu.2.1
            have hFc := hCu.2.2
            have hKc := hK.sb (tys2 := [(c1, .int), (c2, .int), (cC, .char)]) [0, 1, 2] rfl
            refine va_calli (va_runV (As := []) (rest := []) ⟨hx, hb, hml, hown, hts⟩ (s_look4x l dC dI jT t0 cC gT kt hkt hgT bt hbt hb8 jR r1 r2 c1 c2 xs1 s2 xwr fi q6 q7 bd_16 hfi Pn_19 bd_26 H_21.size) (cwV 0 hts (kG (List.forall_mem_cons.mpr ⟨(List.mem_cons_of_mem _ (List.mem_append_left _ (List.mem_of_getElem? (i := 3) rfl))), (List.forall_mem_cons.mpr ⟨(List.mem_cons_of_mem _ (List.mem_append_left _ (List.mem_of_getElem? (i := 2) rfl))), (List.forall_mem_cons.mpr ⟨(List.mem_cons_of_mem _ (List.mem_append_left _ (List.mem_of_getElem? (i := 1) rfl))), (List.forall_mem_cons.mpr ⟨(List.mem_cons_of_mem _ (List.mem_append_left _ (List.mem_of_getElem? (i := 0) rfl))), (fun _ h => absurd h List.not_mem_nil)⟩)⟩)⟩)⟩) (kGV _ _ _ _) (fun _ h => List.mem_cons_of_mem _ (List.mem_append_right _ (List.mem_append_left _ h))) gw_s_look4x) rfl rfl rfl ⟨rfl, hd_X4_look⟩ ⟨(Nat.le_of_ble_eq_true rfl), (Nat.le_of_ble_eq_true rfl)⟩) (kW_V kT_blind kT_give (va_recv hKc hPc (ci := 4) (q0 := 0) rfl rfl) hPc hKc hDc) rfl rfl hl.1 rfl (lv_room (Nat.le_of_ble_eq_true rfl)) dX4_readTerm_37 ⟨(Nat.le_of_ble_eq_true rfl), (Nat.le_of_ble_eq_true rfl)⟩) hS (fun q _ h => hFc q h) hFc (fun r_27 => kU2 (fun Pn_28 ch_29 t H_30 locs ht hvm hw hB hz1 hk1 hS => ?_))
            try dsimp only at hw
            have hPD : kPD dC dI A [(jR, .inr (4, [.ref jT, .ref r1, .ref r2, .int (nI (xwr)), .int (nI (fi)), .int (nI (Pn_28)), .ref q6, .ref q7])), (r1, .inl (c1, 120, .inl xs1)), (r2, .inl (c2, 124, .inl s2)), (jT, .inr (8, [.ref t0, .int (nI (kt))])), (t0, .inl (cC, 120, .inl gT))] H_30 := kJoinX hP hD [0, 1, 2, 3, 4] rfl hk1 hFc hB.1 ht hB.2.2 rfl [some 0, some 1, some 2, some 3, some 4] rfl rfl
            have hP := hPD.1
            have hD := hPD.2
            obtain ⟨rfl, hw_31_0, hw_31_1, hw_31_2, hw_31_3, hw_31_4, hw_31_5, hw_31_6⟩ := hw
            have e9 : Pn_19 = Pn_28 := by rw [hw_31_1, hw_22_1]; exact (kSp_sp (by omega)).symm
            have e8 : ch_20 = ch_29 := by rw [hw_31_0, hw_22_0, hw_22_1]; exact (kLk_sp (by omega)).symm
            subst e9
            subst e8
            refine lv_istore_n hx hb dX4_readTerm_40 rfl hl kc_l_3_4 (kTo [(3, .int (nI (ch_20))), (2, .int (nI (i))), (0, .ref jR), (1, .int 6)]) (fun ls hl => ?_)
            refine lv_aload_n hx hb dX4_readTerm_41 rfl (lv_at hl 2 rfl) ?_
            refine lv_dup hx hb dX4_readTerm_42 rfl ?_
            refine va_get (D := (dC, dI)) (ci := 4) (v := .int (nI (Pn_19))) (C := RX4) (T := TX4) (N := 8) hx hb hts (fun _ h => List.mem_cons_of_mem _ (List.mem_append_right _ (List.mem_append_right _ (List.mem_append_right _ (List.mem_append_left _ h))))) hown hK hP 0 rfl rfl 5 kc_l_5_8 (hts (.fieldLink RX4 25 "NotEnded$Reader" "place" "I") (List.mem_cons_of_mem _ (List.mem_append_left _ (List.mem_of_getElem? (i := 11) rfl)))) (fun _ h9 => h9) rfl dX4_readTerm_43 ?_
            refine lv_iconst (v := 1) hx hb dX4_readTerm_46 kc_i_1 ?_
            refine lv_iadd hx hb dX4_readTerm_47 ?_
            refine lv_topi (fun y_32 ey_32 => ?_)
            obtain rfl : y_32 = nI (Pn_19 + 1) := ey_32.trans (nI_add (Pn_19) (1))
            refine va_put (D := (dC, dI)) (ci := 4) (v := .int (nI (Pn_19 + 1))) (ty := tyX4 5) (C := RX4) (T := TX4) (N := 8) hx hb hts (fun _ h => List.mem_cons_of_mem _ (List.mem_append_right _ (List.mem_append_right _ (List.mem_append_right _ (List.mem_append_left _ h))))) tyX4 tyX4_ok nmX4 hown hK hP hD hS 0 rfl rfl 5 kc_l_5_8 (hts (.fieldLink RX4 25 "NotEnded$Reader" "place" "I") (List.mem_cons_of_mem _ (List.mem_append_left _ (List.mem_of_getElem? (i := 11) rfl)))) (fun _ h9 => h9) rfl (tyX4_ok 5 kc_l_5_8) rfl rfl (Nat.le_of_ble_eq_true rfl) dX4_readTerm_48 (fun H locs hP hD hS => ?_)
            have hPD : kPD dC dI A [(jR, .inr (4, [.ref jT, .ref r1, .ref r2, .int (nI (xwr)), .int (nI (fi)), .int (nI (Pn_19 + 1)), .ref q6, .ref q7])), (r1, .inl (c1, 120, .inl xs1)), (r2, .inl (c2, 124, .inl s2)), (jT, .inr (8, [.ref t0, .int (nI (kt))])), (t0, .inl (cC, 120, .inl gT))] H := ⟨hP, hD⟩
            have hP := hPD.1
            have hD := hPD.2
            refine lv_aload_n hx hb dX4_readTerm_51 rfl (lv_at hl 2 rfl) ?_
            refine lv_iload_n hx hb dX4_readTerm_52 rfl (lv_at hl 3 rfl) ?_
            have bd_33 : (Pn_19 + 1) ≤ kt := by omega
            have bd_34 : xwr ≤ (Pn_19 + 1) := by omega
            have hCu := kCut (wc := [(jR, .inr (4, [.ref jT, .ref r1, .ref r2, .int (nI (xwr)), .int (nI (fi)), .int (nI (Pn_19 + 1)), .ref q6, .ref q7])), (r1, .inl (c1, 120, .inl xs1)), (r2, .inl (c2, 124, .inl s2)), (jT, .inr (8, [.ref t0, .int (nI (kt))])), (t0, .inl (cC, 120, .inl gT))]) hP hD hS hA [0, 1, 2, 3, 4] rfl kc_nd_311 rfl
            have hPc := hCu.1
            have hDc := hCu.2.1
            have hFc := hCu.2.2
            have hKc := hK.sb (tys2 := [(c1, .int), (c2, .int), (cC, .char)]) [0, 1, 2] rfl
            refine va_calli (va_runV (As := [.int 6]) (rest := []) ⟨hx, hb, hml, hown, hts⟩ (s_atom4x_6 l dC dI jT t0 cC gT kt hkt hgT bt hbt hb8 jR r1 r2 c1 c2 xs1 s2 xwr fi q6 q7 bd_16 hfi (Pn_19 + 1) bd_33 bd_34 b6 n6 g6 hn6 b7 n7 g7 hn7 gn6 hz6 gn7 hz7 H.size) (cwV 1 hts (kG (List.forall_mem_cons.mpr ⟨(List.mem_cons_of_mem _ (List.mem_append_left _ (List.mem_of_getElem? (i := 24) rfl))), (List.forall_mem_cons.mpr ⟨(List.mem_cons_of_mem _ (List.mem_append_left _ (List.mem_of_getElem? (i := 23) rfl))), (List.forall_mem_cons.mpr ⟨(List.mem_cons_of_mem _ (List.mem_append_left _ (List.mem_of_getElem? (i := 22) rfl))), (List.forall_mem_cons.mpr ⟨(List.mem_cons_of_mem _ (List.mem_append_left _ (List.mem_of_getElem? (i := 0) rfl))), (fun _ h => absurd h List.not_mem_nil)⟩)⟩)⟩)⟩) (kGV _ _ _ _) (kFam (List.mem_cons_of_mem _ (List.mem_append_left _ (List.mem_of_getElem? (i := 21) rfl)))) gw_s_atom4x_6) rfl rfl rfl ⟨rfl, hd_X4_readAtom⟩ ⟨(Nat.le_of_ble_eq_true rfl), (Nat.le_of_ble_eq_true rfl)⟩) (kW_V kS2_blind (kS2_give hX hS hFc) (va_recv hKc hPc (ci := 4) (q0 := 0) rfl rfl) hPc hKc hDc) rfl rfl hl.1 rfl (lv_room (Nat.le_of_ble_eq_true rfl)) dX4_readTerm_53 ⟨(Nat.le_of_ble_eq_true rfl), (Nat.le_of_ble_eq_true rfl)⟩) hS (fun q _ h => hFc q h) hFc (fun r_35 => kU5 (fun S1_36 Wr_37 Pn_38 xo_39 xl_40 t H_41 locs ht hvm hw hB hz1 hk1 hS => ?_))
            try dsimp only at hw
            have hPD : kPD dC dI A [(jR, .inr (4, [.ref jT, .ref r1, .ref r2, .int (nI (Wr_37)), .int (nI (fi)), .int (nI (Pn_38)), .ref q6, .ref q7])), (r1, .inl (c1, 120, .inl S1_36)), (r2, .inl (c2, 124, .inl s2)), (jT, .inr (8, [.ref t0, .int (nI (kt))])), (t0, .inl (cC, 120, .inl gT))] H_41 := kJoinX hP hD [0, 1, 2, 3, 4] rfl hk1 hFc hB.1 ht hB.2.2 rfl [some 0, some 1, some 2, some 3, some 4] rfl rfl
            have hP := hPD.1
            have hD := hPD.2
            have hw_42 := hw
            refine lv_if_eq (tgt := 71) hx hb dX4_readTerm_56 kc_t_56_15 (fun c_43 => ?_) (fun c_43 => ?_)
            · obtain rfl : xo_39 = false := kBo_f (kZr9 hw_42.1 c_43)
              have hw_42_k := hw_42.2.1.2.1
              refine lv_iconst (v := 0) hx hb dX4_readTerm_71 kc_i_0 ?_
              have hP9 := hP
              have hD9 := hD
              have hK9 := hK
              rw [hQ]
              exact W.zret (v := 0) hx hb hr rfl (fun t ht hW => ⟨⟨0, (S1_36, Wr_37, Pn_38, false, ([])), rfl, ⟨rfl, kPR_f (by rw [← ivk_10_3, show 120 - i = (119 - i) + 1 by omega]; exact kLoop_f (by rw [← hw_22_0]; omega) (by rw [← hw_22_1]; exact hw_42.2.1.1)) (by omega), by omega⟩,  by rw [ht]; exact hP9, va_K.moved hW.alike hK9, hD9⟩, hS.F ht⟩) hS.2.2 dX4_readTerm_72
            · obtain rfl : xo_39 = true := kBo_t (kNz9 hw_42.1 c_43)
              obtain ⟨hw_42_W, hw_42_S, hw_42_l, hw_42_p⟩ := hw_42.2.1.2.2 rfl
              have hw_42_k := hw_42.2.1.2.1
              refine lv_aload_n hx hb dX4_readTerm_59 rfl (lv_at hl 2 rfl) ?_
              refine lv_sipush (v := 20000) hx hb dX4_readTerm_60 kc_s_20000 ?_
              refine lv_iload_n hx hb dX4_readTerm_63 rfl (lv_at hl 0 rfl) ?_
              refine lv_iadd hx hb dX4_readTerm_64 ?_
              refine lv_topi (fun y_44 ey_44 => ?_)
              obtain rfl : y_44 = nI (20000 + ch_20) := ey_44.trans (nI_add (20000) (ch_20))
              have bd_45 : Wr_37 ≤ 120 := by omega
              have bd_46 : Pn_38 ≤ kt := by omega
              have bd_47 : Wr_37 < 120 := by omega
              have hCu := kCut (wc := [(jR, .inr (4, [.ref jT, .ref r1, .ref r2, .int (nI (Wr_37)), .int (nI (fi)), .int (nI (Pn_38)), .ref q6, .ref q7])), (r1, .inl (c1, 120, .inl S1_36)), (r2, .inl (c2, 124, .inl s2)), (jT, .inr (8, [.ref t0, .int (nI (kt))])), (t0, .inl (cC, 120, .inl gT))]) hP hD hS hA [0, 1, 2, 3, 4] rfl kc_nd_311 rfl
              have hPc := hCu.1
              have hDc := hCu.2.1
              have hFc := hCu.2.2
              have hKc := hK.sb (tys2 := [(c1, .int), (c2, .int), (cC, .char)]) [0, 1, 2] rfl
              refine va_calli (va_runV (As := [.int (nI (20000 + ch_20))]) (rest := []) ⟨hx, hb, hml, hown, hts⟩ (s_write4x l dC dI jT t0 cC gT kt hkt hgT bt hbt hb8 jR r1 r2 c1 c2 S1_36 s2 Wr_37 fi q6 q7 bd_45 hfi Pn_38 bd_46 (nI (20000 + ch_20)) bd_47 H_41.size) (cwV 1 hts (kG (List.forall_mem_cons.mpr ⟨(List.mem_cons_of_mem _ (List.mem_append_left _ (List.mem_of_getElem? (i := 14) rfl))), (List.forall_mem_cons.mpr ⟨(List.mem_cons_of_mem _ (List.mem_append_left _ (List.mem_of_getElem? (i := 13) rfl))), (List.forall_mem_cons.mpr ⟨(List.mem_cons_of_mem _ (List.mem_append_left _ (List.mem_of_getElem? (i := 12) rfl))), (List.forall_mem_cons.mpr ⟨(List.mem_cons_of_mem _ (List.mem_append_left _ (List.mem_of_getElem? (i := 0) rfl))), (fun _ h => absurd h List.not_mem_nil)⟩)⟩)⟩)⟩) (kGV _ _ _ _) (fun _ h => List.mem_cons_of_mem _ (List.mem_append_right _ (List.mem_append_right _ (List.mem_append_right _ (List.mem_append_right _ (List.mem_append_right _ (List.mem_append_left _ h))))))) gw_s_write4x) rfl rfl rfl ⟨rfl, hd_X4_write⟩ ⟨(Nat.le_of_ble_eq_true rfl), (Nat.le_of_ble_eq_true rfl)⟩) (kW_V kT_blind kT_give (va_recv hKc hPc (ci := 4) (q0 := 0) rfl rfl) hPc hKc hDc) rfl rfl hl.1 rfl (lv_room (Nat.le_of_ble_eq_true rfl)) dX4_readTerm_65 ⟨(Nat.le_of_ble_eq_true rfl), (Nat.le_of_ble_eq_true rfl)⟩) hS (fun q _ h => hFc q h) hFc (fun r_48 => kU2 (fun S1_49 Wr_50 t H_51 locs ht hvm hw hB hz1 hk1 hS => ?_))
              try dsimp only at hw
              have hPD : kPD dC dI A [(jR, .inr (4, [.ref jT, .ref r1, .ref r2, .int (nI (Wr_50)), .int (nI (fi)), .int (nI (Pn_38)), .ref q6, .ref q7])), (r1, .inl (c1, 120, .inl S1_49)), (r2, .inl (c2, 124, .inl s2)), (jT, .inr (8, [.ref t0, .int (nI (kt))])), (t0, .inl (cC, 120, .inl gT))] H_51 := kJoinX hP hD [0, 1, 2, 3, 4] rfl hk1 hFc hB.1 ht hB.2.2 rfl [some 0, some 1, some 2, some 3, some 4] rfl rfl
              have hP := hPD.1
              have hD := hPD.2
              obtain ⟨rfl, hw_52⟩ := hw
              refine lv_if_ne (tgt := 73) hx hb dX4_readTerm_68 kc_t_68_5 (fun c_53 => ?_) (fun c_53 => absurd c_53 (by decide))
              refine lv_iinc (v := nI (i + 1)) hx hb dX4_readTerm_73 hl (k := 1) rfl (kInc _ 1) kc_l_2_4 (kTo [(2, .int (nI (i + 1))), (3, .int (nI (ch_20))), (0, .ref jR), (1, .int 6)]) (fun ls hl => ?_)
              refine lv_goto (tgt := 12) hx hb dX4_readTerm_76 kc_t_76_m64 ?_
              exact ih_k_10 (i + 1) S1_49 Pn_38 Wr_50 (xl ++ xl_40 ++ [nI (20000 + ch_20)]) (by omega) (by omega) (by omega) (by have e9 := kLoop_t (b := bt) (n := kt) (c1 := 42) (c2 := 47) (a := kAtomD bt kt g7 n7 0) (f := 120 - (i + 1)) (p := xpn) (l := xl) (by rw [← hw_22_0]; omega) (by rw [← hw_22_1]; exact hw_42.2.1.1); rw [← hw_22_0] at e9; rw [← e9, show (120 - (i + 1)) + 1 = 120 - i by omega]; exact ivk_10_3) (by simp only [List.length_append, List.length_cons, List.length_nil]; omega) (kWrt3 ivk_10_5 ivk_10_4 hw_42_S hw_42_W hw_52.2) (by simp only [List.length_append, List.length_cons, List.length_nil]; omega) (by omega) _ _ hP hD hS ls (lv_sub hl [0, 2, 3] rfl) (by omega)
          · have bd_55 : ch_20 < 2147483648 := by omega
            have hn_54 := kneq (a := ch_20) (b := 42) bd_55 kc_31_42 c_23
            refine lv_aload_n hx hb dX4_readTerm_27 rfl (lv_at hl 1 rfl) ?_
            have bd_56 : Pn_19 ≤ kt := by omega
            have hCu := kCut (wc := [(jR, .inr (4, [.ref jT, .ref r1, .ref r2, .int (nI (xwr)), .int (nI (fi)), .int (nI (Pn_19)), .ref q6, .ref q7])), (r1, .inl (c1, 120, .inl xs1)), (r2, .inl (c2, 124, .inl s2)), (jT, .inr (8, [.ref t0, .int (nI (kt))])), (t0, .inl (cC, 120, .inl gT))]) hP hD hS hA [0, 1, 2, 3, 4] rfl kc_nd_311 rfl
            have hPc := hCu.1
            have hDc := hCu.2.1
            have hFc := hCu.2.2
            have hKc := hK.sb (tys2 := [(c1, .int), (c2, .int), (cC, .char)]) [0, 1, 2] rfl
            refine va_calli (va_runV (As := []) (rest := []) ⟨hx, hb, hml, hown, hts⟩ (s_look4x l dC dI jT t0 cC gT kt hkt hgT bt hbt hb8 jR r1 r2 c1 c2 xs1 s2 xwr fi q6 q7 bd_16 hfi Pn_19 bd_56 H_21.size) (cwV 0 hts (kG (List.forall_mem_cons.mpr ⟨(List.mem_cons_of_mem _ (List.mem_append_left _ (List.mem_of_getElem? (i := 3) rfl))), (List.forall_mem_cons.mpr ⟨(List.mem_cons_of_mem _ (List.mem_append_left _ (List.mem_of_getElem? (i := 2) rfl))), (List.forall_mem_cons.mpr ⟨(List.mem_cons_of_mem _ (List.mem_append_left _ (List.mem_of_getElem? (i := 1) rfl))), (List.forall_mem_cons.mpr ⟨(List.mem_cons_of_mem _ (List.mem_append_left _ (List.mem_of_getElem? (i := 0) rfl))), (fun _ h => absurd h List.not_mem_nil)⟩)⟩)⟩)⟩) (kGV _ _ _ _) (fun _ h => List.mem_cons_of_mem _ (List.mem_append_right _ (List.mem_append_left _ h))) gw_s_look4x) rfl rfl rfl ⟨rfl, hd_X4_look⟩ ⟨(Nat.le_of_ble_eq_true rfl), (Nat.le_of_ble_eq_true rfl)⟩) (kW_V kT_blind kT_give (va_recv hKc hPc (ci := 4) (q0 := 0) rfl rfl) hPc hKc hDc) rfl rfl hl.1 rfl (lv_room (Nat.le_of_ble_eq_true rfl)) dX4_readTerm_28 ⟨(Nat.le_of_ble_eq_true rfl), (Nat.le_of_ble_eq_true rfl)⟩) hS (fun q _ h => hFc q h) hFc (fun r_57 => kU2 (fun Pn_58 ch_59 t H_60 locs ht hvm hw hB hz1 hk1 hS => ?_))
            try dsimp only at hw
            have hPD : kPD dC dI A [(jR, .inr (4, [.ref jT, .ref r1, .ref r2, .int (nI (xwr)), .int (nI (fi)), .int (nI (Pn_58)), .ref q6, .ref q7])), (r1, .inl (c1, 120, .inl xs1)), (r2, .inl (c2, 124, .inl s2)), (jT, .inr (8, [.ref t0, .int (nI (kt))])), (t0, .inl (cC, 120, .inl gT))] H_60 := kJoinX hP hD [0, 1, 2, 3, 4] rfl hk1 hFc hB.1 ht hB.2.2 rfl [some 0, some 1, some 2, some 3, some 4] rfl rfl
            have hP := hPD.1
            have hD := hPD.2
            obtain ⟨rfl, hw_61_0, hw_61_1, hw_61_2, hw_61_3, hw_61_4, hw_61_5, hw_61_6⟩ := hw
            have e9 : Pn_19 = Pn_58 := by rw [hw_61_1, hw_22_1]; exact (kSp_sp (by omega)).symm
            have e8 : ch_20 = ch_59 := by rw [hw_61_0, hw_22_0, hw_22_1]; exact (kLk_sp (by omega)).symm
            subst e9
            subst e8
            refine lv_bipush (v := 47) hx hb dX4_readTerm_31 kc_b_47 ?_
            refine lv_icmp_ne (tgt := 79) hx hb dX4_readTerm_33 kc_t_33_46 (fun c_62 => ?_) (fun c_62 => ?_)
            · have hn_63 := kneq (a := ch_20) (b := 47) bd_55 kc_31_47 c_62
              refine lv_iconst (v := 1) hx hb dX4_readTerm_79 kc_i_1 ?_
              have hP9 := hP
              have hD9 := hD
              have hK9 := hK
              rw [hQ]
              exact W.zret (v := 1) hx hb hr rfl (fun t ht hW => ⟨⟨1, (xs1, xwr, Pn_19, true, xl), rfl, ⟨rfl, kPR_t (a := kTermD bt kt g7 n7 0) rfl (kTermD_good hz7 0) (by omega) (by rw [← ivk_10_3, show 120 - i = (119 - i) + 1 by omega, kLoop_e (by rw [← hw_22_0]; omega), ← hw_22_1]) ivk_10_4 ivk_10_5, by omega⟩,  by rw [ht]; exact hP9, va_K.moved hW.alike hK9, hD9⟩, hS.F ht⟩) hS.2.2 dX4_readTerm_80
            · have hn_64 := keq (a := ch_20) (b := 47) bd_55 kc_31_47 c_62
              refine lv_aload_n hx hb dX4_readTerm_36 rfl (lv_at hl 1 rfl) ?_
              have hCu := kCut (wc := [(jR, .inr (4, [.ref jT, .ref r1, .ref r2, .int (nI (xwr)), .int (nI (fi)), .int (nI (Pn_19)), .ref q6, .ref q7])), (r1, .inl (c1, 120, .inl xs1)), (r2, .inl (c2, 124, .inl s2)), (jT, .inr (8, [.ref t0, .int (nI (kt))])), (t0, .inl (cC, 120, .inl gT))]) hP hD hS hA [0, 1, 2, 3, 4] rfl kc_nd_311 rfl
              have hPc := hCu.1
              have hDc := hCu.2.1
              have hFc := hCu.2.2
              have hKc := hK.sb (tys2 := [(c1, .int), (c2, .int), (cC, .char)]) [0, 1, 2] rfl
              refine va_calli (va_runV (As := []) (rest := []) ⟨hx, hb, hml, hown, hts⟩ (s_look4x l dC dI jT t0 cC gT kt hkt hgT bt hbt hb8 jR r1 r2 c1 c2 xs1 s2 xwr fi q6 q7 bd_16 hfi Pn_19 bd_56 H_60.size) (cwV 0 hts (kG (List.forall_mem_cons.mpr ⟨(List.mem_cons_of_mem _ (List.mem_append_left _ (List.mem_of_getElem? (i := 3) rfl))), (List.forall_mem_cons.mpr ⟨(List.mem_cons_of_mem _ (List.mem_append_left _ (List.mem_of_getElem? (i := 2) rfl))), (List.forall_mem_cons.mpr ⟨(List.mem_cons_of_mem _ (List.mem_append_left _ (List.mem_of_getElem? (i := 1) rfl))), (List.forall_mem_cons.mpr ⟨(List.mem_cons_of_mem _ (List.mem_append_left _ (List.mem_of_getElem? (i := 0) rfl))), (fun _ h => absurd h List.not_mem_nil)⟩)⟩)⟩)⟩) (kGV _ _ _ _) (fun _ h => List.mem_cons_of_mem _ (List.mem_append_right _ (List.mem_append_left _ h))) gw_s_look4x) rfl rfl rfl ⟨rfl, hd_X4_look⟩ ⟨(Nat.le_of_ble_eq_true rfl), (Nat.le_of_ble_eq_true rfl)⟩) (kW_V kT_blind kT_give (va_recv hKc hPc (ci := 4) (q0 := 0) rfl rfl) hPc hKc hDc) rfl rfl hl.1 rfl (lv_room (Nat.le_of_ble_eq_true rfl)) dX4_readTerm_37 ⟨(Nat.le_of_ble_eq_true rfl), (Nat.le_of_ble_eq_true rfl)⟩) hS (fun q _ h => hFc q h) hFc (fun r_65 => kU2 (fun Pn_66 ch_67 t H_68 locs ht hvm hw hB hz1 hk1 hS => ?_))
              try dsimp only at hw
              have hPD : kPD dC dI A [(jR, .inr (4, [.ref jT, .ref r1, .ref r2, .int (nI (xwr)), .int (nI (fi)), .int (nI (Pn_66)), .ref q6, .ref q7])), (r1, .inl (c1, 120, .inl xs1)), (r2, .inl (c2, 124, .inl s2)), (jT, .inr (8, [.ref t0, .int (nI (kt))])), (t0, .inl (cC, 120, .inl gT))] H_68 := kJoinX hP hD [0, 1, 2, 3, 4] rfl hk1 hFc hB.1 ht hB.2.2 rfl [some 0, some 1, some 2, some 3, some 4] rfl rfl
              have hP := hPD.1
              have hD := hPD.2
              obtain ⟨rfl, hw_69_0, hw_69_1, hw_69_2, hw_69_3, hw_69_4, hw_69_5, hw_69_6⟩ := hw
              have e9 : Pn_19 = Pn_66 := by rw [hw_69_1, hw_22_1]; exact (kSp_sp (by omega)).symm
              have e8 : ch_20 = ch_67 := by rw [hw_69_0, hw_22_0, hw_22_1]; exact (kLk_sp (by omega)).symm
              subst e9
              subst e8
              refine lv_istore_n hx hb dX4_readTerm_40 rfl hl kc_l_3_4 (kTo [(3, .int (nI (ch_20))), (2, .int (nI (i))), (0, .ref jR), (1, .int 6)]) (fun ls hl => ?_)
              refine lv_aload_n hx hb dX4_readTerm_41 rfl (lv_at hl 2 rfl) ?_
              refine lv_dup hx hb dX4_readTerm_42 rfl ?_
              refine va_get (D := (dC, dI)) (ci := 4) (v := .int (nI (Pn_19))) (C := RX4) (T := TX4) (N := 8) hx hb hts (fun _ h => List.mem_cons_of_mem _ (List.mem_append_right _ (List.mem_append_right _ (List.mem_append_right _ (List.mem_append_left _ h))))) hown hK hP 0 rfl rfl 5 kc_l_5_8 (hts (.fieldLink RX4 25 "NotEnded$Reader" "place" "I") (List.mem_cons_of_mem _ (List.mem_append_left _ (List.mem_of_getElem? (i := 11) rfl)))) (fun _ h9 => h9) rfl dX4_readTerm_43 ?_
              refine lv_iconst (v := 1) hx hb dX4_readTerm_46 kc_i_1 ?_
              refine lv_iadd hx hb dX4_readTerm_47 ?_
              refine lv_topi (fun y_70 ey_70 => ?_)
              obtain rfl : y_70 = nI (Pn_19 + 1) := ey_70.trans (nI_add (Pn_19) (1))
              refine va_put (D := (dC, dI)) (ci := 4) (v := .int (nI (Pn_19 + 1))) (ty := tyX4 5) (C := RX4) (T := TX4) (N := 8) hx hb hts (fun _ h => List.mem_cons_of_mem _ (List.mem_append_right _ (List.mem_append_right _ (List.mem_append_right _ (List.mem_append_left _ h))))) tyX4 tyX4_ok nmX4 hown hK hP hD hS 0 rfl rfl 5 kc_l_5_8 (hts (.fieldLink RX4 25 "NotEnded$Reader" "place" "I") (List.mem_cons_of_mem _ (List.mem_append_left _ (List.mem_of_getElem? (i := 11) rfl)))) (fun _ h9 => h9) rfl (tyX4_ok 5 kc_l_5_8) rfl rfl (Nat.le_of_ble_eq_true rfl) dX4_readTerm_48 (fun H locs hP hD hS => ?_)
              have hPD : kPD dC dI A [(jR, .inr (4, [.ref jT, .ref r1, .ref r2, .int (nI (xwr)), .int (nI (fi)), .int (nI (Pn_19 + 1)), .ref q6, .ref q7])), (r1, .inl (c1, 120, .inl xs1)), (r2, .inl (c2, 124, .inl s2)), (jT, .inr (8, [.ref t0, .int (nI (kt))])), (t0, .inl (cC, 120, .inl gT))] H := ⟨hP, hD⟩
              have hP := hPD.1
              have hD := hPD.2
              refine lv_aload_n hx hb dX4_readTerm_51 rfl (lv_at hl 2 rfl) ?_
              refine lv_iload_n hx hb dX4_readTerm_52 rfl (lv_at hl 3 rfl) ?_
              have bd_71 : (Pn_19 + 1) ≤ kt := by omega
              have bd_72 : xwr ≤ (Pn_19 + 1) := by omega
              have hCu := kCut (wc := [(jR, .inr (4, [.ref jT, .ref r1, .ref r2, .int (nI (xwr)), .int (nI (fi)), .int (nI (Pn_19 + 1)), .ref q6, .ref q7])), (r1, .inl (c1, 120, .inl xs1)), (r2, .inl (c2, 124, .inl s2)), (jT, .inr (8, [.ref t0, .int (nI (kt))])), (t0, .inl (cC, 120, .inl gT))]) hP hD hS hA [0, 1, 2, 3, 4] rfl kc_nd_311 rfl
              have hPc := hCu.1
              have hDc := hCu.2.1
              have hFc := hCu.2.2
              have hKc := hK.sb (tys2 := [(c1, .int), (c2, .int), (cC, .char)]) [0, 1, 2] rfl
              refine va_calli (va_runV (As := [.int 6]) (rest := []) ⟨hx, hb, hml, hown, hts⟩ (s_atom4x_6 l dC dI jT t0 cC gT kt hkt hgT bt hbt hb8 jR r1 r2 c1 c2 xs1 s2 xwr fi q6 q7 bd_16 hfi (Pn_19 + 1) bd_71 bd_72 b6 n6 g6 hn6 b7 n7 g7 hn7 gn6 hz6 gn7 hz7 H.size) (cwV 1 hts (kG (List.forall_mem_cons.mpr ⟨(List.mem_cons_of_mem _ (List.mem_append_left _ (List.mem_of_getElem? (i := 24) rfl))), (List.forall_mem_cons.mpr ⟨(List.mem_cons_of_mem _ (List.mem_append_left _ (List.mem_of_getElem? (i := 23) rfl))), (List.forall_mem_cons.mpr ⟨(List.mem_cons_of_mem _ (List.mem_append_left _ (List.mem_of_getElem? (i := 22) rfl))), (List.forall_mem_cons.mpr ⟨(List.mem_cons_of_mem _ (List.mem_append_left _ (List.mem_of_getElem? (i := 0) rfl))), (fun _ h => absurd h List.not_mem_nil)⟩)⟩)⟩)⟩) (kGV _ _ _ _) (kFam (List.mem_cons_of_mem _ (List.mem_append_left _ (List.mem_of_getElem? (i := 21) rfl)))) gw_s_atom4x_6) rfl rfl rfl ⟨rfl, hd_X4_readAtom⟩ ⟨(Nat.le_of_ble_eq_true rfl), (Nat.le_of_ble_eq_true rfl)⟩) (kW_V kS2_blind (kS2_give hX hS hFc) (va_recv hKc hPc (ci := 4) (q0 := 0) rfl rfl) hPc hKc hDc) rfl rfl hl.1 rfl (lv_room (Nat.le_of_ble_eq_true rfl)) dX4_readTerm_53 ⟨(Nat.le_of_ble_eq_true rfl), (Nat.le_of_ble_eq_true rfl)⟩) hS (fun q _ h => hFc q h) hFc (fun r_73 => kU5 (fun S1_74 Wr_75 Pn_76 xo_77 xl_78 t H_79 locs ht hvm hw hB hz1 hk1 hS => ?_))
              try dsimp only at hw
              have hPD : kPD dC dI A [(jR, .inr (4, [.ref jT, .ref r1, .ref r2, .int (nI (Wr_75)), .int (nI (fi)), .int (nI (Pn_76)), .ref q6, .ref q7])), (r1, .inl (c1, 120, .inl S1_74)), (r2, .inl (c2, 124, .inl s2)), (jT, .inr (8, [.ref t0, .int (nI (kt))])), (t0, .inl (cC, 120, .inl gT))] H_79 := kJoinX hP hD [0, 1, 2, 3, 4] rfl hk1 hFc hB.1 ht hB.2.2 rfl [some 0, some 1, some 2, some 3, some 4] rfl rfl
              have hP := hPD.1
              have hD := hPD.2
              have hw_80 := hw
              refine lv_if_eq (tgt := 71) hx hb dX4_readTerm_56 kc_t_56_15 (fun c_81 => ?_) (fun c_81 => ?_)
              · obtain rfl : xo_77 = false := kBo_f (kZr9 hw_80.1 c_81)
                have hw_80_k := hw_80.2.1.2.1
                refine lv_iconst (v := 0) hx hb dX4_readTerm_71 kc_i_0 ?_
                have hP9 := hP
                have hD9 := hD
                have hK9 := hK
                rw [hQ]
                exact W.zret (v := 0) hx hb hr rfl (fun t ht hW => ⟨⟨0, (S1_74, Wr_75, Pn_76, false, ([])), rfl, ⟨rfl, kPR_f (by rw [← ivk_10_3, show 120 - i = (119 - i) + 1 by omega]; exact kLoop_f (by rw [← hw_22_0]; omega) (by rw [← hw_22_1]; exact hw_80.2.1.1)) (by omega), by omega⟩,  by rw [ht]; exact hP9, va_K.moved hW.alike hK9, hD9⟩, hS.F ht⟩) hS.2.2 dX4_readTerm_72
              · obtain rfl : xo_77 = true := kBo_t (kNz9 hw_80.1 c_81)
                obtain ⟨hw_80_W, hw_80_S, hw_80_l, hw_80_p⟩ := hw_80.2.1.2.2 rfl
                have hw_80_k := hw_80.2.1.2.1
                refine lv_aload_n hx hb dX4_readTerm_59 rfl (lv_at hl 2 rfl) ?_
                refine lv_sipush (v := 20000) hx hb dX4_readTerm_60 kc_s_20000 ?_
                refine lv_iload_n hx hb dX4_readTerm_63 rfl (lv_at hl 0 rfl) ?_
                refine lv_iadd hx hb dX4_readTerm_64 ?_
                refine lv_topi (fun y_82 ey_82 => ?_)
                obtain rfl : y_82 = nI (20000 + ch_20) := ey_82.trans (nI_add (20000) (ch_20))
                have bd_83 : Wr_75 ≤ 120 := by omega
                have bd_84 : Pn_76 ≤ kt := by omega
                have bd_85 : Wr_75 < 120 := by omega
                have hCu := kCut (wc := [(jR, .inr (4, [.ref jT, .ref r1, .ref r2, .int (nI (Wr_75)), .int (nI (fi)), .int (nI (Pn_76)), .ref q6, .ref q7])), (r1, .inl (c1, 120, .inl S1_74)), (r2, .inl (c2, 124, .inl s2)), (jT, .inr (8, [.ref t0, .int (nI (kt))])), (t0, .inl (cC, 120, .inl gT))]) hP hD hS hA [0, 1, 2, 3, 4] rfl kc_nd_311 rfl
                have hPc := hCu.1
                have hDc := hCu.2.1
                have hFc := hCu.2.2
                have hKc := hK.sb (tys2 := [(c1, .int), (c2, .int), (cC, .char)]) [0, 1, 2] rfl
                refine va_calli (va_runV (As := [.int (nI (20000 + ch_20))]) (rest := []) ⟨hx, hb, hml, hown, hts⟩ (s_write4x l dC dI jT t0 cC gT kt hkt hgT bt hbt hb8 jR r1 r2 c1 c2 S1_74 s2 Wr_75 fi q6 q7 bd_83 hfi Pn_76 bd_84 (nI (20000 + ch_20)) bd_85 H_79.size) (cwV 1 hts (kG (List.forall_mem_cons.mpr ⟨(List.mem_cons_of_mem _ (List.mem_append_left _ (List.mem_of_getElem? (i := 14) rfl))), (List.forall_mem_cons.mpr ⟨(List.mem_cons_of_mem _ (List.mem_append_left _ (List.mem_of_getElem? (i := 13) rfl))), (List.forall_mem_cons.mpr ⟨(List.mem_cons_of_mem _ (List.mem_append_left _ (List.mem_of_getElem? (i := 12) rfl))), (List.forall_mem_cons.mpr ⟨(List.mem_cons_of_mem _ (List.mem_append_left _ (List.mem_of_getElem? (i := 0) rfl))), (fun _ h => absurd h List.not_mem_nil)⟩)⟩)⟩)⟩) (kGV _ _ _ _) (fun _ h => List.mem_cons_of_mem _ (List.mem_append_right _ (List.mem_append_right _ (List.mem_append_right _ (List.mem_append_right _ (List.mem_append_right _ (List.mem_append_left _ h))))))) gw_s_write4x) rfl rfl rfl ⟨rfl, hd_X4_write⟩ ⟨(Nat.le_of_ble_eq_true rfl), (Nat.le_of_ble_eq_true rfl)⟩) (kW_V kT_blind kT_give (va_recv hKc hPc (ci := 4) (q0 := 0) rfl rfl) hPc hKc hDc) rfl rfl hl.1 rfl (lv_room (Nat.le_of_ble_eq_true rfl)) dX4_readTerm_65 ⟨(Nat.le_of_ble_eq_true rfl), (Nat.le_of_ble_eq_true rfl)⟩) hS (fun q _ h => hFc q h) hFc (fun r_86 => kU2 (fun S1_87 Wr_88 t H_89 locs ht hvm hw hB hz1 hk1 hS => ?_))
                try dsimp only at hw
                have hPD : kPD dC dI A [(jR, .inr (4, [.ref jT, .ref r1, .ref r2, .int (nI (Wr_88)), .int (nI (fi)), .int (nI (Pn_76)), .ref q6, .ref q7])), (r1, .inl (c1, 120, .inl S1_87)), (r2, .inl (c2, 124, .inl s2)), (jT, .inr (8, [.ref t0, .int (nI (kt))])), (t0, .inl (cC, 120, .inl gT))] H_89 := kJoinX hP hD [0, 1, 2, 3, 4] rfl hk1 hFc hB.1 ht hB.2.2 rfl [some 0, some 1, some 2, some 3, some 4] rfl rfl
                have hP := hPD.1
                have hD := hPD.2
                obtain ⟨rfl, hw_90⟩ := hw
                refine lv_if_ne (tgt := 73) hx hb dX4_readTerm_68 kc_t_68_5 (fun c_91 => ?_) (fun c_91 => absurd c_91 (by decide))
                refine lv_iinc (v := nI (i + 1)) hx hb dX4_readTerm_73 hl (k := 1) rfl (kInc _ 1) kc_l_2_4 (kTo [(2, .int (nI (i + 1))), (3, .int (nI (ch_20))), (0, .ref jR), (1, .int 6)]) (fun ls hl => ?_)
                refine lv_goto (tgt := 12) hx hb dX4_readTerm_76 kc_t_76_m64 ?_
                exact ih_k_10 (i + 1) S1_87 Pn_76 Wr_88 (xl ++ xl_78 ++ [nI (20000 + ch_20)]) (by omega) (by omega) (by omega) (by have e9 := kLoop_t (b := bt) (n := kt) (c1 := 42) (c2 := 47) (a := kAtomD bt kt g7 n7 0) (f := 120 - (i + 1)) (p := xpn) (l := xl) (by rw [← hw_22_0]; omega) (by rw [← hw_22_1]; exact hw_80.2.1.1); rw [← hw_22_0] at e9; rw [← e9, show (120 - (i + 1)) + 1 = 120 - i by omega]; exact ivk_10_3) (by simp only [List.length_append, List.length_cons, List.length_nil]; omega) (kWrt3 ivk_10_5 ivk_10_4 hw_80_S hw_80_W hw_90.2) (by simp only [List.length_append, List.length_cons, List.length_nil]; omega) (by omega) _ _ hP hD hS ls (lv_sub hl [0, 2, 3] rfl) (by omega)
    exact lp_k_10 (120 - 0 + 1) 0 S1_2 Pn_4 Wr_3 xl_6 (by omega) (by omega) (by omega) (kMany_t hw_8.2.1.1).symm hw_8_W hw_8_S hw_8_l hw_8_p _ _ hP hD hS ls (lv_sub hl [0, 1, 2] rfl) (by omega)
  · obtain rfl : xo_5 = false := kBo_f (kZr9 hw_8.1 c_9)
    have hw_8_k := hw_8.2.1.2.1
    refine lv_iconst (v := 0) hx hb dX4_readTerm_8 kc_i_0 ?_
    have hP9 := hP
    have hD9 := hD
    have hK9 := hK
    rw [hQ]
    exact W.zret (v := 0) hx hb hr rfl (fun t ht hW => ⟨⟨0, (S1_2, Wr_3, Pn_4, false, ([])), rfl, ⟨rfl, kPR_f (kMany_f hw_8.2.1.1) (by omega), by omega⟩,  by rw [ht]; exact hP9, va_K.moved hW.alike hK9, hD9⟩, hS.F ht⟩) hS.2.2 dX4_readTerm_9

theorem dX4_readSum_0 : decode cX4_readSum 0 = .ok (.aload_n 0, 1) := kDs0 kf_42 (by decide +kernel)
theorem dX4_readSum_1 : decode cX4_readSum 1 = .ok (.iload_n 1, 1) := kDs0 kf_27 (by decide +kernel)
theorem dX4_readSum_2 : decode cX4_readSum 2 = .ok (.invokevirtual 105, 3) := kDs2 kf_182 (by decide +kernel)
theorem dX4_readSum_5 : decode cX4_readSum 5 = .ok (.ifCond .ne 5, 3) := kDs4 kf_154 (by decide +kernel)
theorem dX4_readSum_10 : decode cX4_readSum 10 = .ok (.iconst 0, 1) := kDs0 kf_3 (by decide +kernel)
theorem dX4_readSum_11 : decode cX4_readSum 11 = .ok (.istore_n 2, 1) := kDs0 kf_61 (by decide +kernel)
theorem dX4_readSum_12 : decode cX4_readSum 12 = .ok (.iload_n 2, 1) := kDs0 kf_28 (by decide +kernel)
theorem dX4_readSum_13 : decode cX4_readSum 13 = .ok (.bipush 120, 2) := kDs3 kf_16 (by decide +kernel)
theorem dX4_readSum_15 : decode cX4_readSum 15 = .ok (.if_icmp .ge 64, 3) := kDs4 kf_162 (by decide +kernel)
theorem dX4_readSum_79 : decode cX4_readSum 79 = .ok (.iconst 1, 1) := kDs0 kf_4 (by decide +kernel)
theorem dX4_readSum_80 : decode cX4_readSum 80 = .ok (.ireturn, 1) := kDs0 kf_172 (by decide +kernel)
theorem dX4_readSum_18 : decode cX4_readSum 18 = .ok (.aload_n 0, 1) := kDs0 kf_42 (by decide +kernel)
theorem dX4_readSum_19 : decode cX4_readSum 19 = .ok (.invokevirtual 53, 3) := kDs2 kf_182 (by decide +kernel)
theorem dX4_readSum_22 : decode cX4_readSum 22 = .ok (.bipush 43, 2) := kDs3 kf_16 (by decide +kernel)
theorem dX4_readSum_24 : decode cX4_readSum 24 = .ok (.if_icmp .eq 12, 3) := kDs4 kf_159 (by decide +kernel)
theorem dX4_readSum_36 : decode cX4_readSum 36 = .ok (.aload_n 0, 1) := kDs0 kf_42 (by decide +kernel)
theorem dX4_readSum_37 : decode cX4_readSum 37 = .ok (.invokevirtual 53, 3) := kDs2 kf_182 (by decide +kernel)
theorem dX4_readSum_40 : decode cX4_readSum 40 = .ok (.istore_n 3, 1) := kDs0 kf_62 (by decide +kernel)
theorem dX4_readSum_41 : decode cX4_readSum 41 = .ok (.aload_n 0, 1) := kDs0 kf_42 (by decide +kernel)
theorem dX4_readSum_42 : decode cX4_readSum 42 = .ok (.dup, 1) := kDs0 kf_89 (by decide +kernel)
theorem dX4_readSum_43 : decode cX4_readSum 43 = .ok (.getfield 25, 3) := kDs2 kf_180 (by decide +kernel)
theorem dX4_readSum_46 : decode cX4_readSum 46 = .ok (.iconst 1, 1) := kDs0 kf_4 (by decide +kernel)
theorem dX4_readSum_47 : decode cX4_readSum 47 = .ok (.iadd, 1) := kDs0 kf_96 (by decide +kernel)
theorem dX4_readSum_48 : decode cX4_readSum 48 = .ok (.putfield 25, 3) := kDs2 kf_181 (by decide +kernel)
theorem dX4_readSum_51 : decode cX4_readSum 51 = .ok (.aload_n 0, 1) := kDs0 kf_42 (by decide +kernel)
theorem dX4_readSum_52 : decode cX4_readSum 52 = .ok (.iload_n 1, 1) := kDs0 kf_27 (by decide +kernel)
theorem dX4_readSum_53 : decode cX4_readSum 53 = .ok (.invokevirtual 105, 3) := kDs2 kf_182 (by decide +kernel)
theorem dX4_readSum_56 : decode cX4_readSum 56 = .ok (.ifCond .eq 15, 3) := kDs4 kf_153 (by decide +kernel)
theorem dX4_readSum_71 : decode cX4_readSum 71 = .ok (.iconst 0, 1) := kDs0 kf_3 (by decide +kernel)
theorem dX4_readSum_72 : decode cX4_readSum 72 = .ok (.ireturn, 1) := kDs0 kf_172 (by decide +kernel)
theorem dX4_readSum_59 : decode cX4_readSum 59 = .ok (.aload_n 0, 1) := kDs0 kf_42 (by decide +kernel)
theorem dX4_readSum_60 : decode cX4_readSum 60 = .ok (.sipush 20000, 3) := kDs4 kf_17 (by decide +kernel)
theorem dX4_readSum_63 : decode cX4_readSum 63 = .ok (.iload_n 3, 1) := kDs0 kf_29 (by decide +kernel)
theorem dX4_readSum_64 : decode cX4_readSum 64 = .ok (.iadd, 1) := kDs0 kf_96 (by decide +kernel)
theorem dX4_readSum_65 : decode cX4_readSum 65 = .ok (.invokevirtual 96, 3) := kDs2 kf_182 (by decide +kernel)
theorem dX4_readSum_68 : decode cX4_readSum 68 = .ok (.ifCond .ne 5, 3) := kDs4 kf_154 (by decide +kernel)
theorem dX4_readSum_73 : decode cX4_readSum 73 = .ok (.iinc 2 1, 3) := kDs5 kf_132 (by decide +kernel)
theorem dX4_readSum_76 : decode cX4_readSum 76 = .ok (.goto (-64), 3) := kDs4 kf_167 (by decide +kernel)
theorem dX4_readSum_27 : decode cX4_readSum 27 = .ok (.aload_n 0, 1) := kDs0 kf_42 (by decide +kernel)
theorem dX4_readSum_28 : decode cX4_readSum 28 = .ok (.invokevirtual 53, 3) := kDs2 kf_182 (by decide +kernel)
theorem dX4_readSum_31 : decode cX4_readSum 31 = .ok (.bipush 45, 2) := kDs3 kf_16 (by decide +kernel)
theorem dX4_readSum_33 : decode cX4_readSum 33 = .ok (.if_icmp .ne 46, 3) := kDs4 kf_160 (by decide +kernel)
theorem dX4_readSum_8 : decode cX4_readSum 8 = .ok (.iconst 0, 1) := kDs0 kf_3 (by decide +kernel)
theorem dX4_readSum_9 : decode cX4_readSum 9 = .ok (.ireturn, 1) := kDs0 kf_172 (by decide +kernel)
def w_s_sum4x_6 : List Cond := .code yX4_readSum cX4_readSum 4 (some .boolean) :: wf_rq
theorem gw_s_sum4x_6 : (w_s_sum4x_6).all goodWord = true := kFamG rfl gf_rq
theorem hd_X4_readSum : yX4_readSum.cls ≠ "java/lang/invoke/MethodHandle" ∧ yX4_readSum.cls ≠ "java/lang/invoke/VarHandle" ∧ (parseMethodDescriptor yX4_readSum.desc).map (fun d => d.parameters.length) = some 1 := by decide +kernel
set_option maxHeartbeats 4000000 in
set_option maxRecDepth 100000 in
theorem s_sum4x_6 (l : Launch) (dC : Nat → ClassId) (dI : Nat → Nat → Nat) (jT : Nat) (t0 : Nat) (cC : ClassId) (gT : Nat → Int32) (kt : Nat) (hkt : kt ≤ 120) (hgT : ∀ j : Nat, narrow .char (.int (gT j)) = .int (gT j)) (bt : Nat → Nat) (hbt : ∀ j : Nat, gT j = nI (bt j)) (hb8 : ∀ j : Nat, bt j < 256) (jR : Nat) (r1 : Nat) (r2 : Nat) (c1 : ClassId) (c2 : ClassId) (s1 : Nat → Int32) (s2 : Nat → Int32) (wr : Nat) (fi : Nat) (q6 : Nat) (q7 : Nat) (hwr : wr ≤ 120) (hfi : fi ≤ 124) (pn : Nat) (hpn : pn ≤ kt) (hwp : wr ≤ pn) (b6 : Nat) (n6 : Nat) (g6 : Nat → Int32) (hn6 : n6 ≤ 8) (b7 : Nat) (n7 : Nat) (g7 : Nat → Int32) (hn7 : n7 ≤ 8) (gn6 : ∀ k : Nat, ∃ v : Nat, v < 128 ∧ g6 k = nI v) (hz6 : kIx g6 n6 (nI 0) = n6) (gn7 : ∀ k : Nat, ∃ v : Nat, v < 128 ∧ g7 k = nI v) (hz7 : kIx g7 n7 (nI 0) = n7) (sz : Nat) : Met l yX4_readSum w_s_sum4x_6 ({ frames := 8, cells := 0, slots := 0, locals := 480 }) (kW dC dI [.ref jR, .int 6] [(jR, .inr (4, [.ref jT, .ref r1, .ref r2, .int (nI (wr)), .int (nI (fi)), .int (nI (pn)), .ref q6, .ref q7])), (r1, .inl (c1, 120, .inl s1)), (r2, .inl (c2, 124, .inl s2)), (jT, .inr (8, [.ref t0, .int (nI (kt))])), (t0, .inl (cC, 120, .inl gT))] [(c1, .int), (c2, .int), (cC, .char)] (kS2 q6 b6 n6 g6 q7 b7 n7 g7 (va_A [(jR, .inr (4, [.ref jT, .ref r1, .ref r2, .int (nI (wr)), .int (nI (fi)), .int (nI (pn)), .ref q6, .ref q7])), (r1, .inl (c1, 120, .inl s1)), (r2, .inl (c2, 124, .inl s2)), (jT, .inr (8, [.ref t0, .int (nI (kt))])), (t0, .inl (cC, 120, .inl gT))] sz)) sz) (va_Qi (fun (r : Int32) (u : (Nat → Int32) × Nat × Nat × Bool × (List Int32)) => match u with | (S1, Wr, Pn, xo, xl) => (r = kBo xo ∧ kPR (kSumD bt kt g7 n7 0 pn) pn kt wr s1 xo Pn xl Wr S1 ∧ Wr ≤ 120)) (fun (u : (Nat → Int32) × Nat × Nat × Bool × (List Int32)) => match u with | (S1, Wr, Pn, xo, xl) => fun t : State => kB dC dI [(jR, .inr (4, [.ref jT, .ref r1, .ref r2, .int (nI (Wr)), .int (nI (fi)), .int (nI (Pn)), .ref q6, .ref q7])), (r1, .inl (c1, 120, .inl S1)), (r2, .inl (c2, 124, .inl s2)), (jT, .inr (8, [.ref t0, .int (nI (kt))])), (t0, .inl (cC, 120, .inl gT))] [(c1, .int), (c2, .int), (cC, .char)] (va_A [(jR, .inr (4, [.ref jT, .ref r1, .ref r2, .int (nI (wr)), .int (nI (fi)), .int (nI (pn)), .ref q6, .ref q7])), (r1, .inl (c1, 120, .inl s1)), (r2, .inl (c2, 124, .inl s2)), (jT, .inr (8, [.ref t0, .int (nI (kt))])), (t0, .inl (cC, 120, .inl gT))] sz) t) (va_A [(jR, .inr (4, [.ref jT, .ref r1, .ref r2, .int (nI (wr)), .int (nI (fi)), .int (nI (pn)), .ref q6, .ref q7])), (r1, .inl (c1, 120, .inl s1)), (r2, .inl (c2, 124, .inl s2)), (jT, .inr (8, [.ref t0, .int (nI (kt))])), (t0, .inl (cC, 120, .inl gT))] sz)) 0 0 (va_A [(jR, .inr (4, [.ref jT, .ref r1, .ref r2, .int (nI (wr)), .int (nI (fi)), .int (nI (pn)), .ref q6, .ref q7])), (r1, .inl (c1, 120, .inl s1)), (r2, .inl (c2, 124, .inl s2)), (jT, .inr (8, [.ref t0, .int (nI (kt))])), (t0, .inl (cC, 120, .inl gT))] sz) := by
  refine Met.ofW (cc := cX4_readSum) (maxL := 4) (ret := (some .boolean)) (by decide) rfl ?_
  intro p e s m args below meth c s₁ B hml hv
  obtain ⟨rfl, hsz, hP, hK, hD0, hX⟩ := hv
  have hx := B.exec
  have hb := B.bytes
  have hr := B.returns
  have hts := atoms_spec (ws := w_s_sum4x_6) B.pre
  have hown : s.vm.findClass RX4 = some m.cls := findClass_of_methodNamed B.named
  have hlocks := B.notSynchronized
  subst hsz
  have hD := hD0.self (sz := s.heap.size)
  generalize hAe : va_A [(jR, .inr (4, [.ref jT, .ref r1, .ref r2, .int (nI (wr)), .int (nI (fi)), .int (nI (pn)), .ref q6, .ref q7])), (r1, .inl (c1, 120, .inl s1)), (r2, .inl (c2, 124, .inl s2)), (jT, .inr (8, [.ref t0, .int (nI (kt))])), (t0, .inl (cC, 120, .inl gT))] s.heap.size = A at hD hX ⊢
  have hA : ∀ q : Nat, s.heap.size ≤ q → A q := fun q h => by rw [← hAe]; exact Or.inr h
  have hS : va_S A s.heap s.heap [] := va_S.rf
  have hP : va_P (dC, dI) vwCl [(jR, .inr (4, [.ref jT, .ref r1, .ref r2, .int (nI (wr)), .int (nI (fi)), .int (nI (pn)), .ref q6, .ref q7])), (r1, .inl (c1, 120, .inl s1)), (r2, .inl (c2, 124, .inl s2)), (jT, .inr (8, [.ref t0, .int (nI (kt))])), (t0, .inl (cC, 120, .inl gT))] s.heap := hP
  have hl := lv_entry ([.ref jR, .int 6]) (n := 4) (Nat.le_of_ble_eq_true rfl)
  rw [lg_entry_eq]
  generalize (lg_sl ([.ref jR, .int 6]) ++ List.replicate (4 - (lg_sl ([.ref jR, .int 6])).length) Slot.unset).toArray = ls at hl ⊢
  have hl : lv_has ls 4 [(0, .ref jR), (1, .int 6)] := hl
  refine kQ (fun Q hQ => ?_)
  refine lv_aload_n hx hb dX4_readSum_0 rfl (lv_at hl 0 rfl) ?_
  refine lv_iload_n hx hb dX4_readSum_1 rfl (lv_at hl 1 rfl) ?_
  have hCu := kCut (wc := [(jR, .inr (4, [.ref jT, .ref r1, .ref r2, .int (nI (wr)), .int (nI (fi)), .int (nI (pn)), .ref q6, .ref q7])), (r1, .inl (c1, 120, .inl s1)), (r2, .inl (c2, 124, .inl s2)), (jT, .inr (8, [.ref t0, .int (nI (kt))])), (t0, .inl (cC, 120, .inl gT))]) hP hD hS hA [0, 1, 2, 3, 4] rfl kc_nd_311 rfl
  have hPc := hCu.1
  have hDc := hCu.2.1
  have hFc := hCu.2.2
  have hKc := hK.sb (tys2 := [(c1, .int), (c2, .int), (cC, .char)]) [0, 1, 2] rfl
  refine va_calli (va_runV (As := [.int 6]) (rest := []) ⟨hx, hb, hml, hown, hts⟩ (s_term4x_6 l dC dI jT t0 cC gT kt hkt hgT bt hbt hb8 jR r1 r2 c1 c2 s1 s2 wr fi q6 q7 hwr hfi pn hpn hwp b6 n6 g6 hn6 b7 n7 g7 hn7 gn6 hz6 gn7 hz7 s.heap.size) (cwV 1 hts (kG (List.forall_mem_cons.mpr ⟨(List.mem_cons_of_mem _ (List.mem_append_left _ (List.mem_of_getElem? (i := 28) rfl))), (List.forall_mem_cons.mpr ⟨(List.mem_cons_of_mem _ (List.mem_append_left _ (List.mem_of_getElem? (i := 27) rfl))), (List.forall_mem_cons.mpr ⟨(List.mem_cons_of_mem _ (List.mem_append_left _ (List.mem_of_getElem? (i := 26) rfl))), (List.forall_mem_cons.mpr ⟨(List.mem_cons_of_mem _ (List.mem_append_left _ (List.mem_of_getElem? (i := 0) rfl))), (fun _ h => absurd h List.not_mem_nil)⟩)⟩)⟩)⟩) (kGV _ _ _ _) (kFam (List.mem_cons_of_mem _ (List.mem_append_left _ (List.mem_of_getElem? (i := 25) rfl)))) gw_s_term4x_6) rfl rfl rfl ⟨rfl, hd_X4_readTerm⟩ ⟨(Nat.le_of_ble_eq_true rfl), (Nat.le_of_ble_eq_true rfl)⟩) (kW_V kS2_blind (kS2_give hX hS hFc) (va_recv hKc hPc (ci := 4) (q0 := 0) rfl rfl) hPc hKc hDc) rfl rfl hl.1 rfl (lv_room (Nat.le_of_ble_eq_true rfl)) dX4_readSum_2 ⟨(Nat.le_of_ble_eq_true rfl), (Nat.le_of_ble_eq_true rfl)⟩) hS (fun q _ h => hFc q h) hFc (fun r_1 => kU5 (fun S1_2 Wr_3 Pn_4 xo_5 xl_6 t H_7 locs ht hvm hw hB hz1 hk1 hS => ?_))
  try dsimp only at hw
  have hPD : kPD dC dI A [(jR, .inr (4, [.ref jT, .ref r1, .ref r2, .int (nI (Wr_3)), .int (nI (fi)), .int (nI (Pn_4)), .ref q6, .ref q7])), (r1, .inl (c1, 120, .inl S1_2)), (r2, .inl (c2, 124, .inl s2)), (jT, .inr (8, [.ref t0, .int (nI (kt))])), (t0, .inl (cC, 120, .inl gT))] H_7 := kJoinX hP hD [0, 1, 2, 3, 4] rfl hk1 hFc hB.1 ht hB.2.2 rfl [some 0, some 1, some 2, some 3, some 4] rfl rfl
  have hP := hPD.1
  have hD := hPD.2
  have hw_8 := hw
  refine lv_if_ne (tgt := 10) hx hb dX4_readSum_5 kc_t_5_5 (fun c_9 => ?_) (fun c_9 => ?_)
  · obtain rfl : xo_5 = true := kBo_t (kNz9 hw_8.1 c_9)
    obtain ⟨hw_8_W, hw_8_S, hw_8_l, hw_8_p⟩ := hw_8.2.1.2.2 rfl
    have hw_8_k := hw_8.2.1.2.1
    refine lv_iconst (v := 0) hx hb dX4_readSum_10 kc_i_0 ?_
    refine lv_istore_n hx hb dX4_readSum_11 rfl hl kc_l_2_4 (kTo [(2, .int 0), (0, .ref jR), (1, .int 6)]) (fun ls hl => ?_)
    have lp_k_10 : ∀ (n9 : Nat) (i : Nat) (xs1 : Nat → Int32) (xpn : Nat) (xwr : Nat) (xl : List Int32) (ivk_10_0 : i ≤ 120) (ivk_10_1 : xwr ≤ 120) (ivk_10_2 : xpn ≤ kt) (ivk_10_3 : kLoop bt kt 43 45 (kTermD bt kt g7 n7 0) (120 - i) xpn xl = kSumD bt kt g7 n7 0 pn) (ivk_10_4 : xwr = wr + xl.length) (ivk_10_5 : xs1 = kWrt s1 wr xl) (ivk_10_6 : pn + xl.length ≤ xpn) (ivk_10_7 : pn < xpn) (H : Heap) (locs : List Loc) (_ : va_P (dC, dI) vwCl [(jR, .inr (4, [.ref jT, .ref r1, .ref r2, .int (nI (xwr)), .int (nI (fi)), .int (nI (xpn)), .ref q6, .ref q7])), (r1, .inl (c1, 120, .inl xs1)), (r2, .inl (c2, 124, .inl s2)), (jT, .inr (8, [.ref t0, .int (nI (kt))])), (t0, .inl (cC, 120, .inl gT))] H) (_ : va_D A [(jR, .inr (4, [.ref jT, .ref r1, .ref r2, .int (nI (xwr)), .int (nI (fi)), .int (nI (xpn)), .ref q6, .ref q7])), (r1, .inl (c1, 120, .inl xs1)), (r2, .inl (c2, 124, .inl s2)), (jT, .inr (8, [.ref t0, .int (nI (kt))])), (t0, .inl (cC, 120, .inl gT))]) (_ : va_S A s.heap H locs) (ls : Array Slot) (_ : lv_has ls 4 [(2, .int (nI (i))), (0, .ref jR), (1, .int 6)]) (_ : 120 - i < n9), W p l e (headSpec w_s_sum4x_6 ({ frames := 8, cells := 0, slots := 0, locals := 480 })).room s m (#[.ref jR, .int 6] : Array Value) below meth c H locs 0 0 Q (F0 m 12 ls []) := by
      intro n9
      induction n9 with
      | zero => intro i xs1 xpn xwr xl ivk_10_0 ivk_10_1 ivk_10_2 ivk_10_3 ivk_10_4 ivk_10_5 ivk_10_6 ivk_10_7 H locs hP hD hS ls hl hm9; exact absurd hm9 (Nat.not_lt_zero _)
      | succ n9 ih_k_10 =>
        intro i xs1 xpn xwr xl ivk_10_0 ivk_10_1 ivk_10_2 ivk_10_3 ivk_10_4 ivk_10_5 ivk_10_6 ivk_10_7 H locs hP hD hS ls hl hm9
        refine lv_iload_n hx hb dX4_readSum_12 rfl (lv_at hl 0 rfl) ?_
        refine lv_bipush (v := 120) hx hb dX4_readSum_13 kc_b_120 ?_
        refine lv_icmp_ge (tgt := 79) hx hb dX4_readSum_15 kc_t_15_64 (fun c_11 => ?_) (fun c_11 => ?_)
        · have bd_13 : i < 2147483648 := by omega
          have hn_12 := kle (a := 120) (b := i) kc_31_120 bd_13 c_11
          refine lv_iconst (v := 1) hx hb dX4_readSum_79 kc_i_1 ?_
          have hP9 := hP
          have hD9 := hD
          have hK9 := hK
          rw [hQ]
          exact W.zret (v := 1) hx hb hr rfl (fun t ht hW => ⟨⟨1, (xs1, xwr, xpn, true, xl), rfl, ⟨rfl, kPR_t (a := kSumD bt kt g7 n7 0) rfl (kSumD_good hz7 0) (by omega) (by rw [← ivk_10_3, show 120 - i = 0 by omega]; rfl) ivk_10_4 ivk_10_5, by omega⟩,  by rw [ht]; exact hP9, va_K.moved hW.alike hK9, hD9⟩, hS.F ht⟩) hS.2.2 dX4_readSum_80
        · have bd_15 : i < 2147483648 := by omega
          have hn_14 := knle (a := 120) (b := i) kc_31_120 bd_15 c_11
          refine lv_aload_n hx hb dX4_readSum_18 rfl (lv_at hl 1 rfl) ?_
          have bd_16 : xwr ≤ 120 := by omega
          have bd_17 : xpn ≤ kt := by omega
          have hCu := kCut (wc := [(jR, .inr (4, [.ref jT, .ref r1, .ref r2, .int (nI (xwr)), .int (nI (fi)), .int (nI (xpn)), .ref q6, .ref q7])), (r1, .inl (c1, 120, .inl xs1)), (r2, .inl (c2, 124, .inl s2)), (jT, .inr (8, [.ref t0, .int (nI (kt))])), (t0, .inl (cC, 120, .inl gT))]) hP hD hS hA [0, 1, 2, 3, 4] rfl kc_nd_311 rfl
          have hPc := hCu.1
          have hDc := hCu.2.1
          have hFc := hCu.2.2
          have hKc := hK.sb (tys2 := [(c1, .int), (c2, .int), (cC, .char)]) [0, 1, 2] rfl
          refine va_calli (va_runV (As := []) (rest := []) ⟨hx, hb, hml, hown, hts⟩ (s_look4x l dC dI jT t0 cC gT kt hkt hgT bt hbt hb8 jR r1 r2 c1 c2 xs1 s2 xwr fi q6 q7 bd_16 hfi xpn bd_17 H.size) (cwV 0 hts (kG (List.forall_mem_cons.mpr ⟨(List.mem_cons_of_mem _ (List.mem_append_left _ (List.mem_of_getElem? (i := 3) rfl))), (List.forall_mem_cons.mpr ⟨(List.mem_cons_of_mem _ (List.mem_append_left _ (List.mem_of_getElem? (i := 2) rfl))), (List.forall_mem_cons.mpr ⟨(List.mem_cons_of_mem _ (List.mem_append_left _ (List.mem_of_getElem? (i := 1) rfl))), (List.forall_mem_cons.mpr ⟨(List.mem_cons_of_mem _ (List.mem_append_left _ (List.mem_of_getElem? (i := 0) rfl))), (fun _ h => absurd h List.not_mem_nil)⟩)⟩)⟩)⟩) (kGV _ _ _ _) (fun _ h => List.mem_cons_of_mem _ (List.mem_append_right _ (List.mem_append_left _ h))) gw_s_look4x) rfl rfl rfl ⟨rfl, hd_X4_look⟩ ⟨(Nat.le_of_ble_eq_true rfl), (Nat.le_of_ble_eq_true rfl)⟩) (kW_V kT_blind kT_give (va_recv hKc hPc (ci := 4) (q0 := 0) rfl rfl) hPc hKc hDc) rfl rfl hl.1 rfl (lv_room (Nat.le_of_ble_eq_true rfl)) dX4_readSum_19 ⟨(Nat.le_of_ble_eq_true rfl), (Nat.le_of_ble_eq_true rfl)⟩) hS (fun q _ h => hFc q h) hFc (fun r_18 => kU2 (fun Pn_19 ch_20 t H_21 locs ht hvm hw hB hz1 hk1 hS => ?_))
          try dsimp only at hw
          have hPD : kPD dC dI A [(jR, .inr (4, [.ref jT, .ref r1, .ref r2, .int (nI (xwr)), .int (nI (fi)), .int (nI (Pn_19)), .ref q6, .ref q7])), (r1, .inl (c1, 120, .inl xs1)), (r2, .inl (c2, 124, .inl s2)), (jT, .inr (8, [.ref t0, .int (nI (kt))])), (t0, .inl (cC, 120, .inl gT))] H_21 := kJoinX hP hD [0, 1, 2, 3, 4] rfl hk1 hFc hB.1 ht hB.2.2 rfl [some 0, some 1, some 2, some 3, some 4] rfl rfl
          have hP := hPD.1
          have hD := hPD.2
          obtain ⟨rfl, hw_22_0, hw_22_1, hw_22_2, hw_22_3, hw_22_4, hw_22_5, hw_22_6⟩ := hw
          refine lv_bipush (v := 43) hx hb dX4_readSum_22 kc_b_43 ?_
          refine lv_icmp_eq (tgt := 36) hx hb dX4_readSum_24 kc_t_24_12 (fun c_23 => ?_) (fun c_23 => ?_)
          · have bd_25 : ch_20 < 2147483648 := by omega
            have hn_24 := keq (a := ch_20) (b := 43) bd_25 kc_31_43 c_23
            refine lv_aload_n hx hb dX4_readSum_36 rfl (lv_at hl 1 rfl) ?_
            have bd_26 : Pn_19 ≤ kt := by omega
            have hCu := kCut (wc := [(jR, .inr (4, [.ref jT, .ref r1, .ref r2, .int (nI (xwr)), .int (nI (fi)), .int (nI (Pn_19)), .ref q6, .ref q7])), (r1, .inl (c1, 120, .inl xs1)), (r2, .inl (c2, 124, .inl s2)), (jT, .inr (8, [.ref t0, .int (nI (kt))])), (t0, .inl (cC, 120, .inl gT))]) hP hD hS hA [0, 1, 2, 3, 4] rfl kc_nd_311 rfl
            have hPc := hCu.1
            have hDc := hCu.2.1
            have hFc := hCu.2.2
            have hKc := hK.sb (tys2 := [(c1, .int), (c2, .int), (cC, .char)]) [0, 1, 2] rfl
            refine va_calli (va_runV (As := []) (rest := []) ⟨hx, hb, hml, hown, hts⟩ (s_look4x l dC dI jT t0 cC gT kt hkt hgT bt hbt hb8 jR r1 r2 c1 c2 xs1 s2 xwr fi q6 q7 bd_16 hfi Pn_19 bd_26 H_21.size) (cwV 0 hts (kG (List.forall_mem_cons.mpr ⟨(List.mem_cons_of_mem _ (List.mem_append_left _ (List.mem_of_getElem? (i := 3) rfl))), (List.forall_mem_cons.mpr ⟨(List.mem_cons_of_mem _ (List.mem_append_left _ (List.mem_of_getElem? (i := 2) rfl))), (List.forall_mem_cons.mpr ⟨(List.mem_cons_of_mem _ (List.mem_append_left _ (List.mem_of_getElem? (i := 1) rfl))), (List.forall_mem_cons.mpr ⟨(List.mem_cons_of_mem _ (List.mem_append_left _ (List.mem_of_getElem? (i := 0) rfl))), (fun _ h => absurd h List.not_mem_nil)⟩)⟩)⟩)⟩) (kGV _ _ _ _) (fun _ h => List.mem_cons_of_mem _ (List.mem_append_right _ (List.mem_append_left _ h))) gw_s_look4x) rfl rfl rfl ⟨rfl, hd_X4_look⟩ ⟨(Nat.le_of_ble_eq_true rfl), (Nat.le_of_ble_eq_true rfl)⟩) (kW_V kT_blind kT_give (va_recv hKc hPc (ci := 4) (q0 := 0) rfl rfl) hPc hKc hDc) rfl rfl hl.1 rfl (lv_room (Nat.le_of_ble_eq_true rfl)) dX4_readSum_37 ⟨(Nat.le_of_ble_eq_true rfl), (Nat.le_of_ble_eq_true rfl)⟩) hS (fun q _ h => hFc q h) hFc (fun r_27 => kU2 (fun Pn_28 ch_29 t H_30 locs ht hvm hw hB hz1 hk1 hS => ?_))
            try dsimp only at hw
            have hPD : kPD dC dI A [(jR, .inr (4, [.ref jT, .ref r1, .ref r2, .int (nI (xwr)), .int (nI (fi)), .int (nI (Pn_28)), .ref q6, .ref q7])), (r1, .inl (c1, 120, .inl xs1)), (r2, .inl (c2, 124, .inl s2)), (jT, .inr (8, [.ref t0, .int (nI (kt))])), (t0, .inl (cC, 120, .inl gT))] H_30 := kJoinX hP hD [0, 1, 2, 3, 4] rfl hk1 hFc hB.1 ht hB.2.2 rfl [some 0, some 1, some 2, some 3, some 4] rfl rfl
            have hP := hPD.1
            have hD := hPD.2
            obtain ⟨rfl, hw_31_0, hw_31_1, hw_31_2, hw_31_3, hw_31_4, hw_31_5, hw_31_6⟩ := hw
            have e9 : Pn_19 = Pn_28 := by rw [hw_31_1, hw_22_1]; exact (kSp_sp (by omega)).symm
            have e8 : ch_20 = ch_29 := by rw [hw_31_0, hw_22_0, hw_22_1]; exact (kLk_sp (by omega)).symm
            subst e9
            subst e8
            refine lv_istore_n hx hb dX4_readSum_40 rfl hl kc_l_3_4 (kTo [(3, .int (nI (ch_20))), (2, .int (nI (i))), (0, .ref jR), (1, .int 6)]) (fun ls hl => ?_)
            refine lv_aload_n hx hb dX4_readSum_41 rfl (lv_at hl 2 rfl) ?_
            refine lv_dup hx hb dX4_readSum_42 rfl ?_
            refine va_get (D := (dC, dI)) (ci := 4) (v := .int (nI (Pn_19))) (C := RX4) (T := TX4) (N := 8) hx hb hts (fun _ h => List.mem_cons_of_mem _ (List.mem_append_right _ (List.mem_append_right _ (List.mem_append_right _ (List.mem_append_left _ h))))) hown hK hP 0 rfl rfl 5 kc_l_5_8 (hts (.fieldLink RX4 25 "NotEnded$Reader" "place" "I") (List.mem_cons_of_mem _ (List.mem_append_left _ (List.mem_of_getElem? (i := 11) rfl)))) (fun _ h9 => h9) rfl dX4_readSum_43 ?_
            refine lv_iconst (v := 1) hx hb dX4_readSum_46 kc_i_1 ?_
            refine lv_iadd hx hb dX4_readSum_47 ?_
            refine lv_topi (fun y_32 ey_32 => ?_)
            obtain rfl : y_32 = nI (Pn_19 + 1) := ey_32.trans (nI_add (Pn_19) (1))
            refine va_put (D := (dC, dI)) (ci := 4) (v := .int (nI (Pn_19 + 1))) (ty := tyX4 5) (C := RX4) (T := TX4) (N := 8) hx hb hts (fun _ h => List.mem_cons_of_mem _ (List.mem_append_right _ (List.mem_append_right _ (List.mem_append_right _ (List.mem_append_left _ h))))) tyX4 tyX4_ok nmX4 hown hK hP hD hS 0 rfl rfl 5 kc_l_5_8 (hts (.fieldLink RX4 25 "NotEnded$Reader" "place" "I") (List.mem_cons_of_mem _ (List.mem_append_left _ (List.mem_of_getElem? (i := 11) rfl)))) (fun _ h9 => h9) rfl (tyX4_ok 5 kc_l_5_8) rfl rfl (Nat.le_of_ble_eq_true rfl) dX4_readSum_48 (fun H locs hP hD hS => ?_)
            have hPD : kPD dC dI A [(jR, .inr (4, [.ref jT, .ref r1, .ref r2, .int (nI (xwr)), .int (nI (fi)), .int (nI (Pn_19 + 1)), .ref q6, .ref q7])), (r1, .inl (c1, 120, .inl xs1)), (r2, .inl (c2, 124, .inl s2)), (jT, .inr (8, [.ref t0, .int (nI (kt))])), (t0, .inl (cC, 120, .inl gT))] H := ⟨hP, hD⟩
            have hP := hPD.1
            have hD := hPD.2
            refine lv_aload_n hx hb dX4_readSum_51 rfl (lv_at hl 2 rfl) ?_
            refine lv_iload_n hx hb dX4_readSum_52 rfl (lv_at hl 3 rfl) ?_
            have bd_33 : (Pn_19 + 1) ≤ kt := by omega
            have bd_34 : xwr ≤ (Pn_19 + 1) := by omega
            have hCu := kCut (wc := [(jR, .inr (4, [.ref jT, .ref r1, .ref r2, .int (nI (xwr)), .int (nI (fi)), .int (nI (Pn_19 + 1)), .ref q6, .ref q7])), (r1, .inl (c1, 120, .inl xs1)), (r2, .inl (c2, 124, .inl s2)), (jT, .inr (8, [.ref t0, .int (nI (kt))])), (t0, .inl (cC, 120, .inl gT))]) hP hD hS hA [0, 1, 2, 3, 4] rfl kc_nd_311 rfl
            have hPc := hCu.1
            have hDc := hCu.2.1
            have hFc := hCu.2.2
            have hKc := hK.sb (tys2 := [(c1, .int), (c2, .int), (cC, .char)]) [0, 1, 2] rfl
            refine va_calli (va_runV (As := [.int 6]) (rest := []) ⟨hx, hb, hml, hown, hts⟩ (s_term4x_6 l dC dI jT t0 cC gT kt hkt hgT bt hbt hb8 jR r1 r2 c1 c2 xs1 s2 xwr fi q6 q7 bd_16 hfi (Pn_19 + 1) bd_33 bd_34 b6 n6 g6 hn6 b7 n7 g7 hn7 gn6 hz6 gn7 hz7 H.size) (cwV 1 hts (kG (List.forall_mem_cons.mpr ⟨(List.mem_cons_of_mem _ (List.mem_append_left _ (List.mem_of_getElem? (i := 28) rfl))), (List.forall_mem_cons.mpr ⟨(List.mem_cons_of_mem _ (List.mem_append_left _ (List.mem_of_getElem? (i := 27) rfl))), (List.forall_mem_cons.mpr ⟨(List.mem_cons_of_mem _ (List.mem_append_left _ (List.mem_of_getElem? (i := 26) rfl))), (List.forall_mem_cons.mpr ⟨(List.mem_cons_of_mem _ (List.mem_append_left _ (List.mem_of_getElem? (i := 0) rfl))), (fun _ h => absurd h List.not_mem_nil)⟩)⟩)⟩)⟩) (kGV _ _ _ _) (kFam (List.mem_cons_of_mem _ (List.mem_append_left _ (List.mem_of_getElem? (i := 25) rfl)))) gw_s_term4x_6) rfl rfl rfl ⟨rfl, hd_X4_readTerm⟩ ⟨(Nat.le_of_ble_eq_true rfl), (Nat.le_of_ble_eq_true rfl)⟩) (kW_V kS2_blind (kS2_give hX hS hFc) (va_recv hKc hPc (ci := 4) (q0 := 0) rfl rfl) hPc hKc hDc) rfl rfl hl.1 rfl (lv_room (Nat.le_of_ble_eq_true rfl)) dX4_readSum_53 ⟨(Nat.le_of_ble_eq_true rfl), (Nat.le_of_ble_eq_true rfl)⟩) hS (fun q _ h => hFc q h) hFc (fun r_35 => kU5 (fun S1_36 Wr_37 Pn_38 xo_39 xl_40 t H_41 locs ht hvm hw hB hz1 hk1 hS => ?_))
            try dsimp only at hw
            have hPD : kPD dC dI A [(jR, .inr (4, [.ref jT, .ref r1, .ref r2, .int (nI (Wr_37)), .int (nI (fi)), .int (nI (Pn_38)), .ref q6, .ref q7])), (r1, .inl (c1, 120, .inl S1_36)), (r2, .inl (c2, 124, .inl s2)), (jT, .inr (8, [.ref t0, .int (nI (kt))])), (t0, .inl (cC, 120, .inl gT))] H_41 := kJoinX hP hD [0, 1, 2, 3, 4] rfl hk1 hFc hB.1 ht hB.2.2 rfl [some 0, some 1, some 2, some 3, some 4] rfl rfl
            have hP := hPD.1
            have hD := hPD.2
            have hw_42 := hw
            refine lv_if_eq (tgt := 71) hx hb dX4_readSum_56 kc_t_56_15 (fun c_43 => ?_) (fun c_43 => ?_)
            · obtain rfl : xo_39 = false := kBo_f (kZr9 hw_42.1 c_43)
              have hw_42_k := hw_42.2.1.2.1
              refine lv_iconst (v := 0) hx hb dX4_readSum_71 kc_i_0 ?_
              have hP9 := hP
              have hD9 := hD
              have hK9 := hK
              rw [hQ]
              exact W.zret (v := 0) hx hb hr rfl (fun t ht hW => ⟨⟨0, (S1_36, Wr_37, Pn_38, false, ([])), rfl, ⟨rfl, kPR_f (by rw [← ivk_10_3, show 120 - i = (119 - i) + 1 by omega]; exact kLoop_f (by rw [← hw_22_0]; omega) (by rw [← hw_22_1]; exact hw_42.2.1.1)) (by omega), by omega⟩,  by rw [ht]; exact hP9, va_K.moved hW.alike hK9, hD9⟩, hS.F ht⟩) hS.2.2 dX4_readSum_72
            · obtain rfl : xo_39 = true := kBo_t (kNz9 hw_42.1 c_43)
              obtain ⟨hw_42_W, hw_42_S, hw_42_l, hw_42_p⟩ := hw_42.2.1.2.2 rfl
              have hw_42_k := hw_42.2.1.2.1
              refine lv_aload_n hx hb dX4_readSum_59 rfl (lv_at hl 2 rfl) ?_
              refine lv_sipush (v := 20000) hx hb dX4_readSum_60 kc_s_20000 ?_
              refine lv_iload_n hx hb dX4_readSum_63 rfl (lv_at hl 0 rfl) ?_
              refine lv_iadd hx hb dX4_readSum_64 ?_
              refine lv_topi (fun y_44 ey_44 => ?_)
              obtain rfl : y_44 = nI (20000 + ch_20) := ey_44.trans (nI_add (20000) (ch_20))
              have bd_45 : Wr_37 ≤ 120 := by omega
              have bd_46 : Pn_38 ≤ kt := by omega
              have bd_47 : Wr_37 < 120 := by omega
              have hCu := kCut (wc := [(jR, .inr (4, [.ref jT, .ref r1, .ref r2, .int (nI (Wr_37)), .int (nI (fi)), .int (nI (Pn_38)), .ref q6, .ref q7])), (r1, .inl (c1, 120, .inl S1_36)), (r2, .inl (c2, 124, .inl s2)), (jT, .inr (8, [.ref t0, .int (nI (kt))])), (t0, .inl (cC, 120, .inl gT))]) hP hD hS hA [0, 1, 2, 3, 4] rfl kc_nd_311 rfl
              have hPc := hCu.1
              have hDc := hCu.2.1
              have hFc := hCu.2.2
              have hKc := hK.sb (tys2 := [(c1, .int), (c2, .int), (cC, .char)]) [0, 1, 2] rfl
              refine va_calli (va_runV (As := [.int (nI (20000 + ch_20))]) (rest := []) ⟨hx, hb, hml, hown, hts⟩ (s_write4x l dC dI jT t0 cC gT kt hkt hgT bt hbt hb8 jR r1 r2 c1 c2 S1_36 s2 Wr_37 fi q6 q7 bd_45 hfi Pn_38 bd_46 (nI (20000 + ch_20)) bd_47 H_41.size) (cwV 1 hts (kG (List.forall_mem_cons.mpr ⟨(List.mem_cons_of_mem _ (List.mem_append_left _ (List.mem_of_getElem? (i := 14) rfl))), (List.forall_mem_cons.mpr ⟨(List.mem_cons_of_mem _ (List.mem_append_left _ (List.mem_of_getElem? (i := 13) rfl))), (List.forall_mem_cons.mpr ⟨(List.mem_cons_of_mem _ (List.mem_append_left _ (List.mem_of_getElem? (i := 12) rfl))), (List.forall_mem_cons.mpr ⟨(List.mem_cons_of_mem _ (List.mem_append_left _ (List.mem_of_getElem? (i := 0) rfl))), (fun _ h => absurd h List.not_mem_nil)⟩)⟩)⟩)⟩) (kGV _ _ _ _) (fun _ h => List.mem_cons_of_mem _ (List.mem_append_right _ (List.mem_append_right _ (List.mem_append_right _ (List.mem_append_right _ (List.mem_append_right _ (List.mem_append_left _ h))))))) gw_s_write4x) rfl rfl rfl ⟨rfl, hd_X4_write⟩ ⟨(Nat.le_of_ble_eq_true rfl), (Nat.le_of_ble_eq_true rfl)⟩) (kW_V kT_blind kT_give (va_recv hKc hPc (ci := 4) (q0 := 0) rfl rfl) hPc hKc hDc) rfl rfl hl.1 rfl (lv_room (Nat.le_of_ble_eq_true rfl)) dX4_readSum_65 ⟨(Nat.le_of_ble_eq_true rfl), (Nat.le_of_ble_eq_true rfl)⟩) hS (fun q _ h => hFc q h) hFc (fun r_48 => kU2 (fun S1_49 Wr_50 t H_51 locs ht hvm hw hB hz1 hk1 hS => ?_))
              try dsimp only at hw
              have hPD : kPD dC dI A [(jR, .inr (4, [.ref jT, .ref r1, .ref r2, .int (nI (Wr_50)), .int (nI (fi)), .int (nI (Pn_38)), .ref q6, .ref q7])), (r1, .inl (c1, 120, .inl S1_49)), (r2, .inl (c2, 124, .inl s2)), (jT, .inr (8, [.ref t0, .int (nI (kt))])), (t0, .inl (cC, 120, .inl gT))] H_51 := kJoinX hP hD [0, 1, 2, 3, 4] rfl hk1 hFc hB.1 ht hB.2.2 rfl [some 0, some 1, some 2, some 3, some 4] rfl rfl
              have hP := hPD.1
              have hD := hPD.2
              obtain ⟨rfl, hw_52⟩ := hw
              refine lv_if_ne (tgt := 73) hx hb dX4_readSum_68 kc_t_68_5 (fun c_53 => ?_) (fun c_53 => absurd c_53 (by decide))
              refine lv_iinc (v := nI (i + 1)) hx hb dX4_readSum_73 hl (k := 1) rfl (kInc _ 1) kc_l_2_4 (kTo [(2, .int (nI (i + 1))), (3, .int (nI (ch_20))), (0, .ref jR), (1, .int 6)]) (fun ls hl => ?_)
              refine lv_goto (tgt := 12) hx hb dX4_readSum_76 kc_t_76_m64 ?_
              exact ih_k_10 (i + 1) S1_49 Pn_38 Wr_50 (xl ++ xl_40 ++ [nI (20000 + ch_20)]) (by omega) (by omega) (by omega) (by have e9 := kLoop_t (b := bt) (n := kt) (c1 := 43) (c2 := 45) (a := kTermD bt kt g7 n7 0) (f := 120 - (i + 1)) (p := xpn) (l := xl) (by rw [← hw_22_0]; omega) (by rw [← hw_22_1]; exact hw_42.2.1.1); rw [← hw_22_0] at e9; rw [← e9, show (120 - (i + 1)) + 1 = 120 - i by omega]; exact ivk_10_3) (by simp only [List.length_append, List.length_cons, List.length_nil]; omega) (kWrt3 ivk_10_5 ivk_10_4 hw_42_S hw_42_W hw_52.2) (by simp only [List.length_append, List.length_cons, List.length_nil]; omega) (by omega) _ _ hP hD hS ls (lv_sub hl [0, 2, 3] rfl) (by omega)
          · have bd_55 : ch_20 < 2147483648 := by omega
            have hn_54 := kneq (a := ch_20) (b := 43) bd_55 kc_31_43 c_23
            refine lv_aload_n hx hb dX4_readSum_27 rfl (lv_at hl 1 rfl) ?_
            have bd_56 : Pn_19 ≤ kt := by omega
            have hCu := kCut (wc := [(jR, .inr (4, [.ref jT, .ref r1, .ref r2, .int (nI (xwr)), .int (nI (fi)), .int (nI (Pn_19)), .ref q6, .ref q7])), (r1, .inl (c1, 120, .inl xs1)), (r2, .inl (c2, 124, .inl s2)), (jT, .inr (8, [.ref t0, .int (nI (kt))])), (t0, .inl (cC, 120, .inl gT))]) hP hD hS hA [0, 1, 2, 3, 4] rfl kc_nd_311 rfl
            have hPc := hCu.1
            have hDc := hCu.2.1
            have hFc := hCu.2.2
            have hKc := hK.sb (tys2 := [(c1, .int), (c2, .int), (cC, .char)]) [0, 1, 2] rfl
            refine va_calli (va_runV (As := []) (rest := []) ⟨hx, hb, hml, hown, hts⟩ (s_look4x l dC dI jT t0 cC gT kt hkt hgT bt hbt hb8 jR r1 r2 c1 c2 xs1 s2 xwr fi q6 q7 bd_16 hfi Pn_19 bd_56 H_21.size) (cwV 0 hts (kG (List.forall_mem_cons.mpr ⟨(List.mem_cons_of_mem _ (List.mem_append_left _ (List.mem_of_getElem? (i := 3) rfl))), (List.forall_mem_cons.mpr ⟨(List.mem_cons_of_mem _ (List.mem_append_left _ (List.mem_of_getElem? (i := 2) rfl))), (List.forall_mem_cons.mpr ⟨(List.mem_cons_of_mem _ (List.mem_append_left _ (List.mem_of_getElem? (i := 1) rfl))), (List.forall_mem_cons.mpr ⟨(List.mem_cons_of_mem _ (List.mem_append_left _ (List.mem_of_getElem? (i := 0) rfl))), (fun _ h => absurd h List.not_mem_nil)⟩)⟩)⟩)⟩) (kGV _ _ _ _) (fun _ h => List.mem_cons_of_mem _ (List.mem_append_right _ (List.mem_append_left _ h))) gw_s_look4x) rfl rfl rfl ⟨rfl, hd_X4_look⟩ ⟨(Nat.le_of_ble_eq_true rfl), (Nat.le_of_ble_eq_true rfl)⟩) (kW_V kT_blind kT_give (va_recv hKc hPc (ci := 4) (q0 := 0) rfl rfl) hPc hKc hDc) rfl rfl hl.1 rfl (lv_room (Nat.le_of_ble_eq_true rfl)) dX4_readSum_28 ⟨(Nat.le_of_ble_eq_true rfl), (Nat.le_of_ble_eq_true rfl)⟩) hS (fun q _ h => hFc q h) hFc (fun r_57 => kU2 (fun Pn_58 ch_59 t H_60 locs ht hvm hw hB hz1 hk1 hS => ?_))
            try dsimp only at hw
            have hPD : kPD dC dI A [(jR, .inr (4, [.ref jT, .ref r1, .ref r2, .int (nI (xwr)), .int (nI (fi)), .int (nI (Pn_58)), .ref q6, .ref q7])), (r1, .inl (c1, 120, .inl xs1)), (r2, .inl (c2, 124, .inl s2)), (jT, .inr (8, [.ref t0, .int (nI (kt))])), (t0, .inl (cC, 120, .inl gT))] H_60 := kJoinX hP hD [0, 1, 2, 3, 4] rfl hk1 hFc hB.1 ht hB.2.2 rfl [some 0, some 1, some 2, some 3, some 4] rfl rfl
            have hP := hPD.1
            have hD := hPD.2
            obtain ⟨rfl, hw_61_0, hw_61_1, hw_61_2, hw_61_3, hw_61_4, hw_61_5, hw_61_6⟩ := hw
            have e9 : Pn_19 = Pn_58 := by rw [hw_61_1, hw_22_1]; exact (kSp_sp (by omega)).symm
            have e8 : ch_20 = ch_59 := by rw [hw_61_0, hw_22_0, hw_22_1]; exact (kLk_sp (by omega)).symm
            subst e9
            subst e8
            refine lv_bipush (v := 45) hx hb dX4_readSum_31 kc_b_45 ?_
            refine lv_icmp_ne (tgt := 79) hx hb dX4_readSum_33 kc_t_33_46 (fun c_62 => ?_) (fun c_62 => ?_)
            · have hn_63 := kneq (a := ch_20) (b := 45) bd_55 kc_31_45 c_62
              refine lv_iconst (v := 1) hx hb dX4_readSum_79 kc_i_1 ?_
              have hP9 := hP
              have hD9 := hD
              have hK9 := hK
              rw [hQ]
              exact W.zret (v := 1) hx hb hr rfl (fun t ht hW => ⟨⟨1, (xs1, xwr, Pn_19, true, xl), rfl, ⟨rfl, kPR_t (a := kSumD bt kt g7 n7 0) rfl (kSumD_good hz7 0) (by omega) (by rw [← ivk_10_3, show 120 - i = (119 - i) + 1 by omega, kLoop_e (by rw [← hw_22_0]; omega), ← hw_22_1]) ivk_10_4 ivk_10_5, by omega⟩,  by rw [ht]; exact hP9, va_K.moved hW.alike hK9, hD9⟩, hS.F ht⟩) hS.2.2 dX4_readSum_80
            · have hn_64 := keq (a := ch_20) (b := 45) bd_55 kc_31_45 c_62
              refine lv_aload_n hx hb dX4_readSum_36 rfl (lv_at hl 1 rfl) ?_
              have hCu := kCut (wc := [(jR, .inr (4, [.ref jT, .ref r1, .ref r2, .int (nI (xwr)), .int (nI (fi)), .int (nI (Pn_19)), .ref q6, .ref q7])), (r1, .inl (c1, 120, .inl xs1)), (r2, .inl (c2, 124, .inl s2)), (jT, .inr (8, [.ref t0, .int (nI (kt))])), (t0, .inl (cC, 120, .inl gT))]) hP hD hS hA [0, 1, 2, 3, 4] rfl kc_nd_311 rfl
              have hPc := hCu.1
              have hDc := hCu.2.1
              have hFc := hCu.2.2
              have hKc := hK.sb (tys2 := [(c1, .int), (c2, .int), (cC, .char)]) [0, 1, 2] rfl
              refine va_calli (va_runV (As := []) (rest := []) ⟨hx, hb, hml, hown, hts⟩ (s_look4x l dC dI jT t0 cC gT kt hkt hgT bt hbt hb8 jR r1 r2 c1 c2 xs1 s2 xwr fi q6 q7 bd_16 hfi Pn_19 bd_56 H_60.size) (cwV 0 hts (kG (List.forall_mem_cons.mpr ⟨(List.mem_cons_of_mem _ (List.mem_append_left _ (List.mem_of_getElem? (i := 3) rfl))), (List.forall_mem_cons.mpr ⟨(List.mem_cons_of_mem _ (List.mem_append_left _ (List.mem_of_getElem? (i := 2) rfl))), (List.forall_mem_cons.mpr ⟨(List.mem_cons_of_mem _ (List.mem_append_left _ (List.mem_of_getElem? (i := 1) rfl))), (List.forall_mem_cons.mpr ⟨(List.mem_cons_of_mem _ (List.mem_append_left _ (List.mem_of_getElem? (i := 0) rfl))), (fun _ h => absurd h List.not_mem_nil)⟩)⟩)⟩)⟩) (kGV _ _ _ _) (fun _ h => List.mem_cons_of_mem _ (List.mem_append_right _ (List.mem_append_left _ h))) gw_s_look4x) rfl rfl rfl ⟨rfl, hd_X4_look⟩ ⟨(Nat.le_of_ble_eq_true rfl), (Nat.le_of_ble_eq_true rfl)⟩) (kW_V kT_blind kT_give (va_recv hKc hPc (ci := 4) (q0 := 0) rfl rfl) hPc hKc hDc) rfl rfl hl.1 rfl (lv_room (Nat.le_of_ble_eq_true rfl)) dX4_readSum_37 ⟨(Nat.le_of_ble_eq_true rfl), (Nat.le_of_ble_eq_true rfl)⟩) hS (fun q _ h => hFc q h) hFc (fun r_65 => kU2 (fun Pn_66 ch_67 t H_68 locs ht hvm hw hB hz1 hk1 hS => ?_))
              try dsimp only at hw
              have hPD : kPD dC dI A [(jR, .inr (4, [.ref jT, .ref r1, .ref r2, .int (nI (xwr)), .int (nI (fi)), .int (nI (Pn_66)), .ref q6, .ref q7])), (r1, .inl (c1, 120, .inl xs1)), (r2, .inl (c2, 124, .inl s2)), (jT, .inr (8, [.ref t0, .int (nI (kt))])), (t0, .inl (cC, 120, .inl gT))] H_68 := kJoinX hP hD [0, 1, 2, 3, 4] rfl hk1 hFc hB.1 ht hB.2.2 rfl [some 0, some 1, some 2, some 3, some 4] rfl rfl
              have hP := hPD.1
              have hD := hPD.2
              obtain ⟨rfl, hw_69_0, hw_69_1, hw_69_2, hw_69_3, hw_69_4, hw_69_5, hw_69_6⟩ := hw
              have e9 : Pn_19 = Pn_66 := by rw [hw_69_1, hw_22_1]; exact (kSp_sp (by omega)).symm
              have e8 : ch_20 = ch_67 := by rw [hw_69_0, hw_22_0, hw_22_1]; exact (kLk_sp (by omega)).symm
              subst e9
              subst e8
              refine lv_istore_n hx hb dX4_readSum_40 rfl hl kc_l_3_4 (kTo [(3, .int (nI (ch_20))), (2, .int (nI (i))), (0, .ref jR), (1, .int 6)]) (fun ls hl => ?_)
              refine lv_aload_n hx hb dX4_readSum_41 rfl (lv_at hl 2 rfl) ?_
              refine lv_dup hx hb dX4_readSum_42 rfl ?_
              refine va_get (D := (dC, dI)) (ci := 4) (v := .int (nI (Pn_19))) (C := RX4) (T := TX4) (N := 8) hx hb hts (fun _ h => List.mem_cons_of_mem _ (List.mem_append_right _ (List.mem_append_right _ (List.mem_append_right _ (List.mem_append_left _ h))))) hown hK hP 0 rfl rfl 5 kc_l_5_8 (hts (.fieldLink RX4 25 "NotEnded$Reader" "place" "I") (List.mem_cons_of_mem _ (List.mem_append_left _ (List.mem_of_getElem? (i := 11) rfl)))) (fun _ h9 => h9) rfl dX4_readSum_43 ?_
              refine lv_iconst (v := 1) hx hb dX4_readSum_46 kc_i_1 ?_
              refine lv_iadd hx hb dX4_readSum_47 ?_
              refine lv_topi (fun y_70 ey_70 => ?_)
              obtain rfl : y_70 = nI (Pn_19 + 1) := ey_70.trans (nI_add (Pn_19) (1))
              refine va_put (D := (dC, dI)) (ci := 4) (v := .int (nI (Pn_19 + 1))) (ty := tyX4 5) (C := RX4) (T := TX4) (N := 8) hx hb hts (fun _ h => List.mem_cons_of_mem _ (List.mem_append_right _ (List.mem_append_right _ (List.mem_append_right _ (List.mem_append_left _ h))))) tyX4 tyX4_ok nmX4 hown hK hP hD hS 0 rfl rfl 5 kc_l_5_8 (hts (.fieldLink RX4 25 "NotEnded$Reader" "place" "I") (List.mem_cons_of_mem _ (List.mem_append_left _ (List.mem_of_getElem? (i := 11) rfl)))) (fun _ h9 => h9) rfl (tyX4_ok 5 kc_l_5_8) rfl rfl (Nat.le_of_ble_eq_true rfl) dX4_readSum_48 (fun H locs hP hD hS => ?_)
              have hPD : kPD dC dI A [(jR, .inr (4, [.ref jT, .ref r1, .ref r2, .int (nI (xwr)), .int (nI (fi)), .int (nI (Pn_19 + 1)), .ref q6, .ref q7])), (r1, .inl (c1, 120, .inl xs1)), (r2, .inl (c2, 124, .inl s2)), (jT, .inr (8, [.ref t0, .int (nI (kt))])), (t0, .inl (cC, 120, .inl gT))] H := ⟨hP, hD⟩
              have hP := hPD.1
              have hD := hPD.2
              refine lv_aload_n hx hb dX4_readSum_51 rfl (lv_at hl 2 rfl) ?_
              refine lv_iload_n hx hb dX4_readSum_52 rfl (lv_at hl 3 rfl) ?_
              have bd_71 : (Pn_19 + 1) ≤ kt := by omega
              have bd_72 : xwr ≤ (Pn_19 + 1) := by omega
              have hCu := kCut (wc := [(jR, .inr (4, [.ref jT, .ref r1, .ref r2, .int (nI (xwr)), .int (nI (fi)), .int (nI (Pn_19 + 1)), .ref q6, .ref q7])), (r1, .inl (c1, 120, .inl xs1)), (r2, .inl (c2, 124, .inl s2)), (jT, .inr (8, [.ref t0, .int (nI (kt))])), (t0, .inl (cC, 120, .inl gT))]) hP hD hS hA [0, 1, 2, 3, 4] rfl kc_nd_311 rfl
              have hPc := hCu.1
              have hDc := hCu.2.1
              have hFc := hCu.2.2
              have hKc := hK.sb (tys2 := [(c1, .int), (c2, .int), (cC, .char)]) [0, 1, 2] rfl
              refine va_calli (va_runV (As := [.int 6]) (rest := []) ⟨hx, hb, hml, hown, hts⟩ (s_term4x_6 l dC dI jT t0 cC gT kt hkt hgT bt hbt hb8 jR r1 r2 c1 c2 xs1 s2 xwr fi q6 q7 bd_16 hfi (Pn_19 + 1) bd_71 bd_72 b6 n6 g6 hn6 b7 n7 g7 hn7 gn6 hz6 gn7 hz7 H.size) (cwV 1 hts (kG (List.forall_mem_cons.mpr ⟨(List.mem_cons_of_mem _ (List.mem_append_left _ (List.mem_of_getElem? (i := 28) rfl))), (List.forall_mem_cons.mpr ⟨(List.mem_cons_of_mem _ (List.mem_append_left _ (List.mem_of_getElem? (i := 27) rfl))), (List.forall_mem_cons.mpr ⟨(List.mem_cons_of_mem _ (List.mem_append_left _ (List.mem_of_getElem? (i := 26) rfl))), (List.forall_mem_cons.mpr ⟨(List.mem_cons_of_mem _ (List.mem_append_left _ (List.mem_of_getElem? (i := 0) rfl))), (fun _ h => absurd h List.not_mem_nil)⟩)⟩)⟩)⟩) (kGV _ _ _ _) (kFam (List.mem_cons_of_mem _ (List.mem_append_left _ (List.mem_of_getElem? (i := 25) rfl)))) gw_s_term4x_6) rfl rfl rfl ⟨rfl, hd_X4_readTerm⟩ ⟨(Nat.le_of_ble_eq_true rfl), (Nat.le_of_ble_eq_true rfl)⟩) (kW_V kS2_blind (kS2_give hX hS hFc) (va_recv hKc hPc (ci := 4) (q0 := 0) rfl rfl) hPc hKc hDc) rfl rfl hl.1 rfl (lv_room (Nat.le_of_ble_eq_true rfl)) dX4_readSum_53 ⟨(Nat.le_of_ble_eq_true rfl), (Nat.le_of_ble_eq_true rfl)⟩) hS (fun q _ h => hFc q h) hFc (fun r_73 => kU5 (fun S1_74 Wr_75 Pn_76 xo_77 xl_78 t H_79 locs ht hvm hw hB hz1 hk1 hS => ?_))
              try dsimp only at hw
              have hPD : kPD dC dI A [(jR, .inr (4, [.ref jT, .ref r1, .ref r2, .int (nI (Wr_75)), .int (nI (fi)), .int (nI (Pn_76)), .ref q6, .ref q7])), (r1, .inl (c1, 120, .inl S1_74)), (r2, .inl (c2, 124, .inl s2)), (jT, .inr (8, [.ref t0, .int (nI (kt))])), (t0, .inl (cC, 120, .inl gT))] H_79 := kJoinX hP hD [0, 1, 2, 3, 4] rfl hk1 hFc hB.1 ht hB.2.2 rfl [some 0, some 1, some 2, some 3, some 4] rfl rfl
              have hP := hPD.1
              have hD := hPD.2
              have hw_80 := hw
              refine lv_if_eq (tgt := 71) hx hb dX4_readSum_56 kc_t_56_15 (fun c_81 => ?_) (fun c_81 => ?_)
              · obtain rfl : xo_77 = false := kBo_f (kZr9 hw_80.1 c_81)
                have hw_80_k := hw_80.2.1.2.1
                refine lv_iconst (v := 0) hx hb dX4_readSum_71 kc_i_0 ?_
                have hP9 := hP
                have hD9 := hD
                have hK9 := hK
                rw [hQ]
                exact W.zret (v := 0) hx hb hr rfl (fun t ht hW => ⟨⟨0, (S1_74, Wr_75, Pn_76, false, ([])), rfl, ⟨rfl, kPR_f (by rw [← ivk_10_3, show 120 - i = (119 - i) + 1 by omega]; exact kLoop_f (by rw [← hw_22_0]; omega) (by rw [← hw_22_1]; exact hw_80.2.1.1)) (by omega), by omega⟩,  by rw [ht]; exact hP9, va_K.moved hW.alike hK9, hD9⟩, hS.F ht⟩) hS.2.2 dX4_readSum_72
              · obtain rfl : xo_77 = true := kBo_t (kNz9 hw_80.1 c_81)
                obtain ⟨hw_80_W, hw_80_S, hw_80_l, hw_80_p⟩ := hw_80.2.1.2.2 rfl
                have hw_80_k := hw_80.2.1.2.1
                refine lv_aload_n hx hb dX4_readSum_59 rfl (lv_at hl 2 rfl) ?_
                refine lv_sipush (v := 20000) hx hb dX4_readSum_60 kc_s_20000 ?_
                refine lv_iload_n hx hb dX4_readSum_63 rfl (lv_at hl 0 rfl) ?_
                refine lv_iadd hx hb dX4_readSum_64 ?_
                refine lv_topi (fun y_82 ey_82 => ?_)
                obtain rfl : y_82 = nI (20000 + ch_20) := ey_82.trans (nI_add (20000) (ch_20))
                have bd_83 : Wr_75 ≤ 120 := by omega
                have bd_84 : Pn_76 ≤ kt := by omega
                have bd_85 : Wr_75 < 120 := by omega
                have hCu := kCut (wc := [(jR, .inr (4, [.ref jT, .ref r1, .ref r2, .int (nI (Wr_75)), .int (nI (fi)), .int (nI (Pn_76)), .ref q6, .ref q7])), (r1, .inl (c1, 120, .inl S1_74)), (r2, .inl (c2, 124, .inl s2)), (jT, .inr (8, [.ref t0, .int (nI (kt))])), (t0, .inl (cC, 120, .inl gT))]) hP hD hS hA [0, 1, 2, 3, 4] rfl kc_nd_311 rfl
                have hPc := hCu.1
                have hDc := hCu.2.1
                have hFc := hCu.2.2
                have hKc := hK.sb (tys2 := [(c1, .int), (c2, .int), (cC, .char)]) [0, 1, 2] rfl
                refine va_calli (va_runV (As := [.int (nI (20000 + ch_20))]) (rest := []) ⟨hx, hb, hml, hown, hts⟩ (s_write4x l dC dI jT t0 cC gT kt hkt hgT bt hbt hb8 jR r1 r2 c1 c2 S1_74 s2 Wr_75 fi q6 q7 bd_83 hfi Pn_76 bd_84 (nI (20000 + ch_20)) bd_85 H_79.size) (cwV 1 hts (kG (List.forall_mem_cons.mpr ⟨(List.mem_cons_of_mem _ (List.mem_append_left _ (List.mem_of_getElem? (i := 14) rfl))), (List.forall_mem_cons.mpr ⟨(List.mem_cons_of_mem _ (List.mem_append_left _ (List.mem_of_getElem? (i := 13) rfl))), (List.forall_mem_cons.mpr ⟨(List.mem_cons_of_mem _ (List.mem_append_left _ (List.mem_of_getElem? (i := 12) rfl))), (List.forall_mem_cons.mpr ⟨(List.mem_cons_of_mem _ (List.mem_append_left _ (List.mem_of_getElem? (i := 0) rfl))), (fun _ h => absurd h List.not_mem_nil)⟩)⟩)⟩)⟩) (kGV _ _ _ _) (fun _ h => List.mem_cons_of_mem _ (List.mem_append_right _ (List.mem_append_right _ (List.mem_append_right _ (List.mem_append_right _ (List.mem_append_right _ (List.mem_append_left _ h))))))) gw_s_write4x) rfl rfl rfl ⟨rfl, hd_X4_write⟩ ⟨(Nat.le_of_ble_eq_true rfl), (Nat.le_of_ble_eq_true rfl)⟩) (kW_V kT_blind kT_give (va_recv hKc hPc (ci := 4) (q0 := 0) rfl rfl) hPc hKc hDc) rfl rfl hl.1 rfl (lv_room (Nat.le_of_ble_eq_true rfl)) dX4_readSum_65 ⟨(Nat.le_of_ble_eq_true rfl), (Nat.le_of_ble_eq_true rfl)⟩) hS (fun q _ h => hFc q h) hFc (fun r_86 => kU2 (fun S1_87 Wr_88 t H_89 locs ht hvm hw hB hz1 hk1 hS => ?_))
                try dsimp only at hw
                have hPD : kPD dC dI A [(jR, .inr (4, [.ref jT, .ref r1, .ref r2, .int (nI (Wr_88)), .int (nI (fi)), .int (nI (Pn_76)), .ref q6, .ref q7])), (r1, .inl (c1, 120, .inl S1_87)), (r2, .inl (c2, 124, .inl s2)), (jT, .inr (8, [.ref t0, .int (nI (kt))])), (t0, .inl (cC, 120, .inl gT))] H_89 := kJoinX hP hD [0, 1, 2, 3, 4] rfl hk1 hFc hB.1 ht hB.2.2 rfl [some 0, some 1, some 2, some 3, some 4] rfl rfl
                have hP := hPD.1
                have hD := hPD.2
                obtain ⟨rfl, hw_90⟩ := hw
                refine lv_if_ne (tgt := 73) hx hb dX4_readSum_68 kc_t_68_5 (fun c_91 => ?_) (fun c_91 => absurd c_91 (by decide))
                refine lv_iinc (v := nI (i + 1)) hx hb dX4_readSum_73 hl (k := 1) rfl (kInc _ 1) kc_l_2_4 (kTo [(2, .int (nI (i + 1))), (3, .int (nI (ch_20))), (0, .ref jR), (1, .int 6)]) (fun ls hl => ?_)
                refine lv_goto (tgt := 12) hx hb dX4_readSum_76 kc_t_76_m64 ?_
                exact ih_k_10 (i + 1) S1_87 Pn_76 Wr_88 (xl ++ xl_78 ++ [nI (20000 + ch_20)]) (by omega) (by omega) (by omega) (by have e9 := kLoop_t (b := bt) (n := kt) (c1 := 43) (c2 := 45) (a := kTermD bt kt g7 n7 0) (f := 120 - (i + 1)) (p := xpn) (l := xl) (by rw [← hw_22_0]; omega) (by rw [← hw_22_1]; exact hw_80.2.1.1); rw [← hw_22_0] at e9; rw [← e9, show (120 - (i + 1)) + 1 = 120 - i by omega]; exact ivk_10_3) (by simp only [List.length_append, List.length_cons, List.length_nil]; omega) (kWrt3 ivk_10_5 ivk_10_4 hw_80_S hw_80_W hw_90.2) (by simp only [List.length_append, List.length_cons, List.length_nil]; omega) (by omega) _ _ hP hD hS ls (lv_sub hl [0, 2, 3] rfl) (by omega)
    exact lp_k_10 (120 - 0 + 1) 0 S1_2 Pn_4 Wr_3 xl_6 (by omega) (by omega) (by omega) (kMany_t hw_8.2.1.1).symm hw_8_W hw_8_S hw_8_l hw_8_p _ _ hP hD hS ls (lv_sub hl [0, 1, 2] rfl) (by omega)
  · obtain rfl : xo_5 = false := kBo_f (kZr9 hw_8.1 c_9)
    have hw_8_k := hw_8.2.1.2.1
    refine lv_iconst (v := 0) hx hb dX4_readSum_8 kc_i_0 ?_
    have hP9 := hP
    have hD9 := hD
    have hK9 := hK
    rw [hQ]
    exact W.zret (v := 0) hx hb hr rfl (fun t ht hW => ⟨⟨0, (S1_2, Wr_3, Pn_4, false, ([])), rfl, ⟨rfl, kPR_f (kMany_f hw_8.2.1.1) (by omega), by omega⟩,  by rw [ht]; exact hP9, va_K.moved hW.alike hK9, hD9⟩, hS.F ht⟩) hS.2.2 dX4_readSum_9

theorem dX4_readUnit_0 : decode cX4_readUnit 0 = .ok (.iload_n 2, 1) := kDs0 kf_28 (by decide +kernel)
theorem dX4_readUnit_1 : decode cX4_readUnit 1 = .ok (.ifCond .ne 99, 3) := kDs4 kf_154 (by decide +kernel)
theorem dX4_readUnit_4 : decode cX4_readUnit 4 = .ok (.aload_n 0, 1) := kDs0 kf_42 (by decide +kernel)
theorem dX4_readUnit_5 : decode cX4_readUnit 5 = .ok (.invokevirtual 53, 3) := kDs2 kf_182 (by decide +kernel)
theorem dX4_readUnit_8 : decode cX4_readUnit 8 = .ok (.istore_n 3, 1) := kDs0 kf_62 (by decide +kernel)
theorem dX4_readUnit_9 : decode cX4_readUnit 9 = .ok (.iload_n 3, 1) := kDs0 kf_29 (by decide +kernel)
theorem dX4_readUnit_10 : decode cX4_readUnit 10 = .ok (.bipush 33, 2) := kDs3 kf_16 (by decide +kernel)
theorem dX4_readUnit_12 : decode cX4_readUnit 12 = .ok (.if_icmp .ne 38, 3) := kDs4 kf_160 (by decide +kernel)
theorem dX4_readUnit_50 : decode cX4_readUnit 50 = .ok (.iload_n 3, 1) := kDs0 kf_29 (by decide +kernel)
theorem dX4_readUnit_51 : decode cX4_readUnit 51 = .ok (.bipush 40, 2) := kDs3 kf_16 (by decide +kernel)
theorem dX4_readUnit_53 : decode cX4_readUnit 53 = .ok (.if_icmp .ne 37, 3) := kDs4 kf_160 (by decide +kernel)
theorem dX4_readUnit_90 : decode cX4_readUnit 90 = .ok (.aload_n 0, 1) := kDs0 kf_42 (by decide +kernel)
theorem dX4_readUnit_91 : decode cX4_readUnit 91 = .ok (.iload_n 1, 1) := kDs0 kf_27 (by decide +kernel)
theorem dX4_readUnit_92 : decode cX4_readUnit 92 = .ok (.invokevirtual 78, 3) := kDs2 kf_182 (by decide +kernel)
theorem dX4_readUnit_95 : decode cX4_readUnit 95 = .ok (.ifCond .ne 5, 3) := kDs4 kf_154 (by decide +kernel)
theorem dX4_readUnit_100 : decode cX4_readUnit 100 = .ok (.aload_n 0, 1) := kDs0 kf_42 (by decide +kernel)
theorem dX4_readUnit_101 : decode cX4_readUnit 101 = .ok (.invokevirtual 53, 3) := kDs2 kf_182 (by decide +kernel)
theorem dX4_readUnit_104 : decode cX4_readUnit 104 = .ok (.istore_n 3, 1) := kDs0 kf_62 (by decide +kernel)
theorem dX4_readUnit_105 : decode cX4_readUnit 105 = .ok (.iload_n 3, 1) := kDs0 kf_29 (by decide +kernel)
theorem dX4_readUnit_106 : decode cX4_readUnit 106 = .ok (.invokestatic 82, 3) := kDs2 kf_184 (by decide +kernel)
theorem dX4_readUnit_109 : decode cX4_readUnit 109 = .ok (.ifCond .ne 5, 3) := kDs4 kf_154 (by decide +kernel)
theorem dX4_readUnit_114 : decode cX4_readUnit 114 = .ok (.aload_n 0, 1) := kDs0 kf_42 (by decide +kernel)
theorem dX4_readUnit_115 : decode cX4_readUnit 115 = .ok (.dup, 1) := kDs0 kf_89 (by decide +kernel)
theorem dX4_readUnit_116 : decode cX4_readUnit 116 = .ok (.getfield 25, 3) := kDs2 kf_180 (by decide +kernel)
theorem dX4_readUnit_119 : decode cX4_readUnit 119 = .ok (.iconst 1, 1) := kDs0 kf_4 (by decide +kernel)
theorem dX4_readUnit_120 : decode cX4_readUnit 120 = .ok (.iadd, 1) := kDs0 kf_96 (by decide +kernel)
theorem dX4_readUnit_121 : decode cX4_readUnit 121 = .ok (.putfield 25, 3) := kDs2 kf_181 (by decide +kernel)
theorem dX4_readUnit_124 : decode cX4_readUnit 124 = .ok (.aload_n 0, 1) := kDs0 kf_42 (by decide +kernel)
theorem dX4_readUnit_125 : decode cX4_readUnit 125 = .ok (.iload_n 1, 1) := kDs0 kf_27 (by decide +kernel)
theorem dX4_readUnit_126 : decode cX4_readUnit 126 = .ok (.invokevirtual 78, 3) := kDs2 kf_182 (by decide +kernel)
theorem dX4_readUnit_129 : decode cX4_readUnit 129 = .ok (.ifCond .eq 19, 3) := kDs4 kf_153 (by decide +kernel)
theorem dX4_readUnit_148 : decode cX4_readUnit 148 = .ok (.iconst 0, 1) := kDs0 kf_3 (by decide +kernel)
theorem dX4_readUnit_149 : decode cX4_readUnit 149 = .ok (.ireturn, 1) := kDs0 kf_172 (by decide +kernel)
theorem dX4_readUnit_132 : decode cX4_readUnit 132 = .ok (.aload_n 0, 1) := kDs0 kf_42 (by decide +kernel)
theorem dX4_readUnit_133 : decode cX4_readUnit 133 = .ok (.sipush 20000, 3) := kDs4 kf_17 (by decide +kernel)
theorem dX4_readUnit_136 : decode cX4_readUnit 136 = .ok (.iload_n 3, 1) := kDs0 kf_29 (by decide +kernel)
theorem dX4_readUnit_137 : decode cX4_readUnit 137 = .ok (.iadd, 1) := kDs0 kf_96 (by decide +kernel)
theorem dX4_readUnit_138 : decode cX4_readUnit 138 = .ok (.invokevirtual 96, 3) := kDs2 kf_182 (by decide +kernel)
theorem dX4_readUnit_141 : decode cX4_readUnit 141 = .ok (.ifCond .eq 7, 3) := kDs4 kf_153 (by decide +kernel)
theorem dX4_readUnit_144 : decode cX4_readUnit 144 = .ok (.iconst 1, 1) := kDs0 kf_4 (by decide +kernel)
theorem dX4_readUnit_145 : decode cX4_readUnit 145 = .ok (.goto 4, 3) := kDs4 kf_167 (by decide +kernel)
theorem dX4_readUnit_112 : decode cX4_readUnit 112 = .ok (.iconst 0, 1) := kDs0 kf_3 (by decide +kernel)
theorem dX4_readUnit_113 : decode cX4_readUnit 113 = .ok (.ireturn, 1) := kDs0 kf_172 (by decide +kernel)
theorem dX4_readUnit_98 : decode cX4_readUnit 98 = .ok (.iconst 0, 1) := kDs0 kf_3 (by decide +kernel)
theorem dX4_readUnit_99 : decode cX4_readUnit 99 = .ok (.ireturn, 1) := kDs0 kf_172 (by decide +kernel)
theorem dX4_readUnit_56 : decode cX4_readUnit 56 = .ok (.aload_n 0, 1) := kDs0 kf_42 (by decide +kernel)
theorem dX4_readUnit_57 : decode cX4_readUnit 57 = .ok (.iload_n 1, 1) := kDs0 kf_27 (by decide +kernel)
theorem dX4_readUnit_58 : decode cX4_readUnit 58 = .ok (.invokevirtual 102, 3) := kDs2 kf_182 (by decide +kernel)
theorem dX4_readUnit_61 : decode cX4_readUnit 61 = .ok (.ifCond .eq 27, 3) := kDs4 kf_153 (by decide +kernel)
theorem dX4_readUnit_88 : decode cX4_readUnit 88 = .ok (.iconst 0, 1) := kDs0 kf_3 (by decide +kernel)
theorem dX4_readUnit_89 : decode cX4_readUnit 89 = .ok (.ireturn, 1) := kDs0 kf_172 (by decide +kernel)
theorem dX4_readUnit_15 : decode cX4_readUnit 15 = .ok (.aload_n 0, 1) := kDs0 kf_42 (by decide +kernel)
theorem dX4_readUnit_16 : decode cX4_readUnit 16 = .ok (.iload_n 1, 1) := kDs0 kf_27 (by decide +kernel)
theorem dX4_readUnit_17 : decode cX4_readUnit 17 = .ok (.invokevirtual 102, 3) := kDs2 kf_182 (by decide +kernel)
theorem dX4_readUnit_20 : decode cX4_readUnit 20 = .ok (.ifCond .eq 28, 3) := kDs4 kf_153 (by decide +kernel)
theorem dX4_readUnit_48 : decode cX4_readUnit 48 = .ok (.iconst 0, 1) := kDs0 kf_3 (by decide +kernel)
theorem dX4_readUnit_49 : decode cX4_readUnit 49 = .ok (.ireturn, 1) := kDs0 kf_172 (by decide +kernel)
def w_s_unit4x_6_0 : List Cond := .code yX4_readUnit cX4_readUnit 4 (some .boolean) :: wf_rq
theorem gw_s_unit4x_6_0 : (w_s_unit4x_6_0).all goodWord = true := kFamG rfl gf_rq
theorem hd_X4_readUnit : yX4_readUnit.cls ≠ "java/lang/invoke/MethodHandle" ∧ yX4_readUnit.cls ≠ "java/lang/invoke/VarHandle" ∧ (parseMethodDescriptor yX4_readUnit.desc).map (fun d => d.parameters.length) = some 2 := by decide +kernel
set_option maxHeartbeats 4000000 in
set_option maxRecDepth 100000 in
theorem s_unit4x_6_0 (l : Launch) (dC : Nat → ClassId) (dI : Nat → Nat → Nat) (jT : Nat) (t0 : Nat) (cC : ClassId) (gT : Nat → Int32) (kt : Nat) (hkt : kt ≤ 120) (hgT : ∀ j : Nat, narrow .char (.int (gT j)) = .int (gT j)) (bt : Nat → Nat) (hbt : ∀ j : Nat, gT j = nI (bt j)) (hb8 : ∀ j : Nat, bt j < 256) (jR : Nat) (r1 : Nat) (r2 : Nat) (c1 : ClassId) (c2 : ClassId) (s1 : Nat → Int32) (s2 : Nat → Int32) (wr : Nat) (fi : Nat) (q6 : Nat) (q7 : Nat) (hwr : wr ≤ 120) (hfi : fi ≤ 124) (pn : Nat) (hpn : pn ≤ kt) (hwp : wr ≤ pn) (b6 : Nat) (n6 : Nat) (g6 : Nat → Int32) (hn6 : n6 ≤ 8) (b7 : Nat) (n7 : Nat) (g7 : Nat → Int32) (hn7 : n7 ≤ 8) (gn6 : ∀ k : Nat, ∃ v : Nat, v < 128 ∧ g6 k = nI v) (hz6 : kIx g6 n6 (nI 0) = n6) (gn7 : ∀ k : Nat, ∃ v : Nat, v < 128 ∧ g7 k = nI v) (hz7 : kIx g7 n7 (nI 0) = n7) (sz : Nat) : Met l yX4_readUnit w_s_unit4x_6_0 ({ frames := 9, cells := 0, slots := 0, locals := 540 }) (kW dC dI [.ref jR, .int 6, .int 0] [(jR, .inr (4, [.ref jT, .ref r1, .ref r2, .int (nI (wr)), .int (nI (fi)), .int (nI (pn)), .ref q6, .ref q7])), (r1, .inl (c1, 120, .inl s1)), (r2, .inl (c2, 124, .inl s2)), (jT, .inr (8, [.ref t0, .int (nI (kt))])), (t0, .inl (cC, 120, .inl gT))] [(c1, .int), (c2, .int), (cC, .char)] (kS2 q6 b6 n6 g6 q7 b7 n7 g7 (va_A [(jR, .inr (4, [.ref jT, .ref r1, .ref r2, .int (nI (wr)), .int (nI (fi)), .int (nI (pn)), .ref q6, .ref q7])), (r1, .inl (c1, 120, .inl s1)), (r2, .inl (c2, 124, .inl s2)), (jT, .inr (8, [.ref t0, .int (nI (kt))])), (t0, .inl (cC, 120, .inl gT))] sz)) sz) (va_Qi (fun (r : Int32) (u : (Nat → Int32) × Nat × Nat × Bool × (List Int32)) => match u with | (S1, Wr, Pn, xo, xl) => (r = kBo xo ∧ kPR (kUnitD bt kt g7 n7 0 pn) pn kt wr s1 xo Pn xl Wr S1 ∧ Wr ≤ 120)) (fun (u : (Nat → Int32) × Nat × Nat × Bool × (List Int32)) => match u with | (S1, Wr, Pn, xo, xl) => fun t : State => kB dC dI [(jR, .inr (4, [.ref jT, .ref r1, .ref r2, .int (nI (Wr)), .int (nI (fi)), .int (nI (Pn)), .ref q6, .ref q7])), (r1, .inl (c1, 120, .inl S1)), (r2, .inl (c2, 124, .inl s2)), (jT, .inr (8, [.ref t0, .int (nI (kt))])), (t0, .inl (cC, 120, .inl gT))] [(c1, .int), (c2, .int), (cC, .char)] (va_A [(jR, .inr (4, [.ref jT, .ref r1, .ref r2, .int (nI (wr)), .int (nI (fi)), .int (nI (pn)), .ref q6, .ref q7])), (r1, .inl (c1, 120, .inl s1)), (r2, .inl (c2, 124, .inl s2)), (jT, .inr (8, [.ref t0, .int (nI (kt))])), (t0, .inl (cC, 120, .inl gT))] sz) t) (va_A [(jR, .inr (4, [.ref jT, .ref r1, .ref r2, .int (nI (wr)), .int (nI (fi)), .int (nI (pn)), .ref q6, .ref q7])), (r1, .inl (c1, 120, .inl s1)), (r2, .inl (c2, 124, .inl s2)), (jT, .inr (8, [.ref t0, .int (nI (kt))])), (t0, .inl (cC, 120, .inl gT))] sz)) 0 0 (va_A [(jR, .inr (4, [.ref jT, .ref r1, .ref r2, .int (nI (wr)), .int (nI (fi)), .int (nI (pn)), .ref q6, .ref q7])), (r1, .inl (c1, 120, .inl s1)), (r2, .inl (c2, 124, .inl s2)), (jT, .inr (8, [.ref t0, .int (nI (kt))])), (t0, .inl (cC, 120, .inl gT))] sz) := by
  refine Met.ofW (cc := cX4_readUnit) (maxL := 4) (ret := (some .boolean)) (by decide) rfl ?_
  intro p e s m args below meth c s₁ B hml hv
  obtain ⟨rfl, hsz, hP, hK, hD0, hX⟩ := hv
  have hx := B.exec
  have hb := B.bytes
  have hr := B.returns
  have hts := atoms_spec (ws := w_s_unit4x_6_0) B.pre
  have hown : s.vm.findClass RX4 = some m.cls := findClass_of_methodNamed B.named
  have hlocks := B.notSynchronized
  subst hsz
  have hD := hD0.self (sz := s.heap.size)
  generalize hAe : va_A [(jR, .inr (4, [.ref jT, .ref r1, .ref r2, .int (nI (wr)), .int (nI (fi)), .int (nI (pn)), .ref q6, .ref q7])), (r1, .inl (c1, 120, .inl s1)), (r2, .inl (c2, 124, .inl s2)), (jT, .inr (8, [.ref t0, .int (nI (kt))])), (t0, .inl (cC, 120, .inl gT))] s.heap.size = A at hD hX ⊢
  have hA : ∀ q : Nat, s.heap.size ≤ q → A q := fun q h => by rw [← hAe]; exact Or.inr h
  have hS : va_S A s.heap s.heap [] := va_S.rf
  have hP : va_P (dC, dI) vwCl [(jR, .inr (4, [.ref jT, .ref r1, .ref r2, .int (nI (wr)), .int (nI (fi)), .int (nI (pn)), .ref q6, .ref q7])), (r1, .inl (c1, 120, .inl s1)), (r2, .inl (c2, 124, .inl s2)), (jT, .inr (8, [.ref t0, .int (nI (kt))])), (t0, .inl (cC, 120, .inl gT))] s.heap := hP
  have hl := lv_entry ([.ref jR, .int 6, .int 0]) (n := 4) (Nat.le_of_ble_eq_true rfl)
  rw [lg_entry_eq]
  generalize (lg_sl ([.ref jR, .int 6, .int 0]) ++ List.replicate (4 - (lg_sl ([.ref jR, .int 6, .int 0])).length) Slot.unset).toArray = ls at hl ⊢
  have hl : lv_has ls 4 [(0, .ref jR), (1, .int 6), (2, .int 0)] := hl
  refine kQ (fun Q hQ => ?_)
  refine lv_iload_n hx hb dX4_readUnit_0 rfl (lv_at hl 2 rfl) ?_
  refine lv_if_ne (tgt := 100) hx hb dX4_readUnit_1 kc_t_1_99 (fun c_1 => absurd (by decide) c_1) (fun c_1 => ?_)
  refine lv_aload_n hx hb dX4_readUnit_4 rfl (lv_at hl 0 rfl) ?_
  have hCu := kCut (wc := [(jR, .inr (4, [.ref jT, .ref r1, .ref r2, .int (nI (wr)), .int (nI (fi)), .int (nI (pn)), .ref q6, .ref q7])), (r1, .inl (c1, 120, .inl s1)), (r2, .inl (c2, 124, .inl s2)), (jT, .inr (8, [.ref t0, .int (nI (kt))])), (t0, .inl (cC, 120, .inl gT))]) hP hD hS hA [0, 1, 2, 3, 4] rfl kc_nd_311 rfl
  have hPc := hCu.1
  have hDc := hCu.2.1
  have hFc := hCu.2.2
  have hKc := hK.sb (tys2 := [(c1, .int), (c2, .int), (cC, .char)]) [0, 1, 2] rfl
  refine va_calli (va_runV (As := []) (rest := []) ⟨hx, hb, hml, hown, hts⟩ (s_look4x l dC dI jT t0 cC gT kt hkt hgT bt hbt hb8 jR r1 r2 c1 c2 s1 s2 wr fi q6 q7 hwr hfi pn hpn s.heap.size) (cwV 0 hts (kG (List.forall_mem_cons.mpr ⟨(List.mem_cons_of_mem _ (List.mem_append_left _ (List.mem_of_getElem? (i := 3) rfl))), (List.forall_mem_cons.mpr ⟨(List.mem_cons_of_mem _ (List.mem_append_left _ (List.mem_of_getElem? (i := 2) rfl))), (List.forall_mem_cons.mpr ⟨(List.mem_cons_of_mem _ (List.mem_append_left _ (List.mem_of_getElem? (i := 1) rfl))), (List.forall_mem_cons.mpr ⟨(List.mem_cons_of_mem _ (List.mem_append_left _ (List.mem_of_getElem? (i := 0) rfl))), (fun _ h => absurd h List.not_mem_nil)⟩)⟩)⟩)⟩) (kGV _ _ _ _) (fun _ h => List.mem_cons_of_mem _ (List.mem_append_right _ (List.mem_append_left _ h))) gw_s_look4x) rfl rfl rfl ⟨rfl, hd_X4_look⟩ ⟨(Nat.le_of_ble_eq_true rfl), (Nat.le_of_ble_eq_true rfl)⟩) (kW_V kT_blind kT_give (va_recv hKc hPc (ci := 4) (q0 := 0) rfl rfl) hPc hKc hDc) rfl rfl hl.1 rfl (lv_room (Nat.le_of_ble_eq_true rfl)) dX4_readUnit_5 ⟨(Nat.le_of_ble_eq_true rfl), (Nat.le_of_ble_eq_true rfl)⟩) hS (fun q _ h => hFc q h) hFc (fun r_2 => kU2 (fun Pn_3 ch_4 t H_5 locs ht hvm hw hB hz1 hk1 hS => ?_))
  try dsimp only at hw
  have hPD : kPD dC dI A [(jR, .inr (4, [.ref jT, .ref r1, .ref r2, .int (nI (wr)), .int (nI (fi)), .int (nI (Pn_3)), .ref q6, .ref q7])), (r1, .inl (c1, 120, .inl s1)), (r2, .inl (c2, 124, .inl s2)), (jT, .inr (8, [.ref t0, .int (nI (kt))])), (t0, .inl (cC, 120, .inl gT))] H_5 := kJoinX hP hD [0, 1, 2, 3, 4] rfl hk1 hFc hB.1 ht hB.2.2 rfl [some 0, some 1, some 2, some 3, some 4] rfl rfl
  have hP := hPD.1
  have hD := hPD.2
  obtain ⟨rfl, hw_6_0, hw_6_1, hw_6_2, hw_6_3, hw_6_4, hw_6_5, hw_6_6⟩ := hw
  refine lv_istore_n hx hb dX4_readUnit_8 rfl hl kc_l_3_4 (kTo [(3, .int (nI (ch_4))), (0, .ref jR), (1, .int 6), (2, .int 0)]) (fun ls hl => ?_)
  refine lv_iload_n hx hb dX4_readUnit_9 rfl (lv_at hl 0 rfl) ?_
  refine lv_bipush (v := 33) hx hb dX4_readUnit_10 kc_b_33 ?_
  refine lv_icmp_ne (tgt := 50) hx hb dX4_readUnit_12 kc_t_12_38 (fun c_7 => ?_) (fun c_7 => ?_)
  · have bd_9 : ch_4 < 2147483648 := by omega
    have hn_8 := kneq (a := ch_4) (b := 33) bd_9 kc_31_33 c_7
    refine lv_iload_n hx hb dX4_readUnit_50 rfl (lv_at hl 0 rfl) ?_
    refine lv_bipush (v := 40) hx hb dX4_readUnit_51 kc_b_40 ?_
    refine lv_icmp_ne (tgt := 90) hx hb dX4_readUnit_53 kc_t_53_37 (fun c_10 => ?_) (fun c_10 => ?_)
    · have hn_11 := kneq (a := ch_4) (b := 40) bd_9 kc_31_40 c_10
      refine lv_aload_n hx hb dX4_readUnit_90 rfl (lv_at hl 1 rfl) ?_
      refine lv_iload_n hx hb dX4_readUnit_91 rfl (lv_at hl 2 rfl) ?_
      have bd_12 : Pn_3 ≤ kt := by omega
      have bd_13 : wr ≤ Pn_3 := by omega
      have hCu := kCut (wc := [(jR, .inr (4, [.ref jT, .ref r1, .ref r2, .int (nI (wr)), .int (nI (fi)), .int (nI (Pn_3)), .ref q6, .ref q7])), (r1, .inl (c1, 120, .inl s1)), (r2, .inl (c2, 124, .inl s2)), (jT, .inr (8, [.ref t0, .int (nI (kt))])), (t0, .inl (cC, 120, .inl gT))]) hP hD hS hA [0, 1, 2, 3, 4] rfl kc_nd_311 rfl
      have hPc := hCu.1
      have hDc := hCu.2.1
      have hFc := hCu.2.2
      have hKc := hK.sb (tys2 := [(c1, .int), (c2, .int), (cC, .char)]) [0, 1, 2] rfl
      refine va_calli (va_runV (As := [.int 6]) (rest := []) ⟨hx, hb, hml, hown, hts⟩ (s_sum4x_6 l dC dI jT t0 cC gT kt hkt hgT bt hbt hb8 jR r1 r2 c1 c2 s1 s2 wr fi q6 q7 hwr hfi Pn_3 bd_12 bd_13 b6 n6 g6 hn6 b7 n7 g7 hn7 gn6 hz6 gn7 hz7 H_5.size) (cwV 1 hts (kG (List.forall_mem_cons.mpr ⟨(List.mem_cons_of_mem _ (List.mem_append_left _ (List.mem_of_getElem? (i := 32) rfl))), (List.forall_mem_cons.mpr ⟨(List.mem_cons_of_mem _ (List.mem_append_left _ (List.mem_of_getElem? (i := 31) rfl))), (List.forall_mem_cons.mpr ⟨(List.mem_cons_of_mem _ (List.mem_append_left _ (List.mem_of_getElem? (i := 30) rfl))), (List.forall_mem_cons.mpr ⟨(List.mem_cons_of_mem _ (List.mem_append_left _ (List.mem_of_getElem? (i := 0) rfl))), (fun _ h => absurd h List.not_mem_nil)⟩)⟩)⟩)⟩) (kGV _ _ _ _) (kFam (List.mem_cons_of_mem _ (List.mem_append_left _ (List.mem_of_getElem? (i := 29) rfl)))) gw_s_sum4x_6) rfl rfl rfl ⟨rfl, hd_X4_readSum⟩ ⟨(Nat.le_of_ble_eq_true rfl), (Nat.le_of_ble_eq_true rfl)⟩) (kW_V kS2_blind (kS2_give hX hS hFc) (va_recv hKc hPc (ci := 4) (q0 := 0) rfl rfl) hPc hKc hDc) rfl rfl hl.1 rfl (lv_room (Nat.le_of_ble_eq_true rfl)) dX4_readUnit_92 ⟨(Nat.le_of_ble_eq_true rfl), (Nat.le_of_ble_eq_true rfl)⟩) hS (fun q _ h => hFc q h) hFc (fun r_14 => kU5 (fun S1_15 Wr_16 Pn_17 xo_18 xl_19 t H_20 locs ht hvm hw hB hz1 hk1 hS => ?_))
      try dsimp only at hw
      have hPD : kPD dC dI A [(jR, .inr (4, [.ref jT, .ref r1, .ref r2, .int (nI (Wr_16)), .int (nI (fi)), .int (nI (Pn_17)), .ref q6, .ref q7])), (r1, .inl (c1, 120, .inl S1_15)), (r2, .inl (c2, 124, .inl s2)), (jT, .inr (8, [.ref t0, .int (nI (kt))])), (t0, .inl (cC, 120, .inl gT))] H_20 := kJoinX hP hD [0, 1, 2, 3, 4] rfl hk1 hFc hB.1 ht hB.2.2 rfl [some 0, some 1, some 2, some 3, some 4] rfl rfl
      have hP := hPD.1
      have hD := hPD.2
      have hw_21 := hw
      refine lv_if_ne (tgt := 100) hx hb dX4_readUnit_95 kc_t_95_5 (fun c_22 => ?_) (fun c_22 => ?_)
      · obtain rfl : xo_18 = true := kBo_t (kNz9 hw_21.1 c_22)
        obtain ⟨hw_21_W, hw_21_S, hw_21_l, hw_21_p⟩ := hw_21.2.1.2.2 rfl
        have hw_21_k := hw_21.2.1.2.1
        refine lv_aload_n hx hb dX4_readUnit_100 rfl (lv_at hl 1 rfl) ?_
        have bd_23 : Wr_16 ≤ 120 := by omega
        have bd_24 : Pn_17 ≤ kt := by omega
        have hCu := kCut (wc := [(jR, .inr (4, [.ref jT, .ref r1, .ref r2, .int (nI (Wr_16)), .int (nI (fi)), .int (nI (Pn_17)), .ref q6, .ref q7])), (r1, .inl (c1, 120, .inl S1_15)), (r2, .inl (c2, 124, .inl s2)), (jT, .inr (8, [.ref t0, .int (nI (kt))])), (t0, .inl (cC, 120, .inl gT))]) hP hD hS hA [0, 1, 2, 3, 4] rfl kc_nd_311 rfl
        have hPc := hCu.1
        have hDc := hCu.2.1
        have hFc := hCu.2.2
        have hKc := hK.sb (tys2 := [(c1, .int), (c2, .int), (cC, .char)]) [0, 1, 2] rfl
        refine va_calli (va_runV (As := []) (rest := []) ⟨hx, hb, hml, hown, hts⟩ (s_look4x l dC dI jT t0 cC gT kt hkt hgT bt hbt hb8 jR r1 r2 c1 c2 S1_15 s2 Wr_16 fi q6 q7 bd_23 hfi Pn_17 bd_24 H_20.size) (cwV 0 hts (kG (List.forall_mem_cons.mpr ⟨(List.mem_cons_of_mem _ (List.mem_append_left _ (List.mem_of_getElem? (i := 3) rfl))), (List.forall_mem_cons.mpr ⟨(List.mem_cons_of_mem _ (List.mem_append_left _ (List.mem_of_getElem? (i := 2) rfl))), (List.forall_mem_cons.mpr ⟨(List.mem_cons_of_mem _ (List.mem_append_left _ (List.mem_of_getElem? (i := 1) rfl))), (List.forall_mem_cons.mpr ⟨(List.mem_cons_of_mem _ (List.mem_append_left _ (List.mem_of_getElem? (i := 0) rfl))), (fun _ h => absurd h List.not_mem_nil)⟩)⟩)⟩)⟩) (kGV _ _ _ _) (fun _ h => List.mem_cons_of_mem _ (List.mem_append_right _ (List.mem_append_left _ h))) gw_s_look4x) rfl rfl rfl ⟨rfl, hd_X4_look⟩ ⟨(Nat.le_of_ble_eq_true rfl), (Nat.le_of_ble_eq_true rfl)⟩) (kW_V kT_blind kT_give (va_recv hKc hPc (ci := 4) (q0 := 0) rfl rfl) hPc hKc hDc) rfl rfl hl.1 rfl (lv_room (Nat.le_of_ble_eq_true rfl)) dX4_readUnit_101 ⟨(Nat.le_of_ble_eq_true rfl), (Nat.le_of_ble_eq_true rfl)⟩) hS (fun q _ h => hFc q h) hFc (fun r_25 => kU2 (fun Pn_26 ch_27 t H_28 locs ht hvm hw hB hz1 hk1 hS => ?_))
        try dsimp only at hw
        have hPD : kPD dC dI A [(jR, .inr (4, [.ref jT, .ref r1, .ref r2, .int (nI (Wr_16)), .int (nI (fi)), .int (nI (Pn_26)), .ref q6, .ref q7])), (r1, .inl (c1, 120, .inl S1_15)), (r2, .inl (c2, 124, .inl s2)), (jT, .inr (8, [.ref t0, .int (nI (kt))])), (t0, .inl (cC, 120, .inl gT))] H_28 := kJoinX hP hD [0, 1, 2, 3, 4] rfl hk1 hFc hB.1 ht hB.2.2 rfl [some 0, some 1, some 2, some 3, some 4] rfl rfl
        have hP := hPD.1
        have hD := hPD.2
        obtain ⟨rfl, hw_29_0, hw_29_1, hw_29_2, hw_29_3, hw_29_4, hw_29_5, hw_29_6⟩ := hw
        refine lv_istore_n hx hb dX4_readUnit_104 rfl hl kc_l_3_4 (kTo [(3, .int (nI (ch_27))), (0, .ref jR), (1, .int 6), (2, .int 0)]) (fun ls hl => ?_)
        refine lv_iload_n hx hb dX4_readUnit_105 rfl (lv_at hl 0 rfl) ?_
        have bd_30 : ch_27 < 256 := by omega
        have hPc := hP.sb (ws2 := []) [] rfl
        have hKc := hK.sb (tys2 := []) [] rfl
        refine vp_callSi (va_runS (As := [.int (nI (ch_27))]) (rest := []) ⟨hx, hb, hml, hown, hts⟩ (s_comp4x l dC dI ch_27 bd_30) (va_cwS 1 hts (kG (List.forall_mem_cons.mpr ⟨(List.mem_cons_of_mem _ (List.mem_append_left _ (List.mem_of_getElem? (i := 34) rfl))), (List.forall_mem_cons.mpr ⟨(List.mem_cons_of_mem _ (List.mem_append_left _ (List.mem_of_getElem? (i := 33) rfl))), (List.forall_mem_cons.mpr ⟨(List.mem_cons_of_mem _ (List.mem_append_left _ (List.mem_of_getElem? (i := 0) rfl))), (fun _ h => absurd h List.not_mem_nil)⟩)⟩)⟩) (kGS _ _ _) (fun _ h => List.mem_cons_of_mem _ (List.mem_append_right _ (List.mem_append_right _ (List.mem_append_right _ (List.mem_append_right _ (List.mem_append_right _ (List.mem_append_right _ (List.mem_append_right _ (List.mem_append_right _ (List.mem_append_left _ h)))))))))) gw_s_comp4x) rfl rfl rfl hd_X4_isComparison ⟨(Nat.le_of_ble_eq_true rfl), (Nat.le_of_ble_eq_true rfl)⟩) (kR_S kT_blind kT_give hPc hKc) rfl rfl hl.1 rfl (lv_room (Nat.le_of_ble_eq_true rfl)) dX4_readUnit_106 ⟨(Nat.le_of_ble_eq_true rfl), (Nat.le_of_ble_eq_true rfl)⟩).run (fun r_31 hw => ?_)
        have hw_32 := hw
        refine lv_if_ne (tgt := 114) hx hb dX4_readUnit_109 kc_t_109_5 (fun c_33 => ?_) (fun c_33 => ?_)
        · have hcp := hw_32.mp c_33
          refine lv_aload_n hx hb dX4_readUnit_114 rfl (lv_at hl 1 rfl) ?_
          refine lv_dup hx hb dX4_readUnit_115 rfl ?_
          refine va_get (D := (dC, dI)) (ci := 4) (v := .int (nI (Pn_26))) (C := RX4) (T := TX4) (N := 8) hx hb hts (fun _ h => List.mem_cons_of_mem _ (List.mem_append_right _ (List.mem_append_right _ (List.mem_append_right _ (List.mem_append_left _ h))))) hown hK hP 0 rfl rfl 5 kc_l_5_8 (hts (.fieldLink RX4 25 "NotEnded$Reader" "place" "I") (List.mem_cons_of_mem _ (List.mem_append_left _ (List.mem_of_getElem? (i := 11) rfl)))) (fun _ h9 => h9) rfl dX4_readUnit_116 ?_
          refine lv_iconst (v := 1) hx hb dX4_readUnit_119 kc_i_1 ?_
          refine lv_iadd hx hb dX4_readUnit_120 ?_
          refine lv_topi (fun y_34 ey_34 => ?_)
          obtain rfl : y_34 = nI (Pn_26 + 1) := ey_34.trans (nI_add (Pn_26) (1))
          refine va_put (D := (dC, dI)) (ci := 4) (v := .int (nI (Pn_26 + 1))) (ty := tyX4 5) (C := RX4) (T := TX4) (N := 8) hx hb hts (fun _ h => List.mem_cons_of_mem _ (List.mem_append_right _ (List.mem_append_right _ (List.mem_append_right _ (List.mem_append_left _ h))))) tyX4 tyX4_ok nmX4 hown hK hP hD hS 0 rfl rfl 5 kc_l_5_8 (hts (.fieldLink RX4 25 "NotEnded$Reader" "place" "I") (List.mem_cons_of_mem _ (List.mem_append_left _ (List.mem_of_getElem? (i := 11) rfl)))) (fun _ h9 => h9) rfl (tyX4_ok 5 kc_l_5_8) rfl rfl (Nat.le_of_ble_eq_true rfl) dX4_readUnit_121 (fun H locs hP hD hS => ?_)
          have hPD : kPD dC dI A [(jR, .inr (4, [.ref jT, .ref r1, .ref r2, .int (nI (Wr_16)), .int (nI (fi)), .int (nI (Pn_26 + 1)), .ref q6, .ref q7])), (r1, .inl (c1, 120, .inl S1_15)), (r2, .inl (c2, 124, .inl s2)), (jT, .inr (8, [.ref t0, .int (nI (kt))])), (t0, .inl (cC, 120, .inl gT))] H := ⟨hP, hD⟩
          have hP := hPD.1
          have hD := hPD.2
          refine lv_aload_n hx hb dX4_readUnit_124 rfl (lv_at hl 1 rfl) ?_
          refine lv_iload_n hx hb dX4_readUnit_125 rfl (lv_at hl 2 rfl) ?_
          have bd_35 : (Pn_26 + 1) ≤ kt := by omega
          have bd_36 : Wr_16 ≤ (Pn_26 + 1) := by omega
          have hCu := kCut (wc := [(jR, .inr (4, [.ref jT, .ref r1, .ref r2, .int (nI (Wr_16)), .int (nI (fi)), .int (nI (Pn_26 + 1)), .ref q6, .ref q7])), (r1, .inl (c1, 120, .inl S1_15)), (r2, .inl (c2, 124, .inl s2)), (jT, .inr (8, [.ref t0, .int (nI (kt))])), (t0, .inl (cC, 120, .inl gT))]) hP hD hS hA [0, 1, 2, 3, 4] rfl kc_nd_311 rfl
          have hPc := hCu.1
          have hDc := hCu.2.1
          have hFc := hCu.2.2
          have hKc := hK.sb (tys2 := [(c1, .int), (c2, .int), (cC, .char)]) [0, 1, 2] rfl
          refine va_calli (va_runV (As := [.int 6]) (rest := []) ⟨hx, hb, hml, hown, hts⟩ (s_sum4x_6 l dC dI jT t0 cC gT kt hkt hgT bt hbt hb8 jR r1 r2 c1 c2 S1_15 s2 Wr_16 fi q6 q7 bd_23 hfi (Pn_26 + 1) bd_35 bd_36 b6 n6 g6 hn6 b7 n7 g7 hn7 gn6 hz6 gn7 hz7 H.size) (cwV 1 hts (kG (List.forall_mem_cons.mpr ⟨(List.mem_cons_of_mem _ (List.mem_append_left _ (List.mem_of_getElem? (i := 32) rfl))), (List.forall_mem_cons.mpr ⟨(List.mem_cons_of_mem _ (List.mem_append_left _ (List.mem_of_getElem? (i := 31) rfl))), (List.forall_mem_cons.mpr ⟨(List.mem_cons_of_mem _ (List.mem_append_left _ (List.mem_of_getElem? (i := 30) rfl))), (List.forall_mem_cons.mpr ⟨(List.mem_cons_of_mem _ (List.mem_append_left _ (List.mem_of_getElem? (i := 0) rfl))), (fun _ h => absurd h List.not_mem_nil)⟩)⟩)⟩)⟩) (kGV _ _ _ _) (kFam (List.mem_cons_of_mem _ (List.mem_append_left _ (List.mem_of_getElem? (i := 29) rfl)))) gw_s_sum4x_6) rfl rfl rfl ⟨rfl, hd_X4_readSum⟩ ⟨(Nat.le_of_ble_eq_true rfl), (Nat.le_of_ble_eq_true rfl)⟩) (kW_V kS2_blind (kS2_give hX hS hFc) (va_recv hKc hPc (ci := 4) (q0 := 0) rfl rfl) hPc hKc hDc) rfl rfl hl.1 rfl (lv_room (Nat.le_of_ble_eq_true rfl)) dX4_readUnit_126 ⟨(Nat.le_of_ble_eq_true rfl), (Nat.le_of_ble_eq_true rfl)⟩) hS (fun q _ h => hFc q h) hFc (fun r_37 => kU5 (fun S1_38 Wr_39 Pn_40 xo_41 xl_42 t H_43 locs ht hvm hw hB hz1 hk1 hS => ?_))
          try dsimp only at hw
          have hPD : kPD dC dI A [(jR, .inr (4, [.ref jT, .ref r1, .ref r2, .int (nI (Wr_39)), .int (nI (fi)), .int (nI (Pn_40)), .ref q6, .ref q7])), (r1, .inl (c1, 120, .inl S1_38)), (r2, .inl (c2, 124, .inl s2)), (jT, .inr (8, [.ref t0, .int (nI (kt))])), (t0, .inl (cC, 120, .inl gT))] H_43 := kJoinX hP hD [0, 1, 2, 3, 4] rfl hk1 hFc hB.1 ht hB.2.2 rfl [some 0, some 1, some 2, some 3, some 4] rfl rfl
          have hP := hPD.1
          have hD := hPD.2
          have hw_44 := hw
          refine lv_if_eq (tgt := 148) hx hb dX4_readUnit_129 kc_t_129_19 (fun c_45 => ?_) (fun c_45 => ?_)
          · obtain rfl : xo_41 = false := kBo_f (kZr9 hw_44.1 c_45)
            have hw_44_k := hw_44.2.1.2.1
            refine lv_iconst (v := 0) hx hb dX4_readUnit_148 kc_i_0 ?_
            have hP9 := hP
            have hD9 := hD
            have hK9 := hK
            rw [hQ]
            exact W.zret (v := 0) hx hb hr rfl (fun t ht hW => ⟨⟨0, (S1_38, Wr_39, Pn_40, false, ([])), rfl, ⟨rfl, kPR_f ((kUnitD_z pn).trans (by unfold kUnitF; rw [← hw_6_0, ← hw_6_1]; rw [if_neg (by omega), if_neg (by omega), hw_21.2.1.1, kTh_t]; unfold kCmp; rw [← hw_29_0, ← hw_29_1, if_pos (by omega), hw_44.2.1.1]; rfl)) (by omega), by omega⟩,  by rw [ht]; exact hP9, va_K.moved hW.alike hK9, hD9⟩, hS.F ht⟩) hS.2.2 dX4_readUnit_149
          · obtain rfl : xo_41 = true := kBo_t (kNz9 hw_44.1 c_45)
            obtain ⟨hw_44_W, hw_44_S, hw_44_l, hw_44_p⟩ := hw_44.2.1.2.2 rfl
            have hw_44_k := hw_44.2.1.2.1
            refine lv_aload_n hx hb dX4_readUnit_132 rfl (lv_at hl 1 rfl) ?_
            refine lv_sipush (v := 20000) hx hb dX4_readUnit_133 kc_s_20000 ?_
            refine lv_iload_n hx hb dX4_readUnit_136 rfl (lv_at hl 0 rfl) ?_
            refine lv_iadd hx hb dX4_readUnit_137 ?_
            refine lv_topi (fun y_46 ey_46 => ?_)
            obtain rfl : y_46 = nI (20000 + ch_27) := ey_46.trans (nI_add (20000) (ch_27))
            have bd_47 : Wr_39 ≤ 120 := by omega
            have bd_48 : Pn_40 ≤ kt := by omega
            have bd_49 : Wr_39 < 120 := by omega
            have hCu := kCut (wc := [(jR, .inr (4, [.ref jT, .ref r1, .ref r2, .int (nI (Wr_39)), .int (nI (fi)), .int (nI (Pn_40)), .ref q6, .ref q7])), (r1, .inl (c1, 120, .inl S1_38)), (r2, .inl (c2, 124, .inl s2)), (jT, .inr (8, [.ref t0, .int (nI (kt))])), (t0, .inl (cC, 120, .inl gT))]) hP hD hS hA [0, 1, 2, 3, 4] rfl kc_nd_311 rfl
            have hPc := hCu.1
            have hDc := hCu.2.1
            have hFc := hCu.2.2
            have hKc := hK.sb (tys2 := [(c1, .int), (c2, .int), (cC, .char)]) [0, 1, 2] rfl
            refine va_calli (va_runV (As := [.int (nI (20000 + ch_27))]) (rest := []) ⟨hx, hb, hml, hown, hts⟩ (s_write4x l dC dI jT t0 cC gT kt hkt hgT bt hbt hb8 jR r1 r2 c1 c2 S1_38 s2 Wr_39 fi q6 q7 bd_47 hfi Pn_40 bd_48 (nI (20000 + ch_27)) bd_49 H_43.size) (cwV 1 hts (kG (List.forall_mem_cons.mpr ⟨(List.mem_cons_of_mem _ (List.mem_append_left _ (List.mem_of_getElem? (i := 14) rfl))), (List.forall_mem_cons.mpr ⟨(List.mem_cons_of_mem _ (List.mem_append_left _ (List.mem_of_getElem? (i := 13) rfl))), (List.forall_mem_cons.mpr ⟨(List.mem_cons_of_mem _ (List.mem_append_left _ (List.mem_of_getElem? (i := 12) rfl))), (List.forall_mem_cons.mpr ⟨(List.mem_cons_of_mem _ (List.mem_append_left _ (List.mem_of_getElem? (i := 0) rfl))), (fun _ h => absurd h List.not_mem_nil)⟩)⟩)⟩)⟩) (kGV _ _ _ _) (fun _ h => List.mem_cons_of_mem _ (List.mem_append_right _ (List.mem_append_right _ (List.mem_append_right _ (List.mem_append_right _ (List.mem_append_right _ (List.mem_append_left _ h))))))) gw_s_write4x) rfl rfl rfl ⟨rfl, hd_X4_write⟩ ⟨(Nat.le_of_ble_eq_true rfl), (Nat.le_of_ble_eq_true rfl)⟩) (kW_V kT_blind kT_give (va_recv hKc hPc (ci := 4) (q0 := 0) rfl rfl) hPc hKc hDc) rfl rfl hl.1 rfl (lv_room (Nat.le_of_ble_eq_true rfl)) dX4_readUnit_138 ⟨(Nat.le_of_ble_eq_true rfl), (Nat.le_of_ble_eq_true rfl)⟩) hS (fun q _ h => hFc q h) hFc (fun r_50 => kU2 (fun S1_51 Wr_52 t H_53 locs ht hvm hw hB hz1 hk1 hS => ?_))
            try dsimp only at hw
            have hPD : kPD dC dI A [(jR, .inr (4, [.ref jT, .ref r1, .ref r2, .int (nI (Wr_52)), .int (nI (fi)), .int (nI (Pn_40)), .ref q6, .ref q7])), (r1, .inl (c1, 120, .inl S1_51)), (r2, .inl (c2, 124, .inl s2)), (jT, .inr (8, [.ref t0, .int (nI (kt))])), (t0, .inl (cC, 120, .inl gT))] H_53 := kJoinX hP hD [0, 1, 2, 3, 4] rfl hk1 hFc hB.1 ht hB.2.2 rfl [some 0, some 1, some 2, some 3, some 4] rfl rfl
            have hP := hPD.1
            have hD := hPD.2
            obtain ⟨rfl, hw_54⟩ := hw
            refine lv_if_eq (tgt := 148) hx hb dX4_readUnit_141 kc_t_141_7 (fun c_55 => absurd c_55 (by decide)) (fun c_55 => ?_)
            refine lv_iconst (v := 1) hx hb dX4_readUnit_144 kc_i_1 ?_
            refine lv_goto (tgt := 149) hx hb dX4_readUnit_145 kc_t_145_4 ?_
            have hP9 := hP
            have hD9 := hD
            have hK9 := hK
            rw [hQ]
            exact W.zret (v := 1) hx hb hr rfl (fun t ht hW => ⟨⟨1, (S1_51, Wr_52, Pn_40, true, (xl_19 ++ xl_42 ++ [nI (20000 + ch_27)])), rfl, ⟨rfl, kPR_t (a := kUnitD bt kt g7 n7 0) rfl (kUnitD_good hz7 0) (by omega) ((kUnitD_z pn).trans (by unfold kUnitF; rw [← hw_6_0, ← hw_6_1]; rw [if_neg (by omega), if_neg (by omega), hw_21.2.1.1, kTh_t]; unfold kCmp; rw [← hw_29_0, ← hw_29_1, if_pos (by omega), hw_44.2.1.1, kTh_t])) (by simp only [List.length_append, List.length_cons, List.length_nil]; omega) (kWrt3 hw_21_S hw_21_W hw_44_S hw_44_W hw_54.2), by omega⟩,  by rw [ht]; exact hP9, va_K.moved hW.alike hK9, hD9⟩, hS.F ht⟩) hS.2.2 dX4_readUnit_149
        · have hcp : ¬ (ch_27 = 61 ∨ ch_27 = 60 ∨ ch_27 = 62) := fun z9 => hw_32.mpr z9 c_33
          refine lv_iconst (v := 0) hx hb dX4_readUnit_112 kc_i_0 ?_
          have hP9 := hP
          have hD9 := hD
          have hK9 := hK
          rw [hQ]
          exact W.zret (v := 0) hx hb hr rfl (fun t ht hW => ⟨⟨0, (S1_15, Wr_16, Pn_26, false, ([])), rfl, ⟨rfl, kPR_f ((kUnitD_z pn).trans (by unfold kUnitF; rw [← hw_6_0, ← hw_6_1]; rw [if_neg (by omega), if_neg (by omega), hw_21.2.1.1, kTh_t]; unfold kCmp; rw [← hw_29_0, ← hw_29_1, if_neg (by omega)])) (by omega), by omega⟩,  by rw [ht]; exact hP9, va_K.moved hW.alike hK9, hD9⟩, hS.F ht⟩) hS.2.2 dX4_readUnit_113
      · obtain rfl : xo_18 = false := kBo_f (kZr9 hw_21.1 c_22)
        have hw_21_k := hw_21.2.1.2.1
        refine lv_iconst (v := 0) hx hb dX4_readUnit_98 kc_i_0 ?_
        have hP9 := hP
        have hD9 := hD
        have hK9 := hK
        rw [hQ]
        exact W.zret (v := 0) hx hb hr rfl (fun t ht hW => ⟨⟨0, (S1_15, Wr_16, Pn_17, false, ([])), rfl, ⟨rfl, kPR_f ((kUnitD_z pn).trans (by unfold kUnitF; rw [← hw_6_0, ← hw_6_1]; rw [if_neg (by omega), if_neg (by omega), hw_21.2.1.1]; rfl)) (by omega), by omega⟩,  by rw [ht]; exact hP9, va_K.moved hW.alike hK9, hD9⟩, hS.F ht⟩) hS.2.2 dX4_readUnit_99
    · have hn_56 := keq (a := ch_4) (b := 40) bd_9 kc_31_40 c_10
      refine lv_aload_n hx hb dX4_readUnit_56 rfl (lv_at hl 1 rfl) ?_
      refine lv_iload_n hx hb dX4_readUnit_57 rfl (lv_at hl 2 rfl) ?_
      have bd_57 : Pn_3 ≤ kt := by omega
      have hPc := hP.sb (ws2 := [(jR, .inr (4, [.ref jT, .ref r1, .ref r2, .int (nI (wr)), .int (nI (fi)), .int (nI (Pn_3)), .ref q6, .ref q7])), (r1, .inl (c1, 120, .inl s1)), (r2, .inl (c2, 124, .inl s2)), (jT, .inr (8, [.ref t0, .int (nI (kt))])), (t0, .inl (cC, 120, .inl gT))]) [0, 1, 2, 3, 4] rfl
      have hKc := hK.sb (tys2 := [(c1, .int), (c2, .int), (cC, .char)]) [0, 1, 2] rfl
      refine vp_callSi (va_runV (As := [.int 6]) (rest := []) ⟨hx, hb, hml, hown, hts⟩ (s_opens4_6 l dC dI jT t0 cC gT kt hkt hgT bt hbt hb8 jR r1 r2 c1 c2 s1 s2 wr fi q6 q7 hwr hfi Pn_3 bd_57) (cwV 1 hts (kG (List.forall_mem_cons.mpr ⟨(List.mem_cons_of_mem _ (List.mem_append_left _ (List.mem_of_getElem? (i := 20) rfl))), (List.forall_mem_cons.mpr ⟨(List.mem_cons_of_mem _ (List.mem_append_left _ (List.mem_of_getElem? (i := 19) rfl))), (List.forall_mem_cons.mpr ⟨(List.mem_cons_of_mem _ (List.mem_append_left _ (List.mem_of_getElem? (i := 18) rfl))), (List.forall_mem_cons.mpr ⟨(List.mem_cons_of_mem _ (List.mem_append_left _ (List.mem_of_getElem? (i := 0) rfl))), (fun _ h => absurd h List.not_mem_nil)⟩)⟩)⟩)⟩) (kGV _ _ _ _) (fun _ h => List.mem_cons_of_mem _ (List.mem_append_right _ (List.mem_append_right _ (List.mem_append_right _ (List.mem_append_right _ (List.mem_append_right _ (List.mem_append_right _ (List.mem_append_right _ (List.mem_append_left _ h))))))))) gw_s_opens4_6) rfl rfl rfl ⟨rfl, hd_X4_opens⟩ ⟨(Nat.le_of_ble_eq_true rfl), (Nat.le_of_ble_eq_true rfl)⟩) (kR_V kT_blind kT_give (va_recv hKc hPc (ci := 4) (q0 := 0) rfl rfl) hPc hKc) rfl rfl hl.1 rfl (lv_room (Nat.le_of_ble_eq_true rfl)) dX4_readUnit_58 ⟨(Nat.le_of_ble_eq_true rfl), (Nat.le_of_ble_eq_true rfl)⟩).run (fun r_58 hw => ?_)
      obtain rfl : r_58 = 0 := hw
      refine lv_if_eq (tgt := 88) hx hb dX4_readUnit_61 kc_t_61_27 (fun c_59 => ?_) (fun c_59 => absurd (by decide) c_59)
      refine lv_iconst (v := 0) hx hb dX4_readUnit_88 kc_i_0 ?_
      have hP9 := hP
      have hD9 := hD
      have hK9 := hK
      rw [hQ]
      exact W.zret (v := 0) hx hb hr rfl (fun t ht hW => ⟨⟨0, (s1, wr, Pn_3, false, ([])), rfl, ⟨rfl, kPR_f ((kUnitD_z pn).trans (by unfold kUnitF; rw [← hw_6_0, ← hw_6_1]; rw [if_neg (by omega), if_pos (by omega)]; rfl)) (by omega), by omega⟩,  by rw [ht]; exact hP9, va_K.moved hW.alike hK9, hD9⟩, hS.F ht⟩) hS.2.2 dX4_readUnit_89
  · have bd_61 : ch_4 < 2147483648 := by omega
    have hn_60 := keq (a := ch_4) (b := 33) bd_61 kc_31_33 c_7
    refine lv_aload_n hx hb dX4_readUnit_15 rfl (lv_at hl 1 rfl) ?_
    refine lv_iload_n hx hb dX4_readUnit_16 rfl (lv_at hl 2 rfl) ?_
    have bd_62 : Pn_3 ≤ kt := by omega
    have hPc := hP.sb (ws2 := [(jR, .inr (4, [.ref jT, .ref r1, .ref r2, .int (nI (wr)), .int (nI (fi)), .int (nI (Pn_3)), .ref q6, .ref q7])), (r1, .inl (c1, 120, .inl s1)), (r2, .inl (c2, 124, .inl s2)), (jT, .inr (8, [.ref t0, .int (nI (kt))])), (t0, .inl (cC, 120, .inl gT))]) [0, 1, 2, 3, 4] rfl
    have hKc := hK.sb (tys2 := [(c1, .int), (c2, .int), (cC, .char)]) [0, 1, 2] rfl
    refine vp_callSi (va_runV (As := [.int 6]) (rest := []) ⟨hx, hb, hml, hown, hts⟩ (s_opens4_6 l dC dI jT t0 cC gT kt hkt hgT bt hbt hb8 jR r1 r2 c1 c2 s1 s2 wr fi q6 q7 hwr hfi Pn_3 bd_62) (cwV 1 hts (kG (List.forall_mem_cons.mpr ⟨(List.mem_cons_of_mem _ (List.mem_append_left _ (List.mem_of_getElem? (i := 20) rfl))), (List.forall_mem_cons.mpr ⟨(List.mem_cons_of_mem _ (List.mem_append_left _ (List.mem_of_getElem? (i := 19) rfl))), (List.forall_mem_cons.mpr ⟨(List.mem_cons_of_mem _ (List.mem_append_left _ (List.mem_of_getElem? (i := 18) rfl))), (List.forall_mem_cons.mpr ⟨(List.mem_cons_of_mem _ (List.mem_append_left _ (List.mem_of_getElem? (i := 0) rfl))), (fun _ h => absurd h List.not_mem_nil)⟩)⟩)⟩)⟩) (kGV _ _ _ _) (fun _ h => List.mem_cons_of_mem _ (List.mem_append_right _ (List.mem_append_right _ (List.mem_append_right _ (List.mem_append_right _ (List.mem_append_right _ (List.mem_append_right _ (List.mem_append_right _ (List.mem_append_left _ h))))))))) gw_s_opens4_6) rfl rfl rfl ⟨rfl, hd_X4_opens⟩ ⟨(Nat.le_of_ble_eq_true rfl), (Nat.le_of_ble_eq_true rfl)⟩) (kR_V kT_blind kT_give (va_recv hKc hPc (ci := 4) (q0 := 0) rfl rfl) hPc hKc) rfl rfl hl.1 rfl (lv_room (Nat.le_of_ble_eq_true rfl)) dX4_readUnit_17 ⟨(Nat.le_of_ble_eq_true rfl), (Nat.le_of_ble_eq_true rfl)⟩).run (fun r_63 hw => ?_)
    obtain rfl : r_63 = 0 := hw
    refine lv_if_eq (tgt := 48) hx hb dX4_readUnit_20 kc_t_20_28 (fun c_64 => ?_) (fun c_64 => absurd (by decide) c_64)
    refine lv_iconst (v := 0) hx hb dX4_readUnit_48 kc_i_0 ?_
    have hP9 := hP
    have hD9 := hD
    have hK9 := hK
    rw [hQ]
    exact W.zret (v := 0) hx hb hr rfl (fun t ht hW => ⟨⟨0, (s1, wr, Pn_3, false, ([])), rfl, ⟨rfl, kPR_f ((kUnitD_z pn).trans (by unfold kUnitF; rw [← hw_6_0, ← hw_6_1]; rw [if_pos (by omega)]; rfl)) (by omega), by omega⟩,  by rw [ht]; exact hP9, va_K.moved hW.alike hK9, hD9⟩, hS.F ht⟩) hS.2.2 dX4_readUnit_49

theorem dX4_readTruth_0 : decode cX4_readTruth 0 = .ok (.aload_n 0, 1) := kDs0 kf_42 (by decide +kernel)
theorem dX4_readTruth_1 : decode cX4_readTruth 1 = .ok (.iload_n 1, 1) := kDs0 kf_27 (by decide +kernel)
theorem dX4_readTruth_2 : decode cX4_readTruth 2 = .ok (.iload_n 2, 1) := kDs0 kf_28 (by decide +kernel)
theorem dX4_readTruth_3 : decode cX4_readTruth 3 = .ok (.invokevirtual 99, 3) := kDs2 kf_182 (by decide +kernel)
theorem dX4_readTruth_6 : decode cX4_readTruth 6 = .ok (.ifCond .ne 5, 3) := kDs4 kf_154 (by decide +kernel)
theorem dX4_readTruth_11 : decode cX4_readTruth 11 = .ok (.iconst 0, 1) := kDs0 kf_3 (by decide +kernel)
theorem dX4_readTruth_12 : decode cX4_readTruth 12 = .ok (.istore_n 3, 1) := kDs0 kf_62 (by decide +kernel)
theorem dX4_readTruth_13 : decode cX4_readTruth 13 = .ok (.iload_n 3, 1) := kDs0 kf_29 (by decide +kernel)
theorem dX4_readTruth_14 : decode cX4_readTruth 14 = .ok (.bipush 120, 2) := kDs3 kf_16 (by decide +kernel)
theorem dX4_readTruth_16 : decode cX4_readTruth 16 = .ok (.if_icmp .ge 49, 3) := kDs4 kf_162 (by decide +kernel)
theorem dX4_readTruth_65 : decode cX4_readTruth 65 = .ok (.iconst 1, 1) := kDs0 kf_4 (by decide +kernel)
theorem dX4_readTruth_66 : decode cX4_readTruth 66 = .ok (.ireturn, 1) := kDs0 kf_172 (by decide +kernel)
theorem dX4_readTruth_19 : decode cX4_readTruth 19 = .ok (.aload_n 0, 1) := kDs0 kf_42 (by decide +kernel)
theorem dX4_readTruth_20 : decode cX4_readTruth 20 = .ok (.invokevirtual 53, 3) := kDs2 kf_182 (by decide +kernel)
theorem dX4_readTruth_23 : decode cX4_readTruth 23 = .ok (.bipush 38, 2) := kDs3 kf_16 (by decide +kernel)
theorem dX4_readTruth_25 : decode cX4_readTruth 25 = .ok (.if_icmp .ne 40, 3) := kDs4 kf_160 (by decide +kernel)
theorem dX4_readTruth_28 : decode cX4_readTruth 28 = .ok (.aload_n 0, 1) := kDs0 kf_42 (by decide +kernel)
theorem dX4_readTruth_29 : decode cX4_readTruth 29 = .ok (.dup, 1) := kDs0 kf_89 (by decide +kernel)
theorem dX4_readTruth_30 : decode cX4_readTruth 30 = .ok (.getfield 25, 3) := kDs2 kf_180 (by decide +kernel)
theorem dX4_readTruth_33 : decode cX4_readTruth 33 = .ok (.iconst 1, 1) := kDs0 kf_4 (by decide +kernel)
theorem dX4_readTruth_34 : decode cX4_readTruth 34 = .ok (.iadd, 1) := kDs0 kf_96 (by decide +kernel)
theorem dX4_readTruth_35 : decode cX4_readTruth 35 = .ok (.putfield 25, 3) := kDs2 kf_181 (by decide +kernel)
theorem dX4_readTruth_38 : decode cX4_readTruth 38 = .ok (.aload_n 0, 1) := kDs0 kf_42 (by decide +kernel)
theorem dX4_readTruth_39 : decode cX4_readTruth 39 = .ok (.iload_n 1, 1) := kDs0 kf_27 (by decide +kernel)
theorem dX4_readTruth_40 : decode cX4_readTruth 40 = .ok (.iconst 0, 1) := kDs0 kf_3 (by decide +kernel)
theorem dX4_readTruth_41 : decode cX4_readTruth 41 = .ok (.invokevirtual 99, 3) := kDs2 kf_182 (by decide +kernel)
theorem dX4_readTruth_44 : decode cX4_readTruth 44 = .ok (.ifCond .eq 13, 3) := kDs4 kf_153 (by decide +kernel)
theorem dX4_readTruth_57 : decode cX4_readTruth 57 = .ok (.iconst 0, 1) := kDs0 kf_3 (by decide +kernel)
theorem dX4_readTruth_58 : decode cX4_readTruth 58 = .ok (.ireturn, 1) := kDs0 kf_172 (by decide +kernel)
theorem dX4_readTruth_47 : decode cX4_readTruth 47 = .ok (.aload_n 0, 1) := kDs0 kf_42 (by decide +kernel)
theorem dX4_readTruth_48 : decode cX4_readTruth 48 = .ok (.sipush 20038, 3) := kDs4 kf_17 (by decide +kernel)
theorem dX4_readTruth_51 : decode cX4_readTruth 51 = .ok (.invokevirtual 96, 3) := kDs2 kf_182 (by decide +kernel)
theorem dX4_readTruth_54 : decode cX4_readTruth 54 = .ok (.ifCond .ne 5, 3) := kDs4 kf_154 (by decide +kernel)
theorem dX4_readTruth_59 : decode cX4_readTruth 59 = .ok (.iinc 3 1, 3) := kDs5 kf_132 (by decide +kernel)
theorem dX4_readTruth_62 : decode cX4_readTruth 62 = .ok (.goto (-49), 3) := kDs4 kf_167 (by decide +kernel)
theorem dX4_readTruth_9 : decode cX4_readTruth 9 = .ok (.iconst 0, 1) := kDs0 kf_3 (by decide +kernel)
theorem dX4_readTruth_10 : decode cX4_readTruth 10 = .ok (.ireturn, 1) := kDs0 kf_172 (by decide +kernel)
def w_s_truth4x_6_0 : List Cond := .code yX4_readTruth cX4_readTruth 4 (some .boolean) :: wf_rq
theorem gw_s_truth4x_6_0 : (w_s_truth4x_6_0).all goodWord = true := kFamG rfl gf_rq
theorem hd_X4_readTruth : yX4_readTruth.cls ≠ "java/lang/invoke/MethodHandle" ∧ yX4_readTruth.cls ≠ "java/lang/invoke/VarHandle" ∧ (parseMethodDescriptor yX4_readTruth.desc).map (fun d => d.parameters.length) = some 2 := by decide +kernel
set_option maxHeartbeats 4000000 in
set_option maxRecDepth 100000 in
theorem s_truth4x_6_0 (l : Launch) (dC : Nat → ClassId) (dI : Nat → Nat → Nat) (jT : Nat) (t0 : Nat) (cC : ClassId) (gT : Nat → Int32) (kt : Nat) (hkt : kt ≤ 120) (hgT : ∀ j : Nat, narrow .char (.int (gT j)) = .int (gT j)) (bt : Nat → Nat) (hbt : ∀ j : Nat, gT j = nI (bt j)) (hb8 : ∀ j : Nat, bt j < 256) (jR : Nat) (r1 : Nat) (r2 : Nat) (c1 : ClassId) (c2 : ClassId) (s1 : Nat → Int32) (s2 : Nat → Int32) (wr : Nat) (fi : Nat) (q6 : Nat) (q7 : Nat) (hwr : wr ≤ 120) (hfi : fi ≤ 124) (pn : Nat) (hpn : pn ≤ kt) (hwp : wr ≤ pn) (b6 : Nat) (n6 : Nat) (g6 : Nat → Int32) (hn6 : n6 ≤ 8) (b7 : Nat) (n7 : Nat) (g7 : Nat → Int32) (hn7 : n7 ≤ 8) (gn6 : ∀ k : Nat, ∃ v : Nat, v < 128 ∧ g6 k = nI v) (hz6 : kIx g6 n6 (nI 0) = n6) (gn7 : ∀ k : Nat, ∃ v : Nat, v < 128 ∧ g7 k = nI v) (hz7 : kIx g7 n7 (nI 0) = n7) (sz : Nat) : Met l yX4_readTruth w_s_truth4x_6_0 ({ frames := 10, cells := 0, slots := 0, locals := 600 }) (kW dC dI [.ref jR, .int 6, .int 0] [(jR, .inr (4, [.ref jT, .ref r1, .ref r2, .int (nI (wr)), .int (nI (fi)), .int (nI (pn)), .ref q6, .ref q7])), (r1, .inl (c1, 120, .inl s1)), (r2, .inl (c2, 124, .inl s2)), (jT, .inr (8, [.ref t0, .int (nI (kt))])), (t0, .inl (cC, 120, .inl gT))] [(c1, .int), (c2, .int), (cC, .char)] (kS2 q6 b6 n6 g6 q7 b7 n7 g7 (va_A [(jR, .inr (4, [.ref jT, .ref r1, .ref r2, .int (nI (wr)), .int (nI (fi)), .int (nI (pn)), .ref q6, .ref q7])), (r1, .inl (c1, 120, .inl s1)), (r2, .inl (c2, 124, .inl s2)), (jT, .inr (8, [.ref t0, .int (nI (kt))])), (t0, .inl (cC, 120, .inl gT))] sz)) sz) (va_Qi (fun (r : Int32) (u : (Nat → Int32) × Nat × Nat × Bool × (List Int32)) => match u with | (S1, Wr, Pn, xo, xl) => (r = kBo xo ∧ kPR (kTruD bt kt g7 n7 0 pn) pn kt wr s1 xo Pn xl Wr S1 ∧ Wr ≤ 120)) (fun (u : (Nat → Int32) × Nat × Nat × Bool × (List Int32)) => match u with | (S1, Wr, Pn, xo, xl) => fun t : State => kB dC dI [(jR, .inr (4, [.ref jT, .ref r1, .ref r2, .int (nI (Wr)), .int (nI (fi)), .int (nI (Pn)), .ref q6, .ref q7])), (r1, .inl (c1, 120, .inl S1)), (r2, .inl (c2, 124, .inl s2)), (jT, .inr (8, [.ref t0, .int (nI (kt))])), (t0, .inl (cC, 120, .inl gT))] [(c1, .int), (c2, .int), (cC, .char)] (va_A [(jR, .inr (4, [.ref jT, .ref r1, .ref r2, .int (nI (wr)), .int (nI (fi)), .int (nI (pn)), .ref q6, .ref q7])), (r1, .inl (c1, 120, .inl s1)), (r2, .inl (c2, 124, .inl s2)), (jT, .inr (8, [.ref t0, .int (nI (kt))])), (t0, .inl (cC, 120, .inl gT))] sz) t) (va_A [(jR, .inr (4, [.ref jT, .ref r1, .ref r2, .int (nI (wr)), .int (nI (fi)), .int (nI (pn)), .ref q6, .ref q7])), (r1, .inl (c1, 120, .inl s1)), (r2, .inl (c2, 124, .inl s2)), (jT, .inr (8, [.ref t0, .int (nI (kt))])), (t0, .inl (cC, 120, .inl gT))] sz)) 0 0 (va_A [(jR, .inr (4, [.ref jT, .ref r1, .ref r2, .int (nI (wr)), .int (nI (fi)), .int (nI (pn)), .ref q6, .ref q7])), (r1, .inl (c1, 120, .inl s1)), (r2, .inl (c2, 124, .inl s2)), (jT, .inr (8, [.ref t0, .int (nI (kt))])), (t0, .inl (cC, 120, .inl gT))] sz) := by
  refine Met.ofW (cc := cX4_readTruth) (maxL := 4) (ret := (some .boolean)) (by decide) rfl ?_
  intro p e s m args below meth c s₁ B hml hv
  obtain ⟨rfl, hsz, hP, hK, hD0, hX⟩ := hv
  have hx := B.exec
  have hb := B.bytes
  have hr := B.returns
  have hts := atoms_spec (ws := w_s_truth4x_6_0) B.pre
  have hown : s.vm.findClass RX4 = some m.cls := findClass_of_methodNamed B.named
  have hlocks := B.notSynchronized
  subst hsz
  have hD := hD0.self (sz := s.heap.size)
  generalize hAe : va_A [(jR, .inr (4, [.ref jT, .ref r1, .ref r2, .int (nI (wr)), .int (nI (fi)), .int (nI (pn)), .ref q6, .ref q7])), (r1, .inl (c1, 120, .inl s1)), (r2, .inl (c2, 124, .inl s2)), (jT, .inr (8, [.ref t0, .int (nI (kt))])), (t0, .inl (cC, 120, .inl gT))] s.heap.size = A at hD hX ⊢
  have hA : ∀ q : Nat, s.heap.size ≤ q → A q := fun q h => by rw [← hAe]; exact Or.inr h
  have hS : va_S A s.heap s.heap [] := va_S.rf
  have hP : va_P (dC, dI) vwCl [(jR, .inr (4, [.ref jT, .ref r1, .ref r2, .int (nI (wr)), .int (nI (fi)), .int (nI (pn)), .ref q6, .ref q7])), (r1, .inl (c1, 120, .inl s1)), (r2, .inl (c2, 124, .inl s2)), (jT, .inr (8, [.ref t0, .int (nI (kt))])), (t0, .inl (cC, 120, .inl gT))] s.heap := hP
  have hl := lv_entry ([.ref jR, .int 6, .int 0]) (n := 4) (Nat.le_of_ble_eq_true rfl)
  rw [lg_entry_eq]
  generalize (lg_sl ([.ref jR, .int 6, .int 0]) ++ List.replicate (4 - (lg_sl ([.ref jR, .int 6, .int 0])).length) Slot.unset).toArray = ls at hl ⊢
  have hl : lv_has ls 4 [(0, .ref jR), (1, .int 6), (2, .int 0)] := hl
  refine kQ (fun Q hQ => ?_)
  refine lv_aload_n hx hb dX4_readTruth_0 rfl (lv_at hl 0 rfl) ?_
  refine lv_iload_n hx hb dX4_readTruth_1 rfl (lv_at hl 1 rfl) ?_
  refine lv_iload_n hx hb dX4_readTruth_2 rfl (lv_at hl 2 rfl) ?_
  have hCu := kCut (wc := [(jR, .inr (4, [.ref jT, .ref r1, .ref r2, .int (nI (wr)), .int (nI (fi)), .int (nI (pn)), .ref q6, .ref q7])), (r1, .inl (c1, 120, .inl s1)), (r2, .inl (c2, 124, .inl s2)), (jT, .inr (8, [.ref t0, .int (nI (kt))])), (t0, .inl (cC, 120, .inl gT))]) hP hD hS hA [0, 1, 2, 3, 4] rfl kc_nd_311 rfl
  have hPc := hCu.1
  have hDc := hCu.2.1
  have hFc := hCu.2.2
  have hKc := hK.sb (tys2 := [(c1, .int), (c2, .int), (cC, .char)]) [0, 1, 2] rfl
  refine va_calli (va_runV (As := [.int 6, .int 0]) (rest := []) ⟨hx, hb, hml, hown, hts⟩ (s_unit4x_6_0 l dC dI jT t0 cC gT kt hkt hgT bt hbt hb8 jR r1 r2 c1 c2 s1 s2 wr fi q6 q7 hwr hfi pn hpn hwp b6 n6 g6 hn6 b7 n7 g7 hn7 gn6 hz6 gn7 hz7 s.heap.size) (cwV 2 hts (kG (List.forall_mem_cons.mpr ⟨(List.mem_cons_of_mem _ (List.mem_append_left _ (List.mem_of_getElem? (i := 38) rfl))), (List.forall_mem_cons.mpr ⟨(List.mem_cons_of_mem _ (List.mem_append_left _ (List.mem_of_getElem? (i := 37) rfl))), (List.forall_mem_cons.mpr ⟨(List.mem_cons_of_mem _ (List.mem_append_left _ (List.mem_of_getElem? (i := 36) rfl))), (List.forall_mem_cons.mpr ⟨(List.mem_cons_of_mem _ (List.mem_append_left _ (List.mem_of_getElem? (i := 0) rfl))), (fun _ h => absurd h List.not_mem_nil)⟩)⟩)⟩)⟩) (kGV _ _ _ _) (kFam (List.mem_cons_of_mem _ (List.mem_append_left _ (List.mem_of_getElem? (i := 35) rfl)))) gw_s_unit4x_6_0) rfl rfl rfl ⟨rfl, hd_X4_readUnit⟩ ⟨(Nat.le_of_ble_eq_true rfl), (Nat.le_of_ble_eq_true rfl)⟩) (kW_V kS2_blind (kS2_give hX hS hFc) (va_recv hKc hPc (ci := 4) (q0 := 0) rfl rfl) hPc hKc hDc) rfl rfl hl.1 rfl (lv_room (Nat.le_of_ble_eq_true rfl)) dX4_readTruth_3 ⟨(Nat.le_of_ble_eq_true rfl), (Nat.le_of_ble_eq_true rfl)⟩) hS (fun q _ h => hFc q h) hFc (fun r_1 => kU5 (fun S1_2 Wr_3 Pn_4 xo_5 xl_6 t H_7 locs ht hvm hw hB hz1 hk1 hS => ?_))
  try dsimp only at hw
  have hPD : kPD dC dI A [(jR, .inr (4, [.ref jT, .ref r1, .ref r2, .int (nI (Wr_3)), .int (nI (fi)), .int (nI (Pn_4)), .ref q6, .ref q7])), (r1, .inl (c1, 120, .inl S1_2)), (r2, .inl (c2, 124, .inl s2)), (jT, .inr (8, [.ref t0, .int (nI (kt))])), (t0, .inl (cC, 120, .inl gT))] H_7 := kJoinX hP hD [0, 1, 2, 3, 4] rfl hk1 hFc hB.1 ht hB.2.2 rfl [some 0, some 1, some 2, some 3, some 4] rfl rfl
  have hP := hPD.1
  have hD := hPD.2
  have hw_8 := hw
  refine lv_if_ne (tgt := 11) hx hb dX4_readTruth_6 kc_t_6_5 (fun c_9 => ?_) (fun c_9 => ?_)
  · obtain rfl : xo_5 = true := kBo_t (kNz9 hw_8.1 c_9)
    obtain ⟨hw_8_W, hw_8_S, hw_8_l, hw_8_p⟩ := hw_8.2.1.2.2 rfl
    have hw_8_k := hw_8.2.1.2.1
    refine lv_iconst (v := 0) hx hb dX4_readTruth_11 kc_i_0 ?_
    refine lv_istore_n hx hb dX4_readTruth_12 rfl hl kc_l_3_4 (kTo [(3, .int 0), (0, .ref jR), (1, .int 6), (2, .int 0)]) (fun ls hl => ?_)
    have lp_k_10 : ∀ (n9 : Nat) (i : Nat) (xs1 : Nat → Int32) (xpn : Nat) (xwr : Nat) (xl : List Int32) (ivk_10_0 : i ≤ 120) (ivk_10_1 : xwr ≤ 120) (ivk_10_2 : xpn ≤ kt) (ivk_10_3 : kLoop bt kt 38 38 (kUnitD bt kt g7 n7 0) (120 - i) xpn xl = kTruD bt kt g7 n7 0 pn) (ivk_10_4 : xwr = wr + xl.length) (ivk_10_5 : xs1 = kWrt s1 wr xl) (ivk_10_6 : pn + xl.length ≤ xpn) (ivk_10_7 : pn < xpn) (H : Heap) (locs : List Loc) (_ : va_P (dC, dI) vwCl [(jR, .inr (4, [.ref jT, .ref r1, .ref r2, .int (nI (xwr)), .int (nI (fi)), .int (nI (xpn)), .ref q6, .ref q7])), (r1, .inl (c1, 120, .inl xs1)), (r2, .inl (c2, 124, .inl s2)), (jT, .inr (8, [.ref t0, .int (nI (kt))])), (t0, .inl (cC, 120, .inl gT))] H) (_ : va_D A [(jR, .inr (4, [.ref jT, .ref r1, .ref r2, .int (nI (xwr)), .int (nI (fi)), .int (nI (xpn)), .ref q6, .ref q7])), (r1, .inl (c1, 120, .inl xs1)), (r2, .inl (c2, 124, .inl s2)), (jT, .inr (8, [.ref t0, .int (nI (kt))])), (t0, .inl (cC, 120, .inl gT))]) (_ : va_S A s.heap H locs) (ls : Array Slot) (_ : lv_has ls 4 [(3, .int (nI (i))), (0, .ref jR), (1, .int 6), (2, .int 0)]) (_ : 120 - i < n9), W p l e (headSpec w_s_truth4x_6_0 ({ frames := 10, cells := 0, slots := 0, locals := 600 })).room s m (#[.ref jR, .int 6, .int 0] : Array Value) below meth c H locs 0 0 Q (F0 m 13 ls []) := by
      intro n9
      induction n9 with
      | zero => intro i xs1 xpn xwr xl ivk_10_0 ivk_10_1 ivk_10_2 ivk_10_3 ivk_10_4 ivk_10_5 ivk_10_6 ivk_10_7 H locs hP hD hS ls hl hm9; exact absurd hm9 (Nat.not_lt_zero _)
      | succ n9 ih_k_10 =>
        intro i xs1 xpn xwr xl ivk_10_0 ivk_10_1 ivk_10_2 ivk_10_3 ivk_10_4 ivk_10_5 ivk_10_6 ivk_10_7 H locs hP hD hS ls hl hm9
        refine lv_iload_n hx hb dX4_readTruth_13 rfl (lv_at hl 0 rfl) ?_
        refine lv_bipush (v := 120) hx hb dX4_readTruth_14 kc_b_120 ?_
        refine lv_icmp_ge (tgt := 65) hx hb dX4_readTruth_16 kc_t_16_49 (fun c_11 => ?_) (fun c_11 => ?_)
        · have bd_13 : i < 2147483648 := by omega
          have hn_12 := kle (a := 120) (b := i) kc_31_120 bd_13 c_11
          refine lv_iconst (v := 1) hx hb dX4_readTruth_65 kc_i_1 ?_
          have hP9 := hP
          have hD9 := hD
          have hK9 := hK
          rw [hQ]
          exact W.zret (v := 1) hx hb hr rfl (fun t ht hW => ⟨⟨1, (xs1, xwr, xpn, true, xl), rfl, ⟨rfl, kPR_t (a := kTruD bt kt g7 n7 0) rfl (kTruD_good hz7 0) (by omega) (by rw [← ivk_10_3, show 120 - i = 0 by omega]; rfl) ivk_10_4 ivk_10_5, by omega⟩,  by rw [ht]; exact hP9, va_K.moved hW.alike hK9, hD9⟩, hS.F ht⟩) hS.2.2 dX4_readTruth_66
        · have bd_15 : i < 2147483648 := by omega
          have hn_14 := knle (a := 120) (b := i) kc_31_120 bd_15 c_11
          refine lv_aload_n hx hb dX4_readTruth_19 rfl (lv_at hl 1 rfl) ?_
          have bd_16 : xwr ≤ 120 := by omega
          have bd_17 : xpn ≤ kt := by omega
          have hCu := kCut (wc := [(jR, .inr (4, [.ref jT, .ref r1, .ref r2, .int (nI (xwr)), .int (nI (fi)), .int (nI (xpn)), .ref q6, .ref q7])), (r1, .inl (c1, 120, .inl xs1)), (r2, .inl (c2, 124, .inl s2)), (jT, .inr (8, [.ref t0, .int (nI (kt))])), (t0, .inl (cC, 120, .inl gT))]) hP hD hS hA [0, 1, 2, 3, 4] rfl kc_nd_311 rfl
          have hPc := hCu.1
          have hDc := hCu.2.1
          have hFc := hCu.2.2
          have hKc := hK.sb (tys2 := [(c1, .int), (c2, .int), (cC, .char)]) [0, 1, 2] rfl
          refine va_calli (va_runV (As := []) (rest := []) ⟨hx, hb, hml, hown, hts⟩ (s_look4x l dC dI jT t0 cC gT kt hkt hgT bt hbt hb8 jR r1 r2 c1 c2 xs1 s2 xwr fi q6 q7 bd_16 hfi xpn bd_17 H.size) (cwV 0 hts (kG (List.forall_mem_cons.mpr ⟨(List.mem_cons_of_mem _ (List.mem_append_left _ (List.mem_of_getElem? (i := 3) rfl))), (List.forall_mem_cons.mpr ⟨(List.mem_cons_of_mem _ (List.mem_append_left _ (List.mem_of_getElem? (i := 2) rfl))), (List.forall_mem_cons.mpr ⟨(List.mem_cons_of_mem _ (List.mem_append_left _ (List.mem_of_getElem? (i := 1) rfl))), (List.forall_mem_cons.mpr ⟨(List.mem_cons_of_mem _ (List.mem_append_left _ (List.mem_of_getElem? (i := 0) rfl))), (fun _ h => absurd h List.not_mem_nil)⟩)⟩)⟩)⟩) (kGV _ _ _ _) (fun _ h => List.mem_cons_of_mem _ (List.mem_append_right _ (List.mem_append_left _ h))) gw_s_look4x) rfl rfl rfl ⟨rfl, hd_X4_look⟩ ⟨(Nat.le_of_ble_eq_true rfl), (Nat.le_of_ble_eq_true rfl)⟩) (kW_V kT_blind kT_give (va_recv hKc hPc (ci := 4) (q0 := 0) rfl rfl) hPc hKc hDc) rfl rfl hl.1 rfl (lv_room (Nat.le_of_ble_eq_true rfl)) dX4_readTruth_20 ⟨(Nat.le_of_ble_eq_true rfl), (Nat.le_of_ble_eq_true rfl)⟩) hS (fun q _ h => hFc q h) hFc (fun r_18 => kU2 (fun Pn_19 ch_20 t H_21 locs ht hvm hw hB hz1 hk1 hS => ?_))
          try dsimp only at hw
          have hPD : kPD dC dI A [(jR, .inr (4, [.ref jT, .ref r1, .ref r2, .int (nI (xwr)), .int (nI (fi)), .int (nI (Pn_19)), .ref q6, .ref q7])), (r1, .inl (c1, 120, .inl xs1)), (r2, .inl (c2, 124, .inl s2)), (jT, .inr (8, [.ref t0, .int (nI (kt))])), (t0, .inl (cC, 120, .inl gT))] H_21 := kJoinX hP hD [0, 1, 2, 3, 4] rfl hk1 hFc hB.1 ht hB.2.2 rfl [some 0, some 1, some 2, some 3, some 4] rfl rfl
          have hP := hPD.1
          have hD := hPD.2
          obtain ⟨rfl, hw_22_0, hw_22_1, hw_22_2, hw_22_3, hw_22_4, hw_22_5, hw_22_6⟩ := hw
          refine lv_bipush (v := 38) hx hb dX4_readTruth_23 kc_b_38 ?_
          refine lv_icmp_ne (tgt := 65) hx hb dX4_readTruth_25 kc_t_25_40 (fun c_23 => ?_) (fun c_23 => ?_)
          · have bd_25 : ch_20 < 2147483648 := by omega
            have hn_24 := kneq (a := ch_20) (b := 38) bd_25 kc_31_38 c_23
            refine lv_iconst (v := 1) hx hb dX4_readTruth_65 kc_i_1 ?_
            have hP9 := hP
            have hD9 := hD
            have hK9 := hK
            rw [hQ]
            exact W.zret (v := 1) hx hb hr rfl (fun t ht hW => ⟨⟨1, (xs1, xwr, Pn_19, true, xl), rfl, ⟨rfl, kPR_t (a := kTruD bt kt g7 n7 0) rfl (kTruD_good hz7 0) (by omega) (by rw [← ivk_10_3, show 120 - i = (119 - i) + 1 by omega, kLoop_e (by rw [← hw_22_0]; omega), ← hw_22_1]) ivk_10_4 ivk_10_5, by omega⟩,  by rw [ht]; exact hP9, va_K.moved hW.alike hK9, hD9⟩, hS.F ht⟩) hS.2.2 dX4_readTruth_66
          · have bd_27 : ch_20 < 2147483648 := by omega
            have hn_26 := keq (a := ch_20) (b := 38) bd_27 kc_31_38 c_23
            refine lv_aload_n hx hb dX4_readTruth_28 rfl (lv_at hl 1 rfl) ?_
            refine lv_dup hx hb dX4_readTruth_29 rfl ?_
            refine va_get (D := (dC, dI)) (ci := 4) (v := .int (nI (Pn_19))) (C := RX4) (T := TX4) (N := 8) hx hb hts (fun _ h => List.mem_cons_of_mem _ (List.mem_append_right _ (List.mem_append_right _ (List.mem_append_right _ (List.mem_append_left _ h))))) hown hK hP 0 rfl rfl 5 kc_l_5_8 (hts (.fieldLink RX4 25 "NotEnded$Reader" "place" "I") (List.mem_cons_of_mem _ (List.mem_append_left _ (List.mem_of_getElem? (i := 11) rfl)))) (fun _ h9 => h9) rfl dX4_readTruth_30 ?_
            refine lv_iconst (v := 1) hx hb dX4_readTruth_33 kc_i_1 ?_
            refine lv_iadd hx hb dX4_readTruth_34 ?_
            refine lv_topi (fun y_28 ey_28 => ?_)
            obtain rfl : y_28 = nI (Pn_19 + 1) := ey_28.trans (nI_add (Pn_19) (1))
            refine va_put (D := (dC, dI)) (ci := 4) (v := .int (nI (Pn_19 + 1))) (ty := tyX4 5) (C := RX4) (T := TX4) (N := 8) hx hb hts (fun _ h => List.mem_cons_of_mem _ (List.mem_append_right _ (List.mem_append_right _ (List.mem_append_right _ (List.mem_append_left _ h))))) tyX4 tyX4_ok nmX4 hown hK hP hD hS 0 rfl rfl 5 kc_l_5_8 (hts (.fieldLink RX4 25 "NotEnded$Reader" "place" "I") (List.mem_cons_of_mem _ (List.mem_append_left _ (List.mem_of_getElem? (i := 11) rfl)))) (fun _ h9 => h9) rfl (tyX4_ok 5 kc_l_5_8) rfl rfl (Nat.le_of_ble_eq_true rfl) dX4_readTruth_35 (fun H locs hP hD hS => ?_)
            have hPD : kPD dC dI A [(jR, .inr (4, [.ref jT, .ref r1, .ref r2, .int (nI (xwr)), .int (nI (fi)), .int (nI (Pn_19 + 1)), .ref q6, .ref q7])), (r1, .inl (c1, 120, .inl xs1)), (r2, .inl (c2, 124, .inl s2)), (jT, .inr (8, [.ref t0, .int (nI (kt))])), (t0, .inl (cC, 120, .inl gT))] H := ⟨hP, hD⟩
            have hP := hPD.1
            have hD := hPD.2
            refine lv_aload_n hx hb dX4_readTruth_38 rfl (lv_at hl 1 rfl) ?_
            refine lv_iload_n hx hb dX4_readTruth_39 rfl (lv_at hl 2 rfl) ?_
            refine lv_iconst (v := 0) hx hb dX4_readTruth_40 kc_i_0 ?_
            have bd_29 : (Pn_19 + 1) ≤ kt := by omega
            have bd_30 : xwr ≤ (Pn_19 + 1) := by omega
            have hCu := kCut (wc := [(jR, .inr (4, [.ref jT, .ref r1, .ref r2, .int (nI (xwr)), .int (nI (fi)), .int (nI (Pn_19 + 1)), .ref q6, .ref q7])), (r1, .inl (c1, 120, .inl xs1)), (r2, .inl (c2, 124, .inl s2)), (jT, .inr (8, [.ref t0, .int (nI (kt))])), (t0, .inl (cC, 120, .inl gT))]) hP hD hS hA [0, 1, 2, 3, 4] rfl kc_nd_311 rfl
            have hPc := hCu.1
            have hDc := hCu.2.1
            have hFc := hCu.2.2
            have hKc := hK.sb (tys2 := [(c1, .int), (c2, .int), (cC, .char)]) [0, 1, 2] rfl
            refine va_calli (va_runV (As := [.int 6, .int 0]) (rest := []) ⟨hx, hb, hml, hown, hts⟩ (s_unit4x_6_0 l dC dI jT t0 cC gT kt hkt hgT bt hbt hb8 jR r1 r2 c1 c2 xs1 s2 xwr fi q6 q7 bd_16 hfi (Pn_19 + 1) bd_29 bd_30 b6 n6 g6 hn6 b7 n7 g7 hn7 gn6 hz6 gn7 hz7 H.size) (cwV 2 hts (kG (List.forall_mem_cons.mpr ⟨(List.mem_cons_of_mem _ (List.mem_append_left _ (List.mem_of_getElem? (i := 38) rfl))), (List.forall_mem_cons.mpr ⟨(List.mem_cons_of_mem _ (List.mem_append_left _ (List.mem_of_getElem? (i := 37) rfl))), (List.forall_mem_cons.mpr ⟨(List.mem_cons_of_mem _ (List.mem_append_left _ (List.mem_of_getElem? (i := 36) rfl))), (List.forall_mem_cons.mpr ⟨(List.mem_cons_of_mem _ (List.mem_append_left _ (List.mem_of_getElem? (i := 0) rfl))), (fun _ h => absurd h List.not_mem_nil)⟩)⟩)⟩)⟩) (kGV _ _ _ _) (kFam (List.mem_cons_of_mem _ (List.mem_append_left _ (List.mem_of_getElem? (i := 35) rfl)))) gw_s_unit4x_6_0) rfl rfl rfl ⟨rfl, hd_X4_readUnit⟩ ⟨(Nat.le_of_ble_eq_true rfl), (Nat.le_of_ble_eq_true rfl)⟩) (kW_V kS2_blind (kS2_give hX hS hFc) (va_recv hKc hPc (ci := 4) (q0 := 0) rfl rfl) hPc hKc hDc) rfl rfl hl.1 rfl (lv_room (Nat.le_of_ble_eq_true rfl)) dX4_readTruth_41 ⟨(Nat.le_of_ble_eq_true rfl), (Nat.le_of_ble_eq_true rfl)⟩) hS (fun q _ h => hFc q h) hFc (fun r_31 => kU5 (fun S1_32 Wr_33 Pn_34 xo_35 xl_36 t H_37 locs ht hvm hw hB hz1 hk1 hS => ?_))
            try dsimp only at hw
            have hPD : kPD dC dI A [(jR, .inr (4, [.ref jT, .ref r1, .ref r2, .int (nI (Wr_33)), .int (nI (fi)), .int (nI (Pn_34)), .ref q6, .ref q7])), (r1, .inl (c1, 120, .inl S1_32)), (r2, .inl (c2, 124, .inl s2)), (jT, .inr (8, [.ref t0, .int (nI (kt))])), (t0, .inl (cC, 120, .inl gT))] H_37 := kJoinX hP hD [0, 1, 2, 3, 4] rfl hk1 hFc hB.1 ht hB.2.2 rfl [some 0, some 1, some 2, some 3, some 4] rfl rfl
            have hP := hPD.1
            have hD := hPD.2
            have hw_38 := hw
            refine lv_if_eq (tgt := 57) hx hb dX4_readTruth_44 kc_t_44_13 (fun c_39 => ?_) (fun c_39 => ?_)
            · obtain rfl : xo_35 = false := kBo_f (kZr9 hw_38.1 c_39)
              have hw_38_k := hw_38.2.1.2.1
              refine lv_iconst (v := 0) hx hb dX4_readTruth_57 kc_i_0 ?_
              have hP9 := hP
              have hD9 := hD
              have hK9 := hK
              rw [hQ]
              exact W.zret (v := 0) hx hb hr rfl (fun t ht hW => ⟨⟨0, (S1_32, Wr_33, Pn_34, false, ([])), rfl, ⟨rfl, kPR_f (by rw [← ivk_10_3, show 120 - i = (119 - i) + 1 by omega]; exact kLoop_f (by rw [← hw_22_0]; omega) (by rw [← hw_22_1]; exact hw_38.2.1.1)) (by omega), by omega⟩,  by rw [ht]; exact hP9, va_K.moved hW.alike hK9, hD9⟩, hS.F ht⟩) hS.2.2 dX4_readTruth_58
            · obtain rfl : xo_35 = true := kBo_t (kNz9 hw_38.1 c_39)
              obtain ⟨hw_38_W, hw_38_S, hw_38_l, hw_38_p⟩ := hw_38.2.1.2.2 rfl
              have hw_38_k := hw_38.2.1.2.1
              refine lv_aload_n hx hb dX4_readTruth_47 rfl (lv_at hl 1 rfl) ?_
              refine lv_sipush (v := 20038) hx hb dX4_readTruth_48 kc_s_20038 ?_
              have bd_40 : Wr_33 ≤ 120 := by omega
              have bd_41 : Pn_34 ≤ kt := by omega
              have bd_42 : Wr_33 < 120 := by omega
              have hCu := kCut (wc := [(jR, .inr (4, [.ref jT, .ref r1, .ref r2, .int (nI (Wr_33)), .int (nI (fi)), .int (nI (Pn_34)), .ref q6, .ref q7])), (r1, .inl (c1, 120, .inl S1_32)), (r2, .inl (c2, 124, .inl s2)), (jT, .inr (8, [.ref t0, .int (nI (kt))])), (t0, .inl (cC, 120, .inl gT))]) hP hD hS hA [0, 1, 2, 3, 4] rfl kc_nd_311 rfl
              have hPc := hCu.1
              have hDc := hCu.2.1
              have hFc := hCu.2.2
              have hKc := hK.sb (tys2 := [(c1, .int), (c2, .int), (cC, .char)]) [0, 1, 2] rfl
              refine va_calli (va_runV (As := [.int 20038]) (rest := []) ⟨hx, hb, hml, hown, hts⟩ (s_write4x l dC dI jT t0 cC gT kt hkt hgT bt hbt hb8 jR r1 r2 c1 c2 S1_32 s2 Wr_33 fi q6 q7 bd_40 hfi Pn_34 bd_41 20038 bd_42 H_37.size) (cwV 1 hts (kG (List.forall_mem_cons.mpr ⟨(List.mem_cons_of_mem _ (List.mem_append_left _ (List.mem_of_getElem? (i := 14) rfl))), (List.forall_mem_cons.mpr ⟨(List.mem_cons_of_mem _ (List.mem_append_left _ (List.mem_of_getElem? (i := 13) rfl))), (List.forall_mem_cons.mpr ⟨(List.mem_cons_of_mem _ (List.mem_append_left _ (List.mem_of_getElem? (i := 12) rfl))), (List.forall_mem_cons.mpr ⟨(List.mem_cons_of_mem _ (List.mem_append_left _ (List.mem_of_getElem? (i := 0) rfl))), (fun _ h => absurd h List.not_mem_nil)⟩)⟩)⟩)⟩) (kGV _ _ _ _) (fun _ h => List.mem_cons_of_mem _ (List.mem_append_right _ (List.mem_append_right _ (List.mem_append_right _ (List.mem_append_right _ (List.mem_append_right _ (List.mem_append_left _ h))))))) gw_s_write4x) rfl rfl rfl ⟨rfl, hd_X4_write⟩ ⟨(Nat.le_of_ble_eq_true rfl), (Nat.le_of_ble_eq_true rfl)⟩) (kW_V kT_blind kT_give (va_recv hKc hPc (ci := 4) (q0 := 0) rfl rfl) hPc hKc hDc) rfl rfl hl.1 rfl (lv_room (Nat.le_of_ble_eq_true rfl)) dX4_readTruth_51 ⟨(Nat.le_of_ble_eq_true rfl), (Nat.le_of_ble_eq_true rfl)⟩) hS (fun q _ h => hFc q h) hFc (fun r_43 => kU2 (fun S1_44 Wr_45 t H_46 locs ht hvm hw hB hz1 hk1 hS => ?_))
              try dsimp only at hw
              have hPD : kPD dC dI A [(jR, .inr (4, [.ref jT, .ref r1, .ref r2, .int (nI (Wr_45)), .int (nI (fi)), .int (nI (Pn_34)), .ref q6, .ref q7])), (r1, .inl (c1, 120, .inl S1_44)), (r2, .inl (c2, 124, .inl s2)), (jT, .inr (8, [.ref t0, .int (nI (kt))])), (t0, .inl (cC, 120, .inl gT))] H_46 := kJoinX hP hD [0, 1, 2, 3, 4] rfl hk1 hFc hB.1 ht hB.2.2 rfl [some 0, some 1, some 2, some 3, some 4] rfl rfl
              have hP := hPD.1
              have hD := hPD.2
              obtain ⟨rfl, hw_47⟩ := hw
              refine lv_if_ne (tgt := 59) hx hb dX4_readTruth_54 kc_t_54_5 (fun c_48 => ?_) (fun c_48 => absurd c_48 (by decide))
              refine lv_iinc (v := nI (i + 1)) hx hb dX4_readTruth_59 hl (k := 0) rfl (kInc _ 1) kc_l_3_4 (kTo [(3, .int (nI (i + 1))), (0, .ref jR), (1, .int 6), (2, .int 0)]) (fun ls hl => ?_)
              refine lv_goto (tgt := 13) hx hb dX4_readTruth_62 kc_t_62_m49 ?_
              exact ih_k_10 (i + 1) S1_44 Pn_34 Wr_45 (xl ++ xl_36 ++ [nI (20000 + 38)]) (by omega) (by omega) (by omega) (by have e9 := kLoop_t (b := bt) (n := kt) (c1 := 38) (c2 := 38) (a := kUnitD bt kt g7 n7 0) (f := 120 - (i + 1)) (p := xpn) (l := xl) (by rw [← hw_22_0]; omega) (by rw [← hw_22_1]; exact hw_38.2.1.1); rw [← hw_22_0] at e9; rw [show ch_20 = 38 by omega] at e9; rw [← e9, show (120 - (i + 1)) + 1 = 120 - i by omega]; exact ivk_10_3) (by simp only [List.length_append, List.length_cons, List.length_nil]; omega) (kWrt3 ivk_10_5 ivk_10_4 hw_38_S hw_38_W hw_47.2) (by simp only [List.length_append, List.length_cons, List.length_nil]; omega) (by omega) _ _ hP hD hS ls (lv_sub hl [0, 1, 2, 3] rfl) (by omega)
    exact lp_k_10 (120 - 0 + 1) 0 S1_2 Pn_4 Wr_3 xl_6 (by omega) (by omega) (by omega) (kMany_t hw_8.2.1.1).symm hw_8_W hw_8_S hw_8_l hw_8_p _ _ hP hD hS ls (lv_sub hl [0, 1, 2, 3] rfl) (by omega)
  · obtain rfl : xo_5 = false := kBo_f (kZr9 hw_8.1 c_9)
    have hw_8_k := hw_8.2.1.2.1
    refine lv_iconst (v := 0) hx hb dX4_readTruth_9 kc_i_0 ?_
    have hP9 := hP
    have hD9 := hD
    have hK9 := hK
    rw [hQ]
    exact W.zret (v := 0) hx hb hr rfl (fun t ht hW => ⟨⟨0, (S1_2, Wr_3, Pn_4, false, ([])), rfl, ⟨rfl, kPR_f (kMany_f hw_8.2.1.1) (by omega), by omega⟩,  by rw [ht]; exact hP9, va_K.moved hW.alike hK9, hD9⟩, hS.F ht⟩) hS.2.2 dX4_readTruth_10

theorem dX4_readCondition_0 : decode cX4_readCondition 0 = .ok (.aload_n 0, 1) := kDs0 kf_42 (by decide +kernel)
theorem dX4_readCondition_1 : decode cX4_readCondition 1 = .ok (.iload_n 1, 1) := kDs0 kf_27 (by decide +kernel)
theorem dX4_readCondition_2 : decode cX4_readCondition 2 = .ok (.iload_n 2, 1) := kDs0 kf_28 (by decide +kernel)
theorem dX4_readCondition_3 : decode cX4_readCondition 3 = .ok (.invokevirtual 93, 3) := kDs2 kf_182 (by decide +kernel)
theorem dX4_readCondition_6 : decode cX4_readCondition 6 = .ok (.ifCond .ne 5, 3) := kDs4 kf_154 (by decide +kernel)
theorem dX4_readCondition_11 : decode cX4_readCondition 11 = .ok (.iconst 0, 1) := kDs0 kf_3 (by decide +kernel)
theorem dX4_readCondition_12 : decode cX4_readCondition 12 = .ok (.istore_n 3, 1) := kDs0 kf_62 (by decide +kernel)
theorem dX4_readCondition_13 : decode cX4_readCondition 13 = .ok (.iload_n 3, 1) := kDs0 kf_29 (by decide +kernel)
theorem dX4_readCondition_14 : decode cX4_readCondition 14 = .ok (.bipush 120, 2) := kDs3 kf_16 (by decide +kernel)
theorem dX4_readCondition_16 : decode cX4_readCondition 16 = .ok (.if_icmp .ge 49, 3) := kDs4 kf_162 (by decide +kernel)
theorem dX4_readCondition_65 : decode cX4_readCondition 65 = .ok (.iconst 1, 1) := kDs0 kf_4 (by decide +kernel)
theorem dX4_readCondition_66 : decode cX4_readCondition 66 = .ok (.ireturn, 1) := kDs0 kf_172 (by decide +kernel)
theorem dX4_readCondition_19 : decode cX4_readCondition 19 = .ok (.aload_n 0, 1) := kDs0 kf_42 (by decide +kernel)
theorem dX4_readCondition_20 : decode cX4_readCondition 20 = .ok (.invokevirtual 53, 3) := kDs2 kf_182 (by decide +kernel)
theorem dX4_readCondition_23 : decode cX4_readCondition 23 = .ok (.bipush 124, 2) := kDs3 kf_16 (by decide +kernel)
theorem dX4_readCondition_25 : decode cX4_readCondition 25 = .ok (.if_icmp .ne 40, 3) := kDs4 kf_160 (by decide +kernel)
theorem dX4_readCondition_28 : decode cX4_readCondition 28 = .ok (.aload_n 0, 1) := kDs0 kf_42 (by decide +kernel)
theorem dX4_readCondition_29 : decode cX4_readCondition 29 = .ok (.dup, 1) := kDs0 kf_89 (by decide +kernel)
theorem dX4_readCondition_30 : decode cX4_readCondition 30 = .ok (.getfield 25, 3) := kDs2 kf_180 (by decide +kernel)
theorem dX4_readCondition_33 : decode cX4_readCondition 33 = .ok (.iconst 1, 1) := kDs0 kf_4 (by decide +kernel)
theorem dX4_readCondition_34 : decode cX4_readCondition 34 = .ok (.iadd, 1) := kDs0 kf_96 (by decide +kernel)
theorem dX4_readCondition_35 : decode cX4_readCondition 35 = .ok (.putfield 25, 3) := kDs2 kf_181 (by decide +kernel)
theorem dX4_readCondition_38 : decode cX4_readCondition 38 = .ok (.aload_n 0, 1) := kDs0 kf_42 (by decide +kernel)
theorem dX4_readCondition_39 : decode cX4_readCondition 39 = .ok (.iload_n 1, 1) := kDs0 kf_27 (by decide +kernel)
theorem dX4_readCondition_40 : decode cX4_readCondition 40 = .ok (.iconst 0, 1) := kDs0 kf_3 (by decide +kernel)
theorem dX4_readCondition_41 : decode cX4_readCondition 41 = .ok (.invokevirtual 93, 3) := kDs2 kf_182 (by decide +kernel)
theorem dX4_readCondition_44 : decode cX4_readCondition 44 = .ok (.ifCond .eq 13, 3) := kDs4 kf_153 (by decide +kernel)
theorem dX4_readCondition_57 : decode cX4_readCondition 57 = .ok (.iconst 0, 1) := kDs0 kf_3 (by decide +kernel)
theorem dX4_readCondition_58 : decode cX4_readCondition 58 = .ok (.ireturn, 1) := kDs0 kf_172 (by decide +kernel)
theorem dX4_readCondition_47 : decode cX4_readCondition 47 = .ok (.aload_n 0, 1) := kDs0 kf_42 (by decide +kernel)
theorem dX4_readCondition_48 : decode cX4_readCondition 48 = .ok (.sipush 20124, 3) := kDs4 kf_17 (by decide +kernel)
theorem dX4_readCondition_51 : decode cX4_readCondition 51 = .ok (.invokevirtual 96, 3) := kDs2 kf_182 (by decide +kernel)
theorem dX4_readCondition_54 : decode cX4_readCondition 54 = .ok (.ifCond .ne 5, 3) := kDs4 kf_154 (by decide +kernel)
theorem dX4_readCondition_59 : decode cX4_readCondition 59 = .ok (.iinc 3 1, 3) := kDs5 kf_132 (by decide +kernel)
theorem dX4_readCondition_62 : decode cX4_readCondition 62 = .ok (.goto (-49), 3) := kDs4 kf_167 (by decide +kernel)
theorem dX4_readCondition_9 : decode cX4_readCondition 9 = .ok (.iconst 0, 1) := kDs0 kf_3 (by decide +kernel)
theorem dX4_readCondition_10 : decode cX4_readCondition 10 = .ok (.ireturn, 1) := kDs0 kf_172 (by decide +kernel)
def w_s_cond4x_6_0 : List Cond := .code yX4_readCondition cX4_readCondition 4 (some .boolean) :: wf_rq
theorem hd_X4_readCondition : yX4_readCondition.cls ≠ "java/lang/invoke/MethodHandle" ∧ yX4_readCondition.cls ≠ "java/lang/invoke/VarHandle" ∧ (parseMethodDescriptor yX4_readCondition.desc).map (fun d => d.parameters.length) = some 2 := by decide +kernel
set_option maxHeartbeats 4000000 in
set_option maxRecDepth 100000 in
theorem s_cond4x_6_0 (l : Launch) (dC : Nat → ClassId) (dI : Nat → Nat → Nat) (jT : Nat) (t0 : Nat) (cC : ClassId) (gT : Nat → Int32) (kt : Nat) (hkt : kt ≤ 120) (hgT : ∀ j : Nat, narrow .char (.int (gT j)) = .int (gT j)) (bt : Nat → Nat) (hbt : ∀ j : Nat, gT j = nI (bt j)) (hb8 : ∀ j : Nat, bt j < 256) (jR : Nat) (r1 : Nat) (r2 : Nat) (c1 : ClassId) (c2 : ClassId) (s1 : Nat → Int32) (s2 : Nat → Int32) (wr : Nat) (fi : Nat) (q6 : Nat) (q7 : Nat) (hwr : wr ≤ 120) (hfi : fi ≤ 124) (pn : Nat) (hpn : pn ≤ kt) (hwp : wr ≤ pn) (b6 : Nat) (n6 : Nat) (g6 : Nat → Int32) (hn6 : n6 ≤ 8) (b7 : Nat) (n7 : Nat) (g7 : Nat → Int32) (hn7 : n7 ≤ 8) (gn6 : ∀ k : Nat, ∃ v : Nat, v < 128 ∧ g6 k = nI v) (hz6 : kIx g6 n6 (nI 0) = n6) (gn7 : ∀ k : Nat, ∃ v : Nat, v < 128 ∧ g7 k = nI v) (hz7 : kIx g7 n7 (nI 0) = n7) (sz : Nat) : Met l yX4_readCondition w_s_cond4x_6_0 ({ frames := 11, cells := 0, slots := 0, locals := 660 }) (kW dC dI [.ref jR, .int 6, .int 0] [(jR, .inr (4, [.ref jT, .ref r1, .ref r2, .int (nI (wr)), .int (nI (fi)), .int (nI (pn)), .ref q6, .ref q7])), (r1, .inl (c1, 120, .inl s1)), (r2, .inl (c2, 124, .inl s2)), (jT, .inr (8, [.ref t0, .int (nI (kt))])), (t0, .inl (cC, 120, .inl gT))] [(c1, .int), (c2, .int), (cC, .char)] (kS2 q6 b6 n6 g6 q7 b7 n7 g7 (va_A [(jR, .inr (4, [.ref jT, .ref r1, .ref r2, .int (nI (wr)), .int (nI (fi)), .int (nI (pn)), .ref q6, .ref q7])), (r1, .inl (c1, 120, .inl s1)), (r2, .inl (c2, 124, .inl s2)), (jT, .inr (8, [.ref t0, .int (nI (kt))])), (t0, .inl (cC, 120, .inl gT))] sz)) sz) (va_Qi (fun (r : Int32) (u : (Nat → Int32) × Nat × Nat × Bool × (List Int32)) => match u with | (S1, Wr, Pn, xo, xl) => (r = kBo xo ∧ kPR (kConD bt kt g7 n7 0 pn) pn kt wr s1 xo Pn xl Wr S1 ∧ Wr ≤ 120)) (fun (u : (Nat → Int32) × Nat × Nat × Bool × (List Int32)) => match u with | (S1, Wr, Pn, xo, xl) => fun t : State => kB dC dI [(jR, .inr (4, [.ref jT, .ref r1, .ref r2, .int (nI (Wr)), .int (nI (fi)), .int (nI (Pn)), .ref q6, .ref q7])), (r1, .inl (c1, 120, .inl S1)), (r2, .inl (c2, 124, .inl s2)), (jT, .inr (8, [.ref t0, .int (nI (kt))])), (t0, .inl (cC, 120, .inl gT))] [(c1, .int), (c2, .int), (cC, .char)] (va_A [(jR, .inr (4, [.ref jT, .ref r1, .ref r2, .int (nI (wr)), .int (nI (fi)), .int (nI (pn)), .ref q6, .ref q7])), (r1, .inl (c1, 120, .inl s1)), (r2, .inl (c2, 124, .inl s2)), (jT, .inr (8, [.ref t0, .int (nI (kt))])), (t0, .inl (cC, 120, .inl gT))] sz) t) (va_A [(jR, .inr (4, [.ref jT, .ref r1, .ref r2, .int (nI (wr)), .int (nI (fi)), .int (nI (pn)), .ref q6, .ref q7])), (r1, .inl (c1, 120, .inl s1)), (r2, .inl (c2, 124, .inl s2)), (jT, .inr (8, [.ref t0, .int (nI (kt))])), (t0, .inl (cC, 120, .inl gT))] sz)) 0 0 (va_A [(jR, .inr (4, [.ref jT, .ref r1, .ref r2, .int (nI (wr)), .int (nI (fi)), .int (nI (pn)), .ref q6, .ref q7])), (r1, .inl (c1, 120, .inl s1)), (r2, .inl (c2, 124, .inl s2)), (jT, .inr (8, [.ref t0, .int (nI (kt))])), (t0, .inl (cC, 120, .inl gT))] sz) := by
  refine Met.ofW (cc := cX4_readCondition) (maxL := 4) (ret := (some .boolean)) (by decide) rfl ?_
  intro p e s m args below meth c s₁ B hml hv
  obtain ⟨rfl, hsz, hP, hK, hD0, hX⟩ := hv
  have hx := B.exec
  have hb := B.bytes
  have hr := B.returns
  have hts := atoms_spec (ws := w_s_cond4x_6_0) B.pre
  have hown : s.vm.findClass RX4 = some m.cls := findClass_of_methodNamed B.named
  have hlocks := B.notSynchronized
  subst hsz
  have hD := hD0.self (sz := s.heap.size)
  generalize hAe : va_A [(jR, .inr (4, [.ref jT, .ref r1, .ref r2, .int (nI (wr)), .int (nI (fi)), .int (nI (pn)), .ref q6, .ref q7])), (r1, .inl (c1, 120, .inl s1)), (r2, .inl (c2, 124, .inl s2)), (jT, .inr (8, [.ref t0, .int (nI (kt))])), (t0, .inl (cC, 120, .inl gT))] s.heap.size = A at hD hX ⊢
  have hA : ∀ q : Nat, s.heap.size ≤ q → A q := fun q h => by rw [← hAe]; exact Or.inr h
  have hS : va_S A s.heap s.heap [] := va_S.rf
  have hP : va_P (dC, dI) vwCl [(jR, .inr (4, [.ref jT, .ref r1, .ref r2, .int (nI (wr)), .int (nI (fi)), .int (nI (pn)), .ref q6, .ref q7])), (r1, .inl (c1, 120, .inl s1)), (r2, .inl (c2, 124, .inl s2)), (jT, .inr (8, [.ref t0, .int (nI (kt))])), (t0, .inl (cC, 120, .inl gT))] s.heap := hP
  have hl := lv_entry ([.ref jR, .int 6, .int 0]) (n := 4) (Nat.le_of_ble_eq_true rfl)
  rw [lg_entry_eq]
  generalize (lg_sl ([.ref jR, .int 6, .int 0]) ++ List.replicate (4 - (lg_sl ([.ref jR, .int 6, .int 0])).length) Slot.unset).toArray = ls at hl ⊢
  have hl : lv_has ls 4 [(0, .ref jR), (1, .int 6), (2, .int 0)] := hl
  refine kQ (fun Q hQ => ?_)
  refine lv_aload_n hx hb dX4_readCondition_0 rfl (lv_at hl 0 rfl) ?_
  refine lv_iload_n hx hb dX4_readCondition_1 rfl (lv_at hl 1 rfl) ?_
  refine lv_iload_n hx hb dX4_readCondition_2 rfl (lv_at hl 2 rfl) ?_
  have hCu := kCut (wc := [(jR, .inr (4, [.ref jT, .ref r1, .ref r2, .int (nI (wr)), .int (nI (fi)), .int (nI (pn)), .ref q6, .ref q7])), (r1, .inl (c1, 120, .inl s1)), (r2, .inl (c2, 124, .inl s2)), (jT, .inr (8, [.ref t0, .int (nI (kt))])), (t0, .inl (cC, 120, .inl gT))]) hP hD hS hA [0, 1, 2, 3, 4] rfl kc_nd_311 rfl
  have hPc := hCu.1
  have hDc := hCu.2.1
  have hFc := hCu.2.2
  have hKc := hK.sb (tys2 := [(c1, .int), (c2, .int), (cC, .char)]) [0, 1, 2] rfl
  refine va_calli (va_runV (As := [.int 6, .int 0]) (rest := []) ⟨hx, hb, hml, hown, hts⟩ (s_truth4x_6_0 l dC dI jT t0 cC gT kt hkt hgT bt hbt hb8 jR r1 r2 c1 c2 s1 s2 wr fi q6 q7 hwr hfi pn hpn hwp b6 n6 g6 hn6 b7 n7 g7 hn7 gn6 hz6 gn7 hz7 s.heap.size) (cwV 2 hts (kG (List.forall_mem_cons.mpr ⟨(List.mem_cons_of_mem _ (List.mem_append_left _ (List.mem_of_getElem? (i := 42) rfl))), (List.forall_mem_cons.mpr ⟨(List.mem_cons_of_mem _ (List.mem_append_left _ (List.mem_of_getElem? (i := 41) rfl))), (List.forall_mem_cons.mpr ⟨(List.mem_cons_of_mem _ (List.mem_append_left _ (List.mem_of_getElem? (i := 40) rfl))), (List.forall_mem_cons.mpr ⟨(List.mem_cons_of_mem _ (List.mem_append_left _ (List.mem_of_getElem? (i := 0) rfl))), (fun _ h => absurd h List.not_mem_nil)⟩)⟩)⟩)⟩) (kGV _ _ _ _) (kFam (List.mem_cons_of_mem _ (List.mem_append_left _ (List.mem_of_getElem? (i := 39) rfl)))) gw_s_truth4x_6_0) rfl rfl rfl ⟨rfl, hd_X4_readTruth⟩ ⟨(Nat.le_of_ble_eq_true rfl), (Nat.le_of_ble_eq_true rfl)⟩) (kW_V kS2_blind (kS2_give hX hS hFc) (va_recv hKc hPc (ci := 4) (q0 := 0) rfl rfl) hPc hKc hDc) rfl rfl hl.1 rfl (lv_room (Nat.le_of_ble_eq_true rfl)) dX4_readCondition_3 ⟨(Nat.le_of_ble_eq_true rfl), (Nat.le_of_ble_eq_true rfl)⟩) hS (fun q _ h => hFc q h) hFc (fun r_1 => kU5 (fun S1_2 Wr_3 Pn_4 xo_5 xl_6 t H_7 locs ht hvm hw hB hz1 hk1 hS => ?_))
  try dsimp only at hw
  have hPD : kPD dC dI A [(jR, .inr (4, [.ref jT, .ref r1, .ref r2, .int (nI (Wr_3)), .int (nI (fi)), .int (nI (Pn_4)), .ref q6, .ref q7])), (r1, .inl (c1, 120, .inl S1_2)), (r2, .inl (c2, 124, .inl s2)), (jT, .inr (8, [.ref t0, .int (nI (kt))])), (t0, .inl (cC, 120, .inl gT))] H_7 := kJoinX hP hD [0, 1, 2, 3, 4] rfl hk1 hFc hB.1 ht hB.2.2 rfl [some 0, some 1, some 2, some 3, some 4] rfl rfl
  have hP := hPD.1
  have hD := hPD.2
  have hw_8 := hw
  refine lv_if_ne (tgt := 11) hx hb dX4_readCondition_6 kc_t_6_5 (fun c_9 => ?_) (fun c_9 => ?_)
  · obtain rfl : xo_5 = true := kBo_t (kNz9 hw_8.1 c_9)
    obtain ⟨hw_8_W, hw_8_S, hw_8_l, hw_8_p⟩ := hw_8.2.1.2.2 rfl
    have hw_8_k := hw_8.2.1.2.1
    refine lv_iconst (v := 0) hx hb dX4_readCondition_11 kc_i_0 ?_
    refine lv_istore_n hx hb dX4_readCondition_12 rfl hl kc_l_3_4 (kTo [(3, .int 0), (0, .ref jR), (1, .int 6), (2, .int 0)]) (fun ls hl => ?_)
    have lp_k_10 : ∀ (n9 : Nat) (i : Nat) (xs1 : Nat → Int32) (xpn : Nat) (xwr : Nat) (xl : List Int32) (ivk_10_0 : i ≤ 120) (ivk_10_1 : xwr ≤ 120) (ivk_10_2 : xpn ≤ kt) (ivk_10_3 : kLoop bt kt 124 124 (kTruD bt kt g7 n7 0) (120 - i) xpn xl = kConD bt kt g7 n7 0 pn) (ivk_10_4 : xwr = wr + xl.length) (ivk_10_5 : xs1 = kWrt s1 wr xl) (ivk_10_6 : pn + xl.length ≤ xpn) (ivk_10_7 : pn < xpn) (H : Heap) (locs : List Loc) (_ : va_P (dC, dI) vwCl [(jR, .inr (4, [.ref jT, .ref r1, .ref r2, .int (nI (xwr)), .int (nI (fi)), .int (nI (xpn)), .ref q6, .ref q7])), (r1, .inl (c1, 120, .inl xs1)), (r2, .inl (c2, 124, .inl s2)), (jT, .inr (8, [.ref t0, .int (nI (kt))])), (t0, .inl (cC, 120, .inl gT))] H) (_ : va_D A [(jR, .inr (4, [.ref jT, .ref r1, .ref r2, .int (nI (xwr)), .int (nI (fi)), .int (nI (xpn)), .ref q6, .ref q7])), (r1, .inl (c1, 120, .inl xs1)), (r2, .inl (c2, 124, .inl s2)), (jT, .inr (8, [.ref t0, .int (nI (kt))])), (t0, .inl (cC, 120, .inl gT))]) (_ : va_S A s.heap H locs) (ls : Array Slot) (_ : lv_has ls 4 [(3, .int (nI (i))), (0, .ref jR), (1, .int 6), (2, .int 0)]) (_ : 120 - i < n9), W p l e (headSpec w_s_cond4x_6_0 ({ frames := 11, cells := 0, slots := 0, locals := 660 })).room s m (#[.ref jR, .int 6, .int 0] : Array Value) below meth c H locs 0 0 Q (F0 m 13 ls []) := by
      intro n9
      induction n9 with
      | zero => intro i xs1 xpn xwr xl ivk_10_0 ivk_10_1 ivk_10_2 ivk_10_3 ivk_10_4 ivk_10_5 ivk_10_6 ivk_10_7 H locs hP hD hS ls hl hm9; exact absurd hm9 (Nat.not_lt_zero _)
      | succ n9 ih_k_10 =>
        intro i xs1 xpn xwr xl ivk_10_0 ivk_10_1 ivk_10_2 ivk_10_3 ivk_10_4 ivk_10_5 ivk_10_6 ivk_10_7 H locs hP hD hS ls hl hm9
        refine lv_iload_n hx hb dX4_readCondition_13 rfl (lv_at hl 0 rfl) ?_
        refine lv_bipush (v := 120) hx hb dX4_readCondition_14 kc_b_120 ?_
        refine lv_icmp_ge (tgt := 65) hx hb dX4_readCondition_16 kc_t_16_49 (fun c_11 => ?_) (fun c_11 => ?_)
        · have bd_13 : i < 2147483648 := by omega
          have hn_12 := kle (a := 120) (b := i) kc_31_120 bd_13 c_11
          refine lv_iconst (v := 1) hx hb dX4_readCondition_65 kc_i_1 ?_
          have hP9 := hP
          have hD9 := hD
          have hK9 := hK
          rw [hQ]
          exact W.zret (v := 1) hx hb hr rfl (fun t ht hW => ⟨⟨1, (xs1, xwr, xpn, true, xl), rfl, ⟨rfl, kPR_t (a := kConD bt kt g7 n7 0) rfl (kConD_good hz7 0) (by omega) (by rw [← ivk_10_3, show 120 - i = 0 by omega]; rfl) ivk_10_4 ivk_10_5, by omega⟩,  by rw [ht]; exact hP9, va_K.moved hW.alike hK9, hD9⟩, hS.F ht⟩) hS.2.2 dX4_readCondition_66
        · have bd_15 : i < 2147483648 := by omega
          have hn_14 := knle (a := 120) (b := i) kc_31_120 bd_15 c_11
          refine lv_aload_n hx hb dX4_readCondition_19 rfl (lv_at hl 1 rfl) ?_
          have bd_16 : xwr ≤ 120 := by omega
          have bd_17 : xpn ≤ kt := by omega
          have hCu := kCut (wc := [(jR, .inr (4, [.ref jT, .ref r1, .ref r2, .int (nI (xwr)), .int (nI (fi)), .int (nI (xpn)), .ref q6, .ref q7])), (r1, .inl (c1, 120, .inl xs1)), (r2, .inl (c2, 124, .inl s2)), (jT, .inr (8, [.ref t0, .int (nI (kt))])), (t0, .inl (cC, 120, .inl gT))]) hP hD hS hA [0, 1, 2, 3, 4] rfl kc_nd_311 rfl
          have hPc := hCu.1
          have hDc := hCu.2.1
          have hFc := hCu.2.2
          have hKc := hK.sb (tys2 := [(c1, .int), (c2, .int), (cC, .char)]) [0, 1, 2] rfl
          refine va_calli (va_runV (As := []) (rest := []) ⟨hx, hb, hml, hown, hts⟩ (s_look4x l dC dI jT t0 cC gT kt hkt hgT bt hbt hb8 jR r1 r2 c1 c2 xs1 s2 xwr fi q6 q7 bd_16 hfi xpn bd_17 H.size) (cwV 0 hts (kG (List.forall_mem_cons.mpr ⟨(List.mem_cons_of_mem _ (List.mem_append_left _ (List.mem_of_getElem? (i := 3) rfl))), (List.forall_mem_cons.mpr ⟨(List.mem_cons_of_mem _ (List.mem_append_left _ (List.mem_of_getElem? (i := 2) rfl))), (List.forall_mem_cons.mpr ⟨(List.mem_cons_of_mem _ (List.mem_append_left _ (List.mem_of_getElem? (i := 1) rfl))), (List.forall_mem_cons.mpr ⟨(List.mem_cons_of_mem _ (List.mem_append_left _ (List.mem_of_getElem? (i := 0) rfl))), (fun _ h => absurd h List.not_mem_nil)⟩)⟩)⟩)⟩) (kGV _ _ _ _) (fun _ h => List.mem_cons_of_mem _ (List.mem_append_right _ (List.mem_append_left _ h))) gw_s_look4x) rfl rfl rfl ⟨rfl, hd_X4_look⟩ ⟨(Nat.le_of_ble_eq_true rfl), (Nat.le_of_ble_eq_true rfl)⟩) (kW_V kT_blind kT_give (va_recv hKc hPc (ci := 4) (q0 := 0) rfl rfl) hPc hKc hDc) rfl rfl hl.1 rfl (lv_room (Nat.le_of_ble_eq_true rfl)) dX4_readCondition_20 ⟨(Nat.le_of_ble_eq_true rfl), (Nat.le_of_ble_eq_true rfl)⟩) hS (fun q _ h => hFc q h) hFc (fun r_18 => kU2 (fun Pn_19 ch_20 t H_21 locs ht hvm hw hB hz1 hk1 hS => ?_))
          try dsimp only at hw
          have hPD : kPD dC dI A [(jR, .inr (4, [.ref jT, .ref r1, .ref r2, .int (nI (xwr)), .int (nI (fi)), .int (nI (Pn_19)), .ref q6, .ref q7])), (r1, .inl (c1, 120, .inl xs1)), (r2, .inl (c2, 124, .inl s2)), (jT, .inr (8, [.ref t0, .int (nI (kt))])), (t0, .inl (cC, 120, .inl gT))] H_21 := kJoinX hP hD [0, 1, 2, 3, 4] rfl hk1 hFc hB.1 ht hB.2.2 rfl [some 0, some 1, some 2, some 3, some 4] rfl rfl
          have hP := hPD.1
          have hD := hPD.2
          obtain ⟨rfl, hw_22_0, hw_22_1, hw_22_2, hw_22_3, hw_22_4, hw_22_5, hw_22_6⟩ := hw
          refine lv_bipush (v := 124) hx hb dX4_readCondition_23 kc_b_124 ?_
          refine lv_icmp_ne (tgt := 65) hx hb dX4_readCondition_25 kc_t_25_40 (fun c_23 => ?_) (fun c_23 => ?_)
          · have bd_25 : ch_20 < 2147483648 := by omega
            have hn_24 := kneq (a := ch_20) (b := 124) bd_25 kc_31_124 c_23
            refine lv_iconst (v := 1) hx hb dX4_readCondition_65 kc_i_1 ?_
            have hP9 := hP
            have hD9 := hD
            have hK9 := hK
            rw [hQ]
            exact W.zret (v := 1) hx hb hr rfl (fun t ht hW => ⟨⟨1, (xs1, xwr, Pn_19, true, xl), rfl, ⟨rfl, kPR_t (a := kConD bt kt g7 n7 0) rfl (kConD_good hz7 0) (by omega) (by rw [← ivk_10_3, show 120 - i = (119 - i) + 1 by omega, kLoop_e (by rw [← hw_22_0]; omega), ← hw_22_1]) ivk_10_4 ivk_10_5, by omega⟩,  by rw [ht]; exact hP9, va_K.moved hW.alike hK9, hD9⟩, hS.F ht⟩) hS.2.2 dX4_readCondition_66
          · have bd_27 : ch_20 < 2147483648 := by omega
            have hn_26 := keq (a := ch_20) (b := 124) bd_27 kc_31_124 c_23
            refine lv_aload_n hx hb dX4_readCondition_28 rfl (lv_at hl 1 rfl) ?_
            refine lv_dup hx hb dX4_readCondition_29 rfl ?_
            refine va_get (D := (dC, dI)) (ci := 4) (v := .int (nI (Pn_19))) (C := RX4) (T := TX4) (N := 8) hx hb hts (fun _ h => List.mem_cons_of_mem _ (List.mem_append_right _ (List.mem_append_right _ (List.mem_append_right _ (List.mem_append_left _ h))))) hown hK hP 0 rfl rfl 5 kc_l_5_8 (hts (.fieldLink RX4 25 "NotEnded$Reader" "place" "I") (List.mem_cons_of_mem _ (List.mem_append_left _ (List.mem_of_getElem? (i := 11) rfl)))) (fun _ h9 => h9) rfl dX4_readCondition_30 ?_
            refine lv_iconst (v := 1) hx hb dX4_readCondition_33 kc_i_1 ?_
            refine lv_iadd hx hb dX4_readCondition_34 ?_
            refine lv_topi (fun y_28 ey_28 => ?_)
            obtain rfl : y_28 = nI (Pn_19 + 1) := ey_28.trans (nI_add (Pn_19) (1))
            refine va_put (D := (dC, dI)) (ci := 4) (v := .int (nI (Pn_19 + 1))) (ty := tyX4 5) (C := RX4) (T := TX4) (N := 8) hx hb hts (fun _ h => List.mem_cons_of_mem _ (List.mem_append_right _ (List.mem_append_right _ (List.mem_append_right _ (List.mem_append_left _ h))))) tyX4 tyX4_ok nmX4 hown hK hP hD hS 0 rfl rfl 5 kc_l_5_8 (hts (.fieldLink RX4 25 "NotEnded$Reader" "place" "I") (List.mem_cons_of_mem _ (List.mem_append_left _ (List.mem_of_getElem? (i := 11) rfl)))) (fun _ h9 => h9) rfl (tyX4_ok 5 kc_l_5_8) rfl rfl (Nat.le_of_ble_eq_true rfl) dX4_readCondition_35 (fun H locs hP hD hS => ?_)
            have hPD : kPD dC dI A [(jR, .inr (4, [.ref jT, .ref r1, .ref r2, .int (nI (xwr)), .int (nI (fi)), .int (nI (Pn_19 + 1)), .ref q6, .ref q7])), (r1, .inl (c1, 120, .inl xs1)), (r2, .inl (c2, 124, .inl s2)), (jT, .inr (8, [.ref t0, .int (nI (kt))])), (t0, .inl (cC, 120, .inl gT))] H := ⟨hP, hD⟩
            have hP := hPD.1
            have hD := hPD.2
            refine lv_aload_n hx hb dX4_readCondition_38 rfl (lv_at hl 1 rfl) ?_
            refine lv_iload_n hx hb dX4_readCondition_39 rfl (lv_at hl 2 rfl) ?_
            refine lv_iconst (v := 0) hx hb dX4_readCondition_40 kc_i_0 ?_
            have bd_29 : (Pn_19 + 1) ≤ kt := by omega
            have bd_30 : xwr ≤ (Pn_19 + 1) := by omega
            have hCu := kCut (wc := [(jR, .inr (4, [.ref jT, .ref r1, .ref r2, .int (nI (xwr)), .int (nI (fi)), .int (nI (Pn_19 + 1)), .ref q6, .ref q7])), (r1, .inl (c1, 120, .inl xs1)), (r2, .inl (c2, 124, .inl s2)), (jT, .inr (8, [.ref t0, .int (nI (kt))])), (t0, .inl (cC, 120, .inl gT))]) hP hD hS hA [0, 1, 2, 3, 4] rfl kc_nd_311 rfl
            have hPc := hCu.1
            have hDc := hCu.2.1
            have hFc := hCu.2.2
            have hKc := hK.sb (tys2 := [(c1, .int), (c2, .int), (cC, .char)]) [0, 1, 2] rfl
            refine va_calli (va_runV (As := [.int 6, .int 0]) (rest := []) ⟨hx, hb, hml, hown, hts⟩ (s_truth4x_6_0 l dC dI jT t0 cC gT kt hkt hgT bt hbt hb8 jR r1 r2 c1 c2 xs1 s2 xwr fi q6 q7 bd_16 hfi (Pn_19 + 1) bd_29 bd_30 b6 n6 g6 hn6 b7 n7 g7 hn7 gn6 hz6 gn7 hz7 H.size) (cwV 2 hts (kG (List.forall_mem_cons.mpr ⟨(List.mem_cons_of_mem _ (List.mem_append_left _ (List.mem_of_getElem? (i := 42) rfl))), (List.forall_mem_cons.mpr ⟨(List.mem_cons_of_mem _ (List.mem_append_left _ (List.mem_of_getElem? (i := 41) rfl))), (List.forall_mem_cons.mpr ⟨(List.mem_cons_of_mem _ (List.mem_append_left _ (List.mem_of_getElem? (i := 40) rfl))), (List.forall_mem_cons.mpr ⟨(List.mem_cons_of_mem _ (List.mem_append_left _ (List.mem_of_getElem? (i := 0) rfl))), (fun _ h => absurd h List.not_mem_nil)⟩)⟩)⟩)⟩) (kGV _ _ _ _) (kFam (List.mem_cons_of_mem _ (List.mem_append_left _ (List.mem_of_getElem? (i := 39) rfl)))) gw_s_truth4x_6_0) rfl rfl rfl ⟨rfl, hd_X4_readTruth⟩ ⟨(Nat.le_of_ble_eq_true rfl), (Nat.le_of_ble_eq_true rfl)⟩) (kW_V kS2_blind (kS2_give hX hS hFc) (va_recv hKc hPc (ci := 4) (q0 := 0) rfl rfl) hPc hKc hDc) rfl rfl hl.1 rfl (lv_room (Nat.le_of_ble_eq_true rfl)) dX4_readCondition_41 ⟨(Nat.le_of_ble_eq_true rfl), (Nat.le_of_ble_eq_true rfl)⟩) hS (fun q _ h => hFc q h) hFc (fun r_31 => kU5 (fun S1_32 Wr_33 Pn_34 xo_35 xl_36 t H_37 locs ht hvm hw hB hz1 hk1 hS => ?_))
            try dsimp only at hw
            have hPD : kPD dC dI A [(jR, .inr (4, [.ref jT, .ref r1, .ref r2, .int (nI (Wr_33)), .int (nI (fi)), .int (nI (Pn_34)), .ref q6, .ref q7])), (r1, .inl (c1, 120, .inl S1_32)), (r2, .inl (c2, 124, .inl s2)), (jT, .inr (8, [.ref t0, .int (nI (kt))])), (t0, .inl (cC, 120, .inl gT))] H_37 := kJoinX hP hD [0, 1, 2, 3, 4] rfl hk1 hFc hB.1 ht hB.2.2 rfl [some 0, some 1, some 2, some 3, some 4] rfl rfl
            have hP := hPD.1
            have hD := hPD.2
            have hw_38 := hw
            refine lv_if_eq (tgt := 57) hx hb dX4_readCondition_44 kc_t_44_13 (fun c_39 => ?_) (fun c_39 => ?_)
            · obtain rfl : xo_35 = false := kBo_f (kZr9 hw_38.1 c_39)
              have hw_38_k := hw_38.2.1.2.1
              refine lv_iconst (v := 0) hx hb dX4_readCondition_57 kc_i_0 ?_
              have hP9 := hP
              have hD9 := hD
              have hK9 := hK
              rw [hQ]
              exact W.zret (v := 0) hx hb hr rfl (fun t ht hW => ⟨⟨0, (S1_32, Wr_33, Pn_34, false, ([])), rfl, ⟨rfl, kPR_f (by rw [← ivk_10_3, show 120 - i = (119 - i) + 1 by omega]; exact kLoop_f (by rw [← hw_22_0]; omega) (by rw [← hw_22_1]; exact hw_38.2.1.1)) (by omega), by omega⟩,  by rw [ht]; exact hP9, va_K.moved hW.alike hK9, hD9⟩, hS.F ht⟩) hS.2.2 dX4_readCondition_58
            · obtain rfl : xo_35 = true := kBo_t (kNz9 hw_38.1 c_39)
              obtain ⟨hw_38_W, hw_38_S, hw_38_l, hw_38_p⟩ := hw_38.2.1.2.2 rfl
              have hw_38_k := hw_38.2.1.2.1
              refine lv_aload_n hx hb dX4_readCondition_47 rfl (lv_at hl 1 rfl) ?_
              refine lv_sipush (v := 20124) hx hb dX4_readCondition_48 kc_s_20124 ?_
              have bd_40 : Wr_33 ≤ 120 := by omega
              have bd_41 : Pn_34 ≤ kt := by omega
              have bd_42 : Wr_33 < 120 := by omega
              have hCu := kCut (wc := [(jR, .inr (4, [.ref jT, .ref r1, .ref r2, .int (nI (Wr_33)), .int (nI (fi)), .int (nI (Pn_34)), .ref q6, .ref q7])), (r1, .inl (c1, 120, .inl S1_32)), (r2, .inl (c2, 124, .inl s2)), (jT, .inr (8, [.ref t0, .int (nI (kt))])), (t0, .inl (cC, 120, .inl gT))]) hP hD hS hA [0, 1, 2, 3, 4] rfl kc_nd_311 rfl
              have hPc := hCu.1
              have hDc := hCu.2.1
              have hFc := hCu.2.2
              have hKc := hK.sb (tys2 := [(c1, .int), (c2, .int), (cC, .char)]) [0, 1, 2] rfl
              refine va_calli (va_runV (As := [.int 20124]) (rest := []) ⟨hx, hb, hml, hown, hts⟩ (s_write4x l dC dI jT t0 cC gT kt hkt hgT bt hbt hb8 jR r1 r2 c1 c2 S1_32 s2 Wr_33 fi q6 q7 bd_40 hfi Pn_34 bd_41 20124 bd_42 H_37.size) (cwV 1 hts (kG (List.forall_mem_cons.mpr ⟨(List.mem_cons_of_mem _ (List.mem_append_left _ (List.mem_of_getElem? (i := 14) rfl))), (List.forall_mem_cons.mpr ⟨(List.mem_cons_of_mem _ (List.mem_append_left _ (List.mem_of_getElem? (i := 13) rfl))), (List.forall_mem_cons.mpr ⟨(List.mem_cons_of_mem _ (List.mem_append_left _ (List.mem_of_getElem? (i := 12) rfl))), (List.forall_mem_cons.mpr ⟨(List.mem_cons_of_mem _ (List.mem_append_left _ (List.mem_of_getElem? (i := 0) rfl))), (fun _ h => absurd h List.not_mem_nil)⟩)⟩)⟩)⟩) (kGV _ _ _ _) (fun _ h => List.mem_cons_of_mem _ (List.mem_append_right _ (List.mem_append_right _ (List.mem_append_right _ (List.mem_append_right _ (List.mem_append_right _ (List.mem_append_left _ h))))))) gw_s_write4x) rfl rfl rfl ⟨rfl, hd_X4_write⟩ ⟨(Nat.le_of_ble_eq_true rfl), (Nat.le_of_ble_eq_true rfl)⟩) (kW_V kT_blind kT_give (va_recv hKc hPc (ci := 4) (q0 := 0) rfl rfl) hPc hKc hDc) rfl rfl hl.1 rfl (lv_room (Nat.le_of_ble_eq_true rfl)) dX4_readCondition_51 ⟨(Nat.le_of_ble_eq_true rfl), (Nat.le_of_ble_eq_true rfl)⟩) hS (fun q _ h => hFc q h) hFc (fun r_43 => kU2 (fun S1_44 Wr_45 t H_46 locs ht hvm hw hB hz1 hk1 hS => ?_))
              try dsimp only at hw
              have hPD : kPD dC dI A [(jR, .inr (4, [.ref jT, .ref r1, .ref r2, .int (nI (Wr_45)), .int (nI (fi)), .int (nI (Pn_34)), .ref q6, .ref q7])), (r1, .inl (c1, 120, .inl S1_44)), (r2, .inl (c2, 124, .inl s2)), (jT, .inr (8, [.ref t0, .int (nI (kt))])), (t0, .inl (cC, 120, .inl gT))] H_46 := kJoinX hP hD [0, 1, 2, 3, 4] rfl hk1 hFc hB.1 ht hB.2.2 rfl [some 0, some 1, some 2, some 3, some 4] rfl rfl
              have hP := hPD.1
              have hD := hPD.2
              obtain ⟨rfl, hw_47⟩ := hw
              refine lv_if_ne (tgt := 59) hx hb dX4_readCondition_54 kc_t_54_5 (fun c_48 => ?_) (fun c_48 => absurd c_48 (by decide))
              refine lv_iinc (v := nI (i + 1)) hx hb dX4_readCondition_59 hl (k := 0) rfl (kInc _ 1) kc_l_3_4 (kTo [(3, .int (nI (i + 1))), (0, .ref jR), (1, .int 6), (2, .int 0)]) (fun ls hl => ?_)
              refine lv_goto (tgt := 13) hx hb dX4_readCondition_62 kc_t_62_m49 ?_
              exact ih_k_10 (i + 1) S1_44 Pn_34 Wr_45 (xl ++ xl_36 ++ [nI (20000 + 124)]) (by omega) (by omega) (by omega) (by have e9 := kLoop_t (b := bt) (n := kt) (c1 := 124) (c2 := 124) (a := kTruD bt kt g7 n7 0) (f := 120 - (i + 1)) (p := xpn) (l := xl) (by rw [← hw_22_0]; omega) (by rw [← hw_22_1]; exact hw_38.2.1.1); rw [← hw_22_0] at e9; rw [show ch_20 = 124 by omega] at e9; rw [← e9, show (120 - (i + 1)) + 1 = 120 - i by omega]; exact ivk_10_3) (by simp only [List.length_append, List.length_cons, List.length_nil]; omega) (kWrt3 ivk_10_5 ivk_10_4 hw_38_S hw_38_W hw_47.2) (by simp only [List.length_append, List.length_cons, List.length_nil]; omega) (by omega) _ _ hP hD hS ls (lv_sub hl [0, 1, 2, 3] rfl) (by omega)
    exact lp_k_10 (120 - 0 + 1) 0 S1_2 Pn_4 Wr_3 xl_6 (by omega) (by omega) (by omega) (kMany_t hw_8.2.1.1).symm hw_8_W hw_8_S hw_8_l hw_8_p _ _ hP hD hS ls (lv_sub hl [0, 1, 2, 3] rfl) (by omega)
  · obtain rfl : xo_5 = false := kBo_f (kZr9 hw_8.1 c_9)
    have hw_8_k := hw_8.2.1.2.1
    refine lv_iconst (v := 0) hx hb dX4_readCondition_9 kc_i_0 ?_
    have hP9 := hP
    have hD9 := hD
    have hK9 := hK
    rw [hQ]
    exact W.zret (v := 0) hx hb hr rfl (fun t ht hW => ⟨⟨0, (S1_2, Wr_3, Pn_4, false, ([])), rfl, ⟨rfl, kPR_f (kMany_f hw_8.2.1.1) (by omega), by omega⟩,  by rw [ht]; exact hP9, va_K.moved hW.alike hK9, hD9⟩, hS.F ht⟩) hS.2.2 dX4_readCondition_10
