def w_s_atom4_1 : List Cond := .code yX4_readAtom cX4_readAtom 4 (some .boolean) :: wf_rd
theorem gw_s_atom4_1 : (w_s_atom4_1).all goodWord = true := kFamG rfl gf_rd
set_option maxHeartbeats 4000000 in
set_option maxRecDepth 100000 in
theorem s_atom4_1 (l : Launch) (dC : Nat → ClassId) (dI : Nat → Nat → Nat) (jT : Nat) (t0 : Nat) (cC : ClassId) (gT : Nat → Int32) (kt : Nat) (hkt : kt ≤ 120) (hgT : ∀ j : Nat, narrow .char (.int (gT j)) = .int (gT j)) (jR : Nat) (r1 : Nat) (r2 : Nat) (c1 : ClassId) (c2 : ClassId) (s1 : Nat → Int32) (s2 : Nat → Int32) (wr : Nat) (fi : Nat) (pl : Int32) (q6 : Nat) (q7 : Nat) (hwr : wr ≤ 120) (hfi : fi ≤ 124) (b6 : Nat) (n6 : Nat) (g6 : Nat → Int32) (hn6 : n6 ≤ 8) (b7 : Nat) (n7 : Nat) (g7 : Nat → Int32) (hn7 : n7 ≤ 8) (sz : Nat) : Met l yX4_readAtom w_s_atom4_1 ({ frames := 36, cells := 0, slots := 0, locals := 2160 }) (kW dC dI [.ref jR, .int 1] [(jR, .inr (4, [.ref jT, .ref r1, .ref r2, .int (nI (wr)), .int (nI (fi)), .int pl, .ref q6, .ref q7])), (r1, .inl (c1, 120, .inl s1)), (r2, .inl (c2, 124, .inl s2)), (jT, .inr (8, [.ref t0, .int (nI (kt))])), (t0, .inl (cC, 120, .inl gT))] [(c1, .int), (c2, .int), (cC, .char)] (kS2 q6 b6 n6 g6 q7 b7 n7 g7 (va_A [(jR, .inr (4, [.ref jT, .ref r1, .ref r2, .int (nI (wr)), .int (nI (fi)), .int pl, .ref q6, .ref q7])), (r1, .inl (c1, 120, .inl s1)), (r2, .inl (c2, 124, .inl s2)), (jT, .inr (8, [.ref t0, .int (nI (kt))])), (t0, .inl (cC, 120, .inl gT))] sz)) sz) (va_Qi (fun (r : Int32) (u : (Nat → Int32) × (Nat → Int32) × Int32 × Nat × Nat) => match u with | (S1, S2, Pl, Wr, Fi) => ((r = 0 ∨ r = 1) ∧ Wr ≤ 120 ∧ Fi ≤ 124)) (fun (u : (Nat → Int32) × (Nat → Int32) × Int32 × Nat × Nat) => match u with | (S1, S2, Pl, Wr, Fi) => fun t : State => kB dC dI [(jR, .inr (4, [.ref jT, .ref r1, .ref r2, .int (nI (Wr)), .int (nI (Fi)), .int Pl, .ref q6, .ref q7])), (r1, .inl (c1, 120, .inl S1)), (r2, .inl (c2, 124, .inl S2)), (jT, .inr (8, [.ref t0, .int (nI (kt))])), (t0, .inl (cC, 120, .inl gT))] [(c1, .int), (c2, .int), (cC, .char)] (va_A [(jR, .inr (4, [.ref jT, .ref r1, .ref r2, .int (nI (wr)), .int (nI (fi)), .int pl, .ref q6, .ref q7])), (r1, .inl (c1, 120, .inl s1)), (r2, .inl (c2, 124, .inl s2)), (jT, .inr (8, [.ref t0, .int (nI (kt))])), (t0, .inl (cC, 120, .inl gT))] sz) t) (va_A [(jR, .inr (4, [.ref jT, .ref r1, .ref r2, .int (nI (wr)), .int (nI (fi)), .int pl, .ref q6, .ref q7])), (r1, .inl (c1, 120, .inl s1)), (r2, .inl (c2, 124, .inl s2)), (jT, .inr (8, [.ref t0, .int (nI (kt))])), (t0, .inl (cC, 120, .inl gT))] sz)) 0 0 (va_A [(jR, .inr (4, [.ref jT, .ref r1, .ref r2, .int (nI (wr)), .int (nI (fi)), .int pl, .ref q6, .ref q7])), (r1, .inl (c1, 120, .inl s1)), (r2, .inl (c2, 124, .inl s2)), (jT, .inr (8, [.ref t0, .int (nI (kt))])), (t0, .inl (cC, 120, .inl gT))] sz) := by
  refine Met.ofW (cc := cX4_readAtom) (maxL := 4) (ret := (some .boolean)) (by decide) rfl ?_
  intro p e s m args below meth c s₁ B hml hv
  obtain ⟨rfl, hsz, hP, hK, hD0, hX⟩ := hv
  have hx := B.exec
  have hb := B.bytes
  have hr := B.returns
  have hts := atoms_spec (ws := w_s_atom4_1) B.pre
  have hown : s.vm.findClass RX4 = some m.cls := findClass_of_methodNamed B.named
  have hlocks := B.notSynchronized
  subst hsz
  have hD := hD0.self (sz := s.heap.size)
  generalize hAe : va_A [(jR, .inr (4, [.ref jT, .ref r1, .ref r2, .int (nI (wr)), .int (nI (fi)), .int pl, .ref q6, .ref q7])), (r1, .inl (c1, 120, .inl s1)), (r2, .inl (c2, 124, .inl s2)), (jT, .inr (8, [.ref t0, .int (nI (kt))])), (t0, .inl (cC, 120, .inl gT))] s.heap.size = A at hD hX ⊢
  have hA : ∀ q : Nat, s.heap.size ≤ q → A q := fun q h => by rw [← hAe]; exact Or.inr h
  have hS : va_S A s.heap s.heap [] := va_S.rf
  have hP : va_P (dC, dI) vwCl [(jR, .inr (4, [.ref jT, .ref r1, .ref r2, .int (nI (wr)), .int (nI (fi)), .int pl, .ref q6, .ref q7])), (r1, .inl (c1, 120, .inl s1)), (r2, .inl (c2, 124, .inl s2)), (jT, .inr (8, [.ref t0, .int (nI (kt))])), (t0, .inl (cC, 120, .inl gT))] s.heap := hP
  have hl := lv_entry ([.ref jR, .int 1]) (n := 4) (Nat.le_of_ble_eq_true rfl)
  rw [lg_entry_eq]
  generalize (lg_sl ([.ref jR, .int 1]) ++ List.replicate (4 - (lg_sl ([.ref jR, .int 1])).length) Slot.unset).toArray = ls at hl ⊢
  have hl : lv_has ls 4 [(0, .ref jR), (1, .int 1)] := hl
  refine kQ (fun Q hQ => ?_)
  refine lv_aload_n hx hb dX4_readAtom_0 rfl (lv_at hl 0 rfl) ?_
  have hCu := kCut (wc := [(jR, .inr (4, [.ref jT, .ref r1, .ref r2, .int (nI (wr)), .int (nI (fi)), .int pl, .ref q6, .ref q7])), (r1, .inl (c1, 120, .inl s1)), (r2, .inl (c2, 124, .inl s2)), (jT, .inr (8, [.ref t0, .int (nI (kt))])), (t0, .inl (cC, 120, .inl gT))]) hP hD hS hA [0, 1, 2, 3, 4] rfl kc_nd_311 rfl
  have hPc := hCu.1
  have hDc := hCu.2.1
  have hFc := hCu.2.2
  have hKc := hK.sb (tys2 := [(c1, .int), (c2, .int), (cC, .char)]) [0, 1, 2] rfl
  refine va_calli (va_runV (As := []) (rest := []) ⟨hx, hb, hml, hown, hts⟩ (s_look4 l dC dI jT t0 cC gT kt hkt hgT jR r1 r2 c1 c2 s1 s2 wr fi pl q6 q7 hwr hfi s.heap.size) (cwV 0 hts (kG (List.forall_mem_cons.mpr ⟨(List.mem_cons_of_mem _ (List.mem_append_left _ (List.mem_of_getElem? (i := 3) rfl))), (List.forall_mem_cons.mpr ⟨(List.mem_cons_of_mem _ (List.mem_append_left _ (List.mem_of_getElem? (i := 2) rfl))), (List.forall_mem_cons.mpr ⟨(List.mem_cons_of_mem _ (List.mem_append_left _ (List.mem_of_getElem? (i := 1) rfl))), (List.forall_mem_cons.mpr ⟨(List.mem_cons_of_mem _ (List.mem_append_left _ (List.mem_of_getElem? (i := 0) rfl))), (fun _ h => absurd h List.not_mem_nil)⟩)⟩)⟩)⟩) (kGV _ _ _ _) (fun _ h => List.mem_cons_of_mem _ (List.mem_append_right _ (List.mem_append_left _ h))) gw_s_look4) rfl rfl rfl ⟨rfl, hd_X4_look⟩ ⟨(Nat.le_of_ble_eq_true rfl), (Nat.le_of_ble_eq_true rfl)⟩) (kW_V kT_blind kT_give (va_recv hKc hPc (ci := 4) (q0 := 0) rfl rfl) hPc hKc hDc) rfl rfl hl.1 rfl (lv_room (Nat.le_of_ble_eq_true rfl)) dX4_readAtom_1 ⟨(Nat.le_of_ble_eq_true rfl), (Nat.le_of_ble_eq_true rfl)⟩) hS (fun q _ h => hFc q h) hFc (fun r_1 Pl_2 t H_3 locs ht hvm hw hB hz1 hk1 hS => ?_)
  try dsimp only at hw
  have hPD : kPD dC dI A [(jR, .inr (4, [.ref jT, .ref r1, .ref r2, .int (nI (wr)), .int (nI (fi)), .int Pl_2, .ref q6, .ref q7])), (r1, .inl (c1, 120, .inl s1)), (r2, .inl (c2, 124, .inl s2)), (jT, .inr (8, [.ref t0, .int (nI (kt))])), (t0, .inl (cC, 120, .inl gT))] H_3 := kJoinX hP hD [0, 1, 2, 3, 4] rfl hk1 hFc hB.1 ht hB.2.2 rfl [some 0, some 1, some 2, some 3, some 4] rfl rfl
  have hP := hPD.1
  have hD := hPD.2
  have hw_4 := hw
  refine lv_istore_n hx hb dX4_readAtom_4 rfl hl kc_l_2_4 (kTo [(2, .int r_1), (0, .ref jR), (1, .int 1)]) (fun ls hl => ?_)
  refine lv_iload_n hx hb dX4_readAtom_5 rfl (lv_at hl 0 rfl) ?_
  refine lv_bipush (v := 91) hx hb dX4_readAtom_6 kc_b_91 ?_
  refine lv_icmp_ne (tgt := 44) hx hb dX4_readAtom_8 kc_t_8_36 (fun c_5 => ?_) (fun c_5 => ?_)
  · refine lv_iload_n hx hb dX4_readAtom_44 rfl (lv_at hl 0 rfl) ?_
    have hPc := hP.sb (ws2 := []) [] rfl
    have hKc := hK.sb (tys2 := []) [] rfl
    refine vp_callSi (va_runS (As := [.int r_1]) (rest := []) ⟨hx, hb, hml, hown, hts⟩ (s_digit4 l dC dI r_1) (va_cwS 1 hts (kG (List.forall_mem_cons.mpr ⟨(List.mem_cons_of_mem _ (List.mem_append_left _ (List.mem_of_getElem? (i := 5) rfl))), (List.forall_mem_cons.mpr ⟨(List.mem_cons_of_mem _ (List.mem_append_left _ (List.mem_of_getElem? (i := 4) rfl))), (List.forall_mem_cons.mpr ⟨(List.mem_cons_of_mem _ (List.mem_append_left _ (List.mem_of_getElem? (i := 0) rfl))), (fun _ h => absurd h List.not_mem_nil)⟩)⟩)⟩) (kGS _ _ _) (fun _ h => List.mem_cons_of_mem _ (List.mem_append_right _ (List.mem_append_right _ (List.mem_append_left _ h)))) gw_s_digit4) rfl rfl rfl hd_X4_isDigit ⟨(Nat.le_of_ble_eq_true rfl), (Nat.le_of_ble_eq_true rfl)⟩) (kR_S kT_blind kT_give hPc hKc) rfl rfl hl.1 rfl (lv_room (Nat.le_of_ble_eq_true rfl)) dX4_readAtom_45 ⟨(Nat.le_of_ble_eq_true rfl), (Nat.le_of_ble_eq_true rfl)⟩).run (fun r_6 hw => ?_)
    have hw_7 := hw
    refine lv_if_eq (tgt := 56) hx hb dX4_readAtom_48 kc_t_48_8 (fun c_8 => ?_) (fun c_8 => ?_)
    · refine lv_aload_n hx hb dX4_readAtom_56 rfl (lv_at hl 1 rfl) ?_
      refine va_get (D := (dC, dI)) (ci := 4) (v := .ref q7) (C := RX4) (T := TX4) (N := 8) hx hb hts (fun _ h => List.mem_cons_of_mem _ (List.mem_append_right _ (List.mem_append_right _ (List.mem_append_right _ (List.mem_append_left _ h))))) hown hK hP 0 rfl rfl 7 kc_l_7_8 (hts (.fieldLink RX4 34 "NotEnded$Reader" "letterSigns" "Ljava/lang/String;") (List.mem_cons_of_mem _ (List.mem_append_left _ (List.mem_of_getElem? (i := 6) rfl)))) (fun _ h9 => h9) rfl dX4_readAtom_57 ?_
      refine lv_iload_n hx hb dX4_readAtom_60 rfl (lv_at hl 0 rfl) ?_
      have hPc := hP.sb (ws2 := []) [] rfl
      have hKc := hK.sb (tys2 := []) [] rfl
      refine vp_callSi (va_runV (As := [.int r_1]) (rest := []) ⟨hx, hb, hml, hown, hts⟩ (s_t_ix l dC dI q7 b7 n7 g7 hn7 A r_1) (cwV 1 hts (kG (List.forall_mem_cons.mpr ⟨(List.mem_cons_of_mem _ (List.mem_append_left _ (List.mem_of_getElem? (i := 10) rfl))), (List.forall_mem_cons.mpr ⟨(List.mem_cons_of_mem _ (List.mem_append_left _ (List.mem_of_getElem? (i := 9) rfl))), (List.forall_mem_cons.mpr ⟨(List.mem_cons_of_mem _ (List.mem_append_left _ (List.mem_of_getElem? (i := 8) rfl))), (List.forall_mem_cons.mpr ⟨(List.mem_cons_of_mem _ (List.mem_append_left _ (List.mem_of_getElem? (i := 7) rfl))), (fun _ h => absurd h List.not_mem_nil)⟩)⟩)⟩)⟩) (kGV _ _ _ _) (fun _ h => List.mem_cons_of_mem _ (List.mem_append_right _ (List.mem_append_right _ (List.mem_append_right _ (List.mem_append_right _ (List.mem_append_left _ h)))))) gw_s_t_ix) rfl rfl rfl ⟨rfl, hd_J0_indexOf_0f7a4⟩ ⟨(Nat.le_of_ble_eq_true rfl), (Nat.le_of_ble_eq_true rfl)⟩) (kR_V kSt_blind (kSt_give hX.2 hS) (kSt_recv hX.2 hS) hPc hKc) rfl rfl hl.1 rfl (lv_room (Nat.le_of_ble_eq_true rfl)) dX4_readAtom_61 ⟨(Nat.le_of_ble_eq_true rfl), (Nat.le_of_ble_eq_true rfl)⟩).run (fun r_9 hw => ?_)
      refine lv_istore_n hx hb dX4_readAtom_64 rfl hl kc_l_3_4 (kTo [(3, .int r_9), (2, .int r_1), (0, .ref jR), (1, .int 1)]) (fun ls hl => ?_)
      refine lv_iload_n hx hb dX4_readAtom_65 rfl (lv_at hl 0 rfl) ?_
      refine lv_if_ge (tgt := 71) hx hb dX4_readAtom_66 kc_t_66_5 (fun c_10 => ?_) (fun c_10 => ?_)
      · refine lv_aload_n hx hb dX4_readAtom_71 rfl (lv_at hl 2 rfl) ?_
        refine lv_dup hx hb dX4_readAtom_72 rfl ?_
        refine va_get (D := (dC, dI)) (ci := 4) (v := .int Pl_2) (C := RX4) (T := TX4) (N := 8) hx hb hts (fun _ h => List.mem_cons_of_mem _ (List.mem_append_right _ (List.mem_append_right _ (List.mem_append_right _ (List.mem_append_left _ h))))) hown hK hP 0 rfl rfl 5 kc_l_5_8 (hts (.fieldLink RX4 25 "NotEnded$Reader" "place" "I") (List.mem_cons_of_mem _ (List.mem_append_left _ (List.mem_of_getElem? (i := 11) rfl)))) (fun _ h9 => h9) rfl dX4_readAtom_73 ?_
        refine lv_iconst (v := 1) hx hb dX4_readAtom_76 kc_i_1 ?_
        refine lv_iadd hx hb dX4_readAtom_77 ?_
        refine lv_topi (fun x_11 ex_11 => ?_)
        refine va_put (D := (dC, dI)) (ci := 4) (v := .int x_11) (ty := tyX4 5) (C := RX4) (T := TX4) (N := 8) hx hb hts (fun _ h => List.mem_cons_of_mem _ (List.mem_append_right _ (List.mem_append_right _ (List.mem_append_right _ (List.mem_append_left _ h))))) tyX4 tyX4_ok nmX4 hown hK hP hD hS 0 rfl rfl 5 kc_l_5_8 (hts (.fieldLink RX4 25 "NotEnded$Reader" "place" "I") (List.mem_cons_of_mem _ (List.mem_append_left _ (List.mem_of_getElem? (i := 11) rfl)))) (fun _ h9 => h9) rfl (tyX4_ok 5 kc_l_5_8) rfl rfl (Nat.le_of_ble_eq_true rfl) dX4_readAtom_78 (fun H locs hP hD hS => ?_)
        have hPD : kPD dC dI A [(jR, .inr (4, [.ref jT, .ref r1, .ref r2, .int (nI (wr)), .int (nI (fi)), .int x_11, .ref q6, .ref q7])), (r1, .inl (c1, 120, .inl s1)), (r2, .inl (c2, 124, .inl s2)), (jT, .inr (8, [.ref t0, .int (nI (kt))])), (t0, .inl (cC, 120, .inl gT))] H := ⟨hP, hD⟩
        have hP := hPD.1
        have hD := hPD.2
        refine lv_aload_n hx hb dX4_readAtom_81 rfl (lv_at hl 2 rfl) ?_
        refine lv_sipush (v := 10000) hx hb dX4_readAtom_82 kc_s_10000 ?_
        refine lv_iload_n hx hb dX4_readAtom_85 rfl (lv_at hl 0 rfl) ?_
        refine lv_iadd hx hb dX4_readAtom_86 ?_
        refine lv_topi (fun x_12 ex_12 => ?_)
        have hCu := kCut (wc := [(jR, .inr (4, [.ref jT, .ref r1, .ref r2, .int (nI (wr)), .int (nI (fi)), .int x_11, .ref q6, .ref q7])), (r1, .inl (c1, 120, .inl s1)), (r2, .inl (c2, 124, .inl s2)), (jT, .inr (8, [.ref t0, .int (nI (kt))])), (t0, .inl (cC, 120, .inl gT))]) hP hD hS hA [0, 1, 2, 3, 4] rfl kc_nd_311 rfl
        have hPc := hCu.1
        have hDc := hCu.2.1
        have hFc := hCu.2.2
        have hKc := hK.sb (tys2 := [(c1, .int), (c2, .int), (cC, .char)]) [0, 1, 2] rfl
        refine va_calli (va_runV (As := [.int x_12]) (rest := []) ⟨hx, hb, hml, hown, hts⟩ (s_write4 l dC dI jT t0 cC gT kt hkt hgT jR r1 r2 c1 c2 s1 s2 wr fi x_11 q6 q7 hwr hfi x_12 H.size) (cwV 1 hts (kG (List.forall_mem_cons.mpr ⟨(List.mem_cons_of_mem _ (List.mem_append_left _ (List.mem_of_getElem? (i := 14) rfl))), (List.forall_mem_cons.mpr ⟨(List.mem_cons_of_mem _ (List.mem_append_left _ (List.mem_of_getElem? (i := 13) rfl))), (List.forall_mem_cons.mpr ⟨(List.mem_cons_of_mem _ (List.mem_append_left _ (List.mem_of_getElem? (i := 12) rfl))), (List.forall_mem_cons.mpr ⟨(List.mem_cons_of_mem _ (List.mem_append_left _ (List.mem_of_getElem? (i := 0) rfl))), (fun _ h => absurd h List.not_mem_nil)⟩)⟩)⟩)⟩) (kGV _ _ _ _) (fun _ h => List.mem_cons_of_mem _ (List.mem_append_right _ (List.mem_append_right _ (List.mem_append_right _ (List.mem_append_right _ (List.mem_append_right _ (List.mem_append_left _ h))))))) gw_s_write4) rfl rfl rfl ⟨rfl, hd_X4_write⟩ ⟨(Nat.le_of_ble_eq_true rfl), (Nat.le_of_ble_eq_true rfl)⟩) (kW_V kT_blind kT_give (va_recv hKc hPc (ci := 4) (q0 := 0) rfl rfl) hPc hKc hDc) rfl rfl hl.1 rfl (lv_room (Nat.le_of_ble_eq_true rfl)) dX4_readAtom_87 ⟨(Nat.le_of_ble_eq_true rfl), (Nat.le_of_ble_eq_true rfl)⟩) hS (fun q _ h => hFc q h) hFc (fun r_13 => kU5 (fun S1_14 S2_15 Pl_16 Wr_17 Fi_18 t H_19 locs ht hvm hw hB hz1 hk1 hS => ?_))
        try dsimp only at hw
        have hPD : kPD dC dI A [(jR, .inr (4, [.ref jT, .ref r1, .ref r2, .int (nI (Wr_17)), .int (nI (Fi_18)), .int Pl_16, .ref q6, .ref q7])), (r1, .inl (c1, 120, .inl S1_14)), (r2, .inl (c2, 124, .inl S2_15)), (jT, .inr (8, [.ref t0, .int (nI (kt))])), (t0, .inl (cC, 120, .inl gT))] H_19 := kJoinX hP hD [0, 1, 2, 3, 4] rfl hk1 hFc hB.1 ht hB.2.2 rfl [some 0, some 1, some 2, some 3, some 4] rfl rfl
        have hP := hPD.1
        have hD := hPD.2
        have hw_20 := hw
        have hP9 := hP
        have hD9 := hD
        have hK9 := hK
        rw [hQ]
        exact W.zret (v := r_13) hx hb hr (kB01 hw_20.1) (fun t ht hW => ⟨⟨r_13, (S1_14, S2_15, Pl_16, Wr_17, Fi_18), rfl, ⟨hw_20.1, by omega, by omega⟩,  by rw [ht]; exact hP9, va_K.moved hW.alike hK9, hD9⟩, hS.F ht⟩) hS.2.2 dX4_readAtom_90
      · refine lv_iconst (v := 0) hx hb dX4_readAtom_69 kc_i_0 ?_
        have hP9 := hP
        have hD9 := hD
        have hK9 := hK
        rw [hQ]
        exact W.zret (v := 0) hx hb hr rfl (fun t ht hW => ⟨⟨0, (s1, s2, Pl_2, wr, fi), rfl, ⟨(Or.inl rfl), by omega, by omega⟩,  by rw [ht]; exact hP9, va_K.moved hW.alike hK9, hD9⟩, hS.F ht⟩) hS.2.2 dX4_readAtom_70
    · refine lv_aload_n hx hb dX4_readAtom_51 rfl (lv_at hl 1 rfl) ?_
      have hCu := kCut (wc := [(jR, .inr (4, [.ref jT, .ref r1, .ref r2, .int (nI (wr)), .int (nI (fi)), .int Pl_2, .ref q6, .ref q7])), (r1, .inl (c1, 120, .inl s1)), (r2, .inl (c2, 124, .inl s2)), (jT, .inr (8, [.ref t0, .int (nI (kt))])), (t0, .inl (cC, 120, .inl gT))]) hP hD hS hA [0, 1, 2, 3, 4] rfl kc_nd_311 rfl
      have hPc := hCu.1
      have hDc := hCu.2.1
      have hFc := hCu.2.2
      have hKc := hK.sb (tys2 := [(c1, .int), (c2, .int), (cC, .char)]) [0, 1, 2] rfl
      refine va_calli (va_runV (As := []) (rest := []) ⟨hx, hb, hml, hown, hts⟩ (s_number4 l dC dI jT t0 cC gT kt hkt hgT jR r1 r2 c1 c2 s1 s2 wr fi Pl_2 q6 q7 hwr hfi H_3.size) (cwV 0 hts (kG (List.forall_mem_cons.mpr ⟨(List.mem_cons_of_mem _ (List.mem_append_left _ (List.mem_of_getElem? (i := 17) rfl))), (List.forall_mem_cons.mpr ⟨(List.mem_cons_of_mem _ (List.mem_append_left _ (List.mem_of_getElem? (i := 16) rfl))), (List.forall_mem_cons.mpr ⟨(List.mem_cons_of_mem _ (List.mem_append_left _ (List.mem_of_getElem? (i := 15) rfl))), (List.forall_mem_cons.mpr ⟨(List.mem_cons_of_mem _ (List.mem_append_left _ (List.mem_of_getElem? (i := 0) rfl))), (fun _ h => absurd h List.not_mem_nil)⟩)⟩)⟩)⟩) (kGV _ _ _ _) (fun _ h => List.mem_cons_of_mem _ (List.mem_append_right _ (List.mem_append_right _ (List.mem_append_right _ (List.mem_append_right _ (List.mem_append_right _ (List.mem_append_right _ (List.mem_append_left _ h)))))))) gw_s_number4) rfl rfl rfl ⟨rfl, hd_X4_readNumber⟩ ⟨(Nat.le_of_ble_eq_true rfl), (Nat.le_of_ble_eq_true rfl)⟩) (kW_V kT_blind kT_give (va_recv hKc hPc (ci := 4) (q0 := 0) rfl rfl) hPc hKc hDc) rfl rfl hl.1 rfl (lv_room (Nat.le_of_ble_eq_true rfl)) dX4_readAtom_52 ⟨(Nat.le_of_ble_eq_true rfl), (Nat.le_of_ble_eq_true rfl)⟩) hS (fun q _ h => hFc q h) hFc (fun r_21 => kU5 (fun S1_22 S2_23 Pl_24 Wr_25 Fi_26 t H_27 locs ht hvm hw hB hz1 hk1 hS => ?_))
      try dsimp only at hw
      have hPD : kPD dC dI A [(jR, .inr (4, [.ref jT, .ref r1, .ref r2, .int (nI (Wr_25)), .int (nI (Fi_26)), .int Pl_24, .ref q6, .ref q7])), (r1, .inl (c1, 120, .inl S1_22)), (r2, .inl (c2, 124, .inl S2_23)), (jT, .inr (8, [.ref t0, .int (nI (kt))])), (t0, .inl (cC, 120, .inl gT))] H_27 := kJoinX hP hD [0, 1, 2, 3, 4] rfl hk1 hFc hB.1 ht hB.2.2 rfl [some 0, some 1, some 2, some 3, some 4] rfl rfl
      have hP := hPD.1
      have hD := hPD.2
      have hw_28 := hw
      have hP9 := hP
      have hD9 := hD
      have hK9 := hK
      rw [hQ]
      exact W.zret (v := r_21) hx hb hr (kB01 hw_28.1) (fun t ht hW => ⟨⟨r_21, (S1_22, S2_23, Pl_24, Wr_25, Fi_26), rfl, ⟨hw_28.1, by omega, by omega⟩,  by rw [ht]; exact hP9, va_K.moved hW.alike hK9, hD9⟩, hS.F ht⟩) hS.2.2 dX4_readAtom_55
  · refine lv_aload_n hx hb dX4_readAtom_11 rfl (lv_at hl 1 rfl) ?_
    refine lv_iload_n hx hb dX4_readAtom_12 rfl (lv_at hl 2 rfl) ?_
    have hCu := kCut (wc := [(jR, .inr (4, [.ref jT, .ref r1, .ref r2, .int (nI (wr)), .int (nI (fi)), .int Pl_2, .ref q6, .ref q7])), (r1, .inl (c1, 120, .inl s1)), (r2, .inl (c2, 124, .inl s2)), (jT, .inr (8, [.ref t0, .int (nI (kt))])), (t0, .inl (cC, 120, .inl gT))]) hP hD hS hA [0, 1, 2, 3, 4] rfl kc_nd_311 rfl
    have hPc := hCu.1
    have hDc := hCu.2.1
    have hFc := hCu.2.2
    have hKc := hK.sb (tys2 := [(c1, .int), (c2, .int), (cC, .char)]) [0, 1, 2] rfl
    refine va_calli (va_runV (As := [.int 1]) (rest := []) ⟨hx, hb, hml, hown, hts⟩ (s_opens4 l dC dI jT t0 cC gT kt hkt hgT jR r1 r2 c1 c2 s1 s2 wr fi Pl_2 q6 q7 hwr hfi 1 H_3.size) (cwV 1 hts (kG (List.forall_mem_cons.mpr ⟨(List.mem_cons_of_mem _ (List.mem_append_left _ (List.mem_of_getElem? (i := 20) rfl))), (List.forall_mem_cons.mpr ⟨(List.mem_cons_of_mem _ (List.mem_append_left _ (List.mem_of_getElem? (i := 19) rfl))), (List.forall_mem_cons.mpr ⟨(List.mem_cons_of_mem _ (List.mem_append_left _ (List.mem_of_getElem? (i := 18) rfl))), (List.forall_mem_cons.mpr ⟨(List.mem_cons_of_mem _ (List.mem_append_left _ (List.mem_of_getElem? (i := 0) rfl))), (fun _ h => absurd h List.not_mem_nil)⟩)⟩)⟩)⟩) (kGV _ _ _ _) (fun _ h => List.mem_cons_of_mem _ (List.mem_append_right _ (List.mem_append_right _ (List.mem_append_right _ (List.mem_append_right _ (List.mem_append_right _ (List.mem_append_right _ (List.mem_append_right _ (List.mem_append_right _ (List.mem_append_right _ (List.mem_append_left _ h))))))))))) gw_s_opens4) rfl rfl rfl ⟨rfl, hd_X4_opens⟩ ⟨(Nat.le_of_ble_eq_true rfl), (Nat.le_of_ble_eq_true rfl)⟩) (kW_V kT_blind kT_give (va_recv hKc hPc (ci := 4) (q0 := 0) rfl rfl) hPc hKc hDc) rfl rfl hl.1 rfl (lv_room (Nat.le_of_ble_eq_true rfl)) dX4_readAtom_13 ⟨(Nat.le_of_ble_eq_true rfl), (Nat.le_of_ble_eq_true rfl)⟩) hS (fun q _ h => hFc q h) hFc (fun r_29 => kU5 (fun S1_30 S2_31 Pl_32 Wr_33 Fi_34 t H_35 locs ht hvm hw hB hz1 hk1 hS => ?_))
    try dsimp only at hw
    have hPD : kPD dC dI A [(jR, .inr (4, [.ref jT, .ref r1, .ref r2, .int (nI (Wr_33)), .int (nI (Fi_34)), .int Pl_32, .ref q6, .ref q7])), (r1, .inl (c1, 120, .inl S1_30)), (r2, .inl (c2, 124, .inl S2_31)), (jT, .inr (8, [.ref t0, .int (nI (kt))])), (t0, .inl (cC, 120, .inl gT))] H_35 := kJoinX hP hD [0, 1, 2, 3, 4] rfl hk1 hFc hB.1 ht hB.2.2 rfl [some 0, some 1, some 2, some 3, some 4] rfl rfl
    have hP := hPD.1
    have hD := hPD.2
    have hw_36 := hw
    refine lv_if_eq (tgt := 42) hx hb dX4_readAtom_16 kc_t_16_26 (fun c_37 => ?_) (fun c_37 => ?_)
    · refine lv_iconst (v := 0) hx hb dX4_readAtom_42 kc_i_0 ?_
      have hP9 := hP
      have hD9 := hD
      have hK9 := hK
      rw [hQ]
      exact W.zret (v := 0) hx hb hr rfl (fun t ht hW => ⟨⟨0, (S1_30, S2_31, Pl_32, Wr_33, Fi_34), rfl, ⟨(Or.inl rfl), by omega, by omega⟩,  by rw [ht]; exact hP9, va_K.moved hW.alike hK9, hD9⟩, hS.F ht⟩) hS.2.2 dX4_readAtom_43
    · refine lv_aload_n hx hb dX4_readAtom_19 rfl (lv_at hl 1 rfl) ?_
      refine lv_iload_n hx hb dX4_readAtom_20 rfl (lv_at hl 2 rfl) ?_
      refine lv_iconst (v := 1) hx hb dX4_readAtom_21 kc_i_1 ?_
      refine lv_iadd hx hb dX4_readAtom_22 ?_
      refine lv_topi (fun y_38 ey_38 => ?_)
      obtain rfl : y_38 = 2 := ey_38.trans (by decide)
      have bd_39 : Wr_33 ≤ 120 := by omega
      have bd_40 : Fi_34 ≤ 124 := by omega
      have hCu := kCut (wc := [(jR, .inr (4, [.ref jT, .ref r1, .ref r2, .int (nI (Wr_33)), .int (nI (Fi_34)), .int Pl_32, .ref q6, .ref q7])), (r1, .inl (c1, 120, .inl S1_30)), (r2, .inl (c2, 124, .inl S2_31)), (jT, .inr (8, [.ref t0, .int (nI (kt))])), (t0, .inl (cC, 120, .inl gT))]) hP hD hS hA [0, 1, 2, 3, 4] rfl kc_nd_311 rfl
      have hPc := hCu.1
      have hDc := hCu.2.1
      have hFc := hCu.2.2
      have hKc := hK.sb (tys2 := [(c1, .int), (c2, .int), (cC, .char)]) [0, 1, 2] rfl
      refine va_calli (va_runV (As := [.int 2]) (rest := []) ⟨hx, hb, hml, hown, hts⟩ (s_sum4_2 l dC dI jT t0 cC gT kt hkt hgT jR r1 r2 c1 c2 S1_30 S2_31 Wr_33 Fi_34 Pl_32 q6 q7 bd_39 bd_40 b6 n6 g6 hn6 b7 n7 g7 hn7 H_35.size) (cwV 1 hts (kG (List.forall_mem_cons.mpr ⟨(List.mem_cons_of_mem _ (List.mem_append_left _ (List.mem_of_getElem? (i := 32) rfl))), (List.forall_mem_cons.mpr ⟨(List.mem_cons_of_mem _ (List.mem_append_left _ (List.mem_of_getElem? (i := 31) rfl))), (List.forall_mem_cons.mpr ⟨(List.mem_cons_of_mem _ (List.mem_append_left _ (List.mem_of_getElem? (i := 30) rfl))), (List.forall_mem_cons.mpr ⟨(List.mem_cons_of_mem _ (List.mem_append_left _ (List.mem_of_getElem? (i := 0) rfl))), (fun _ h => absurd h List.not_mem_nil)⟩)⟩)⟩)⟩) (kGV _ _ _ _) (kFam (List.mem_cons_of_mem _ (List.mem_append_left _ (List.mem_of_getElem? (i := 29) rfl)))) gw_s_sum4_2) rfl rfl rfl ⟨rfl, hd_X4_readSum⟩ ⟨(Nat.le_of_ble_eq_true rfl), (Nat.le_of_ble_eq_true rfl)⟩) (kW_V kS2_blind (kS2_give hX hS hFc) (va_recv hKc hPc (ci := 4) (q0 := 0) rfl rfl) hPc hKc hDc) rfl rfl hl.1 rfl (lv_room (Nat.le_of_ble_eq_true rfl)) dX4_readAtom_23 ⟨(Nat.le_of_ble_eq_true rfl), (Nat.le_of_ble_eq_true rfl)⟩) hS (fun q _ h => hFc q h) hFc (fun r_41 => kU5 (fun S1_42 S2_43 Pl_44 Wr_45 Fi_46 t H_47 locs ht hvm hw hB hz1 hk1 hS => ?_))
      try dsimp only at hw
      have hPD : kPD dC dI A [(jR, .inr (4, [.ref jT, .ref r1, .ref r2, .int (nI (Wr_45)), .int (nI (Fi_46)), .int Pl_44, .ref q6, .ref q7])), (r1, .inl (c1, 120, .inl S1_42)), (r2, .inl (c2, 124, .inl S2_43)), (jT, .inr (8, [.ref t0, .int (nI (kt))])), (t0, .inl (cC, 120, .inl gT))] H_47 := kJoinX hP hD [0, 1, 2, 3, 4] rfl hk1 hFc hB.1 ht hB.2.2 rfl [some 0, some 1, some 2, some 3, some 4] rfl rfl
      have hP := hPD.1
      have hD := hPD.2
      have hw_48 := hw
      refine lv_if_eq (tgt := 42) hx hb dX4_readAtom_26 kc_t_26_16 (fun c_49 => ?_) (fun c_49 => ?_)
      · refine lv_iconst (v := 0) hx hb dX4_readAtom_42 kc_i_0 ?_
        have hP9 := hP
        have hD9 := hD
        have hK9 := hK
        rw [hQ]
        exact W.zret (v := 0) hx hb hr rfl (fun t ht hW => ⟨⟨0, (S1_42, S2_43, Pl_44, Wr_45, Fi_46), rfl, ⟨(Or.inl rfl), by omega, by omega⟩,  by rw [ht]; exact hP9, va_K.moved hW.alike hK9, hD9⟩, hS.F ht⟩) hS.2.2 dX4_readAtom_43
      · refine lv_aload_n hx hb dX4_readAtom_29 rfl (lv_at hl 1 rfl) ?_
        refine lv_bipush (v := 93) hx hb dX4_readAtom_30 kc_b_93 ?_
        have bd_50 : Wr_45 ≤ 120 := by omega
        have bd_51 : Fi_46 ≤ 124 := by omega
        have hCu := kCut (wc := [(jR, .inr (4, [.ref jT, .ref r1, .ref r2, .int (nI (Wr_45)), .int (nI (Fi_46)), .int Pl_44, .ref q6, .ref q7])), (r1, .inl (c1, 120, .inl S1_42)), (r2, .inl (c2, 124, .inl S2_43)), (jT, .inr (8, [.ref t0, .int (nI (kt))])), (t0, .inl (cC, 120, .inl gT))]) hP hD hS hA [0, 1, 2, 3, 4] rfl kc_nd_311 rfl
        have hPc := hCu.1
        have hDc := hCu.2.1
        have hFc := hCu.2.2
        have hKc := hK.sb (tys2 := [(c1, .int), (c2, .int), (cC, .char)]) [0, 1, 2] rfl
        refine va_calli (va_runV (As := [.int 93]) (rest := []) ⟨hx, hb, hml, hown, hts⟩ (s_take4 l dC dI jT t0 cC gT kt hkt hgT jR r1 r2 c1 c2 S1_42 S2_43 Wr_45 Fi_46 Pl_44 q6 q7 bd_50 bd_51 93 H_47.size) (cwV 1 hts (kG (List.forall_mem_cons.mpr ⟨(List.mem_cons_of_mem _ (List.mem_append_left _ (List.mem_of_getElem? (i := 45) rfl))), (List.forall_mem_cons.mpr ⟨(List.mem_cons_of_mem _ (List.mem_append_left _ (List.mem_of_getElem? (i := 44) rfl))), (List.forall_mem_cons.mpr ⟨(List.mem_cons_of_mem _ (List.mem_append_left _ (List.mem_of_getElem? (i := 43) rfl))), (List.forall_mem_cons.mpr ⟨(List.mem_cons_of_mem _ (List.mem_append_left _ (List.mem_of_getElem? (i := 0) rfl))), (fun _ h => absurd h List.not_mem_nil)⟩)⟩)⟩)⟩) (kGV _ _ _ _) (fun _ h => List.mem_cons_of_mem _ (List.mem_append_right _ (List.mem_append_right _ (List.mem_append_right _ (List.mem_append_right _ (List.mem_append_right _ (List.mem_append_right _ (List.mem_append_right _ (List.mem_append_right _ (List.mem_append_right _ (List.mem_append_right _ (List.mem_append_left _ h)))))))))))) gw_s_take4) rfl rfl rfl ⟨rfl, hd_X4_take⟩ ⟨(Nat.le_of_ble_eq_true rfl), (Nat.le_of_ble_eq_true rfl)⟩) (kW_V kT_blind kT_give (va_recv hKc hPc (ci := 4) (q0 := 0) rfl rfl) hPc hKc hDc) rfl rfl hl.1 rfl (lv_room (Nat.le_of_ble_eq_true rfl)) dX4_readAtom_32 ⟨(Nat.le_of_ble_eq_true rfl), (Nat.le_of_ble_eq_true rfl)⟩) hS (fun q _ h => hFc q h) hFc (fun r_52 => kU5 (fun S1_53 S2_54 Pl_55 Wr_56 Fi_57 t H_58 locs ht hvm hw hB hz1 hk1 hS => ?_))
        try dsimp only at hw
        have hPD : kPD dC dI A [(jR, .inr (4, [.ref jT, .ref r1, .ref r2, .int (nI (Wr_56)), .int (nI (Fi_57)), .int Pl_55, .ref q6, .ref q7])), (r1, .inl (c1, 120, .inl S1_53)), (r2, .inl (c2, 124, .inl S2_54)), (jT, .inr (8, [.ref t0, .int (nI (kt))])), (t0, .inl (cC, 120, .inl gT))] H_58 := kJoinX hP hD [0, 1, 2, 3, 4] rfl hk1 hFc hB.1 ht hB.2.2 rfl [some 0, some 1, some 2, some 3, some 4] rfl rfl
        have hP := hPD.1
        have hD := hPD.2
        have hw_59 := hw
        refine lv_if_eq (tgt := 42) hx hb dX4_readAtom_35 kc_t_35_7 (fun c_60 => ?_) (fun c_60 => ?_)
        · refine lv_iconst (v := 0) hx hb dX4_readAtom_42 kc_i_0 ?_
          have hP9 := hP
          have hD9 := hD
          have hK9 := hK
          rw [hQ]
          exact W.zret (v := 0) hx hb hr rfl (fun t ht hW => ⟨⟨0, (S1_53, S2_54, Pl_55, Wr_56, Fi_57), rfl, ⟨(Or.inl rfl), by omega, by omega⟩,  by rw [ht]; exact hP9, va_K.moved hW.alike hK9, hD9⟩, hS.F ht⟩) hS.2.2 dX4_readAtom_43
        · refine lv_iconst (v := 1) hx hb dX4_readAtom_38 kc_i_1 ?_
          refine lv_goto (tgt := 43) hx hb dX4_readAtom_39 kc_t_39_4 ?_
          have hP9 := hP
          have hD9 := hD
          have hK9 := hK
          rw [hQ]
          exact W.zret (v := 1) hx hb hr rfl (fun t ht hW => ⟨⟨1, (S1_53, S2_54, Pl_55, Wr_56, Fi_57), rfl, ⟨(Or.inr rfl), by omega, by omega⟩,  by rw [ht]; exact hP9, va_K.moved hW.alike hK9, hD9⟩, hS.F ht⟩) hS.2.2 dX4_readAtom_43

def w_s_term4_1 : List Cond := .code yX4_readTerm cX4_readTerm 4 (some .boolean) :: wf_rd
theorem gw_s_term4_1 : (w_s_term4_1).all goodWord = true := kFamG rfl gf_rd
set_option maxHeartbeats 4000000 in
set_option maxRecDepth 100000 in
theorem s_term4_1 (l : Launch) (dC : Nat → ClassId) (dI : Nat → Nat → Nat) (jT : Nat) (t0 : Nat) (cC : ClassId) (gT : Nat → Int32) (kt : Nat) (hkt : kt ≤ 120) (hgT : ∀ j : Nat, narrow .char (.int (gT j)) = .int (gT j)) (jR : Nat) (r1 : Nat) (r2 : Nat) (c1 : ClassId) (c2 : ClassId) (s1 : Nat → Int32) (s2 : Nat → Int32) (wr : Nat) (fi : Nat) (pl : Int32) (q6 : Nat) (q7 : Nat) (hwr : wr ≤ 120) (hfi : fi ≤ 124) (b6 : Nat) (n6 : Nat) (g6 : Nat → Int32) (hn6 : n6 ≤ 8) (b7 : Nat) (n7 : Nat) (g7 : Nat → Int32) (hn7 : n7 ≤ 8) (sz : Nat) : Met l yX4_readTerm w_s_term4_1 ({ frames := 37, cells := 0, slots := 0, locals := 2220 }) (kW dC dI [.ref jR, .int 1] [(jR, .inr (4, [.ref jT, .ref r1, .ref r2, .int (nI (wr)), .int (nI (fi)), .int pl, .ref q6, .ref q7])), (r1, .inl (c1, 120, .inl s1)), (r2, .inl (c2, 124, .inl s2)), (jT, .inr (8, [.ref t0, .int (nI (kt))])), (t0, .inl (cC, 120, .inl gT))] [(c1, .int), (c2, .int), (cC, .char)] (kS2 q6 b6 n6 g6 q7 b7 n7 g7 (va_A [(jR, .inr (4, [.ref jT, .ref r1, .ref r2, .int (nI (wr)), .int (nI (fi)), .int pl, .ref q6, .ref q7])), (r1, .inl (c1, 120, .inl s1)), (r2, .inl (c2, 124, .inl s2)), (jT, .inr (8, [.ref t0, .int (nI (kt))])), (t0, .inl (cC, 120, .inl gT))] sz)) sz) (va_Qi (fun (r : Int32) (u : (Nat → Int32) × (Nat → Int32) × Int32 × Nat × Nat) => match u with | (S1, S2, Pl, Wr, Fi) => ((r = 0 ∨ r = 1) ∧ Wr ≤ 120 ∧ Fi ≤ 124)) (fun (u : (Nat → Int32) × (Nat → Int32) × Int32 × Nat × Nat) => match u with | (S1, S2, Pl, Wr, Fi) => fun t : State => kB dC dI [(jR, .inr (4, [.ref jT, .ref r1, .ref r2, .int (nI (Wr)), .int (nI (Fi)), .int Pl, .ref q6, .ref q7])), (r1, .inl (c1, 120, .inl S1)), (r2, .inl (c2, 124, .inl S2)), (jT, .inr (8, [.ref t0, .int (nI (kt))])), (t0, .inl (cC, 120, .inl gT))] [(c1, .int), (c2, .int), (cC, .char)] (va_A [(jR, .inr (4, [.ref jT, .ref r1, .ref r2, .int (nI (wr)), .int (nI (fi)), .int pl, .ref q6, .ref q7])), (r1, .inl (c1, 120, .inl s1)), (r2, .inl (c2, 124, .inl s2)), (jT, .inr (8, [.ref t0, .int (nI (kt))])), (t0, .inl (cC, 120, .inl gT))] sz) t) (va_A [(jR, .inr (4, [.ref jT, .ref r1, .ref r2, .int (nI (wr)), .int (nI (fi)), .int pl, .ref q6, .ref q7])), (r1, .inl (c1, 120, .inl s1)), (r2, .inl (c2, 124, .inl s2)), (jT, .inr (8, [.ref t0, .int (nI (kt))])), (t0, .inl (cC, 120, .inl gT))] sz)) 0 0 (va_A [(jR, .inr (4, [.ref jT, .ref r1, .ref r2, .int (nI (wr)), .int (nI (fi)), .int pl, .ref q6, .ref q7])), (r1, .inl (c1, 120, .inl s1)), (r2, .inl (c2, 124, .inl s2)), (jT, .inr (8, [.ref t0, .int (nI (kt))])), (t0, .inl (cC, 120, .inl gT))] sz) := by
  refine Met.ofW (cc := cX4_readTerm) (maxL := 4) (ret := (some .boolean)) (by decide) rfl ?_
  intro p e s m args below meth c s₁ B hml hv
  obtain ⟨rfl, hsz, hP, hK, hD0, hX⟩ := hv
  have hx := B.exec
  have hb := B.bytes
  have hr := B.returns
  have hts := atoms_spec (ws := w_s_term4_1) B.pre
  have hown : s.vm.findClass RX4 = some m.cls := findClass_of_methodNamed B.named
  have hlocks := B.notSynchronized
  subst hsz
  have hD := hD0.self (sz := s.heap.size)
  generalize hAe : va_A [(jR, .inr (4, [.ref jT, .ref r1, .ref r2, .int (nI (wr)), .int (nI (fi)), .int pl, .ref q6, .ref q7])), (r1, .inl (c1, 120, .inl s1)), (r2, .inl (c2, 124, .inl s2)), (jT, .inr (8, [.ref t0, .int (nI (kt))])), (t0, .inl (cC, 120, .inl gT))] s.heap.size = A at hD hX ⊢
  have hA : ∀ q : Nat, s.heap.size ≤ q → A q := fun q h => by rw [← hAe]; exact Or.inr h
  have hS : va_S A s.heap s.heap [] := va_S.rf
  have hP : va_P (dC, dI) vwCl [(jR, .inr (4, [.ref jT, .ref r1, .ref r2, .int (nI (wr)), .int (nI (fi)), .int pl, .ref q6, .ref q7])), (r1, .inl (c1, 120, .inl s1)), (r2, .inl (c2, 124, .inl s2)), (jT, .inr (8, [.ref t0, .int (nI (kt))])), (t0, .inl (cC, 120, .inl gT))] s.heap := hP
  have hl := lv_entry ([.ref jR, .int 1]) (n := 4) (Nat.le_of_ble_eq_true rfl)
  rw [lg_entry_eq]
  generalize (lg_sl ([.ref jR, .int 1]) ++ List.replicate (4 - (lg_sl ([.ref jR, .int 1])).length) Slot.unset).toArray = ls at hl ⊢
  have hl : lv_has ls 4 [(0, .ref jR), (1, .int 1)] := hl
  refine kQ (fun Q hQ => ?_)
  refine lv_aload_n hx hb dX4_readTerm_0 rfl (lv_at hl 0 rfl) ?_
  refine lv_iload_n hx hb dX4_readTerm_1 rfl (lv_at hl 1 rfl) ?_
  have hCu := kCut (wc := [(jR, .inr (4, [.ref jT, .ref r1, .ref r2, .int (nI (wr)), .int (nI (fi)), .int pl, .ref q6, .ref q7])), (r1, .inl (c1, 120, .inl s1)), (r2, .inl (c2, 124, .inl s2)), (jT, .inr (8, [.ref t0, .int (nI (kt))])), (t0, .inl (cC, 120, .inl gT))]) hP hD hS hA [0, 1, 2, 3, 4] rfl kc_nd_311 rfl
  have hPc := hCu.1
  have hDc := hCu.2.1
  have hFc := hCu.2.2
  have hKc := hK.sb (tys2 := [(c1, .int), (c2, .int), (cC, .char)]) [0, 1, 2] rfl
  refine va_calli (va_runV (As := [.int 1]) (rest := []) ⟨hx, hb, hml, hown, hts⟩ (s_atom4_1 l dC dI jT t0 cC gT kt hkt hgT jR r1 r2 c1 c2 s1 s2 wr fi pl q6 q7 hwr hfi b6 n6 g6 hn6 b7 n7 g7 hn7 s.heap.size) (cwV 1 hts (kG (List.forall_mem_cons.mpr ⟨(List.mem_cons_of_mem _ (List.mem_append_left _ (List.mem_of_getElem? (i := 24) rfl))), (List.forall_mem_cons.mpr ⟨(List.mem_cons_of_mem _ (List.mem_append_left _ (List.mem_of_getElem? (i := 23) rfl))), (List.forall_mem_cons.mpr ⟨(List.mem_cons_of_mem _ (List.mem_append_left _ (List.mem_of_getElem? (i := 22) rfl))), (List.forall_mem_cons.mpr ⟨(List.mem_cons_of_mem _ (List.mem_append_left _ (List.mem_of_getElem? (i := 0) rfl))), (fun _ h => absurd h List.not_mem_nil)⟩)⟩)⟩)⟩) (kGV _ _ _ _) (kFam (List.mem_cons_of_mem _ (List.mem_append_left _ (List.mem_of_getElem? (i := 21) rfl)))) gw_s_atom4_1) rfl rfl rfl ⟨rfl, hd_X4_readAtom⟩ ⟨(Nat.le_of_ble_eq_true rfl), (Nat.le_of_ble_eq_true rfl)⟩) (kW_V kS2_blind (kS2_give hX hS hFc) (va_recv hKc hPc (ci := 4) (q0 := 0) rfl rfl) hPc hKc hDc) rfl rfl hl.1 rfl (lv_room (Nat.le_of_ble_eq_true rfl)) dX4_readTerm_2 ⟨(Nat.le_of_ble_eq_true rfl), (Nat.le_of_ble_eq_true rfl)⟩) hS (fun q _ h => hFc q h) hFc (fun r_1 => kU5 (fun S1_2 S2_3 Pl_4 Wr_5 Fi_6 t H_7 locs ht hvm hw hB hz1 hk1 hS => ?_))
  try dsimp only at hw
  have hPD : kPD dC dI A [(jR, .inr (4, [.ref jT, .ref r1, .ref r2, .int (nI (Wr_5)), .int (nI (Fi_6)), .int Pl_4, .ref q6, .ref q7])), (r1, .inl (c1, 120, .inl S1_2)), (r2, .inl (c2, 124, .inl S2_3)), (jT, .inr (8, [.ref t0, .int (nI (kt))])), (t0, .inl (cC, 120, .inl gT))] H_7 := kJoinX hP hD [0, 1, 2, 3, 4] rfl hk1 hFc hB.1 ht hB.2.2 rfl [some 0, some 1, some 2, some 3, some 4] rfl rfl
  have hP := hPD.1
  have hD := hPD.2
  have hw_8 := hw
  refine lv_if_ne (tgt := 10) hx hb dX4_readTerm_5 kc_t_5_5 (fun c_9 => ?_) (fun c_9 => ?_)
  · refine lv_iconst (v := 0) hx hb dX4_readTerm_10 kc_i_0 ?_
    refine lv_istore_n hx hb dX4_readTerm_11 rfl hl kc_l_2_4 (kTo [(2, .int 0), (0, .ref jR), (1, .int 1)]) (fun ls hl => ?_)
    have lp_k_10 : ∀ (n9 : Nat) (i : Nat) (xs1 : Nat → Int32) (xs2 : Nat → Int32) (xpl : Int32) (xwr : Nat) (xfi : Nat) (ivk_10_0 : i ≤ 120) (ivk_10_1 : xwr ≤ 120) (ivk_10_2 : xfi ≤ 124) (H : Heap) (locs : List Loc) (_ : va_P (dC, dI) vwCl [(jR, .inr (4, [.ref jT, .ref r1, .ref r2, .int (nI (xwr)), .int (nI (xfi)), .int xpl, .ref q6, .ref q7])), (r1, .inl (c1, 120, .inl xs1)), (r2, .inl (c2, 124, .inl xs2)), (jT, .inr (8, [.ref t0, .int (nI (kt))])), (t0, .inl (cC, 120, .inl gT))] H) (_ : va_D A [(jR, .inr (4, [.ref jT, .ref r1, .ref r2, .int (nI (xwr)), .int (nI (xfi)), .int xpl, .ref q6, .ref q7])), (r1, .inl (c1, 120, .inl xs1)), (r2, .inl (c2, 124, .inl xs2)), (jT, .inr (8, [.ref t0, .int (nI (kt))])), (t0, .inl (cC, 120, .inl gT))]) (_ : va_S A s.heap H locs) (ls : Array Slot) (_ : lv_has ls 4 [(2, .int (nI (i))), (0, .ref jR), (1, .int 1)]) (_ : 120 - i < n9), W p l e (headSpec w_s_term4_1 ({ frames := 37, cells := 0, slots := 0, locals := 2220 })).room s m (#[.ref jR, .int 1] : Array Value) below meth c H locs 0 0 Q (F0 m 12 ls []) := by
      intro n9
      induction n9 with
      | zero => intro i xs1 xs2 xpl xwr xfi ivk_10_0 ivk_10_1 ivk_10_2 H locs hP hD hS ls hl hm9; exact absurd hm9 (Nat.not_lt_zero _)
      | succ n9 ih_k_10 =>
        intro i xs1 xs2 xpl xwr xfi ivk_10_0 ivk_10_1 ivk_10_2 H locs hP hD hS ls hl hm9
        refine lv_iload_n hx hb dX4_readTerm_12 rfl (lv_at hl 0 rfl) ?_
        refine lv_bipush (v := 120) hx hb dX4_readTerm_13 kc_b_120 ?_
        refine lv_icmp_ge (tgt := 79) hx hb dX4_readTerm_15 kc_t_15_64 (fun c_11 => ?_) (fun c_11 => ?_)
        · have bd_13 : i < 2147483648 := by omega
          have hn_12 := kle (a := 120) (b := i) kc_31_120 bd_13 c_11
          refine lv_iconst (v := 1) hx hb dX4_readTerm_79 kc_i_1 ?_
          have hP9 := hP
          have hD9 := hD
          have hK9 := hK
          rw [hQ]
          exact W.zret (v := 1) hx hb hr rfl (fun t ht hW => ⟨⟨1, (xs1, xs2, xpl, xwr, xfi), rfl, ⟨(Or.inr rfl), by omega, by omega⟩,  by rw [ht]; exact hP9, va_K.moved hW.alike hK9, hD9⟩, hS.F ht⟩) hS.2.2 dX4_readTerm_80
        · have bd_15 : i < 2147483648 := by omega
          have hn_14 := knle (a := 120) (b := i) kc_31_120 bd_15 c_11
          refine lv_aload_n hx hb dX4_readTerm_18 rfl (lv_at hl 1 rfl) ?_
          have bd_16 : xwr ≤ 120 := by omega
          have bd_17 : xfi ≤ 124 := by omega
          have hCu := kCut (wc := [(jR, .inr (4, [.ref jT, .ref r1, .ref r2, .int (nI (xwr)), .int (nI (xfi)), .int xpl, .ref q6, .ref q7])), (r1, .inl (c1, 120, .inl xs1)), (r2, .inl (c2, 124, .inl xs2)), (jT, .inr (8, [.ref t0, .int (nI (kt))])), (t0, .inl (cC, 120, .inl gT))]) hP hD hS hA [0, 1, 2, 3, 4] rfl kc_nd_311 rfl
          have hPc := hCu.1
          have hDc := hCu.2.1
          have hFc := hCu.2.2
          have hKc := hK.sb (tys2 := [(c1, .int), (c2, .int), (cC, .char)]) [0, 1, 2] rfl
          refine va_calli (va_runV (As := []) (rest := []) ⟨hx, hb, hml, hown, hts⟩ (s_look4 l dC dI jT t0 cC gT kt hkt hgT jR r1 r2 c1 c2 xs1 xs2 xwr xfi xpl q6 q7 bd_16 bd_17 H.size) (cwV 0 hts (kG (List.forall_mem_cons.mpr ⟨(List.mem_cons_of_mem _ (List.mem_append_left _ (List.mem_of_getElem? (i := 3) rfl))), (List.forall_mem_cons.mpr ⟨(List.mem_cons_of_mem _ (List.mem_append_left _ (List.mem_of_getElem? (i := 2) rfl))), (List.forall_mem_cons.mpr ⟨(List.mem_cons_of_mem _ (List.mem_append_left _ (List.mem_of_getElem? (i := 1) rfl))), (List.forall_mem_cons.mpr ⟨(List.mem_cons_of_mem _ (List.mem_append_left _ (List.mem_of_getElem? (i := 0) rfl))), (fun _ h => absurd h List.not_mem_nil)⟩)⟩)⟩)⟩) (kGV _ _ _ _) (fun _ h => List.mem_cons_of_mem _ (List.mem_append_right _ (List.mem_append_left _ h))) gw_s_look4) rfl rfl rfl ⟨rfl, hd_X4_look⟩ ⟨(Nat.le_of_ble_eq_true rfl), (Nat.le_of_ble_eq_true rfl)⟩) (kW_V kT_blind kT_give (va_recv hKc hPc (ci := 4) (q0 := 0) rfl rfl) hPc hKc hDc) rfl rfl hl.1 rfl (lv_room (Nat.le_of_ble_eq_true rfl)) dX4_readTerm_19 ⟨(Nat.le_of_ble_eq_true rfl), (Nat.le_of_ble_eq_true rfl)⟩) hS (fun q _ h => hFc q h) hFc (fun r_18 Pl_19 t H_20 locs ht hvm hw hB hz1 hk1 hS => ?_)
          try dsimp only at hw
          have hPD : kPD dC dI A [(jR, .inr (4, [.ref jT, .ref r1, .ref r2, .int (nI (xwr)), .int (nI (xfi)), .int Pl_19, .ref q6, .ref q7])), (r1, .inl (c1, 120, .inl xs1)), (r2, .inl (c2, 124, .inl xs2)), (jT, .inr (8, [.ref t0, .int (nI (kt))])), (t0, .inl (cC, 120, .inl gT))] H_20 := kJoinX hP hD [0, 1, 2, 3, 4] rfl hk1 hFc hB.1 ht hB.2.2 rfl [some 0, some 1, some 2, some 3, some 4] rfl rfl
          have hP := hPD.1
          have hD := hPD.2
          have hw_21 := hw
          refine lv_bipush (v := 42) hx hb dX4_readTerm_22 kc_b_42 ?_
          refine lv_icmp_eq (tgt := 36) hx hb dX4_readTerm_24 kc_t_24_12 (fun c_22 => ?_) (fun c_22 => ?_)
          · refine lv_aload_n hx hb dX4_readTerm_36 rfl (lv_at hl 1 rfl) ?_
            have hCu := kCut (wc := [(jR, .inr (4, [.ref jT, .ref r1, .ref r2, .int (nI (xwr)), .int (nI (xfi)), .int Pl_19, .ref q6, .ref q7])), (r1, .inl (c1, 120, .inl xs1)), (r2, .inl (c2, 124, .inl xs2)), (jT, .inr (8, [.ref t0, .int (nI (kt))])), (t0, .inl (cC, 120, .inl gT))]) hP hD hS hA [0, 1, 2, 3, 4] rfl kc_nd_311 rfl
            have hPc := hCu.1
            have hDc := hCu.2.1
            have hFc := hCu.2.2
            have hKc := hK.sb (tys2 := [(c1, .int), (c2, .int), (cC, .char)]) [0, 1, 2] rfl
            refine va_calli (va_runV (As := []) (rest := []) ⟨hx, hb, hml, hown, hts⟩ (s_look4 l dC dI jT t0 cC gT kt hkt hgT jR r1 r2 c1 c2 xs1 xs2 xwr xfi Pl_19 q6 q7 bd_16 bd_17 H_20.size) (cwV 0 hts (kG (List.forall_mem_cons.mpr ⟨(List.mem_cons_of_mem _ (List.mem_append_left _ (List.mem_of_getElem? (i := 3) rfl))), (List.forall_mem_cons.mpr ⟨(List.mem_cons_of_mem _ (List.mem_append_left _ (List.mem_of_getElem? (i := 2) rfl))), (List.forall_mem_cons.mpr ⟨(List.mem_cons_of_mem _ (List.mem_append_left _ (List.mem_of_getElem? (i := 1) rfl))), (List.forall_mem_cons.mpr ⟨(List.mem_cons_of_mem _ (List.mem_append_left _ (List.mem_of_getElem? (i := 0) rfl))), (fun _ h => absurd h List.not_mem_nil)⟩)⟩)⟩)⟩) (kGV _ _ _ _) (fun _ h => List.mem_cons_of_mem _ (List.mem_append_right _ (List.mem_append_left _ h))) gw_s_look4) rfl rfl rfl ⟨rfl, hd_X4_look⟩ ⟨(Nat.le_of_ble_eq_true rfl), (Nat.le_of_ble_eq_true rfl)⟩) (kW_V kT_blind kT_give (va_recv hKc hPc (ci := 4) (q0 := 0) rfl rfl) hPc hKc hDc) rfl rfl hl.1 rfl (lv_room (Nat.le_of_ble_eq_true rfl)) dX4_readTerm_37 ⟨(Nat.le_of_ble_eq_true rfl), (Nat.le_of_ble_eq_true rfl)⟩) hS (fun q _ h => hFc q h) hFc (fun r_23 Pl_24 t H_25 locs ht hvm hw hB hz1 hk1 hS => ?_)
            try dsimp only at hw
            have hPD : kPD dC dI A [(jR, .inr (4, [.ref jT, .ref r1, .ref r2, .int (nI (xwr)), .int (nI (xfi)), .int Pl_24, .ref q6, .ref q7])), (r1, .inl (c1, 120, .inl xs1)), (r2, .inl (c2, 124, .inl xs2)), (jT, .inr (8, [.ref t0, .int (nI (kt))])), (t0, .inl (cC, 120, .inl gT))] H_25 := kJoinX hP hD [0, 1, 2, 3, 4] rfl hk1 hFc hB.1 ht hB.2.2 rfl [some 0, some 1, some 2, some 3, some 4] rfl rfl
            have hP := hPD.1
            have hD := hPD.2
            have hw_26 := hw
            refine lv_istore_n hx hb dX4_readTerm_40 rfl hl kc_l_3_4 (kTo [(3, .int r_23), (2, .int (nI (i))), (0, .ref jR), (1, .int 1)]) (fun ls hl => ?_)
            refine lv_aload_n hx hb dX4_readTerm_41 rfl (lv_at hl 2 rfl) ?_
            refine lv_dup hx hb dX4_readTerm_42 rfl ?_
            refine va_get (D := (dC, dI)) (ci := 4) (v := .int Pl_24) (C := RX4) (T := TX4) (N := 8) hx hb hts (fun _ h => List.mem_cons_of_mem _ (List.mem_append_right _ (List.mem_append_right _ (List.mem_append_right _ (List.mem_append_left _ h))))) hown hK hP 0 rfl rfl 5 kc_l_5_8 (hts (.fieldLink RX4 25 "NotEnded$Reader" "place" "I") (List.mem_cons_of_mem _ (List.mem_append_left _ (List.mem_of_getElem? (i := 11) rfl)))) (fun _ h9 => h9) rfl dX4_readTerm_43 ?_
            refine lv_iconst (v := 1) hx hb dX4_readTerm_46 kc_i_1 ?_
            refine lv_iadd hx hb dX4_readTerm_47 ?_
            refine lv_topi (fun x_27 ex_27 => ?_)
            refine va_put (D := (dC, dI)) (ci := 4) (v := .int x_27) (ty := tyX4 5) (C := RX4) (T := TX4) (N := 8) hx hb hts (fun _ h => List.mem_cons_of_mem _ (List.mem_append_right _ (List.mem_append_right _ (List.mem_append_right _ (List.mem_append_left _ h))))) tyX4 tyX4_ok nmX4 hown hK hP hD hS 0 rfl rfl 5 kc_l_5_8 (hts (.fieldLink RX4 25 "NotEnded$Reader" "place" "I") (List.mem_cons_of_mem _ (List.mem_append_left _ (List.mem_of_getElem? (i := 11) rfl)))) (fun _ h9 => h9) rfl (tyX4_ok 5 kc_l_5_8) rfl rfl (Nat.le_of_ble_eq_true rfl) dX4_readTerm_48 (fun H locs hP hD hS => ?_)
            have hPD : kPD dC dI A [(jR, .inr (4, [.ref jT, .ref r1, .ref r2, .int (nI (xwr)), .int (nI (xfi)), .int x_27, .ref q6, .ref q7])), (r1, .inl (c1, 120, .inl xs1)), (r2, .inl (c2, 124, .inl xs2)), (jT, .inr (8, [.ref t0, .int (nI (kt))])), (t0, .inl (cC, 120, .inl gT))] H := ⟨hP, hD⟩
            have hP := hPD.1
            have hD := hPD.2
            refine lv_aload_n hx hb dX4_readTerm_51 rfl (lv_at hl 2 rfl) ?_
            refine lv_iload_n hx hb dX4_readTerm_52 rfl (lv_at hl 3 rfl) ?_
            have hCu := kCut (wc := [(jR, .inr (4, [.ref jT, .ref r1, .ref r2, .int (nI (xwr)), .int (nI (xfi)), .int x_27, .ref q6, .ref q7])), (r1, .inl (c1, 120, .inl xs1)), (r2, .inl (c2, 124, .inl xs2)), (jT, .inr (8, [.ref t0, .int (nI (kt))])), (t0, .inl (cC, 120, .inl gT))]) hP hD hS hA [0, 1, 2, 3, 4] rfl kc_nd_311 rfl
            have hPc := hCu.1
            have hDc := hCu.2.1
            have hFc := hCu.2.2
            have hKc := hK.sb (tys2 := [(c1, .int), (c2, .int), (cC, .char)]) [0, 1, 2] rfl
            refine va_calli (va_runV (As := [.int 1]) (rest := []) ⟨hx, hb, hml, hown, hts⟩ (s_atom4_1 l dC dI jT t0 cC gT kt hkt hgT jR r1 r2 c1 c2 xs1 xs2 xwr xfi x_27 q6 q7 bd_16 bd_17 b6 n6 g6 hn6 b7 n7 g7 hn7 H.size) (cwV 1 hts (kG (List.forall_mem_cons.mpr ⟨(List.mem_cons_of_mem _ (List.mem_append_left _ (List.mem_of_getElem? (i := 24) rfl))), (List.forall_mem_cons.mpr ⟨(List.mem_cons_of_mem _ (List.mem_append_left _ (List.mem_of_getElem? (i := 23) rfl))), (List.forall_mem_cons.mpr ⟨(List.mem_cons_of_mem _ (List.mem_append_left _ (List.mem_of_getElem? (i := 22) rfl))), (List.forall_mem_cons.mpr ⟨(List.mem_cons_of_mem _ (List.mem_append_left _ (List.mem_of_getElem? (i := 0) rfl))), (fun _ h => absurd h List.not_mem_nil)⟩)⟩)⟩)⟩) (kGV _ _ _ _) (kFam (List.mem_cons_of_mem _ (List.mem_append_left _ (List.mem_of_getElem? (i := 21) rfl)))) gw_s_atom4_1) rfl rfl rfl ⟨rfl, hd_X4_readAtom⟩ ⟨(Nat.le_of_ble_eq_true rfl), (Nat.le_of_ble_eq_true rfl)⟩) (kW_V kS2_blind (kS2_give hX hS hFc) (va_recv hKc hPc (ci := 4) (q0 := 0) rfl rfl) hPc hKc hDc) rfl rfl hl.1 rfl (lv_room (Nat.le_of_ble_eq_true rfl)) dX4_readTerm_53 ⟨(Nat.le_of_ble_eq_true rfl), (Nat.le_of_ble_eq_true rfl)⟩) hS (fun q _ h => hFc q h) hFc (fun r_28 => kU5 (fun S1_29 S2_30 Pl_31 Wr_32 Fi_33 t H_34 locs ht hvm hw hB hz1 hk1 hS => ?_))
            try dsimp only at hw
            have hPD : kPD dC dI A [(jR, .inr (4, [.ref jT, .ref r1, .ref r2, .int (nI (Wr_32)), .int (nI (Fi_33)), .int Pl_31, .ref q6, .ref q7])), (r1, .inl (c1, 120, .inl S1_29)), (r2, .inl (c2, 124, .inl S2_30)), (jT, .inr (8, [.ref t0, .int (nI (kt))])), (t0, .inl (cC, 120, .inl gT))] H_34 := kJoinX hP hD [0, 1, 2, 3, 4] rfl hk1 hFc hB.1 ht hB.2.2 rfl [some 0, some 1, some 2, some 3, some 4] rfl rfl
            have hP := hPD.1
            have hD := hPD.2
            have hw_35 := hw
            refine lv_if_eq (tgt := 71) hx hb dX4_readTerm_56 kc_t_56_15 (fun c_36 => ?_) (fun c_36 => ?_)
            · refine lv_iconst (v := 0) hx hb dX4_readTerm_71 kc_i_0 ?_
              have hP9 := hP
              have hD9 := hD
              have hK9 := hK
              rw [hQ]
              exact W.zret (v := 0) hx hb hr rfl (fun t ht hW => ⟨⟨0, (S1_29, S2_30, Pl_31, Wr_32, Fi_33), rfl, ⟨(Or.inl rfl), by omega, by omega⟩,  by rw [ht]; exact hP9, va_K.moved hW.alike hK9, hD9⟩, hS.F ht⟩) hS.2.2 dX4_readTerm_72
            · refine lv_aload_n hx hb dX4_readTerm_59 rfl (lv_at hl 2 rfl) ?_
              refine lv_sipush (v := 20000) hx hb dX4_readTerm_60 kc_s_20000 ?_
              refine lv_iload_n hx hb dX4_readTerm_63 rfl (lv_at hl 0 rfl) ?_
              refine lv_iadd hx hb dX4_readTerm_64 ?_
              refine lv_topi (fun x_37 ex_37 => ?_)
              have bd_38 : Wr_32 ≤ 120 := by omega
              have bd_39 : Fi_33 ≤ 124 := by omega
              have hCu := kCut (wc := [(jR, .inr (4, [.ref jT, .ref r1, .ref r2, .int (nI (Wr_32)), .int (nI (Fi_33)), .int Pl_31, .ref q6, .ref q7])), (r1, .inl (c1, 120, .inl S1_29)), (r2, .inl (c2, 124, .inl S2_30)), (jT, .inr (8, [.ref t0, .int (nI (kt))])), (t0, .inl (cC, 120, .inl gT))]) hP hD hS hA [0, 1, 2, 3, 4] rfl kc_nd_311 rfl
              have hPc := hCu.1
              have hDc := hCu.2.1
              have hFc := hCu.2.2
              have hKc := hK.sb (tys2 := [(c1, .int), (c2, .int), (cC, .char)]) [0, 1, 2] rfl
              refine va_calli (va_runV (As := [.int x_37]) (rest := []) ⟨hx, hb, hml, hown, hts⟩ (s_write4 l dC dI jT t0 cC gT kt hkt hgT jR r1 r2 c1 c2 S1_29 S2_30 Wr_32 Fi_33 Pl_31 q6 q7 bd_38 bd_39 x_37 H_34.size) (cwV 1 hts (kG (List.forall_mem_cons.mpr ⟨(List.mem_cons_of_mem _ (List.mem_append_left _ (List.mem_of_getElem? (i := 14) rfl))), (List.forall_mem_cons.mpr ⟨(List.mem_cons_of_mem _ (List.mem_append_left _ (List.mem_of_getElem? (i := 13) rfl))), (List.forall_mem_cons.mpr ⟨(List.mem_cons_of_mem _ (List.mem_append_left _ (List.mem_of_getElem? (i := 12) rfl))), (List.forall_mem_cons.mpr ⟨(List.mem_cons_of_mem _ (List.mem_append_left _ (List.mem_of_getElem? (i := 0) rfl))), (fun _ h => absurd h List.not_mem_nil)⟩)⟩)⟩)⟩) (kGV _ _ _ _) (fun _ h => List.mem_cons_of_mem _ (List.mem_append_right _ (List.mem_append_right _ (List.mem_append_right _ (List.mem_append_right _ (List.mem_append_right _ (List.mem_append_left _ h))))))) gw_s_write4) rfl rfl rfl ⟨rfl, hd_X4_write⟩ ⟨(Nat.le_of_ble_eq_true rfl), (Nat.le_of_ble_eq_true rfl)⟩) (kW_V kT_blind kT_give (va_recv hKc hPc (ci := 4) (q0 := 0) rfl rfl) hPc hKc hDc) rfl rfl hl.1 rfl (lv_room (Nat.le_of_ble_eq_true rfl)) dX4_readTerm_65 ⟨(Nat.le_of_ble_eq_true rfl), (Nat.le_of_ble_eq_true rfl)⟩) hS (fun q _ h => hFc q h) hFc (fun r_40 => kU5 (fun S1_41 S2_42 Pl_43 Wr_44 Fi_45 t H_46 locs ht hvm hw hB hz1 hk1 hS => ?_))
              try dsimp only at hw
              have hPD : kPD dC dI A [(jR, .inr (4, [.ref jT, .ref r1, .ref r2, .int (nI (Wr_44)), .int (nI (Fi_45)), .int Pl_43, .ref q6, .ref q7])), (r1, .inl (c1, 120, .inl S1_41)), (r2, .inl (c2, 124, .inl S2_42)), (jT, .inr (8, [.ref t0, .int (nI (kt))])), (t0, .inl (cC, 120, .inl gT))] H_46 := kJoinX hP hD [0, 1, 2, 3, 4] rfl hk1 hFc hB.1 ht hB.2.2 rfl [some 0, some 1, some 2, some 3, some 4] rfl rfl
              have hP := hPD.1
              have hD := hPD.2
              have hw_47 := hw
              refine lv_if_ne (tgt := 73) hx hb dX4_readTerm_68 kc_t_68_5 (fun c_48 => ?_) (fun c_48 => ?_)
              · refine lv_iinc (v := nI (i + 1)) hx hb dX4_readTerm_73 hl (k := 1) rfl (kInc _ 1) kc_l_2_4 (kTo [(2, .int (nI (i + 1))), (3, .int r_23), (0, .ref jR), (1, .int 1)]) (fun ls hl => ?_)
                refine lv_goto (tgt := 12) hx hb dX4_readTerm_76 kc_t_76_m64 ?_
                exact ih_k_10 (i + 1) S1_41 S2_42 Pl_43 Wr_44 Fi_45 (by omega) (by omega) (by omega) _ _ hP hD hS ls (lv_sub hl [0, 2, 3] rfl) (by omega)
              · refine lv_iconst (v := 0) hx hb dX4_readTerm_71 kc_i_0 ?_
                have hP9 := hP
                have hD9 := hD
                have hK9 := hK
                rw [hQ]
                exact W.zret (v := 0) hx hb hr rfl (fun t ht hW => ⟨⟨0, (S1_41, S2_42, Pl_43, Wr_44, Fi_45), rfl, ⟨(Or.inl rfl), by omega, by omega⟩,  by rw [ht]; exact hP9, va_K.moved hW.alike hK9, hD9⟩, hS.F ht⟩) hS.2.2 dX4_readTerm_72
          · refine lv_aload_n hx hb dX4_readTerm_27 rfl (lv_at hl 1 rfl) ?_
            have hCu := kCut (wc := [(jR, .inr (4, [.ref jT, .ref r1, .ref r2, .int (nI (xwr)), .int (nI (xfi)), .int Pl_19, .ref q6, .ref q7])), (r1, .inl (c1, 120, .inl xs1)), (r2, .inl (c2, 124, .inl xs2)), (jT, .inr (8, [.ref t0, .int (nI (kt))])), (t0, .inl (cC, 120, .inl gT))]) hP hD hS hA [0, 1, 2, 3, 4] rfl kc_nd_311 rfl
            have hPc := hCu.1
            have hDc := hCu.2.1
            have hFc := hCu.2.2
            have hKc := hK.sb (tys2 := [(c1, .int), (c2, .int), (cC, .char)]) [0, 1, 2] rfl
            refine va_calli (va_runV (As := []) (rest := []) ⟨hx, hb, hml, hown, hts⟩ (s_look4 l dC dI jT t0 cC gT kt hkt hgT jR r1 r2 c1 c2 xs1 xs2 xwr xfi Pl_19 q6 q7 bd_16 bd_17 H_20.size) (cwV 0 hts (kG (List.forall_mem_cons.mpr ⟨(List.mem_cons_of_mem _ (List.mem_append_left _ (List.mem_of_getElem? (i := 3) rfl))), (List.forall_mem_cons.mpr ⟨(List.mem_cons_of_mem _ (List.mem_append_left _ (List.mem_of_getElem? (i := 2) rfl))), (List.forall_mem_cons.mpr ⟨(List.mem_cons_of_mem _ (List.mem_append_left _ (List.mem_of_getElem? (i := 1) rfl))), (List.forall_mem_cons.mpr ⟨(List.mem_cons_of_mem _ (List.mem_append_left _ (List.mem_of_getElem? (i := 0) rfl))), (fun _ h => absurd h List.not_mem_nil)⟩)⟩)⟩)⟩) (kGV _ _ _ _) (fun _ h => List.mem_cons_of_mem _ (List.mem_append_right _ (List.mem_append_left _ h))) gw_s_look4) rfl rfl rfl ⟨rfl, hd_X4_look⟩ ⟨(Nat.le_of_ble_eq_true rfl), (Nat.le_of_ble_eq_true rfl)⟩) (kW_V kT_blind kT_give (va_recv hKc hPc (ci := 4) (q0 := 0) rfl rfl) hPc hKc hDc) rfl rfl hl.1 rfl (lv_room (Nat.le_of_ble_eq_true rfl)) dX4_readTerm_28 ⟨(Nat.le_of_ble_eq_true rfl), (Nat.le_of_ble_eq_true rfl)⟩) hS (fun q _ h => hFc q h) hFc (fun r_49 Pl_50 t H_51 locs ht hvm hw hB hz1 hk1 hS => ?_)
            try dsimp only at hw
            have hPD : kPD dC dI A [(jR, .inr (4, [.ref jT, .ref r1, .ref r2, .int (nI (xwr)), .int (nI (xfi)), .int Pl_50, .ref q6, .ref q7])), (r1, .inl (c1, 120, .inl xs1)), (r2, .inl (c2, 124, .inl xs2)), (jT, .inr (8, [.ref t0, .int (nI (kt))])), (t0, .inl (cC, 120, .inl gT))] H_51 := kJoinX hP hD [0, 1, 2, 3, 4] rfl hk1 hFc hB.1 ht hB.2.2 rfl [some 0, some 1, some 2, some 3, some 4] rfl rfl
            have hP := hPD.1
            have hD := hPD.2
            have hw_52 := hw
            refine lv_bipush (v := 47) hx hb dX4_readTerm_31 kc_b_47 ?_
            refine lv_icmp_ne (tgt := 79) hx hb dX4_readTerm_33 kc_t_33_46 (fun c_53 => ?_) (fun c_53 => ?_)
            · refine lv_iconst (v := 1) hx hb dX4_readTerm_79 kc_i_1 ?_
              have hP9 := hP
              have hD9 := hD
              have hK9 := hK
              rw [hQ]
              exact W.zret (v := 1) hx hb hr rfl (fun t ht hW => ⟨⟨1, (xs1, xs2, Pl_50, xwr, xfi), rfl, ⟨(Or.inr rfl), by omega, by omega⟩,  by rw [ht]; exact hP9, va_K.moved hW.alike hK9, hD9⟩, hS.F ht⟩) hS.2.2 dX4_readTerm_80
            · refine lv_aload_n hx hb dX4_readTerm_36 rfl (lv_at hl 1 rfl) ?_
              have hCu := kCut (wc := [(jR, .inr (4, [.ref jT, .ref r1, .ref r2, .int (nI (xwr)), .int (nI (xfi)), .int Pl_50, .ref q6, .ref q7])), (r1, .inl (c1, 120, .inl xs1)), (r2, .inl (c2, 124, .inl xs2)), (jT, .inr (8, [.ref t0, .int (nI (kt))])), (t0, .inl (cC, 120, .inl gT))]) hP hD hS hA [0, 1, 2, 3, 4] rfl kc_nd_311 rfl
              have hPc := hCu.1
              have hDc := hCu.2.1
              have hFc := hCu.2.2
              have hKc := hK.sb (tys2 := [(c1, .int), (c2, .int), (cC, .char)]) [0, 1, 2] rfl
              refine va_calli (va_runV (As := []) (rest := []) ⟨hx, hb, hml, hown, hts⟩ (s_look4 l dC dI jT t0 cC gT kt hkt hgT jR r1 r2 c1 c2 xs1 xs2 xwr xfi Pl_50 q6 q7 bd_16 bd_17 H_51.size) (cwV 0 hts (kG (List.forall_mem_cons.mpr ⟨(List.mem_cons_of_mem _ (List.mem_append_left _ (List.mem_of_getElem? (i := 3) rfl))), (List.forall_mem_cons.mpr ⟨(List.mem_cons_of_mem _ (List.mem_append_left _ (List.mem_of_getElem? (i := 2) rfl))), (List.forall_mem_cons.mpr ⟨(List.mem_cons_of_mem _ (List.mem_append_left _ (List.mem_of_getElem? (i := 1) rfl))), (List.forall_mem_cons.mpr ⟨(List.mem_cons_of_mem _ (List.mem_append_left _ (List.mem_of_getElem? (i := 0) rfl))), (fun _ h => absurd h List.not_mem_nil)⟩)⟩)⟩)⟩) (kGV _ _ _ _) (fun _ h => List.mem_cons_of_mem _ (List.mem_append_right _ (List.mem_append_left _ h))) gw_s_look4) rfl rfl rfl ⟨rfl, hd_X4_look⟩ ⟨(Nat.le_of_ble_eq_true rfl), (Nat.le_of_ble_eq_true rfl)⟩) (kW_V kT_blind kT_give (va_recv hKc hPc (ci := 4) (q0 := 0) rfl rfl) hPc hKc hDc) rfl rfl hl.1 rfl (lv_room (Nat.le_of_ble_eq_true rfl)) dX4_readTerm_37 ⟨(Nat.le_of_ble_eq_true rfl), (Nat.le_of_ble_eq_true rfl)⟩) hS (fun q _ h => hFc q h) hFc (fun r_54 Pl_55 t H_56 locs ht hvm hw hB hz1 hk1 hS => ?_)
              try dsimp only at hw
              have hPD : kPD dC dI A [(jR, .inr (4, [.ref jT, .ref r1, .ref r2, .int (nI (xwr)), .int (nI (xfi)), .int Pl_55, .ref q6, .ref q7])), (r1, .inl (c1, 120, .inl xs1)), (r2, .inl (c2, 124, .inl xs2)), (jT, .inr (8, [.ref t0, .int (nI (kt))])), (t0, .inl (cC, 120, .inl gT))] H_56 := kJoinX hP hD [0, 1, 2, 3, 4] rfl hk1 hFc hB.1 ht hB.2.2 rfl [some 0, some 1, some 2, some 3, some 4] rfl rfl
              have hP := hPD.1
              have hD := hPD.2
              have hw_57 := hw
              refine lv_istore_n hx hb dX4_readTerm_40 rfl hl kc_l_3_4 (kTo [(3, .int r_54), (2, .int (nI (i))), (0, .ref jR), (1, .int 1)]) (fun ls hl => ?_)
              refine lv_aload_n hx hb dX4_readTerm_41 rfl (lv_at hl 2 rfl) ?_
              refine lv_dup hx hb dX4_readTerm_42 rfl ?_
              refine va_get (D := (dC, dI)) (ci := 4) (v := .int Pl_55) (C := RX4) (T := TX4) (N := 8) hx hb hts (fun _ h => List.mem_cons_of_mem _ (List.mem_append_right _ (List.mem_append_right _ (List.mem_append_right _ (List.mem_append_left _ h))))) hown hK hP 0 rfl rfl 5 kc_l_5_8 (hts (.fieldLink RX4 25 "NotEnded$Reader" "place" "I") (List.mem_cons_of_mem _ (List.mem_append_left _ (List.mem_of_getElem? (i := 11) rfl)))) (fun _ h9 => h9) rfl dX4_readTerm_43 ?_
              refine lv_iconst (v := 1) hx hb dX4_readTerm_46 kc_i_1 ?_
              refine lv_iadd hx hb dX4_readTerm_47 ?_
              refine lv_topi (fun x_58 ex_58 => ?_)
              refine va_put (D := (dC, dI)) (ci := 4) (v := .int x_58) (ty := tyX4 5) (C := RX4) (T := TX4) (N := 8) hx hb hts (fun _ h => List.mem_cons_of_mem _ (List.mem_append_right _ (List.mem_append_right _ (List.mem_append_right _ (List.mem_append_left _ h))))) tyX4 tyX4_ok nmX4 hown hK hP hD hS 0 rfl rfl 5 kc_l_5_8 (hts (.fieldLink RX4 25 "NotEnded$Reader" "place" "I") (List.mem_cons_of_mem _ (List.mem_append_left _ (List.mem_of_getElem? (i := 11) rfl)))) (fun _ h9 => h9) rfl (tyX4_ok 5 kc_l_5_8) rfl rfl (Nat.le_of_ble_eq_true rfl) dX4_readTerm_48 (fun H locs hP hD hS => ?_)
              have hPD : kPD dC dI A [(jR, .inr (4, [.ref jT, .ref r1, .ref r2, .int (nI (xwr)), .int (nI (xfi)), .int x_58, .ref q6, .ref q7])), (r1, .inl (c1, 120, .inl xs1)), (r2, .inl (c2, 124, .inl xs2)), (jT, .inr (8, [.ref t0, .int (nI (kt))])), (t0, .inl (cC, 120, .inl gT))] H := ⟨hP, hD⟩
              have hP := hPD.1
              have hD := hPD.2
              refine lv_aload_n hx hb dX4_readTerm_51 rfl (lv_at hl 2 rfl) ?_
              refine lv_iload_n hx hb dX4_readTerm_52 rfl (lv_at hl 3 rfl) ?_
              have hCu := kCut (wc := [(jR, .inr (4, [.ref jT, .ref r1, .ref r2, .int (nI (xwr)), .int (nI (xfi)), .int x_58, .ref q6, .ref q7])), (r1, .inl (c1, 120, .inl xs1)), (r2, .inl (c2, 124, .inl xs2)), (jT, .inr (8, [.ref t0, .int (nI (kt))])), (t0, .inl (cC, 120, .inl gT))]) hP hD hS hA [0, 1, 2, 3, 4] rfl kc_nd_311 rfl
              have hPc := hCu.1
              have hDc := hCu.2.1
              have hFc := hCu.2.2
              have hKc := hK.sb (tys2 := [(c1, .int), (c2, .int), (cC, .char)]) [0, 1, 2] rfl
              refine va_calli (va_runV (As := [.int 1]) (rest := []) ⟨hx, hb, hml, hown, hts⟩ (s_atom4_1 l dC dI jT t0 cC gT kt hkt hgT jR r1 r2 c1 c2 xs1 xs2 xwr xfi x_58 q6 q7 bd_16 bd_17 b6 n6 g6 hn6 b7 n7 g7 hn7 H.size) (cwV 1 hts (kG (List.forall_mem_cons.mpr ⟨(List.mem_cons_of_mem _ (List.mem_append_left _ (List.mem_of_getElem? (i := 24) rfl))), (List.forall_mem_cons.mpr ⟨(List.mem_cons_of_mem _ (List.mem_append_left _ (List.mem_of_getElem? (i := 23) rfl))), (List.forall_mem_cons.mpr ⟨(List.mem_cons_of_mem _ (List.mem_append_left _ (List.mem_of_getElem? (i := 22) rfl))), (List.forall_mem_cons.mpr ⟨(List.mem_cons_of_mem _ (List.mem_append_left _ (List.mem_of_getElem? (i := 0) rfl))), (fun _ h => absurd h List.not_mem_nil)⟩)⟩)⟩)⟩) (kGV _ _ _ _) (kFam (List.mem_cons_of_mem _ (List.mem_append_left _ (List.mem_of_getElem? (i := 21) rfl)))) gw_s_atom4_1) rfl rfl rfl ⟨rfl, hd_X4_readAtom⟩ ⟨(Nat.le_of_ble_eq_true rfl), (Nat.le_of_ble_eq_true rfl)⟩) (kW_V kS2_blind (kS2_give hX hS hFc) (va_recv hKc hPc (ci := 4) (q0 := 0) rfl rfl) hPc hKc hDc) rfl rfl hl.1 rfl (lv_room (Nat.le_of_ble_eq_true rfl)) dX4_readTerm_53 ⟨(Nat.le_of_ble_eq_true rfl), (Nat.le_of_ble_eq_true rfl)⟩) hS (fun q _ h => hFc q h) hFc (fun r_59 => kU5 (fun S1_60 S2_61 Pl_62 Wr_63 Fi_64 t H_65 locs ht hvm hw hB hz1 hk1 hS => ?_))
              try dsimp only at hw
              have hPD : kPD dC dI A [(jR, .inr (4, [.ref jT, .ref r1, .ref r2, .int (nI (Wr_63)), .int (nI (Fi_64)), .int Pl_62, .ref q6, .ref q7])), (r1, .inl (c1, 120, .inl S1_60)), (r2, .inl (c2, 124, .inl S2_61)), (jT, .inr (8, [.ref t0, .int (nI (kt))])), (t0, .inl (cC, 120, .inl gT))] H_65 := kJoinX hP hD [0, 1, 2, 3, 4] rfl hk1 hFc hB.1 ht hB.2.2 rfl [some 0, some 1, some 2, some 3, some 4] rfl rfl
              have hP := hPD.1
              have hD := hPD.2
              have hw_66 := hw
              refine lv_if_eq (tgt := 71) hx hb dX4_readTerm_56 kc_t_56_15 (fun c_67 => ?_) (fun c_67 => ?_)
              · refine lv_iconst (v := 0) hx hb dX4_readTerm_71 kc_i_0 ?_
                have hP9 := hP
                have hD9 := hD
                have hK9 := hK
                rw [hQ]
                exact W.zret (v := 0) hx hb hr rfl (fun t ht hW => ⟨⟨0, (S1_60, S2_61, Pl_62, Wr_63, Fi_64), rfl, ⟨(Or.inl rfl), by omega, by omega⟩,  by rw [ht]; exact hP9, va_K.moved hW.alike hK9, hD9⟩, hS.F ht⟩) hS.2.2 dX4_readTerm_72
              · refine lv_aload_n hx hb dX4_readTerm_59 rfl (lv_at hl 2 rfl) ?_
                refine lv_sipush (v := 20000) hx hb dX4_readTerm_60 kc_s_20000 ?_
                refine lv_iload_n hx hb dX4_readTerm_63 rfl (lv_at hl 0 rfl) ?_
                refine lv_iadd hx hb dX4_readTerm_64 ?_
                refine lv_topi (fun x_68 ex_68 => ?_)
                have bd_69 : Wr_63 ≤ 120 := by omega
                have bd_70 : Fi_64 ≤ 124 := by omega
                have hCu := kCut (wc := [(jR, .inr (4, [.ref jT, .ref r1, .ref r2, .int (nI (Wr_63)), .int (nI (Fi_64)), .int Pl_62, .ref q6, .ref q7])), (r1, .inl (c1, 120, .inl S1_60)), (r2, .inl (c2, 124, .inl S2_61)), (jT, .inr (8, [.ref t0, .int (nI (kt))])), (t0, .inl (cC, 120, .inl gT))]) hP hD hS hA [0, 1, 2, 3, 4] rfl kc_nd_311 rfl
                have hPc := hCu.1
                have hDc := hCu.2.1
                have hFc := hCu.2.2
                have hKc := hK.sb (tys2 := [(c1, .int), (c2, .int), (cC, .char)]) [0, 1, 2] rfl
                refine va_calli (va_runV (As := [.int x_68]) (rest := []) ⟨hx, hb, hml, hown, hts⟩ (s_write4 l dC dI jT t0 cC gT kt hkt hgT jR r1 r2 c1 c2 S1_60 S2_61 Wr_63 Fi_64 Pl_62 q6 q7 bd_69 bd_70 x_68 H_65.size) (cwV 1 hts (kG (List.forall_mem_cons.mpr ⟨(List.mem_cons_of_mem _ (List.mem_append_left _ (List.mem_of_getElem? (i := 14) rfl))), (List.forall_mem_cons.mpr ⟨(List.mem_cons_of_mem _ (List.mem_append_left _ (List.mem_of_getElem? (i := 13) rfl))), (List.forall_mem_cons.mpr ⟨(List.mem_cons_of_mem _ (List.mem_append_left _ (List.mem_of_getElem? (i := 12) rfl))), (List.forall_mem_cons.mpr ⟨(List.mem_cons_of_mem _ (List.mem_append_left _ (List.mem_of_getElem? (i := 0) rfl))), (fun _ h => absurd h List.not_mem_nil)⟩)⟩)⟩)⟩) (kGV _ _ _ _) (fun _ h => List.mem_cons_of_mem _ (List.mem_append_right _ (List.mem_append_right _ (List.mem_append_right _ (List.mem_append_right _ (List.mem_append_right _ (List.mem_append_left _ h))))))) gw_s_write4) rfl rfl rfl ⟨rfl, hd_X4_write⟩ ⟨(Nat.le_of_ble_eq_true rfl), (Nat.le_of_ble_eq_true rfl)⟩) (kW_V kT_blind kT_give (va_recv hKc hPc (ci := 4) (q0 := 0) rfl rfl) hPc hKc hDc) rfl rfl hl.1 rfl (lv_room (Nat.le_of_ble_eq_true rfl)) dX4_readTerm_65 ⟨(Nat.le_of_ble_eq_true rfl), (Nat.le_of_ble_eq_true rfl)⟩) hS (fun q _ h => hFc q h) hFc (fun r_71 => kU5 (fun S1_72 S2_73 Pl_74 Wr_75 Fi_76 t H_77 locs ht hvm hw hB hz1 hk1 hS => ?_))
                try dsimp only at hw
                have hPD : kPD dC dI A [(jR, .inr (4, [.ref jT, .ref r1, .ref r2, .int (nI (Wr_75)), .int (nI (Fi_76)), .int Pl_74, .ref q6, .ref q7])), (r1, .inl (c1, 120, .inl S1_72)), (r2, .inl (c2, 124, .inl S2_73)), (jT, .inr (8, [.ref t0, .int (nI (kt))])), (t0, .inl (cC, 120, .inl gT))] H_77 := kJoinX hP hD [0, 1, 2, 3, 4] rfl hk1 hFc hB.1 ht hB.2.2 rfl [some 0, some 1, some 2, some 3, some 4] rfl rfl
                have hP := hPD.1
                have hD := hPD.2
                have hw_78 := hw
                refine lv_if_ne (tgt := 73) hx hb dX4_readTerm_68 kc_t_68_5 (fun c_79 => ?_) (fun c_79 => ?_)
                · refine lv_iinc (v := nI (i + 1)) hx hb dX4_readTerm_73 hl (k := 1) rfl (kInc _ 1) kc_l_2_4 (kTo [(2, .int (nI (i + 1))), (3, .int r_54), (0, .ref jR), (1, .int 1)]) (fun ls hl => ?_)
                  refine lv_goto (tgt := 12) hx hb dX4_readTerm_76 kc_t_76_m64 ?_
                  exact ih_k_10 (i + 1) S1_72 S2_73 Pl_74 Wr_75 Fi_76 (by omega) (by omega) (by omega) _ _ hP hD hS ls (lv_sub hl [0, 2, 3] rfl) (by omega)
                · refine lv_iconst (v := 0) hx hb dX4_readTerm_71 kc_i_0 ?_
                  have hP9 := hP
                  have hD9 := hD
                  have hK9 := hK
                  rw [hQ]
                  exact W.zret (v := 0) hx hb hr rfl (fun t ht hW => ⟨⟨0, (S1_72, S2_73, Pl_74, Wr_75, Fi_76), rfl, ⟨(Or.inl rfl), by omega, by omega⟩,  by rw [ht]; exact hP9, va_K.moved hW.alike hK9, hD9⟩, hS.F ht⟩) hS.2.2 dX4_readTerm_72
    exact lp_k_10 (120 - 0 + 1) 0 S1_2 S2_3 Pl_4 Wr_5 Fi_6 (by omega) (by omega) (by omega) _ _ hP hD hS ls (lv_sub hl [0, 1, 2] rfl) (by omega)
  · refine lv_iconst (v := 0) hx hb dX4_readTerm_8 kc_i_0 ?_
    have hP9 := hP
    have hD9 := hD
    have hK9 := hK
    rw [hQ]
    exact W.zret (v := 0) hx hb hr rfl (fun t ht hW => ⟨⟨0, (S1_2, S2_3, Pl_4, Wr_5, Fi_6), rfl, ⟨(Or.inl rfl), by omega, by omega⟩,  by rw [ht]; exact hP9, va_K.moved hW.alike hK9, hD9⟩, hS.F ht⟩) hS.2.2 dX4_readTerm_9

def w_s_sum4_1 : List Cond := .code yX4_readSum cX4_readSum 4 (some .boolean) :: wf_rd
theorem gw_s_sum4_1 : (w_s_sum4_1).all goodWord = true := kFamG rfl gf_rd
set_option maxHeartbeats 4000000 in
set_option maxRecDepth 100000 in
theorem s_sum4_1 (l : Launch) (dC : Nat → ClassId) (dI : Nat → Nat → Nat) (jT : Nat) (t0 : Nat) (cC : ClassId) (gT : Nat → Int32) (kt : Nat) (hkt : kt ≤ 120) (hgT : ∀ j : Nat, narrow .char (.int (gT j)) = .int (gT j)) (jR : Nat) (r1 : Nat) (r2 : Nat) (c1 : ClassId) (c2 : ClassId) (s1 : Nat → Int32) (s2 : Nat → Int32) (wr : Nat) (fi : Nat) (pl : Int32) (q6 : Nat) (q7 : Nat) (hwr : wr ≤ 120) (hfi : fi ≤ 124) (b6 : Nat) (n6 : Nat) (g6 : Nat → Int32) (hn6 : n6 ≤ 8) (b7 : Nat) (n7 : Nat) (g7 : Nat → Int32) (hn7 : n7 ≤ 8) (sz : Nat) : Met l yX4_readSum w_s_sum4_1 ({ frames := 38, cells := 0, slots := 0, locals := 2280 }) (kW dC dI [.ref jR, .int 1] [(jR, .inr (4, [.ref jT, .ref r1, .ref r2, .int (nI (wr)), .int (nI (fi)), .int pl, .ref q6, .ref q7])), (r1, .inl (c1, 120, .inl s1)), (r2, .inl (c2, 124, .inl s2)), (jT, .inr (8, [.ref t0, .int (nI (kt))])), (t0, .inl (cC, 120, .inl gT))] [(c1, .int), (c2, .int), (cC, .char)] (kS2 q6 b6 n6 g6 q7 b7 n7 g7 (va_A [(jR, .inr (4, [.ref jT, .ref r1, .ref r2, .int (nI (wr)), .int (nI (fi)), .int pl, .ref q6, .ref q7])), (r1, .inl (c1, 120, .inl s1)), (r2, .inl (c2, 124, .inl s2)), (jT, .inr (8, [.ref t0, .int (nI (kt))])), (t0, .inl (cC, 120, .inl gT))] sz)) sz) (va_Qi (fun (r : Int32) (u : (Nat → Int32) × (Nat → Int32) × Int32 × Nat × Nat) => match u with | (S1, S2, Pl, Wr, Fi) => ((r = 0 ∨ r = 1) ∧ Wr ≤ 120 ∧ Fi ≤ 124)) (fun (u : (Nat → Int32) × (Nat → Int32) × Int32 × Nat × Nat) => match u with | (S1, S2, Pl, Wr, Fi) => fun t : State => kB dC dI [(jR, .inr (4, [.ref jT, .ref r1, .ref r2, .int (nI (Wr)), .int (nI (Fi)), .int Pl, .ref q6, .ref q7])), (r1, .inl (c1, 120, .inl S1)), (r2, .inl (c2, 124, .inl S2)), (jT, .inr (8, [.ref t0, .int (nI (kt))])), (t0, .inl (cC, 120, .inl gT))] [(c1, .int), (c2, .int), (cC, .char)] (va_A [(jR, .inr (4, [.ref jT, .ref r1, .ref r2, .int (nI (wr)), .int (nI (fi)), .int pl, .ref q6, .ref q7])), (r1, .inl (c1, 120, .inl s1)), (r2, .inl (c2, 124, .inl s2)), (jT, .inr (8, [.ref t0, .int (nI (kt))])), (t0, .inl (cC, 120, .inl gT))] sz) t) (va_A [(jR, .inr (4, [.ref jT, .ref r1, .ref r2, .int (nI (wr)), .int (nI (fi)), .int pl, .ref q6, .ref q7])), (r1, .inl (c1, 120, .inl s1)), (r2, .inl (c2, 124, .inl s2)), (jT, .inr (8, [.ref t0, .int (nI (kt))])), (t0, .inl (cC, 120, .inl gT))] sz)) 0 0 (va_A [(jR, .inr (4, [.ref jT, .ref r1, .ref r2, .int (nI (wr)), .int (nI (fi)), .int pl, .ref q6, .ref q7])), (r1, .inl (c1, 120, .inl s1)), (r2, .inl (c2, 124, .inl s2)), (jT, .inr (8, [.ref t0, .int (nI (kt))])), (t0, .inl (cC, 120, .inl gT))] sz) := by
  refine Met.ofW (cc := cX4_readSum) (maxL := 4) (ret := (some .boolean)) (by decide) rfl ?_
  intro p e s m args below meth c s₁ B hml hv
  obtain ⟨rfl, hsz, hP, hK, hD0, hX⟩ := hv
  have hx := B.exec
  have hb := B.bytes
  have hr := B.returns
  have hts := atoms_spec (ws := w_s_sum4_1) B.pre
  have hown : s.vm.findClass RX4 = some m.cls := findClass_of_methodNamed B.named
  have hlocks := B.notSynchronized
  subst hsz
  have hD := hD0.self (sz := s.heap.size)
  generalize hAe : va_A [(jR, .inr (4, [.ref jT, .ref r1, .ref r2, .int (nI (wr)), .int (nI (fi)), .int pl, .ref q6, .ref q7])), (r1, .inl (c1, 120, .inl s1)), (r2, .inl (c2, 124, .inl s2)), (jT, .inr (8, [.ref t0, .int (nI (kt))])), (t0, .inl (cC, 120, .inl gT))] s.heap.size = A at hD hX ⊢
  have hA : ∀ q : Nat, s.heap.size ≤ q → A q := fun q h => by rw [← hAe]; exact Or.inr h
  have hS : va_S A s.heap s.heap [] := va_S.rf
  have hP : va_P (dC, dI) vwCl [(jR, .inr (4, [.ref jT, .ref r1, .ref r2, .int (nI (wr)), .int (nI (fi)), .int pl, .ref q6, .ref q7])), (r1, .inl (c1, 120, .inl s1)), (r2, .inl (c2, 124, .inl s2)), (jT, .inr (8, [.ref t0, .int (nI (kt))])), (t0, .inl (cC, 120, .inl gT))] s.heap := hP
  have hl := lv_entry ([.ref jR, .int 1]) (n := 4) (Nat.le_of_ble_eq_true rfl)
  rw [lg_entry_eq]
  generalize (lg_sl ([.ref jR, .int 1]) ++ List.replicate (4 - (lg_sl ([.ref jR, .int 1])).length) Slot.unset).toArray = ls at hl ⊢
  have hl : lv_has ls 4 [(0, .ref jR), (1, .int 1)] := hl
  refine kQ (fun Q hQ => ?_)
  refine lv_aload_n hx hb dX4_readSum_0 rfl (lv_at hl 0 rfl) ?_
  refine lv_iload_n hx hb dX4_readSum_1 rfl (lv_at hl 1 rfl) ?_
  have hCu := kCut (wc := [(jR, .inr (4, [.ref jT, .ref r1, .ref r2, .int (nI (wr)), .int (nI (fi)), .int pl, .ref q6, .ref q7])), (r1, .inl (c1, 120, .inl s1)), (r2, .inl (c2, 124, .inl s2)), (jT, .inr (8, [.ref t0, .int (nI (kt))])), (t0, .inl (cC, 120, .inl gT))]) hP hD hS hA [0, 1, 2, 3, 4] rfl kc_nd_311 rfl
  have hPc := hCu.1
  have hDc := hCu.2.1
  have hFc := hCu.2.2
  have hKc := hK.sb (tys2 := [(c1, .int), (c2, .int), (cC, .char)]) [0, 1, 2] rfl
  refine va_calli (va_runV (As := [.int 1]) (rest := []) ⟨hx, hb, hml, hown, hts⟩ (s_term4_1 l dC dI jT t0 cC gT kt hkt hgT jR r1 r2 c1 c2 s1 s2 wr fi pl q6 q7 hwr hfi b6 n6 g6 hn6 b7 n7 g7 hn7 s.heap.size) (cwV 1 hts (kG (List.forall_mem_cons.mpr ⟨(List.mem_cons_of_mem _ (List.mem_append_left _ (List.mem_of_getElem? (i := 28) rfl))), (List.forall_mem_cons.mpr ⟨(List.mem_cons_of_mem _ (List.mem_append_left _ (List.mem_of_getElem? (i := 27) rfl))), (List.forall_mem_cons.mpr ⟨(List.mem_cons_of_mem _ (List.mem_append_left _ (List.mem_of_getElem? (i := 26) rfl))), (List.forall_mem_cons.mpr ⟨(List.mem_cons_of_mem _ (List.mem_append_left _ (List.mem_of_getElem? (i := 0) rfl))), (fun _ h => absurd h List.not_mem_nil)⟩)⟩)⟩)⟩) (kGV _ _ _ _) (kFam (List.mem_cons_of_mem _ (List.mem_append_left _ (List.mem_of_getElem? (i := 25) rfl)))) gw_s_term4_1) rfl rfl rfl ⟨rfl, hd_X4_readTerm⟩ ⟨(Nat.le_of_ble_eq_true rfl), (Nat.le_of_ble_eq_true rfl)⟩) (kW_V kS2_blind (kS2_give hX hS hFc) (va_recv hKc hPc (ci := 4) (q0 := 0) rfl rfl) hPc hKc hDc) rfl rfl hl.1 rfl (lv_room (Nat.le_of_ble_eq_true rfl)) dX4_readSum_2 ⟨(Nat.le_of_ble_eq_true rfl), (Nat.le_of_ble_eq_true rfl)⟩) hS (fun q _ h => hFc q h) hFc (fun r_1 => kU5 (fun S1_2 S2_3 Pl_4 Wr_5 Fi_6 t H_7 locs ht hvm hw hB hz1 hk1 hS => ?_))
  try dsimp only at hw
  have hPD : kPD dC dI A [(jR, .inr (4, [.ref jT, .ref r1, .ref r2, .int (nI (Wr_5)), .int (nI (Fi_6)), .int Pl_4, .ref q6, .ref q7])), (r1, .inl (c1, 120, .inl S1_2)), (r2, .inl (c2, 124, .inl S2_3)), (jT, .inr (8, [.ref t0, .int (nI (kt))])), (t0, .inl (cC, 120, .inl gT))] H_7 := kJoinX hP hD [0, 1, 2, 3, 4] rfl hk1 hFc hB.1 ht hB.2.2 rfl [some 0, some 1, some 2, some 3, some 4] rfl rfl
  have hP := hPD.1
  have hD := hPD.2
  have hw_8 := hw
  refine lv_if_ne (tgt := 10) hx hb dX4_readSum_5 kc_t_5_5 (fun c_9 => ?_) (fun c_9 => ?_)
  · refine lv_iconst (v := 0) hx hb dX4_readSum_10 kc_i_0 ?_
    refine lv_istore_n hx hb dX4_readSum_11 rfl hl kc_l_2_4 (kTo [(2, .int 0), (0, .ref jR), (1, .int 1)]) (fun ls hl => ?_)
    have lp_k_10 : ∀ (n9 : Nat) (i : Nat) (xs1 : Nat → Int32) (xs2 : Nat → Int32) (xpl : Int32) (xwr : Nat) (xfi : Nat) (ivk_10_0 : i ≤ 120) (ivk_10_1 : xwr ≤ 120) (ivk_10_2 : xfi ≤ 124) (H : Heap) (locs : List Loc) (_ : va_P (dC, dI) vwCl [(jR, .inr (4, [.ref jT, .ref r1, .ref r2, .int (nI (xwr)), .int (nI (xfi)), .int xpl, .ref q6, .ref q7])), (r1, .inl (c1, 120, .inl xs1)), (r2, .inl (c2, 124, .inl xs2)), (jT, .inr (8, [.ref t0, .int (nI (kt))])), (t0, .inl (cC, 120, .inl gT))] H) (_ : va_D A [(jR, .inr (4, [.ref jT, .ref r1, .ref r2, .int (nI (xwr)), .int (nI (xfi)), .int xpl, .ref q6, .ref q7])), (r1, .inl (c1, 120, .inl xs1)), (r2, .inl (c2, 124, .inl xs2)), (jT, .inr (8, [.ref t0, .int (nI (kt))])), (t0, .inl (cC, 120, .inl gT))]) (_ : va_S A s.heap H locs) (ls : Array Slot) (_ : lv_has ls 4 [(2, .int (nI (i))), (0, .ref jR), (1, .int 1)]) (_ : 120 - i < n9), W p l e (headSpec w_s_sum4_1 ({ frames := 38, cells := 0, slots := 0, locals := 2280 })).room s m (#[.ref jR, .int 1] : Array Value) below meth c H locs 0 0 Q (F0 m 12 ls []) := by
      intro n9
      induction n9 with
      | zero => intro i xs1 xs2 xpl xwr xfi ivk_10_0 ivk_10_1 ivk_10_2 H locs hP hD hS ls hl hm9; exact absurd hm9 (Nat.not_lt_zero _)
      | succ n9 ih_k_10 =>
        intro i xs1 xs2 xpl xwr xfi ivk_10_0 ivk_10_1 ivk_10_2 H locs hP hD hS ls hl hm9
        refine lv_iload_n hx hb dX4_readSum_12 rfl (lv_at hl 0 rfl) ?_
        refine lv_bipush (v := 120) hx hb dX4_readSum_13 kc_b_120 ?_
        refine lv_icmp_ge (tgt := 79) hx hb dX4_readSum_15 kc_t_15_64 (fun c_11 => ?_) (fun c_11 => ?_)
        · have bd_13 : i < 2147483648 := by omega
          have hn_12 := kle (a := 120) (b := i) kc_31_120 bd_13 c_11
          refine lv_iconst (v := 1) hx hb dX4_readSum_79 kc_i_1 ?_
          have hP9 := hP
          have hD9 := hD
          have hK9 := hK
          rw [hQ]
          exact W.zret (v := 1) hx hb hr rfl (fun t ht hW => ⟨⟨1, (xs1, xs2, xpl, xwr, xfi), rfl, ⟨(Or.inr rfl), by omega, by omega⟩,  by rw [ht]; exact hP9, va_K.moved hW.alike hK9, hD9⟩, hS.F ht⟩) hS.2.2 dX4_readSum_80
        · have bd_15 : i < 2147483648 := by omega
          have hn_14 := knle (a := 120) (b := i) kc_31_120 bd_15 c_11
          refine lv_aload_n hx hb dX4_readSum_18 rfl (lv_at hl 1 rfl) ?_
          have bd_16 : xwr ≤ 120 := by omega
          have bd_17 : xfi ≤ 124 := by omega
          have hCu := kCut (wc := [(jR, .inr (4, [.ref jT, .ref r1, .ref r2, .int (nI (xwr)), .int (nI (xfi)), .int xpl, .ref q6, .ref q7])), (r1, .inl (c1, 120, .inl xs1)), (r2, .inl (c2, 124, .inl xs2)), (jT, .inr (8, [.ref t0, .int (nI (kt))])), (t0, .inl (cC, 120, .inl gT))]) hP hD hS hA [0, 1, 2, 3, 4] rfl kc_nd_311 rfl
          have hPc := hCu.1
          have hDc := hCu.2.1
          have hFc := hCu.2.2
          have hKc := hK.sb (tys2 := [(c1, .int), (c2, .int), (cC, .char)]) [0, 1, 2] rfl
          refine va_calli (va_runV (As := []) (rest := []) ⟨hx, hb, hml, hown, hts⟩ (s_look4 l dC dI jT t0 cC gT kt hkt hgT jR r1 r2 c1 c2 xs1 xs2 xwr xfi xpl q6 q7 bd_16 bd_17 H.size) (cwV 0 hts (kG (List.forall_mem_cons.mpr ⟨(List.mem_cons_of_mem _ (List.mem_append_left _ (List.mem_of_getElem? (i := 3) rfl))), (List.forall_mem_cons.mpr ⟨(List.mem_cons_of_mem _ (List.mem_append_left _ (List.mem_of_getElem? (i := 2) rfl))), (List.forall_mem_cons.mpr ⟨(List.mem_cons_of_mem _ (List.mem_append_left _ (List.mem_of_getElem? (i := 1) rfl))), (List.forall_mem_cons.mpr ⟨(List.mem_cons_of_mem _ (List.mem_append_left _ (List.mem_of_getElem? (i := 0) rfl))), (fun _ h => absurd h List.not_mem_nil)⟩)⟩)⟩)⟩) (kGV _ _ _ _) (fun _ h => List.mem_cons_of_mem _ (List.mem_append_right _ (List.mem_append_left _ h))) gw_s_look4) rfl rfl rfl ⟨rfl, hd_X4_look⟩ ⟨(Nat.le_of_ble_eq_true rfl), (Nat.le_of_ble_eq_true rfl)⟩) (kW_V kT_blind kT_give (va_recv hKc hPc (ci := 4) (q0 := 0) rfl rfl) hPc hKc hDc) rfl rfl hl.1 rfl (lv_room (Nat.le_of_ble_eq_true rfl)) dX4_readSum_19 ⟨(Nat.le_of_ble_eq_true rfl), (Nat.le_of_ble_eq_true rfl)⟩) hS (fun q _ h => hFc q h) hFc (fun r_18 Pl_19 t H_20 locs ht hvm hw hB hz1 hk1 hS => ?_)
          try dsimp only at hw
          have hPD : kPD dC dI A [(jR, .inr (4, [.ref jT, .ref r1, .ref r2, .int (nI (xwr)), .int (nI (xfi)), .int Pl_19, .ref q6, .ref q7])), (r1, .inl (c1, 120, .inl xs1)), (r2, .inl (c2, 124, .inl xs2)), (jT, .inr (8, [.ref t0, .int (nI (kt))])), (t0, .inl (cC, 120, .inl gT))] H_20 := kJoinX hP hD [0, 1, 2, 3, 4] rfl hk1 hFc hB.1 ht hB.2.2 rfl [some 0, some 1, some 2, some 3, some 4] rfl rfl
          have hP := hPD.1
          have hD := hPD.2
          have hw_21 := hw
          refine lv_bipush (v := 43) hx hb dX4_readSum_22 kc_b_43 ?_
          refine lv_icmp_eq (tgt := 36) hx hb dX4_readSum_24 kc_t_24_12 (fun c_22 => ?_) (fun c_22 => ?_)
          · refine lv_aload_n hx hb dX4_readSum_36 rfl (lv_at hl 1 rfl) ?_
            have hCu := kCut (wc := [(jR, .inr (4, [.ref jT, .ref r1, .ref r2, .int (nI (xwr)), .int (nI (xfi)), .int Pl_19, .ref q6, .ref q7])), (r1, .inl (c1, 120, .inl xs1)), (r2, .inl (c2, 124, .inl xs2)), (jT, .inr (8, [.ref t0, .int (nI (kt))])), (t0, .inl (cC, 120, .inl gT))]) hP hD hS hA [0, 1, 2, 3, 4] rfl kc_nd_311 rfl
            have hPc := hCu.1
            have hDc := hCu.2.1
            have hFc := hCu.2.2
            have hKc := hK.sb (tys2 := [(c1, .int), (c2, .int), (cC, .char)]) [0, 1, 2] rfl
            refine va_calli (va_runV (As := []) (rest := []) ⟨hx, hb, hml, hown, hts⟩ (s_look4 l dC dI jT t0 cC gT kt hkt hgT jR r1 r2 c1 c2 xs1 xs2 xwr xfi Pl_19 q6 q7 bd_16 bd_17 H_20.size) (cwV 0 hts (kG (List.forall_mem_cons.mpr ⟨(List.mem_cons_of_mem _ (List.mem_append_left _ (List.mem_of_getElem? (i := 3) rfl))), (List.forall_mem_cons.mpr ⟨(List.mem_cons_of_mem _ (List.mem_append_left _ (List.mem_of_getElem? (i := 2) rfl))), (List.forall_mem_cons.mpr ⟨(List.mem_cons_of_mem _ (List.mem_append_left _ (List.mem_of_getElem? (i := 1) rfl))), (List.forall_mem_cons.mpr ⟨(List.mem_cons_of_mem _ (List.mem_append_left _ (List.mem_of_getElem? (i := 0) rfl))), (fun _ h => absurd h List.not_mem_nil)⟩)⟩)⟩)⟩) (kGV _ _ _ _) (fun _ h => List.mem_cons_of_mem _ (List.mem_append_right _ (List.mem_append_left _ h))) gw_s_look4) rfl rfl rfl ⟨rfl, hd_X4_look⟩ ⟨(Nat.le_of_ble_eq_true rfl), (Nat.le_of_ble_eq_true rfl)⟩) (kW_V kT_blind kT_give (va_recv hKc hPc (ci := 4) (q0 := 0) rfl rfl) hPc hKc hDc) rfl rfl hl.1 rfl (lv_room (Nat.le_of_ble_eq_true rfl)) dX4_readSum_37 ⟨(Nat.le_of_ble_eq_true rfl), (Nat.le_of_ble_eq_true rfl)⟩) hS (fun q _ h => hFc q h) hFc (fun r_23 Pl_24 t H_25 locs ht hvm hw hB hz1 hk1 hS => ?_)
            try dsimp only at hw
            have hPD : kPD dC dI A [(jR, .inr (4, [.ref jT, .ref r1, .ref r2, .int (nI (xwr)), .int (nI (xfi)), .int Pl_24, .ref q6, .ref q7])), (r1, .inl (c1, 120, .inl xs1)), (r2, .inl (c2, 124, .inl xs2)), (jT, .inr (8, [.ref t0, .int (nI (kt))])), (t0, .inl (cC, 120, .inl gT))] H_25 := kJoinX hP hD [0, 1, 2, 3, 4] rfl hk1 hFc hB.1 ht hB.2.2 rfl [some 0, some 1, some 2, some 3, some 4] rfl rfl
            have hP := hPD.1
            have hD := hPD.2
            have hw_26 := hw
            refine lv_istore_n hx hb dX4_readSum_40 rfl hl kc_l_3_4 (kTo [(3, .int r_23), (2, .int (nI (i))), (0, .ref jR), (1, .int 1)]) (fun ls hl => ?_)
            refine lv_aload_n hx hb dX4_readSum_41 rfl (lv_at hl 2 rfl) ?_
            refine lv_dup hx hb dX4_readSum_42 rfl ?_
            refine va_get (D := (dC, dI)) (ci := 4) (v := .int Pl_24) (C := RX4) (T := TX4) (N := 8) hx hb hts (fun _ h => List.mem_cons_of_mem _ (List.mem_append_right _ (List.mem_append_right _ (List.mem_append_right _ (List.mem_append_left _ h))))) hown hK hP 0 rfl rfl 5 kc_l_5_8 (hts (.fieldLink RX4 25 "NotEnded$Reader" "place" "I") (List.mem_cons_of_mem _ (List.mem_append_left _ (List.mem_of_getElem? (i := 11) rfl)))) (fun _ h9 => h9) rfl dX4_readSum_43 ?_
            refine lv_iconst (v := 1) hx hb dX4_readSum_46 kc_i_1 ?_
            refine lv_iadd hx hb dX4_readSum_47 ?_
            refine lv_topi (fun x_27 ex_27 => ?_)
            refine va_put (D := (dC, dI)) (ci := 4) (v := .int x_27) (ty := tyX4 5) (C := RX4) (T := TX4) (N := 8) hx hb hts (fun _ h => List.mem_cons_of_mem _ (List.mem_append_right _ (List.mem_append_right _ (List.mem_append_right _ (List.mem_append_left _ h))))) tyX4 tyX4_ok nmX4 hown hK hP hD hS 0 rfl rfl 5 kc_l_5_8 (hts (.fieldLink RX4 25 "NotEnded$Reader" "place" "I") (List.mem_cons_of_mem _ (List.mem_append_left _ (List.mem_of_getElem? (i := 11) rfl)))) (fun _ h9 => h9) rfl (tyX4_ok 5 kc_l_5_8) rfl rfl (Nat.le_of_ble_eq_true rfl) dX4_readSum_48 (fun H locs hP hD hS => ?_)
            have hPD : kPD dC dI A [(jR, .inr (4, [.ref jT, .ref r1, .ref r2, .int (nI (xwr)), .int (nI (xfi)), .int x_27, .ref q6, .ref q7])), (r1, .inl (c1, 120, .inl xs1)), (r2, .inl (c2, 124, .inl xs2)), (jT, .inr (8, [.ref t0, .int (nI (kt))])), (t0, .inl (cC, 120, .inl gT))] H := ⟨hP, hD⟩
            have hP := hPD.1
            have hD := hPD.2
            refine lv_aload_n hx hb dX4_readSum_51 rfl (lv_at hl 2 rfl) ?_
            refine lv_iload_n hx hb dX4_readSum_52 rfl (lv_at hl 3 rfl) ?_
            have hCu := kCut (wc := [(jR, .inr (4, [.ref jT, .ref r1, .ref r2, .int (nI (xwr)), .int (nI (xfi)), .int x_27, .ref q6, .ref q7])), (r1, .inl (c1, 120, .inl xs1)), (r2, .inl (c2, 124, .inl xs2)), (jT, .inr (8, [.ref t0, .int (nI (kt))])), (t0, .inl (cC, 120, .inl gT))]) hP hD hS hA [0, 1, 2, 3, 4] rfl kc_nd_311 rfl
            have hPc := hCu.1
            have hDc := hCu.2.1
            have hFc := hCu.2.2
            have hKc := hK.sb (tys2 := [(c1, .int), (c2, .int), (cC, .char)]) [0, 1, 2] rfl
            refine va_calli (va_runV (As := [.int 1]) (rest := []) ⟨hx, hb, hml, hown, hts⟩ (s_term4_1 l dC dI jT t0 cC gT kt hkt hgT jR r1 r2 c1 c2 xs1 xs2 xwr xfi x_27 q6 q7 bd_16 bd_17 b6 n6 g6 hn6 b7 n7 g7 hn7 H.size) (cwV 1 hts (kG (List.forall_mem_cons.mpr ⟨(List.mem_cons_of_mem _ (List.mem_append_left _ (List.mem_of_getElem? (i := 28) rfl))), (List.forall_mem_cons.mpr ⟨(List.mem_cons_of_mem _ (List.mem_append_left _ (List.mem_of_getElem? (i := 27) rfl))), (List.forall_mem_cons.mpr ⟨(List.mem_cons_of_mem _ (List.mem_append_left _ (List.mem_of_getElem? (i := 26) rfl))), (List.forall_mem_cons.mpr ⟨(List.mem_cons_of_mem _ (List.mem_append_left _ (List.mem_of_getElem? (i := 0) rfl))), (fun _ h => absurd h List.not_mem_nil)⟩)⟩)⟩)⟩) (kGV _ _ _ _) (kFam (List.mem_cons_of_mem _ (List.mem_append_left _ (List.mem_of_getElem? (i := 25) rfl)))) gw_s_term4_1) rfl rfl rfl ⟨rfl, hd_X4_readTerm⟩ ⟨(Nat.le_of_ble_eq_true rfl), (Nat.le_of_ble_eq_true rfl)⟩) (kW_V kS2_blind (kS2_give hX hS hFc) (va_recv hKc hPc (ci := 4) (q0 := 0) rfl rfl) hPc hKc hDc) rfl rfl hl.1 rfl (lv_room (Nat.le_of_ble_eq_true rfl)) dX4_readSum_53 ⟨(Nat.le_of_ble_eq_true rfl), (Nat.le_of_ble_eq_true rfl)⟩) hS (fun q _ h => hFc q h) hFc (fun r_28 => kU5 (fun S1_29 S2_30 Pl_31 Wr_32 Fi_33 t H_34 locs ht hvm hw hB hz1 hk1 hS => ?_))
            try dsimp only at hw
            have hPD : kPD dC dI A [(jR, .inr (4, [.ref jT, .ref r1, .ref r2, .int (nI (Wr_32)), .int (nI (Fi_33)), .int Pl_31, .ref q6, .ref q7])), (r1, .inl (c1, 120, .inl S1_29)), (r2, .inl (c2, 124, .inl S2_30)), (jT, .inr (8, [.ref t0, .int (nI (kt))])), (t0, .inl (cC, 120, .inl gT))] H_34 := kJoinX hP hD [0, 1, 2, 3, 4] rfl hk1 hFc hB.1 ht hB.2.2 rfl [some 0, some 1, some 2, some 3, some 4] rfl rfl
            have hP := hPD.1
            have hD := hPD.2
            have hw_35 := hw
            refine lv_if_eq (tgt := 71) hx hb dX4_readSum_56 kc_t_56_15 (fun c_36 => ?_) (fun c_36 => ?_)
            · refine lv_iconst (v := 0) hx hb dX4_readSum_71 kc_i_0 ?_
              have hP9 := hP
              have hD9 := hD
              have hK9 := hK
              rw [hQ]
              exact W.zret (v := 0) hx hb hr rfl (fun t ht hW => ⟨⟨0, (S1_29, S2_30, Pl_31, Wr_32, Fi_33), rfl, ⟨(Or.inl rfl), by omega, by omega⟩,  by rw [ht]; exact hP9, va_K.moved hW.alike hK9, hD9⟩, hS.F ht⟩) hS.2.2 dX4_readSum_72
            · refine lv_aload_n hx hb dX4_readSum_59 rfl (lv_at hl 2 rfl) ?_
              refine lv_sipush (v := 20000) hx hb dX4_readSum_60 kc_s_20000 ?_
              refine lv_iload_n hx hb dX4_readSum_63 rfl (lv_at hl 0 rfl) ?_
              refine lv_iadd hx hb dX4_readSum_64 ?_
              refine lv_topi (fun x_37 ex_37 => ?_)
              have bd_38 : Wr_32 ≤ 120 := by omega
              have bd_39 : Fi_33 ≤ 124 := by omega
              have hCu := kCut (wc := [(jR, .inr (4, [.ref jT, .ref r1, .ref r2, .int (nI (Wr_32)), .int (nI (Fi_33)), .int Pl_31, .ref q6, .ref q7])), (r1, .inl (c1, 120, .inl S1_29)), (r2, .inl (c2, 124, .inl S2_30)), (jT, .inr (8, [.ref t0, .int (nI (kt))])), (t0, .inl (cC, 120, .inl gT))]) hP hD hS hA [0, 1, 2, 3, 4] rfl kc_nd_311 rfl
              have hPc := hCu.1
              have hDc := hCu.2.1
              have hFc := hCu.2.2
              have hKc := hK.sb (tys2 := [(c1, .int), (c2, .int), (cC, .char)]) [0, 1, 2] rfl
              refine va_calli (va_runV (As := [.int x_37]) (rest := []) ⟨hx, hb, hml, hown, hts⟩ (s_write4 l dC dI jT t0 cC gT kt hkt hgT jR r1 r2 c1 c2 S1_29 S2_30 Wr_32 Fi_33 Pl_31 q6 q7 bd_38 bd_39 x_37 H_34.size) (cwV 1 hts (kG (List.forall_mem_cons.mpr ⟨(List.mem_cons_of_mem _ (List.mem_append_left _ (List.mem_of_getElem? (i := 14) rfl))), (List.forall_mem_cons.mpr ⟨(List.mem_cons_of_mem _ (List.mem_append_left _ (List.mem_of_getElem? (i := 13) rfl))), (List.forall_mem_cons.mpr ⟨(List.mem_cons_of_mem _ (List.mem_append_left _ (List.mem_of_getElem? (i := 12) rfl))), (List.forall_mem_cons.mpr ⟨(List.mem_cons_of_mem _ (List.mem_append_left _ (List.mem_of_getElem? (i := 0) rfl))), (fun _ h => absurd h List.not_mem_nil)⟩)⟩)⟩)⟩) (kGV _ _ _ _) (fun _ h => List.mem_cons_of_mem _ (List.mem_append_right _ (List.mem_append_right _ (List.mem_append_right _ (List.mem_append_right _ (List.mem_append_right _ (List.mem_append_left _ h))))))) gw_s_write4) rfl rfl rfl ⟨rfl, hd_X4_write⟩ ⟨(Nat.le_of_ble_eq_true rfl), (Nat.le_of_ble_eq_true rfl)⟩) (kW_V kT_blind kT_give (va_recv hKc hPc (ci := 4) (q0 := 0) rfl rfl) hPc hKc hDc) rfl rfl hl.1 rfl (lv_room (Nat.le_of_ble_eq_true rfl)) dX4_readSum_65 ⟨(Nat.le_of_ble_eq_true rfl), (Nat.le_of_ble_eq_true rfl)⟩) hS (fun q _ h => hFc q h) hFc (fun r_40 => kU5 (fun S1_41 S2_42 Pl_43 Wr_44 Fi_45 t H_46 locs ht hvm hw hB hz1 hk1 hS => ?_))
              try dsimp only at hw
              have hPD : kPD dC dI A [(jR, .inr (4, [.ref jT, .ref r1, .ref r2, .int (nI (Wr_44)), .int (nI (Fi_45)), .int Pl_43, .ref q6, .ref q7])), (r1, .inl (c1, 120, .inl S1_41)), (r2, .inl (c2, 124, .inl S2_42)), (jT, .inr (8, [.ref t0, .int (nI (kt))])), (t0, .inl (cC, 120, .inl gT))] H_46 := kJoinX hP hD [0, 1, 2, 3, 4] rfl hk1 hFc hB.1 ht hB.2.2 rfl [some 0, some 1, some 2, some 3, some 4] rfl rfl
              have hP := hPD.1
              have hD := hPD.2
              have hw_47 := hw
              refine lv_if_ne (tgt := 73) hx hb dX4_readSum_68 kc_t_68_5 (fun c_48 => ?_) (fun c_48 => ?_)
              · refine lv_iinc (v := nI (i + 1)) hx hb dX4_readSum_73 hl (k := 1) rfl (kInc _ 1) kc_l_2_4 (kTo [(2, .int (nI (i + 1))), (3, .int r_23), (0, .ref jR), (1, .int 1)]) (fun ls hl => ?_)
                refine lv_goto (tgt := 12) hx hb dX4_readSum_76 kc_t_76_m64 ?_
                exact ih_k_10 (i + 1) S1_41 S2_42 Pl_43 Wr_44 Fi_45 (by omega) (by omega) (by omega) _ _ hP hD hS ls (lv_sub hl [0, 2, 3] rfl) (by omega)
              · refine lv_iconst (v := 0) hx hb dX4_readSum_71 kc_i_0 ?_
                have hP9 := hP
                have hD9 := hD
                have hK9 := hK
                rw [hQ]
                exact W.zret (v := 0) hx hb hr rfl (fun t ht hW => ⟨⟨0, (S1_41, S2_42, Pl_43, Wr_44, Fi_45), rfl, ⟨(Or.inl rfl), by omega, by omega⟩,  by rw [ht]; exact hP9, va_K.moved hW.alike hK9, hD9⟩, hS.F ht⟩) hS.2.2 dX4_readSum_72
          · refine lv_aload_n hx hb dX4_readSum_27 rfl (lv_at hl 1 rfl) ?_
            have hCu := kCut (wc := [(jR, .inr (4, [.ref jT, .ref r1, .ref r2, .int (nI (xwr)), .int (nI (xfi)), .int Pl_19, .ref q6, .ref q7])), (r1, .inl (c1, 120, .inl xs1)), (r2, .inl (c2, 124, .inl xs2)), (jT, .inr (8, [.ref t0, .int (nI (kt))])), (t0, .inl (cC, 120, .inl gT))]) hP hD hS hA [0, 1, 2, 3, 4] rfl kc_nd_311 rfl
            have hPc := hCu.1
            have hDc := hCu.2.1
            have hFc := hCu.2.2
            have hKc := hK.sb (tys2 := [(c1, .int), (c2, .int), (cC, .char)]) [0, 1, 2] rfl
            refine va_calli (va_runV (As := []) (rest := []) ⟨hx, hb, hml, hown, hts⟩ (s_look4 l dC dI jT t0 cC gT kt hkt hgT jR r1 r2 c1 c2 xs1 xs2 xwr xfi Pl_19 q6 q7 bd_16 bd_17 H_20.size) (cwV 0 hts (kG (List.forall_mem_cons.mpr ⟨(List.mem_cons_of_mem _ (List.mem_append_left _ (List.mem_of_getElem? (i := 3) rfl))), (List.forall_mem_cons.mpr ⟨(List.mem_cons_of_mem _ (List.mem_append_left _ (List.mem_of_getElem? (i := 2) rfl))), (List.forall_mem_cons.mpr ⟨(List.mem_cons_of_mem _ (List.mem_append_left _ (List.mem_of_getElem? (i := 1) rfl))), (List.forall_mem_cons.mpr ⟨(List.mem_cons_of_mem _ (List.mem_append_left _ (List.mem_of_getElem? (i := 0) rfl))), (fun _ h => absurd h List.not_mem_nil)⟩)⟩)⟩)⟩) (kGV _ _ _ _) (fun _ h => List.mem_cons_of_mem _ (List.mem_append_right _ (List.mem_append_left _ h))) gw_s_look4) rfl rfl rfl ⟨rfl, hd_X4_look⟩ ⟨(Nat.le_of_ble_eq_true rfl), (Nat.le_of_ble_eq_true rfl)⟩) (kW_V kT_blind kT_give (va_recv hKc hPc (ci := 4) (q0 := 0) rfl rfl) hPc hKc hDc) rfl rfl hl.1 rfl (lv_room (Nat.le_of_ble_eq_true rfl)) dX4_readSum_28 ⟨(Nat.le_of_ble_eq_true rfl), (Nat.le_of_ble_eq_true rfl)⟩) hS (fun q _ h => hFc q h) hFc (fun r_49 Pl_50 t H_51 locs ht hvm hw hB hz1 hk1 hS => ?_)
            try dsimp only at hw
            have hPD : kPD dC dI A [(jR, .inr (4, [.ref jT, .ref r1, .ref r2, .int (nI (xwr)), .int (nI (xfi)), .int Pl_50, .ref q6, .ref q7])), (r1, .inl (c1, 120, .inl xs1)), (r2, .inl (c2, 124, .inl xs2)), (jT, .inr (8, [.ref t0, .int (nI (kt))])), (t0, .inl (cC, 120, .inl gT))] H_51 := kJoinX hP hD [0, 1, 2, 3, 4] rfl hk1 hFc hB.1 ht hB.2.2 rfl [some 0, some 1, some 2, some 3, some 4] rfl rfl
            have hP := hPD.1
            have hD := hPD.2
            have hw_52 := hw
            refine lv_bipush (v := 45) hx hb dX4_readSum_31 kc_b_45 ?_
            refine lv_icmp_ne (tgt := 79) hx hb dX4_readSum_33 kc_t_33_46 (fun c_53 => ?_) (fun c_53 => ?_)
            · refine lv_iconst (v := 1) hx hb dX4_readSum_79 kc_i_1 ?_
              have hP9 := hP
              have hD9 := hD
              have hK9 := hK
              rw [hQ]
              exact W.zret (v := 1) hx hb hr rfl (fun t ht hW => ⟨⟨1, (xs1, xs2, Pl_50, xwr, xfi), rfl, ⟨(Or.inr rfl), by omega, by omega⟩,  by rw [ht]; exact hP9, va_K.moved hW.alike hK9, hD9⟩, hS.F ht⟩) hS.2.2 dX4_readSum_80
            · refine lv_aload_n hx hb dX4_readSum_36 rfl (lv_at hl 1 rfl) ?_
              have hCu := kCut (wc := [(jR, .inr (4, [.ref jT, .ref r1, .ref r2, .int (nI (xwr)), .int (nI (xfi)), .int Pl_50, .ref q6, .ref q7])), (r1, .inl (c1, 120, .inl xs1)), (r2, .inl (c2, 124, .inl xs2)), (jT, .inr (8, [.ref t0, .int (nI (kt))])), (t0, .inl (cC, 120, .inl gT))]) hP hD hS hA [0, 1, 2, 3, 4] rfl kc_nd_311 rfl
              have hPc := hCu.1
              have hDc := hCu.2.1
              have hFc := hCu.2.2
              have hKc := hK.sb (tys2 := [(c1, .int), (c2, .int), (cC, .char)]) [0, 1, 2] rfl
              refine va_calli (va_runV (As := []) (rest := []) ⟨hx, hb, hml, hown, hts⟩ (s_look4 l dC dI jT t0 cC gT kt hkt hgT jR r1 r2 c1 c2 xs1 xs2 xwr xfi Pl_50 q6 q7 bd_16 bd_17 H_51.size) (cwV 0 hts (kG (List.forall_mem_cons.mpr ⟨(List.mem_cons_of_mem _ (List.mem_append_left _ (List.mem_of_getElem? (i := 3) rfl))), (List.forall_mem_cons.mpr ⟨(List.mem_cons_of_mem _ (List.mem_append_left _ (List.mem_of_getElem? (i := 2) rfl))), (List.forall_mem_cons.mpr ⟨(List.mem_cons_of_mem _ (List.mem_append_left _ (List.mem_of_getElem? (i := 1) rfl))), (List.forall_mem_cons.mpr ⟨(List.mem_cons_of_mem _ (List.mem_append_left _ (List.mem_of_getElem? (i := 0) rfl))), (fun _ h => absurd h List.not_mem_nil)⟩)⟩)⟩)⟩) (kGV _ _ _ _) (fun _ h => List.mem_cons_of_mem _ (List.mem_append_right _ (List.mem_append_left _ h))) gw_s_look4) rfl rfl rfl ⟨rfl, hd_X4_look⟩ ⟨(Nat.le_of_ble_eq_true rfl), (Nat.le_of_ble_eq_true rfl)⟩) (kW_V kT_blind kT_give (va_recv hKc hPc (ci := 4) (q0 := 0) rfl rfl) hPc hKc hDc) rfl rfl hl.1 rfl (lv_room (Nat.le_of_ble_eq_true rfl)) dX4_readSum_37 ⟨(Nat.le_of_ble_eq_true rfl), (Nat.le_of_ble_eq_true rfl)⟩) hS (fun q _ h => hFc q h) hFc (fun r_54 Pl_55 t H_56 locs ht hvm hw hB hz1 hk1 hS => ?_)
              try dsimp only at hw
              have hPD : kPD dC dI A [(jR, .inr (4, [.ref jT, .ref r1, .ref r2, .int (nI (xwr)), .int (nI (xfi)), .int Pl_55, .ref q6, .ref q7])), (r1, .inl (c1, 120, .inl xs1)), (r2, .inl (c2, 124, .inl xs2)), (jT, .inr (8, [.ref t0, .int (nI (kt))])), (t0, .inl (cC, 120, .inl gT))] H_56 := kJoinX hP hD [0, 1, 2, 3, 4] rfl hk1 hFc hB.1 ht hB.2.2 rfl [some 0, some 1, some 2, some 3, some 4] rfl rfl
              have hP := hPD.1
              have hD := hPD.2
              have hw_57 := hw
              refine lv_istore_n hx hb dX4_readSum_40 rfl hl kc_l_3_4 (kTo [(3, .int r_54), (2, .int (nI (i))), (0, .ref jR), (1, .int 1)]) (fun ls hl => ?_)
              refine lv_aload_n hx hb dX4_readSum_41 rfl (lv_at hl 2 rfl) ?_
              refine lv_dup hx hb dX4_readSum_42 rfl ?_
              refine va_get (D := (dC, dI)) (ci := 4) (v := .int Pl_55) (C := RX4) (T := TX4) (N := 8) hx hb hts (fun _ h => List.mem_cons_of_mem _ (List.mem_append_right _ (List.mem_append_right _ (List.mem_append_right _ (List.mem_append_left _ h))))) hown hK hP 0 rfl rfl 5 kc_l_5_8 (hts (.fieldLink RX4 25 "NotEnded$Reader" "place" "I") (List.mem_cons_of_mem _ (List.mem_append_left _ (List.mem_of_getElem? (i := 11) rfl)))) (fun _ h9 => h9) rfl dX4_readSum_43 ?_
              refine lv_iconst (v := 1) hx hb dX4_readSum_46 kc_i_1 ?_
              refine lv_iadd hx hb dX4_readSum_47 ?_
              refine lv_topi (fun x_58 ex_58 => ?_)
              refine va_put (D := (dC, dI)) (ci := 4) (v := .int x_58) (ty := tyX4 5) (C := RX4) (T := TX4) (N := 8) hx hb hts (fun _ h => List.mem_cons_of_mem _ (List.mem_append_right _ (List.mem_append_right _ (List.mem_append_right _ (List.mem_append_left _ h))))) tyX4 tyX4_ok nmX4 hown hK hP hD hS 0 rfl rfl 5 kc_l_5_8 (hts (.fieldLink RX4 25 "NotEnded$Reader" "place" "I") (List.mem_cons_of_mem _ (List.mem_append_left _ (List.mem_of_getElem? (i := 11) rfl)))) (fun _ h9 => h9) rfl (tyX4_ok 5 kc_l_5_8) rfl rfl (Nat.le_of_ble_eq_true rfl) dX4_readSum_48 (fun H locs hP hD hS => ?_)
              have hPD : kPD dC dI A [(jR, .inr (4, [.ref jT, .ref r1, .ref r2, .int (nI (xwr)), .int (nI (xfi)), .int x_58, .ref q6, .ref q7])), (r1, .inl (c1, 120, .inl xs1)), (r2, .inl (c2, 124, .inl xs2)), (jT, .inr (8, [.ref t0, .int (nI (kt))])), (t0, .inl (cC, 120, .inl gT))] H := ⟨hP, hD⟩
              have hP := hPD.1
              have hD := hPD.2
              refine lv_aload_n hx hb dX4_readSum_51 rfl (lv_at hl 2 rfl) ?_
              refine lv_iload_n hx hb dX4_readSum_52 rfl (lv_at hl 3 rfl) ?_
              have hCu := kCut (wc := [(jR, .inr (4, [.ref jT, .ref r1, .ref r2, .int (nI (xwr)), .int (nI (xfi)), .int x_58, .ref q6, .ref q7])), (r1, .inl (c1, 120, .inl xs1)), (r2, .inl (c2, 124, .inl xs2)), (jT, .inr (8, [.ref t0, .int (nI (kt))])), (t0, .inl (cC, 120, .inl gT))]) hP hD hS hA [0, 1, 2, 3, 4] rfl kc_nd_311 rfl
              have hPc := hCu.1
              have hDc := hCu.2.1
              have hFc := hCu.2.2
              have hKc := hK.sb (tys2 := [(c1, .int), (c2, .int), (cC, .char)]) [0, 1, 2] rfl
              refine va_calli (va_runV (As := [.int 1]) (rest := []) ⟨hx, hb, hml, hown, hts⟩ (s_term4_1 l dC dI jT t0 cC gT kt hkt hgT jR r1 r2 c1 c2 xs1 xs2 xwr xfi x_58 q6 q7 bd_16 bd_17 b6 n6 g6 hn6 b7 n7 g7 hn7 H.size) (cwV 1 hts (kG (List.forall_mem_cons.mpr ⟨(List.mem_cons_of_mem _ (List.mem_append_left _ (List.mem_of_getElem? (i := 28) rfl))), (List.forall_mem_cons.mpr ⟨(List.mem_cons_of_mem _ (List.mem_append_left _ (List.mem_of_getElem? (i := 27) rfl))), (List.forall_mem_cons.mpr ⟨(List.mem_cons_of_mem _ (List.mem_append_left _ (List.mem_of_getElem? (i := 26) rfl))), (List.forall_mem_cons.mpr ⟨(List.mem_cons_of_mem _ (List.mem_append_left _ (List.mem_of_getElem? (i := 0) rfl))), (fun _ h => absurd h List.not_mem_nil)⟩)⟩)⟩)⟩) (kGV _ _ _ _) (kFam (List.mem_cons_of_mem _ (List.mem_append_left _ (List.mem_of_getElem? (i := 25) rfl)))) gw_s_term4_1) rfl rfl rfl ⟨rfl, hd_X4_readTerm⟩ ⟨(Nat.le_of_ble_eq_true rfl), (Nat.le_of_ble_eq_true rfl)⟩) (kW_V kS2_blind (kS2_give hX hS hFc) (va_recv hKc hPc (ci := 4) (q0 := 0) rfl rfl) hPc hKc hDc) rfl rfl hl.1 rfl (lv_room (Nat.le_of_ble_eq_true rfl)) dX4_readSum_53 ⟨(Nat.le_of_ble_eq_true rfl), (Nat.le_of_ble_eq_true rfl)⟩) hS (fun q _ h => hFc q h) hFc (fun r_59 => kU5 (fun S1_60 S2_61 Pl_62 Wr_63 Fi_64 t H_65 locs ht hvm hw hB hz1 hk1 hS => ?_))
              try dsimp only at hw
              have hPD : kPD dC dI A [(jR, .inr (4, [.ref jT, .ref r1, .ref r2, .int (nI (Wr_63)), .int (nI (Fi_64)), .int Pl_62, .ref q6, .ref q7])), (r1, .inl (c1, 120, .inl S1_60)), (r2, .inl (c2, 124, .inl S2_61)), (jT, .inr (8, [.ref t0, .int (nI (kt))])), (t0, .inl (cC, 120, .inl gT))] H_65 := kJoinX hP hD [0, 1, 2, 3, 4] rfl hk1 hFc hB.1 ht hB.2.2 rfl [some 0, some 1, some 2, some 3, some 4] rfl rfl
              have hP := hPD.1
              have hD := hPD.2
              have hw_66 := hw
              refine lv_if_eq (tgt := 71) hx hb dX4_readSum_56 kc_t_56_15 (fun c_67 => ?_) (fun c_67 => ?_)
              · refine lv_iconst (v := 0) hx hb dX4_readSum_71 kc_i_0 ?_
                have hP9 := hP
                have hD9 := hD
                have hK9 := hK
                rw [hQ]
                exact W.zret (v := 0) hx hb hr rfl (fun t ht hW => ⟨⟨0, (S1_60, S2_61, Pl_62, Wr_63, Fi_64), rfl, ⟨(Or.inl rfl), by omega, by omega⟩,  by rw [ht]; exact hP9, va_K.moved hW.alike hK9, hD9⟩, hS.F ht⟩) hS.2.2 dX4_readSum_72
              · refine lv_aload_n hx hb dX4_readSum_59 rfl (lv_at hl 2 rfl) ?_
                refine lv_sipush (v := 20000) hx hb dX4_readSum_60 kc_s_20000 ?_
                refine lv_iload_n hx hb dX4_readSum_63 rfl (lv_at hl 0 rfl) ?_
                refine lv_iadd hx hb dX4_readSum_64 ?_
                refine lv_topi (fun x_68 ex_68 => ?_)
                have bd_69 : Wr_63 ≤ 120 := by omega
                have bd_70 : Fi_64 ≤ 124 := by omega
                have hCu := kCut (wc := [(jR, .inr (4, [.ref jT, .ref r1, .ref r2, .int (nI (Wr_63)), .int (nI (Fi_64)), .int Pl_62, .ref q6, .ref q7])), (r1, .inl (c1, 120, .inl S1_60)), (r2, .inl (c2, 124, .inl S2_61)), (jT, .inr (8, [.ref t0, .int (nI (kt))])), (t0, .inl (cC, 120, .inl gT))]) hP hD hS hA [0, 1, 2, 3, 4] rfl kc_nd_311 rfl
                have hPc := hCu.1
                have hDc := hCu.2.1
                have hFc := hCu.2.2
                have hKc := hK.sb (tys2 := [(c1, .int), (c2, .int), (cC, .char)]) [0, 1, 2] rfl
                refine va_calli (va_runV (As := [.int x_68]) (rest := []) ⟨hx, hb, hml, hown, hts⟩ (s_write4 l dC dI jT t0 cC gT kt hkt hgT jR r1 r2 c1 c2 S1_60 S2_61 Wr_63 Fi_64 Pl_62 q6 q7 bd_69 bd_70 x_68 H_65.size) (cwV 1 hts (kG (List.forall_mem_cons.mpr ⟨(List.mem_cons_of_mem _ (List.mem_append_left _ (List.mem_of_getElem? (i := 14) rfl))), (List.forall_mem_cons.mpr ⟨(List.mem_cons_of_mem _ (List.mem_append_left _ (List.mem_of_getElem? (i := 13) rfl))), (List.forall_mem_cons.mpr ⟨(List.mem_cons_of_mem _ (List.mem_append_left _ (List.mem_of_getElem? (i := 12) rfl))), (List.forall_mem_cons.mpr ⟨(List.mem_cons_of_mem _ (List.mem_append_left _ (List.mem_of_getElem? (i := 0) rfl))), (fun _ h => absurd h List.not_mem_nil)⟩)⟩)⟩)⟩) (kGV _ _ _ _) (fun _ h => List.mem_cons_of_mem _ (List.mem_append_right _ (List.mem_append_right _ (List.mem_append_right _ (List.mem_append_right _ (List.mem_append_right _ (List.mem_append_left _ h))))))) gw_s_write4) rfl rfl rfl ⟨rfl, hd_X4_write⟩ ⟨(Nat.le_of_ble_eq_true rfl), (Nat.le_of_ble_eq_true rfl)⟩) (kW_V kT_blind kT_give (va_recv hKc hPc (ci := 4) (q0 := 0) rfl rfl) hPc hKc hDc) rfl rfl hl.1 rfl (lv_room (Nat.le_of_ble_eq_true rfl)) dX4_readSum_65 ⟨(Nat.le_of_ble_eq_true rfl), (Nat.le_of_ble_eq_true rfl)⟩) hS (fun q _ h => hFc q h) hFc (fun r_71 => kU5 (fun S1_72 S2_73 Pl_74 Wr_75 Fi_76 t H_77 locs ht hvm hw hB hz1 hk1 hS => ?_))
                try dsimp only at hw
                have hPD : kPD dC dI A [(jR, .inr (4, [.ref jT, .ref r1, .ref r2, .int (nI (Wr_75)), .int (nI (Fi_76)), .int Pl_74, .ref q6, .ref q7])), (r1, .inl (c1, 120, .inl S1_72)), (r2, .inl (c2, 124, .inl S2_73)), (jT, .inr (8, [.ref t0, .int (nI (kt))])), (t0, .inl (cC, 120, .inl gT))] H_77 := kJoinX hP hD [0, 1, 2, 3, 4] rfl hk1 hFc hB.1 ht hB.2.2 rfl [some 0, some 1, some 2, some 3, some 4] rfl rfl
                have hP := hPD.1
                have hD := hPD.2
                have hw_78 := hw
                refine lv_if_ne (tgt := 73) hx hb dX4_readSum_68 kc_t_68_5 (fun c_79 => ?_) (fun c_79 => ?_)
                · refine lv_iinc (v := nI (i + 1)) hx hb dX4_readSum_73 hl (k := 1) rfl (kInc _ 1) kc_l_2_4 (kTo [(2, .int (nI (i + 1))), (3, .int r_54), (0, .ref jR), (1, .int 1)]) (fun ls hl => ?_)
                  refine lv_goto (tgt := 12) hx hb dX4_readSum_76 kc_t_76_m64 ?_
                  exact ih_k_10 (i + 1) S1_72 S2_73 Pl_74 Wr_75 Fi_76 (by omega) (by omega) (by omega) _ _ hP hD hS ls (lv_sub hl [0, 2, 3] rfl) (by omega)
                · refine lv_iconst (v := 0) hx hb dX4_readSum_71 kc_i_0 ?_
                  have hP9 := hP
                  have hD9 := hD
                  have hK9 := hK
                  rw [hQ]
                  exact W.zret (v := 0) hx hb hr rfl (fun t ht hW => ⟨⟨0, (S1_72, S2_73, Pl_74, Wr_75, Fi_76), rfl, ⟨(Or.inl rfl), by omega, by omega⟩,  by rw [ht]; exact hP9, va_K.moved hW.alike hK9, hD9⟩, hS.F ht⟩) hS.2.2 dX4_readSum_72
    exact lp_k_10 (120 - 0 + 1) 0 S1_2 S2_3 Pl_4 Wr_5 Fi_6 (by omega) (by omega) (by omega) _ _ hP hD hS ls (lv_sub hl [0, 1, 2] rfl) (by omega)
  · refine lv_iconst (v := 0) hx hb dX4_readSum_8 kc_i_0 ?_
    have hP9 := hP
    have hD9 := hD
    have hK9 := hK
    rw [hQ]
    exact W.zret (v := 0) hx hb hr rfl (fun t ht hW => ⟨⟨0, (S1_2, S2_3, Pl_4, Wr_5, Fi_6), rfl, ⟨(Or.inl rfl), by omega, by omega⟩,  by rw [ht]; exact hP9, va_K.moved hW.alike hK9, hD9⟩, hS.F ht⟩) hS.2.2 dX4_readSum_9

def w_s_unit4_1_0 : List Cond := .code yX4_readUnit cX4_readUnit 4 (some .boolean) :: wf_rd
theorem gw_s_unit4_1_0 : (w_s_unit4_1_0).all goodWord = true := kFamG rfl gf_rd
set_option maxHeartbeats 4000000 in
set_option maxRecDepth 100000 in
theorem s_unit4_1_0 (l : Launch) (dC : Nat → ClassId) (dI : Nat → Nat → Nat) (jT : Nat) (t0 : Nat) (cC : ClassId) (gT : Nat → Int32) (kt : Nat) (hkt : kt ≤ 120) (hgT : ∀ j : Nat, narrow .char (.int (gT j)) = .int (gT j)) (jR : Nat) (r1 : Nat) (r2 : Nat) (c1 : ClassId) (c2 : ClassId) (s1 : Nat → Int32) (s2 : Nat → Int32) (wr : Nat) (fi : Nat) (pl : Int32) (q6 : Nat) (q7 : Nat) (hwr : wr ≤ 120) (hfi : fi ≤ 124) (b6 : Nat) (n6 : Nat) (g6 : Nat → Int32) (hn6 : n6 ≤ 8) (b7 : Nat) (n7 : Nat) (g7 : Nat → Int32) (hn7 : n7 ≤ 8) (sz : Nat) : Met l yX4_readUnit w_s_unit4_1_0 ({ frames := 39, cells := 0, slots := 0, locals := 2340 }) (kW dC dI [.ref jR, .int 1, .int 0] [(jR, .inr (4, [.ref jT, .ref r1, .ref r2, .int (nI (wr)), .int (nI (fi)), .int pl, .ref q6, .ref q7])), (r1, .inl (c1, 120, .inl s1)), (r2, .inl (c2, 124, .inl s2)), (jT, .inr (8, [.ref t0, .int (nI (kt))])), (t0, .inl (cC, 120, .inl gT))] [(c1, .int), (c2, .int), (cC, .char)] (kS2 q6 b6 n6 g6 q7 b7 n7 g7 (va_A [(jR, .inr (4, [.ref jT, .ref r1, .ref r2, .int (nI (wr)), .int (nI (fi)), .int pl, .ref q6, .ref q7])), (r1, .inl (c1, 120, .inl s1)), (r2, .inl (c2, 124, .inl s2)), (jT, .inr (8, [.ref t0, .int (nI (kt))])), (t0, .inl (cC, 120, .inl gT))] sz)) sz) (va_Qi (fun (r : Int32) (u : (Nat → Int32) × (Nat → Int32) × Int32 × Nat × Nat) => match u with | (S1, S2, Pl, Wr, Fi) => ((r = 0 ∨ r = 1) ∧ Wr ≤ 120 ∧ Fi ≤ 124)) (fun (u : (Nat → Int32) × (Nat → Int32) × Int32 × Nat × Nat) => match u with | (S1, S2, Pl, Wr, Fi) => fun t : State => kB dC dI [(jR, .inr (4, [.ref jT, .ref r1, .ref r2, .int (nI (Wr)), .int (nI (Fi)), .int Pl, .ref q6, .ref q7])), (r1, .inl (c1, 120, .inl S1)), (r2, .inl (c2, 124, .inl S2)), (jT, .inr (8, [.ref t0, .int (nI (kt))])), (t0, .inl (cC, 120, .inl gT))] [(c1, .int), (c2, .int), (cC, .char)] (va_A [(jR, .inr (4, [.ref jT, .ref r1, .ref r2, .int (nI (wr)), .int (nI (fi)), .int pl, .ref q6, .ref q7])), (r1, .inl (c1, 120, .inl s1)), (r2, .inl (c2, 124, .inl s2)), (jT, .inr (8, [.ref t0, .int (nI (kt))])), (t0, .inl (cC, 120, .inl gT))] sz) t) (va_A [(jR, .inr (4, [.ref jT, .ref r1, .ref r2, .int (nI (wr)), .int (nI (fi)), .int pl, .ref q6, .ref q7])), (r1, .inl (c1, 120, .inl s1)), (r2, .inl (c2, 124, .inl s2)), (jT, .inr (8, [.ref t0, .int (nI (kt))])), (t0, .inl (cC, 120, .inl gT))] sz)) 0 0 (va_A [(jR, .inr (4, [.ref jT, .ref r1, .ref r2, .int (nI (wr)), .int (nI (fi)), .int pl, .ref q6, .ref q7])), (r1, .inl (c1, 120, .inl s1)), (r2, .inl (c2, 124, .inl s2)), (jT, .inr (8, [.ref t0, .int (nI (kt))])), (t0, .inl (cC, 120, .inl gT))] sz) := by
  refine Met.ofW (cc := cX4_readUnit) (maxL := 4) (ret := (some .boolean)) (by decide) rfl ?_
  intro p e s m args below meth c s₁ B hml hv
  obtain ⟨rfl, hsz, hP, hK, hD0, hX⟩ := hv
  have hx := B.exec
  have hb := B.bytes
  have hr := B.returns
  have hts := atoms_spec (ws := w_s_unit4_1_0) B.pre
  have hown : s.vm.findClass RX4 = some m.cls := findClass_of_methodNamed B.named
  have hlocks := B.notSynchronized
  subst hsz
  have hD := hD0.self (sz := s.heap.size)
  generalize hAe : va_A [(jR, .inr (4, [.ref jT, .ref r1, .ref r2, .int (nI (wr)), .int (nI (fi)), .int pl, .ref q6, .ref q7])), (r1, .inl (c1, 120, .inl s1)), (r2, .inl (c2, 124, .inl s2)), (jT, .inr (8, [.ref t0, .int (nI (kt))])), (t0, .inl (cC, 120, .inl gT))] s.heap.size = A at hD hX ⊢
  have hA : ∀ q : Nat, s.heap.size ≤ q → A q := fun q h => by rw [← hAe]; exact Or.inr h
  have hS : va_S A s.heap s.heap [] := va_S.rf
  have hP : va_P (dC, dI) vwCl [(jR, .inr (4, [.ref jT, .ref r1, .ref r2, .int (nI (wr)), .int (nI (fi)), .int pl, .ref q6, .ref q7])), (r1, .inl (c1, 120, .inl s1)), (r2, .inl (c2, 124, .inl s2)), (jT, .inr (8, [.ref t0, .int (nI (kt))])), (t0, .inl (cC, 120, .inl gT))] s.heap := hP
  have hl := lv_entry ([.ref jR, .int 1, .int 0]) (n := 4) (Nat.le_of_ble_eq_true rfl)
  rw [lg_entry_eq]
  generalize (lg_sl ([.ref jR, .int 1, .int 0]) ++ List.replicate (4 - (lg_sl ([.ref jR, .int 1, .int 0])).length) Slot.unset).toArray = ls at hl ⊢
  have hl : lv_has ls 4 [(0, .ref jR), (1, .int 1), (2, .int 0)] := hl
  refine kQ (fun Q hQ => ?_)
  refine lv_iload_n hx hb dX4_readUnit_0 rfl (lv_at hl 2 rfl) ?_
  refine lv_if_ne (tgt := 100) hx hb dX4_readUnit_1 kc_t_1_99 (fun c_1 => absurd (by decide) c_1) (fun c_1 => ?_)
  refine lv_aload_n hx hb dX4_readUnit_4 rfl (lv_at hl 0 rfl) ?_
  have hCu := kCut (wc := [(jR, .inr (4, [.ref jT, .ref r1, .ref r2, .int (nI (wr)), .int (nI (fi)), .int pl, .ref q6, .ref q7])), (r1, .inl (c1, 120, .inl s1)), (r2, .inl (c2, 124, .inl s2)), (jT, .inr (8, [.ref t0, .int (nI (kt))])), (t0, .inl (cC, 120, .inl gT))]) hP hD hS hA [0, 1, 2, 3, 4] rfl kc_nd_311 rfl
  have hPc := hCu.1
  have hDc := hCu.2.1
  have hFc := hCu.2.2
  have hKc := hK.sb (tys2 := [(c1, .int), (c2, .int), (cC, .char)]) [0, 1, 2] rfl
  refine va_calli (va_runV (As := []) (rest := []) ⟨hx, hb, hml, hown, hts⟩ (s_look4 l dC dI jT t0 cC gT kt hkt hgT jR r1 r2 c1 c2 s1 s2 wr fi pl q6 q7 hwr hfi s.heap.size) (cwV 0 hts (kG (List.forall_mem_cons.mpr ⟨(List.mem_cons_of_mem _ (List.mem_append_left _ (List.mem_of_getElem? (i := 3) rfl))), (List.forall_mem_cons.mpr ⟨(List.mem_cons_of_mem _ (List.mem_append_left _ (List.mem_of_getElem? (i := 2) rfl))), (List.forall_mem_cons.mpr ⟨(List.mem_cons_of_mem _ (List.mem_append_left _ (List.mem_of_getElem? (i := 1) rfl))), (List.forall_mem_cons.mpr ⟨(List.mem_cons_of_mem _ (List.mem_append_left _ (List.mem_of_getElem? (i := 0) rfl))), (fun _ h => absurd h List.not_mem_nil)⟩)⟩)⟩)⟩) (kGV _ _ _ _) (fun _ h => List.mem_cons_of_mem _ (List.mem_append_right _ (List.mem_append_left _ h))) gw_s_look4) rfl rfl rfl ⟨rfl, hd_X4_look⟩ ⟨(Nat.le_of_ble_eq_true rfl), (Nat.le_of_ble_eq_true rfl)⟩) (kW_V kT_blind kT_give (va_recv hKc hPc (ci := 4) (q0 := 0) rfl rfl) hPc hKc hDc) rfl rfl hl.1 rfl (lv_room (Nat.le_of_ble_eq_true rfl)) dX4_readUnit_5 ⟨(Nat.le_of_ble_eq_true rfl), (Nat.le_of_ble_eq_true rfl)⟩) hS (fun q _ h => hFc q h) hFc (fun r_2 Pl_3 t H_4 locs ht hvm hw hB hz1 hk1 hS => ?_)
  try dsimp only at hw
  have hPD : kPD dC dI A [(jR, .inr (4, [.ref jT, .ref r1, .ref r2, .int (nI (wr)), .int (nI (fi)), .int Pl_3, .ref q6, .ref q7])), (r1, .inl (c1, 120, .inl s1)), (r2, .inl (c2, 124, .inl s2)), (jT, .inr (8, [.ref t0, .int (nI (kt))])), (t0, .inl (cC, 120, .inl gT))] H_4 := kJoinX hP hD [0, 1, 2, 3, 4] rfl hk1 hFc hB.1 ht hB.2.2 rfl [some 0, some 1, some 2, some 3, some 4] rfl rfl
  have hP := hPD.1
  have hD := hPD.2
  have hw_5 := hw
  refine lv_istore_n hx hb dX4_readUnit_8 rfl hl kc_l_3_4 (kTo [(3, .int r_2), (0, .ref jR), (1, .int 1), (2, .int 0)]) (fun ls hl => ?_)
  refine lv_iload_n hx hb dX4_readUnit_9 rfl (lv_at hl 0 rfl) ?_
  refine lv_bipush (v := 33) hx hb dX4_readUnit_10 kc_b_33 ?_
  refine lv_icmp_ne (tgt := 50) hx hb dX4_readUnit_12 kc_t_12_38 (fun c_6 => ?_) (fun c_6 => ?_)
  · refine lv_iload_n hx hb dX4_readUnit_50 rfl (lv_at hl 0 rfl) ?_
    refine lv_bipush (v := 40) hx hb dX4_readUnit_51 kc_b_40 ?_
    refine lv_icmp_ne (tgt := 90) hx hb dX4_readUnit_53 kc_t_53_37 (fun c_7 => ?_) (fun c_7 => ?_)
    · refine lv_aload_n hx hb dX4_readUnit_90 rfl (lv_at hl 1 rfl) ?_
      refine lv_iload_n hx hb dX4_readUnit_91 rfl (lv_at hl 2 rfl) ?_
      have hCu := kCut (wc := [(jR, .inr (4, [.ref jT, .ref r1, .ref r2, .int (nI (wr)), .int (nI (fi)), .int Pl_3, .ref q6, .ref q7])), (r1, .inl (c1, 120, .inl s1)), (r2, .inl (c2, 124, .inl s2)), (jT, .inr (8, [.ref t0, .int (nI (kt))])), (t0, .inl (cC, 120, .inl gT))]) hP hD hS hA [0, 1, 2, 3, 4] rfl kc_nd_311 rfl
      have hPc := hCu.1
      have hDc := hCu.2.1
      have hFc := hCu.2.2
      have hKc := hK.sb (tys2 := [(c1, .int), (c2, .int), (cC, .char)]) [0, 1, 2] rfl
      refine va_calli (va_runV (As := [.int 1]) (rest := []) ⟨hx, hb, hml, hown, hts⟩ (s_sum4_1 l dC dI jT t0 cC gT kt hkt hgT jR r1 r2 c1 c2 s1 s2 wr fi Pl_3 q6 q7 hwr hfi b6 n6 g6 hn6 b7 n7 g7 hn7 H_4.size) (cwV 1 hts (kG (List.forall_mem_cons.mpr ⟨(List.mem_cons_of_mem _ (List.mem_append_left _ (List.mem_of_getElem? (i := 32) rfl))), (List.forall_mem_cons.mpr ⟨(List.mem_cons_of_mem _ (List.mem_append_left _ (List.mem_of_getElem? (i := 31) rfl))), (List.forall_mem_cons.mpr ⟨(List.mem_cons_of_mem _ (List.mem_append_left _ (List.mem_of_getElem? (i := 30) rfl))), (List.forall_mem_cons.mpr ⟨(List.mem_cons_of_mem _ (List.mem_append_left _ (List.mem_of_getElem? (i := 0) rfl))), (fun _ h => absurd h List.not_mem_nil)⟩)⟩)⟩)⟩) (kGV _ _ _ _) (kFam (List.mem_cons_of_mem _ (List.mem_append_left _ (List.mem_of_getElem? (i := 29) rfl)))) gw_s_sum4_1) rfl rfl rfl ⟨rfl, hd_X4_readSum⟩ ⟨(Nat.le_of_ble_eq_true rfl), (Nat.le_of_ble_eq_true rfl)⟩) (kW_V kS2_blind (kS2_give hX hS hFc) (va_recv hKc hPc (ci := 4) (q0 := 0) rfl rfl) hPc hKc hDc) rfl rfl hl.1 rfl (lv_room (Nat.le_of_ble_eq_true rfl)) dX4_readUnit_92 ⟨(Nat.le_of_ble_eq_true rfl), (Nat.le_of_ble_eq_true rfl)⟩) hS (fun q _ h => hFc q h) hFc (fun r_8 => kU5 (fun S1_9 S2_10 Pl_11 Wr_12 Fi_13 t H_14 locs ht hvm hw hB hz1 hk1 hS => ?_))
      try dsimp only at hw
      have hPD : kPD dC dI A [(jR, .inr (4, [.ref jT, .ref r1, .ref r2, .int (nI (Wr_12)), .int (nI (Fi_13)), .int Pl_11, .ref q6, .ref q7])), (r1, .inl (c1, 120, .inl S1_9)), (r2, .inl (c2, 124, .inl S2_10)), (jT, .inr (8, [.ref t0, .int (nI (kt))])), (t0, .inl (cC, 120, .inl gT))] H_14 := kJoinX hP hD [0, 1, 2, 3, 4] rfl hk1 hFc hB.1 ht hB.2.2 rfl [some 0, some 1, some 2, some 3, some 4] rfl rfl
      have hP := hPD.1
      have hD := hPD.2
      have hw_15 := hw
      refine lv_if_ne (tgt := 100) hx hb dX4_readUnit_95 kc_t_95_5 (fun c_16 => ?_) (fun c_16 => ?_)
      · refine lv_aload_n hx hb dX4_readUnit_100 rfl (lv_at hl 1 rfl) ?_
        have bd_17 : Wr_12 ≤ 120 := by omega
        have bd_18 : Fi_13 ≤ 124 := by omega
        have hCu := kCut (wc := [(jR, .inr (4, [.ref jT, .ref r1, .ref r2, .int (nI (Wr_12)), .int (nI (Fi_13)), .int Pl_11, .ref q6, .ref q7])), (r1, .inl (c1, 120, .inl S1_9)), (r2, .inl (c2, 124, .inl S2_10)), (jT, .inr (8, [.ref t0, .int (nI (kt))])), (t0, .inl (cC, 120, .inl gT))]) hP hD hS hA [0, 1, 2, 3, 4] rfl kc_nd_311 rfl
        have hPc := hCu.1
        have hDc := hCu.2.1
        have hFc := hCu.2.2
        have hKc := hK.sb (tys2 := [(c1, .int), (c2, .int), (cC, .char)]) [0, 1, 2] rfl
        refine va_calli (va_runV (As := []) (rest := []) ⟨hx, hb, hml, hown, hts⟩ (s_look4 l dC dI jT t0 cC gT kt hkt hgT jR r1 r2 c1 c2 S1_9 S2_10 Wr_12 Fi_13 Pl_11 q6 q7 bd_17 bd_18 H_14.size) (cwV 0 hts (kG (List.forall_mem_cons.mpr ⟨(List.mem_cons_of_mem _ (List.mem_append_left _ (List.mem_of_getElem? (i := 3) rfl))), (List.forall_mem_cons.mpr ⟨(List.mem_cons_of_mem _ (List.mem_append_left _ (List.mem_of_getElem? (i := 2) rfl))), (List.forall_mem_cons.mpr ⟨(List.mem_cons_of_mem _ (List.mem_append_left _ (List.mem_of_getElem? (i := 1) rfl))), (List.forall_mem_cons.mpr ⟨(List.mem_cons_of_mem _ (List.mem_append_left _ (List.mem_of_getElem? (i := 0) rfl))), (fun _ h => absurd h List.not_mem_nil)⟩)⟩)⟩)⟩) (kGV _ _ _ _) (fun _ h => List.mem_cons_of_mem _ (List.mem_append_right _ (List.mem_append_left _ h))) gw_s_look4) rfl rfl rfl ⟨rfl, hd_X4_look⟩ ⟨(Nat.le_of_ble_eq_true rfl), (Nat.le_of_ble_eq_true rfl)⟩) (kW_V kT_blind kT_give (va_recv hKc hPc (ci := 4) (q0 := 0) rfl rfl) hPc hKc hDc) rfl rfl hl.1 rfl (lv_room (Nat.le_of_ble_eq_true rfl)) dX4_readUnit_101 ⟨(Nat.le_of_ble_eq_true rfl), (Nat.le_of_ble_eq_true rfl)⟩) hS (fun q _ h => hFc q h) hFc (fun r_19 Pl_20 t H_21 locs ht hvm hw hB hz1 hk1 hS => ?_)
        try dsimp only at hw
        have hPD : kPD dC dI A [(jR, .inr (4, [.ref jT, .ref r1, .ref r2, .int (nI (Wr_12)), .int (nI (Fi_13)), .int Pl_20, .ref q6, .ref q7])), (r1, .inl (c1, 120, .inl S1_9)), (r2, .inl (c2, 124, .inl S2_10)), (jT, .inr (8, [.ref t0, .int (nI (kt))])), (t0, .inl (cC, 120, .inl gT))] H_21 := kJoinX hP hD [0, 1, 2, 3, 4] rfl hk1 hFc hB.1 ht hB.2.2 rfl [some 0, some 1, some 2, some 3, some 4] rfl rfl
        have hP := hPD.1
        have hD := hPD.2
        have hw_22 := hw
        refine lv_istore_n hx hb dX4_readUnit_104 rfl hl kc_l_3_4 (kTo [(3, .int r_19), (0, .ref jR), (1, .int 1), (2, .int 0)]) (fun ls hl => ?_)
        refine lv_iload_n hx hb dX4_readUnit_105 rfl (lv_at hl 0 rfl) ?_
        have hPc := hP.sb (ws2 := []) [] rfl
        have hKc := hK.sb (tys2 := []) [] rfl
        refine vp_callSi (va_runS (As := [.int r_19]) (rest := []) ⟨hx, hb, hml, hown, hts⟩ (s_comp4 l dC dI r_19) (va_cwS 1 hts (kG (List.forall_mem_cons.mpr ⟨(List.mem_cons_of_mem _ (List.mem_append_left _ (List.mem_of_getElem? (i := 34) rfl))), (List.forall_mem_cons.mpr ⟨(List.mem_cons_of_mem _ (List.mem_append_left _ (List.mem_of_getElem? (i := 33) rfl))), (List.forall_mem_cons.mpr ⟨(List.mem_cons_of_mem _ (List.mem_append_left _ (List.mem_of_getElem? (i := 0) rfl))), (fun _ h => absurd h List.not_mem_nil)⟩)⟩)⟩) (kGS _ _ _) (fun _ h => List.mem_cons_of_mem _ (List.mem_append_right _ (List.mem_append_right _ (List.mem_append_right _ (List.mem_append_right _ (List.mem_append_right _ (List.mem_append_right _ (List.mem_append_right _ (List.mem_append_right _ (List.mem_append_left _ h)))))))))) gw_s_comp4) rfl rfl rfl hd_X4_isComparison ⟨(Nat.le_of_ble_eq_true rfl), (Nat.le_of_ble_eq_true rfl)⟩) (kR_S kT_blind kT_give hPc hKc) rfl rfl hl.1 rfl (lv_room (Nat.le_of_ble_eq_true rfl)) dX4_readUnit_106 ⟨(Nat.le_of_ble_eq_true rfl), (Nat.le_of_ble_eq_true rfl)⟩).run (fun r_23 hw => ?_)
        have hw_24 := hw
        refine lv_if_ne (tgt := 114) hx hb dX4_readUnit_109 kc_t_109_5 (fun c_25 => ?_) (fun c_25 => ?_)
        · refine lv_aload_n hx hb dX4_readUnit_114 rfl (lv_at hl 1 rfl) ?_
          refine lv_dup hx hb dX4_readUnit_115 rfl ?_
          refine va_get (D := (dC, dI)) (ci := 4) (v := .int Pl_20) (C := RX4) (T := TX4) (N := 8) hx hb hts (fun _ h => List.mem_cons_of_mem _ (List.mem_append_right _ (List.mem_append_right _ (List.mem_append_right _ (List.mem_append_left _ h))))) hown hK hP 0 rfl rfl 5 kc_l_5_8 (hts (.fieldLink RX4 25 "NotEnded$Reader" "place" "I") (List.mem_cons_of_mem _ (List.mem_append_left _ (List.mem_of_getElem? (i := 11) rfl)))) (fun _ h9 => h9) rfl dX4_readUnit_116 ?_
          refine lv_iconst (v := 1) hx hb dX4_readUnit_119 kc_i_1 ?_
          refine lv_iadd hx hb dX4_readUnit_120 ?_
          refine lv_topi (fun x_26 ex_26 => ?_)
          refine va_put (D := (dC, dI)) (ci := 4) (v := .int x_26) (ty := tyX4 5) (C := RX4) (T := TX4) (N := 8) hx hb hts (fun _ h => List.mem_cons_of_mem _ (List.mem_append_right _ (List.mem_append_right _ (List.mem_append_right _ (List.mem_append_left _ h))))) tyX4 tyX4_ok nmX4 hown hK hP hD hS 0 rfl rfl 5 kc_l_5_8 (hts (.fieldLink RX4 25 "NotEnded$Reader" "place" "I") (List.mem_cons_of_mem _ (List.mem_append_left _ (List.mem_of_getElem? (i := 11) rfl)))) (fun _ h9 => h9) rfl (tyX4_ok 5 kc_l_5_8) rfl rfl (Nat.le_of_ble_eq_true rfl) dX4_readUnit_121 (fun H locs hP hD hS => ?_)
          have hPD : kPD dC dI A [(jR, .inr (4, [.ref jT, .ref r1, .ref r2, .int (nI (Wr_12)), .int (nI (Fi_13)), .int x_26, .ref q6, .ref q7])), (r1, .inl (c1, 120, .inl S1_9)), (r2, .inl (c2, 124, .inl S2_10)), (jT, .inr (8, [.ref t0, .int (nI (kt))])), (t0, .inl (cC, 120, .inl gT))] H := ⟨hP, hD⟩
          have hP := hPD.1
          have hD := hPD.2
          refine lv_aload_n hx hb dX4_readUnit_124 rfl (lv_at hl 1 rfl) ?_
          refine lv_iload_n hx hb dX4_readUnit_125 rfl (lv_at hl 2 rfl) ?_
          have hCu := kCut (wc := [(jR, .inr (4, [.ref jT, .ref r1, .ref r2, .int (nI (Wr_12)), .int (nI (Fi_13)), .int x_26, .ref q6, .ref q7])), (r1, .inl (c1, 120, .inl S1_9)), (r2, .inl (c2, 124, .inl S2_10)), (jT, .inr (8, [.ref t0, .int (nI (kt))])), (t0, .inl (cC, 120, .inl gT))]) hP hD hS hA [0, 1, 2, 3, 4] rfl kc_nd_311 rfl
          have hPc := hCu.1
          have hDc := hCu.2.1
          have hFc := hCu.2.2
          have hKc := hK.sb (tys2 := [(c1, .int), (c2, .int), (cC, .char)]) [0, 1, 2] rfl
          refine va_calli (va_runV (As := [.int 1]) (rest := []) ⟨hx, hb, hml, hown, hts⟩ (s_sum4_1 l dC dI jT t0 cC gT kt hkt hgT jR r1 r2 c1 c2 S1_9 S2_10 Wr_12 Fi_13 x_26 q6 q7 bd_17 bd_18 b6 n6 g6 hn6 b7 n7 g7 hn7 H.size) (cwV 1 hts (kG (List.forall_mem_cons.mpr ⟨(List.mem_cons_of_mem _ (List.mem_append_left _ (List.mem_of_getElem? (i := 32) rfl))), (List.forall_mem_cons.mpr ⟨(List.mem_cons_of_mem _ (List.mem_append_left _ (List.mem_of_getElem? (i := 31) rfl))), (List.forall_mem_cons.mpr ⟨(List.mem_cons_of_mem _ (List.mem_append_left _ (List.mem_of_getElem? (i := 30) rfl))), (List.forall_mem_cons.mpr ⟨(List.mem_cons_of_mem _ (List.mem_append_left _ (List.mem_of_getElem? (i := 0) rfl))), (fun _ h => absurd h List.not_mem_nil)⟩)⟩)⟩)⟩) (kGV _ _ _ _) (kFam (List.mem_cons_of_mem _ (List.mem_append_left _ (List.mem_of_getElem? (i := 29) rfl)))) gw_s_sum4_1) rfl rfl rfl ⟨rfl, hd_X4_readSum⟩ ⟨(Nat.le_of_ble_eq_true rfl), (Nat.le_of_ble_eq_true rfl)⟩) (kW_V kS2_blind (kS2_give hX hS hFc) (va_recv hKc hPc (ci := 4) (q0 := 0) rfl rfl) hPc hKc hDc) rfl rfl hl.1 rfl (lv_room (Nat.le_of_ble_eq_true rfl)) dX4_readUnit_126 ⟨(Nat.le_of_ble_eq_true rfl), (Nat.le_of_ble_eq_true rfl)⟩) hS (fun q _ h => hFc q h) hFc (fun r_27 => kU5 (fun S1_28 S2_29 Pl_30 Wr_31 Fi_32 t H_33 locs ht hvm hw hB hz1 hk1 hS => ?_))
          try dsimp only at hw
          have hPD : kPD dC dI A [(jR, .inr (4, [.ref jT, .ref r1, .ref r2, .int (nI (Wr_31)), .int (nI (Fi_32)), .int Pl_30, .ref q6, .ref q7])), (r1, .inl (c1, 120, .inl S1_28)), (r2, .inl (c2, 124, .inl S2_29)), (jT, .inr (8, [.ref t0, .int (nI (kt))])), (t0, .inl (cC, 120, .inl gT))] H_33 := kJoinX hP hD [0, 1, 2, 3, 4] rfl hk1 hFc hB.1 ht hB.2.2 rfl [some 0, some 1, some 2, some 3, some 4] rfl rfl
          have hP := hPD.1
          have hD := hPD.2
          have hw_34 := hw
          refine lv_if_eq (tgt := 148) hx hb dX4_readUnit_129 kc_t_129_19 (fun c_35 => ?_) (fun c_35 => ?_)
          · refine lv_iconst (v := 0) hx hb dX4_readUnit_148 kc_i_0 ?_
            have hP9 := hP
            have hD9 := hD
            have hK9 := hK
            rw [hQ]
            exact W.zret (v := 0) hx hb hr rfl (fun t ht hW => ⟨⟨0, (S1_28, S2_29, Pl_30, Wr_31, Fi_32), rfl, ⟨(Or.inl rfl), by omega, by omega⟩,  by rw [ht]; exact hP9, va_K.moved hW.alike hK9, hD9⟩, hS.F ht⟩) hS.2.2 dX4_readUnit_149
          · refine lv_aload_n hx hb dX4_readUnit_132 rfl (lv_at hl 1 rfl) ?_
            refine lv_sipush (v := 20000) hx hb dX4_readUnit_133 kc_s_20000 ?_
            refine lv_iload_n hx hb dX4_readUnit_136 rfl (lv_at hl 0 rfl) ?_
            refine lv_iadd hx hb dX4_readUnit_137 ?_
            refine lv_topi (fun x_36 ex_36 => ?_)
            have bd_37 : Wr_31 ≤ 120 := by omega
            have bd_38 : Fi_32 ≤ 124 := by omega
            have hCu := kCut (wc := [(jR, .inr (4, [.ref jT, .ref r1, .ref r2, .int (nI (Wr_31)), .int (nI (Fi_32)), .int Pl_30, .ref q6, .ref q7])), (r1, .inl (c1, 120, .inl S1_28)), (r2, .inl (c2, 124, .inl S2_29)), (jT, .inr (8, [.ref t0, .int (nI (kt))])), (t0, .inl (cC, 120, .inl gT))]) hP hD hS hA [0, 1, 2, 3, 4] rfl kc_nd_311 rfl
            have hPc := hCu.1
            have hDc := hCu.2.1
            have hFc := hCu.2.2
            have hKc := hK.sb (tys2 := [(c1, .int), (c2, .int), (cC, .char)]) [0, 1, 2] rfl
            refine va_calli (va_runV (As := [.int x_36]) (rest := []) ⟨hx, hb, hml, hown, hts⟩ (s_write4 l dC dI jT t0 cC gT kt hkt hgT jR r1 r2 c1 c2 S1_28 S2_29 Wr_31 Fi_32 Pl_30 q6 q7 bd_37 bd_38 x_36 H_33.size) (cwV 1 hts (kG (List.forall_mem_cons.mpr ⟨(List.mem_cons_of_mem _ (List.mem_append_left _ (List.mem_of_getElem? (i := 14) rfl))), (List.forall_mem_cons.mpr ⟨(List.mem_cons_of_mem _ (List.mem_append_left _ (List.mem_of_getElem? (i := 13) rfl))), (List.forall_mem_cons.mpr ⟨(List.mem_cons_of_mem _ (List.mem_append_left _ (List.mem_of_getElem? (i := 12) rfl))), (List.forall_mem_cons.mpr ⟨(List.mem_cons_of_mem _ (List.mem_append_left _ (List.mem_of_getElem? (i := 0) rfl))), (fun _ h => absurd h List.not_mem_nil)⟩)⟩)⟩)⟩) (kGV _ _ _ _) (fun _ h => List.mem_cons_of_mem _ (List.mem_append_right _ (List.mem_append_right _ (List.mem_append_right _ (List.mem_append_right _ (List.mem_append_right _ (List.mem_append_left _ h))))))) gw_s_write4) rfl rfl rfl ⟨rfl, hd_X4_write⟩ ⟨(Nat.le_of_ble_eq_true rfl), (Nat.le_of_ble_eq_true rfl)⟩) (kW_V kT_blind kT_give (va_recv hKc hPc (ci := 4) (q0 := 0) rfl rfl) hPc hKc hDc) rfl rfl hl.1 rfl (lv_room (Nat.le_of_ble_eq_true rfl)) dX4_readUnit_138 ⟨(Nat.le_of_ble_eq_true rfl), (Nat.le_of_ble_eq_true rfl)⟩) hS (fun q _ h => hFc q h) hFc (fun r_39 => kU5 (fun S1_40 S2_41 Pl_42 Wr_43 Fi_44 t H_45 locs ht hvm hw hB hz1 hk1 hS => ?_))
            try dsimp only at hw
            have hPD : kPD dC dI A [(jR, .inr (4, [.ref jT, .ref r1, .ref r2, .int (nI (Wr_43)), .int (nI (Fi_44)), .int Pl_42, .ref q6, .ref q7])), (r1, .inl (c1, 120, .inl S1_40)), (r2, .inl (c2, 124, .inl S2_41)), (jT, .inr (8, [.ref t0, .int (nI (kt))])), (t0, .inl (cC, 120, .inl gT))] H_45 := kJoinX hP hD [0, 1, 2, 3, 4] rfl hk1 hFc hB.1 ht hB.2.2 rfl [some 0, some 1, some 2, some 3, some 4] rfl rfl
            have hP := hPD.1
            have hD := hPD.2
            have hw_46 := hw
            refine lv_if_eq (tgt := 148) hx hb dX4_readUnit_141 kc_t_141_7 (fun c_47 => ?_) (fun c_47 => ?_)
            · refine lv_iconst (v := 0) hx hb dX4_readUnit_148 kc_i_0 ?_
              have hP9 := hP
              have hD9 := hD
              have hK9 := hK
              rw [hQ]
              exact W.zret (v := 0) hx hb hr rfl (fun t ht hW => ⟨⟨0, (S1_40, S2_41, Pl_42, Wr_43, Fi_44), rfl, ⟨(Or.inl rfl), by omega, by omega⟩,  by rw [ht]; exact hP9, va_K.moved hW.alike hK9, hD9⟩, hS.F ht⟩) hS.2.2 dX4_readUnit_149
            · refine lv_iconst (v := 1) hx hb dX4_readUnit_144 kc_i_1 ?_
              refine lv_goto (tgt := 149) hx hb dX4_readUnit_145 kc_t_145_4 ?_
              have hP9 := hP
              have hD9 := hD
              have hK9 := hK
              rw [hQ]
              exact W.zret (v := 1) hx hb hr rfl (fun t ht hW => ⟨⟨1, (S1_40, S2_41, Pl_42, Wr_43, Fi_44), rfl, ⟨(Or.inr rfl), by omega, by omega⟩,  by rw [ht]; exact hP9, va_K.moved hW.alike hK9, hD9⟩, hS.F ht⟩) hS.2.2 dX4_readUnit_149
        · refine lv_iconst (v := 0) hx hb dX4_readUnit_112 kc_i_0 ?_
          have hP9 := hP
          have hD9 := hD
          have hK9 := hK
          rw [hQ]
          exact W.zret (v := 0) hx hb hr rfl (fun t ht hW => ⟨⟨0, (S1_9, S2_10, Pl_20, Wr_12, Fi_13), rfl, ⟨(Or.inl rfl), by omega, by omega⟩,  by rw [ht]; exact hP9, va_K.moved hW.alike hK9, hD9⟩, hS.F ht⟩) hS.2.2 dX4_readUnit_113
      · refine lv_iconst (v := 0) hx hb dX4_readUnit_98 kc_i_0 ?_
        have hP9 := hP
        have hD9 := hD
        have hK9 := hK
        rw [hQ]
        exact W.zret (v := 0) hx hb hr rfl (fun t ht hW => ⟨⟨0, (S1_9, S2_10, Pl_11, Wr_12, Fi_13), rfl, ⟨(Or.inl rfl), by omega, by omega⟩,  by rw [ht]; exact hP9, va_K.moved hW.alike hK9, hD9⟩, hS.F ht⟩) hS.2.2 dX4_readUnit_99
    · refine lv_aload_n hx hb dX4_readUnit_56 rfl (lv_at hl 1 rfl) ?_
      refine lv_iload_n hx hb dX4_readUnit_57 rfl (lv_at hl 2 rfl) ?_
      have hCu := kCut (wc := [(jR, .inr (4, [.ref jT, .ref r1, .ref r2, .int (nI (wr)), .int (nI (fi)), .int Pl_3, .ref q6, .ref q7])), (r1, .inl (c1, 120, .inl s1)), (r2, .inl (c2, 124, .inl s2)), (jT, .inr (8, [.ref t0, .int (nI (kt))])), (t0, .inl (cC, 120, .inl gT))]) hP hD hS hA [0, 1, 2, 3, 4] rfl kc_nd_311 rfl
      have hPc := hCu.1
      have hDc := hCu.2.1
      have hFc := hCu.2.2
      have hKc := hK.sb (tys2 := [(c1, .int), (c2, .int), (cC, .char)]) [0, 1, 2] rfl
      refine va_calli (va_runV (As := [.int 1]) (rest := []) ⟨hx, hb, hml, hown, hts⟩ (s_opens4 l dC dI jT t0 cC gT kt hkt hgT jR r1 r2 c1 c2 s1 s2 wr fi Pl_3 q6 q7 hwr hfi 1 H_4.size) (cwV 1 hts (kG (List.forall_mem_cons.mpr ⟨(List.mem_cons_of_mem _ (List.mem_append_left _ (List.mem_of_getElem? (i := 20) rfl))), (List.forall_mem_cons.mpr ⟨(List.mem_cons_of_mem _ (List.mem_append_left _ (List.mem_of_getElem? (i := 19) rfl))), (List.forall_mem_cons.mpr ⟨(List.mem_cons_of_mem _ (List.mem_append_left _ (List.mem_of_getElem? (i := 18) rfl))), (List.forall_mem_cons.mpr ⟨(List.mem_cons_of_mem _ (List.mem_append_left _ (List.mem_of_getElem? (i := 0) rfl))), (fun _ h => absurd h List.not_mem_nil)⟩)⟩)⟩)⟩) (kGV _ _ _ _) (fun _ h => List.mem_cons_of_mem _ (List.mem_append_right _ (List.mem_append_right _ (List.mem_append_right _ (List.mem_append_right _ (List.mem_append_right _ (List.mem_append_right _ (List.mem_append_right _ (List.mem_append_right _ (List.mem_append_right _ (List.mem_append_left _ h))))))))))) gw_s_opens4) rfl rfl rfl ⟨rfl, hd_X4_opens⟩ ⟨(Nat.le_of_ble_eq_true rfl), (Nat.le_of_ble_eq_true rfl)⟩) (kW_V kT_blind kT_give (va_recv hKc hPc (ci := 4) (q0 := 0) rfl rfl) hPc hKc hDc) rfl rfl hl.1 rfl (lv_room (Nat.le_of_ble_eq_true rfl)) dX4_readUnit_58 ⟨(Nat.le_of_ble_eq_true rfl), (Nat.le_of_ble_eq_true rfl)⟩) hS (fun q _ h => hFc q h) hFc (fun r_48 => kU5 (fun S1_49 S2_50 Pl_51 Wr_52 Fi_53 t H_54 locs ht hvm hw hB hz1 hk1 hS => ?_))
      try dsimp only at hw
      have hPD : kPD dC dI A [(jR, .inr (4, [.ref jT, .ref r1, .ref r2, .int (nI (Wr_52)), .int (nI (Fi_53)), .int Pl_51, .ref q6, .ref q7])), (r1, .inl (c1, 120, .inl S1_49)), (r2, .inl (c2, 124, .inl S2_50)), (jT, .inr (8, [.ref t0, .int (nI (kt))])), (t0, .inl (cC, 120, .inl gT))] H_54 := kJoinX hP hD [0, 1, 2, 3, 4] rfl hk1 hFc hB.1 ht hB.2.2 rfl [some 0, some 1, some 2, some 3, some 4] rfl rfl
      have hP := hPD.1
      have hD := hPD.2
      have hw_55 := hw
      refine lv_if_eq (tgt := 88) hx hb dX4_readUnit_61 kc_t_61_27 (fun c_56 => ?_) (fun c_56 => ?_)
      · refine lv_iconst (v := 0) hx hb dX4_readUnit_88 kc_i_0 ?_
        have hP9 := hP
        have hD9 := hD
        have hK9 := hK
        rw [hQ]
        exact W.zret (v := 0) hx hb hr rfl (fun t ht hW => ⟨⟨0, (S1_49, S2_50, Pl_51, Wr_52, Fi_53), rfl, ⟨(Or.inl rfl), by omega, by omega⟩,  by rw [ht]; exact hP9, va_K.moved hW.alike hK9, hD9⟩, hS.F ht⟩) hS.2.2 dX4_readUnit_89
      · refine lv_aload_n hx hb dX4_readUnit_64 rfl (lv_at hl 1 rfl) ?_
        refine lv_iload_n hx hb dX4_readUnit_65 rfl (lv_at hl 2 rfl) ?_
        refine lv_iconst (v := 1) hx hb dX4_readUnit_66 kc_i_1 ?_
        refine lv_iadd hx hb dX4_readUnit_67 ?_
        refine lv_topi (fun y_57 ey_57 => ?_)
        obtain rfl : y_57 = 2 := ey_57.trans (by decide)
        refine lv_iconst (v := 0) hx hb dX4_readUnit_68 kc_i_0 ?_
        have bd_58 : Wr_52 ≤ 120 := by omega
        have bd_59 : Fi_53 ≤ 124 := by omega
        have hCu := kCut (wc := [(jR, .inr (4, [.ref jT, .ref r1, .ref r2, .int (nI (Wr_52)), .int (nI (Fi_53)), .int Pl_51, .ref q6, .ref q7])), (r1, .inl (c1, 120, .inl S1_49)), (r2, .inl (c2, 124, .inl S2_50)), (jT, .inr (8, [.ref t0, .int (nI (kt))])), (t0, .inl (cC, 120, .inl gT))]) hP hD hS hA [0, 1, 2, 3, 4] rfl kc_nd_311 rfl
        have hPc := hCu.1
        have hDc := hCu.2.1
        have hFc := hCu.2.2
        have hKc := hK.sb (tys2 := [(c1, .int), (c2, .int), (cC, .char)]) [0, 1, 2] rfl
        refine va_calli (va_runV (As := [.int 2, .int 0]) (rest := []) ⟨hx, hb, hml, hown, hts⟩ (s_cond4_2_0 l dC dI jT t0 cC gT kt hkt hgT jR r1 r2 c1 c2 S1_49 S2_50 Wr_52 Fi_53 Pl_51 q6 q7 bd_58 bd_59 b6 n6 g6 hn6 b7 n7 g7 hn7 H_54.size) (cwV 2 hts (kG (List.forall_mem_cons.mpr ⟨(List.mem_cons_of_mem _ (List.mem_append_left _ (List.mem_of_getElem? (i := 49) rfl))), (List.forall_mem_cons.mpr ⟨(List.mem_cons_of_mem _ (List.mem_append_left _ (List.mem_of_getElem? (i := 48) rfl))), (List.forall_mem_cons.mpr ⟨(List.mem_cons_of_mem _ (List.mem_append_left _ (List.mem_of_getElem? (i := 47) rfl))), (List.forall_mem_cons.mpr ⟨(List.mem_cons_of_mem _ (List.mem_append_left _ (List.mem_of_getElem? (i := 0) rfl))), (fun _ h => absurd h List.not_mem_nil)⟩)⟩)⟩)⟩) (kGV _ _ _ _) (kFam (List.mem_cons_of_mem _ (List.mem_append_left _ (List.mem_of_getElem? (i := 46) rfl)))) gw_s_cond4_2_0) rfl rfl rfl ⟨rfl, hd_X4_readCondition⟩ ⟨(Nat.le_of_ble_eq_true rfl), (Nat.le_of_ble_eq_true rfl)⟩) (kW_V kS2_blind (kS2_give hX hS hFc) (va_recv hKc hPc (ci := 4) (q0 := 0) rfl rfl) hPc hKc hDc) rfl rfl hl.1 rfl (lv_room (Nat.le_of_ble_eq_true rfl)) dX4_readUnit_69 ⟨(Nat.le_of_ble_eq_true rfl), (Nat.le_of_ble_eq_true rfl)⟩) hS (fun q _ h => hFc q h) hFc (fun r_60 => kU5 (fun S1_61 S2_62 Pl_63 Wr_64 Fi_65 t H_66 locs ht hvm hw hB hz1 hk1 hS => ?_))
        try dsimp only at hw
        have hPD : kPD dC dI A [(jR, .inr (4, [.ref jT, .ref r1, .ref r2, .int (nI (Wr_64)), .int (nI (Fi_65)), .int Pl_63, .ref q6, .ref q7])), (r1, .inl (c1, 120, .inl S1_61)), (r2, .inl (c2, 124, .inl S2_62)), (jT, .inr (8, [.ref t0, .int (nI (kt))])), (t0, .inl (cC, 120, .inl gT))] H_66 := kJoinX hP hD [0, 1, 2, 3, 4] rfl hk1 hFc hB.1 ht hB.2.2 rfl [some 0, some 1, some 2, some 3, some 4] rfl rfl
        have hP := hPD.1
        have hD := hPD.2
        have hw_67 := hw
        refine lv_if_eq (tgt := 88) hx hb dX4_readUnit_72 kc_t_72_16 (fun c_68 => ?_) (fun c_68 => ?_)
        · refine lv_iconst (v := 0) hx hb dX4_readUnit_88 kc_i_0 ?_
          have hP9 := hP
          have hD9 := hD
          have hK9 := hK
          rw [hQ]
          exact W.zret (v := 0) hx hb hr rfl (fun t ht hW => ⟨⟨0, (S1_61, S2_62, Pl_63, Wr_64, Fi_65), rfl, ⟨(Or.inl rfl), by omega, by omega⟩,  by rw [ht]; exact hP9, va_K.moved hW.alike hK9, hD9⟩, hS.F ht⟩) hS.2.2 dX4_readUnit_89
        · refine lv_aload_n hx hb dX4_readUnit_75 rfl (lv_at hl 1 rfl) ?_
          refine lv_bipush (v := 41) hx hb dX4_readUnit_76 kc_b_41 ?_
          have bd_69 : Wr_64 ≤ 120 := by omega
          have bd_70 : Fi_65 ≤ 124 := by omega
          have hCu := kCut (wc := [(jR, .inr (4, [.ref jT, .ref r1, .ref r2, .int (nI (Wr_64)), .int (nI (Fi_65)), .int Pl_63, .ref q6, .ref q7])), (r1, .inl (c1, 120, .inl S1_61)), (r2, .inl (c2, 124, .inl S2_62)), (jT, .inr (8, [.ref t0, .int (nI (kt))])), (t0, .inl (cC, 120, .inl gT))]) hP hD hS hA [0, 1, 2, 3, 4] rfl kc_nd_311 rfl
          have hPc := hCu.1
          have hDc := hCu.2.1
          have hFc := hCu.2.2
          have hKc := hK.sb (tys2 := [(c1, .int), (c2, .int), (cC, .char)]) [0, 1, 2] rfl
          refine va_calli (va_runV (As := [.int 41]) (rest := []) ⟨hx, hb, hml, hown, hts⟩ (s_take4 l dC dI jT t0 cC gT kt hkt hgT jR r1 r2 c1 c2 S1_61 S2_62 Wr_64 Fi_65 Pl_63 q6 q7 bd_69 bd_70 41 H_66.size) (cwV 1 hts (kG (List.forall_mem_cons.mpr ⟨(List.mem_cons_of_mem _ (List.mem_append_left _ (List.mem_of_getElem? (i := 45) rfl))), (List.forall_mem_cons.mpr ⟨(List.mem_cons_of_mem _ (List.mem_append_left _ (List.mem_of_getElem? (i := 44) rfl))), (List.forall_mem_cons.mpr ⟨(List.mem_cons_of_mem _ (List.mem_append_left _ (List.mem_of_getElem? (i := 43) rfl))), (List.forall_mem_cons.mpr ⟨(List.mem_cons_of_mem _ (List.mem_append_left _ (List.mem_of_getElem? (i := 0) rfl))), (fun _ h => absurd h List.not_mem_nil)⟩)⟩)⟩)⟩) (kGV _ _ _ _) (fun _ h => List.mem_cons_of_mem _ (List.mem_append_right _ (List.mem_append_right _ (List.mem_append_right _ (List.mem_append_right _ (List.mem_append_right _ (List.mem_append_right _ (List.mem_append_right _ (List.mem_append_right _ (List.mem_append_right _ (List.mem_append_right _ (List.mem_append_left _ h)))))))))))) gw_s_take4) rfl rfl rfl ⟨rfl, hd_X4_take⟩ ⟨(Nat.le_of_ble_eq_true rfl), (Nat.le_of_ble_eq_true rfl)⟩) (kW_V kT_blind kT_give (va_recv hKc hPc (ci := 4) (q0 := 0) rfl rfl) hPc hKc hDc) rfl rfl hl.1 rfl (lv_room (Nat.le_of_ble_eq_true rfl)) dX4_readUnit_78 ⟨(Nat.le_of_ble_eq_true rfl), (Nat.le_of_ble_eq_true rfl)⟩) hS (fun q _ h => hFc q h) hFc (fun r_71 => kU5 (fun S1_72 S2_73 Pl_74 Wr_75 Fi_76 t H_77 locs ht hvm hw hB hz1 hk1 hS => ?_))
          try dsimp only at hw
          have hPD : kPD dC dI A [(jR, .inr (4, [.ref jT, .ref r1, .ref r2, .int (nI (Wr_75)), .int (nI (Fi_76)), .int Pl_74, .ref q6, .ref q7])), (r1, .inl (c1, 120, .inl S1_72)), (r2, .inl (c2, 124, .inl S2_73)), (jT, .inr (8, [.ref t0, .int (nI (kt))])), (t0, .inl (cC, 120, .inl gT))] H_77 := kJoinX hP hD [0, 1, 2, 3, 4] rfl hk1 hFc hB.1 ht hB.2.2 rfl [some 0, some 1, some 2, some 3, some 4] rfl rfl
          have hP := hPD.1
          have hD := hPD.2
          have hw_78 := hw
          refine lv_if_eq (tgt := 88) hx hb dX4_readUnit_81 kc_t_81_7 (fun c_79 => ?_) (fun c_79 => ?_)
          · refine lv_iconst (v := 0) hx hb dX4_readUnit_88 kc_i_0 ?_
            have hP9 := hP
            have hD9 := hD
            have hK9 := hK
            rw [hQ]
            exact W.zret (v := 0) hx hb hr rfl (fun t ht hW => ⟨⟨0, (S1_72, S2_73, Pl_74, Wr_75, Fi_76), rfl, ⟨(Or.inl rfl), by omega, by omega⟩,  by rw [ht]; exact hP9, va_K.moved hW.alike hK9, hD9⟩, hS.F ht⟩) hS.2.2 dX4_readUnit_89
          · refine lv_iconst (v := 1) hx hb dX4_readUnit_84 kc_i_1 ?_
            refine lv_goto (tgt := 89) hx hb dX4_readUnit_85 kc_t_85_4 ?_
            have hP9 := hP
            have hD9 := hD
            have hK9 := hK
            rw [hQ]
            exact W.zret (v := 1) hx hb hr rfl (fun t ht hW => ⟨⟨1, (S1_72, S2_73, Pl_74, Wr_75, Fi_76), rfl, ⟨(Or.inr rfl), by omega, by omega⟩,  by rw [ht]; exact hP9, va_K.moved hW.alike hK9, hD9⟩, hS.F ht⟩) hS.2.2 dX4_readUnit_89
  · refine lv_aload_n hx hb dX4_readUnit_15 rfl (lv_at hl 1 rfl) ?_
    refine lv_iload_n hx hb dX4_readUnit_16 rfl (lv_at hl 2 rfl) ?_
    have hCu := kCut (wc := [(jR, .inr (4, [.ref jT, .ref r1, .ref r2, .int (nI (wr)), .int (nI (fi)), .int Pl_3, .ref q6, .ref q7])), (r1, .inl (c1, 120, .inl s1)), (r2, .inl (c2, 124, .inl s2)), (jT, .inr (8, [.ref t0, .int (nI (kt))])), (t0, .inl (cC, 120, .inl gT))]) hP hD hS hA [0, 1, 2, 3, 4] rfl kc_nd_311 rfl
    have hPc := hCu.1
    have hDc := hCu.2.1
    have hFc := hCu.2.2
    have hKc := hK.sb (tys2 := [(c1, .int), (c2, .int), (cC, .char)]) [0, 1, 2] rfl
    refine va_calli (va_runV (As := [.int 1]) (rest := []) ⟨hx, hb, hml, hown, hts⟩ (s_opens4 l dC dI jT t0 cC gT kt hkt hgT jR r1 r2 c1 c2 s1 s2 wr fi Pl_3 q6 q7 hwr hfi 1 H_4.size) (cwV 1 hts (kG (List.forall_mem_cons.mpr ⟨(List.mem_cons_of_mem _ (List.mem_append_left _ (List.mem_of_getElem? (i := 20) rfl))), (List.forall_mem_cons.mpr ⟨(List.mem_cons_of_mem _ (List.mem_append_left _ (List.mem_of_getElem? (i := 19) rfl))), (List.forall_mem_cons.mpr ⟨(List.mem_cons_of_mem _ (List.mem_append_left _ (List.mem_of_getElem? (i := 18) rfl))), (List.forall_mem_cons.mpr ⟨(List.mem_cons_of_mem _ (List.mem_append_left _ (List.mem_of_getElem? (i := 0) rfl))), (fun _ h => absurd h List.not_mem_nil)⟩)⟩)⟩)⟩) (kGV _ _ _ _) (fun _ h => List.mem_cons_of_mem _ (List.mem_append_right _ (List.mem_append_right _ (List.mem_append_right _ (List.mem_append_right _ (List.mem_append_right _ (List.mem_append_right _ (List.mem_append_right _ (List.mem_append_right _ (List.mem_append_right _ (List.mem_append_left _ h))))))))))) gw_s_opens4) rfl rfl rfl ⟨rfl, hd_X4_opens⟩ ⟨(Nat.le_of_ble_eq_true rfl), (Nat.le_of_ble_eq_true rfl)⟩) (kW_V kT_blind kT_give (va_recv hKc hPc (ci := 4) (q0 := 0) rfl rfl) hPc hKc hDc) rfl rfl hl.1 rfl (lv_room (Nat.le_of_ble_eq_true rfl)) dX4_readUnit_17 ⟨(Nat.le_of_ble_eq_true rfl), (Nat.le_of_ble_eq_true rfl)⟩) hS (fun q _ h => hFc q h) hFc (fun r_80 => kU5 (fun S1_81 S2_82 Pl_83 Wr_84 Fi_85 t H_86 locs ht hvm hw hB hz1 hk1 hS => ?_))
    try dsimp only at hw
    have hPD : kPD dC dI A [(jR, .inr (4, [.ref jT, .ref r1, .ref r2, .int (nI (Wr_84)), .int (nI (Fi_85)), .int Pl_83, .ref q6, .ref q7])), (r1, .inl (c1, 120, .inl S1_81)), (r2, .inl (c2, 124, .inl S2_82)), (jT, .inr (8, [.ref t0, .int (nI (kt))])), (t0, .inl (cC, 120, .inl gT))] H_86 := kJoinX hP hD [0, 1, 2, 3, 4] rfl hk1 hFc hB.1 ht hB.2.2 rfl [some 0, some 1, some 2, some 3, some 4] rfl rfl
    have hP := hPD.1
    have hD := hPD.2
    have hw_87 := hw
    refine lv_if_eq (tgt := 48) hx hb dX4_readUnit_20 kc_t_20_28 (fun c_88 => ?_) (fun c_88 => ?_)
    · refine lv_iconst (v := 0) hx hb dX4_readUnit_48 kc_i_0 ?_
      have hP9 := hP
      have hD9 := hD
      have hK9 := hK
      rw [hQ]
      exact W.zret (v := 0) hx hb hr rfl (fun t ht hW => ⟨⟨0, (S1_81, S2_82, Pl_83, Wr_84, Fi_85), rfl, ⟨(Or.inl rfl), by omega, by omega⟩,  by rw [ht]; exact hP9, va_K.moved hW.alike hK9, hD9⟩, hS.F ht⟩) hS.2.2 dX4_readUnit_49
    · refine lv_aload_n hx hb dX4_readUnit_23 rfl (lv_at hl 1 rfl) ?_
      refine lv_iload_n hx hb dX4_readUnit_24 rfl (lv_at hl 2 rfl) ?_
      refine lv_iconst (v := 1) hx hb dX4_readUnit_25 kc_i_1 ?_
      refine lv_iadd hx hb dX4_readUnit_26 ?_
      refine lv_topi (fun y_89 ey_89 => ?_)
      obtain rfl : y_89 = 2 := ey_89.trans (by decide)
      refine lv_iconst (v := 0) hx hb dX4_readUnit_27 kc_i_0 ?_
      have bd_90 : Wr_84 ≤ 120 := by omega
      have bd_91 : Fi_85 ≤ 124 := by omega
      have hCu := kCut (wc := [(jR, .inr (4, [.ref jT, .ref r1, .ref r2, .int (nI (Wr_84)), .int (nI (Fi_85)), .int Pl_83, .ref q6, .ref q7])), (r1, .inl (c1, 120, .inl S1_81)), (r2, .inl (c2, 124, .inl S2_82)), (jT, .inr (8, [.ref t0, .int (nI (kt))])), (t0, .inl (cC, 120, .inl gT))]) hP hD hS hA [0, 1, 2, 3, 4] rfl kc_nd_311 rfl
      have hPc := hCu.1
      have hDc := hCu.2.1
      have hFc := hCu.2.2
      have hKc := hK.sb (tys2 := [(c1, .int), (c2, .int), (cC, .char)]) [0, 1, 2] rfl
      refine va_calli (va_runV (As := [.int 2, .int 0]) (rest := []) ⟨hx, hb, hml, hown, hts⟩ (s_unit4_2_0 l dC dI jT t0 cC gT kt hkt hgT jR r1 r2 c1 c2 S1_81 S2_82 Wr_84 Fi_85 Pl_83 q6 q7 bd_90 bd_91 b6 n6 g6 hn6 b7 n7 g7 hn7 H_86.size) (cwV 2 hts (kG (List.forall_mem_cons.mpr ⟨(List.mem_cons_of_mem _ (List.mem_append_left _ (List.mem_of_getElem? (i := 38) rfl))), (List.forall_mem_cons.mpr ⟨(List.mem_cons_of_mem _ (List.mem_append_left _ (List.mem_of_getElem? (i := 37) rfl))), (List.forall_mem_cons.mpr ⟨(List.mem_cons_of_mem _ (List.mem_append_left _ (List.mem_of_getElem? (i := 36) rfl))), (List.forall_mem_cons.mpr ⟨(List.mem_cons_of_mem _ (List.mem_append_left _ (List.mem_of_getElem? (i := 0) rfl))), (fun _ h => absurd h List.not_mem_nil)⟩)⟩)⟩)⟩) (kGV _ _ _ _) (kFam (List.mem_cons_of_mem _ (List.mem_append_left _ (List.mem_of_getElem? (i := 35) rfl)))) gw_s_unit4_2_0) rfl rfl rfl ⟨rfl, hd_X4_readUnit⟩ ⟨(Nat.le_of_ble_eq_true rfl), (Nat.le_of_ble_eq_true rfl)⟩) (kW_V kS2_blind (kS2_give hX hS hFc) (va_recv hKc hPc (ci := 4) (q0 := 0) rfl rfl) hPc hKc hDc) rfl rfl hl.1 rfl (lv_room (Nat.le_of_ble_eq_true rfl)) dX4_readUnit_28 ⟨(Nat.le_of_ble_eq_true rfl), (Nat.le_of_ble_eq_true rfl)⟩) hS (fun q _ h => hFc q h) hFc (fun r_92 => kU5 (fun S1_93 S2_94 Pl_95 Wr_96 Fi_97 t H_98 locs ht hvm hw hB hz1 hk1 hS => ?_))
      try dsimp only at hw
      have hPD : kPD dC dI A [(jR, .inr (4, [.ref jT, .ref r1, .ref r2, .int (nI (Wr_96)), .int (nI (Fi_97)), .int Pl_95, .ref q6, .ref q7])), (r1, .inl (c1, 120, .inl S1_93)), (r2, .inl (c2, 124, .inl S2_94)), (jT, .inr (8, [.ref t0, .int (nI (kt))])), (t0, .inl (cC, 120, .inl gT))] H_98 := kJoinX hP hD [0, 1, 2, 3, 4] rfl hk1 hFc hB.1 ht hB.2.2 rfl [some 0, some 1, some 2, some 3, some 4] rfl rfl
      have hP := hPD.1
      have hD := hPD.2
      have hw_99 := hw
      refine lv_if_eq (tgt := 48) hx hb dX4_readUnit_31 kc_t_31_17 (fun c_100 => ?_) (fun c_100 => ?_)
      · refine lv_iconst (v := 0) hx hb dX4_readUnit_48 kc_i_0 ?_
        have hP9 := hP
        have hD9 := hD
        have hK9 := hK
        rw [hQ]
        exact W.zret (v := 0) hx hb hr rfl (fun t ht hW => ⟨⟨0, (S1_93, S2_94, Pl_95, Wr_96, Fi_97), rfl, ⟨(Or.inl rfl), by omega, by omega⟩,  by rw [ht]; exact hP9, va_K.moved hW.alike hK9, hD9⟩, hS.F ht⟩) hS.2.2 dX4_readUnit_49
      · refine lv_aload_n hx hb dX4_readUnit_34 rfl (lv_at hl 1 rfl) ?_
        refine lv_sipush (v := 20033) hx hb dX4_readUnit_35 kc_s_20033 ?_
        have bd_101 : Wr_96 ≤ 120 := by omega
        have bd_102 : Fi_97 ≤ 124 := by omega
        have hCu := kCut (wc := [(jR, .inr (4, [.ref jT, .ref r1, .ref r2, .int (nI (Wr_96)), .int (nI (Fi_97)), .int Pl_95, .ref q6, .ref q7])), (r1, .inl (c1, 120, .inl S1_93)), (r2, .inl (c2, 124, .inl S2_94)), (jT, .inr (8, [.ref t0, .int (nI (kt))])), (t0, .inl (cC, 120, .inl gT))]) hP hD hS hA [0, 1, 2, 3, 4] rfl kc_nd_311 rfl
        have hPc := hCu.1
        have hDc := hCu.2.1
        have hFc := hCu.2.2
        have hKc := hK.sb (tys2 := [(c1, .int), (c2, .int), (cC, .char)]) [0, 1, 2] rfl
        refine va_calli (va_runV (As := [.int 20033]) (rest := []) ⟨hx, hb, hml, hown, hts⟩ (s_write4 l dC dI jT t0 cC gT kt hkt hgT jR r1 r2 c1 c2 S1_93 S2_94 Wr_96 Fi_97 Pl_95 q6 q7 bd_101 bd_102 20033 H_98.size) (cwV 1 hts (kG (List.forall_mem_cons.mpr ⟨(List.mem_cons_of_mem _ (List.mem_append_left _ (List.mem_of_getElem? (i := 14) rfl))), (List.forall_mem_cons.mpr ⟨(List.mem_cons_of_mem _ (List.mem_append_left _ (List.mem_of_getElem? (i := 13) rfl))), (List.forall_mem_cons.mpr ⟨(List.mem_cons_of_mem _ (List.mem_append_left _ (List.mem_of_getElem? (i := 12) rfl))), (List.forall_mem_cons.mpr ⟨(List.mem_cons_of_mem _ (List.mem_append_left _ (List.mem_of_getElem? (i := 0) rfl))), (fun _ h => absurd h List.not_mem_nil)⟩)⟩)⟩)⟩) (kGV _ _ _ _) (fun _ h => List.mem_cons_of_mem _ (List.mem_append_right _ (List.mem_append_right _ (List.mem_append_right _ (List.mem_append_right _ (List.mem_append_right _ (List.mem_append_left _ h))))))) gw_s_write4) rfl rfl rfl ⟨rfl, hd_X4_write⟩ ⟨(Nat.le_of_ble_eq_true rfl), (Nat.le_of_ble_eq_true rfl)⟩) (kW_V kT_blind kT_give (va_recv hKc hPc (ci := 4) (q0 := 0) rfl rfl) hPc hKc hDc) rfl rfl hl.1 rfl (lv_room (Nat.le_of_ble_eq_true rfl)) dX4_readUnit_38 ⟨(Nat.le_of_ble_eq_true rfl), (Nat.le_of_ble_eq_true rfl)⟩) hS (fun q _ h => hFc q h) hFc (fun r_103 => kU5 (fun S1_104 S2_105 Pl_106 Wr_107 Fi_108 t H_109 locs ht hvm hw hB hz1 hk1 hS => ?_))
        try dsimp only at hw
        have hPD : kPD dC dI A [(jR, .inr (4, [.ref jT, .ref r1, .ref r2, .int (nI (Wr_107)), .int (nI (Fi_108)), .int Pl_106, .ref q6, .ref q7])), (r1, .inl (c1, 120, .inl S1_104)), (r2, .inl (c2, 124, .inl S2_105)), (jT, .inr (8, [.ref t0, .int (nI (kt))])), (t0, .inl (cC, 120, .inl gT))] H_109 := kJoinX hP hD [0, 1, 2, 3, 4] rfl hk1 hFc hB.1 ht hB.2.2 rfl [some 0, some 1, some 2, some 3, some 4] rfl rfl
        have hP := hPD.1
        have hD := hPD.2
        have hw_110 := hw
        refine lv_if_eq (tgt := 48) hx hb dX4_readUnit_41 kc_t_41_7 (fun c_111 => ?_) (fun c_111 => ?_)
        · refine lv_iconst (v := 0) hx hb dX4_readUnit_48 kc_i_0 ?_
          have hP9 := hP
          have hD9 := hD
          have hK9 := hK
          rw [hQ]
          exact W.zret (v := 0) hx hb hr rfl (fun t ht hW => ⟨⟨0, (S1_104, S2_105, Pl_106, Wr_107, Fi_108), rfl, ⟨(Or.inl rfl), by omega, by omega⟩,  by rw [ht]; exact hP9, va_K.moved hW.alike hK9, hD9⟩, hS.F ht⟩) hS.2.2 dX4_readUnit_49
        · refine lv_iconst (v := 1) hx hb dX4_readUnit_44 kc_i_1 ?_
          refine lv_goto (tgt := 49) hx hb dX4_readUnit_45 kc_t_45_4 ?_
          have hP9 := hP
          have hD9 := hD
          have hK9 := hK
          rw [hQ]
          exact W.zret (v := 1) hx hb hr rfl (fun t ht hW => ⟨⟨1, (S1_104, S2_105, Pl_106, Wr_107, Fi_108), rfl, ⟨(Or.inr rfl), by omega, by omega⟩,  by rw [ht]; exact hP9, va_K.moved hW.alike hK9, hD9⟩, hS.F ht⟩) hS.2.2 dX4_readUnit_49

def w_s_unit4_1_1 : List Cond := .code yX4_readUnit cX4_readUnit 4 (some .boolean) :: wf_rd
theorem gw_s_unit4_1_1 : (w_s_unit4_1_1).all goodWord = true := kFamG rfl gf_rd
set_option maxHeartbeats 4000000 in
set_option maxRecDepth 100000 in
theorem s_unit4_1_1 (l : Launch) (dC : Nat → ClassId) (dI : Nat → Nat → Nat) (jT : Nat) (t0 : Nat) (cC : ClassId) (gT : Nat → Int32) (kt : Nat) (hkt : kt ≤ 120) (hgT : ∀ j : Nat, narrow .char (.int (gT j)) = .int (gT j)) (jR : Nat) (r1 : Nat) (r2 : Nat) (c1 : ClassId) (c2 : ClassId) (s1 : Nat → Int32) (s2 : Nat → Int32) (wr : Nat) (fi : Nat) (pl : Int32) (q6 : Nat) (q7 : Nat) (hwr : wr ≤ 120) (hfi : fi ≤ 124) (b6 : Nat) (n6 : Nat) (g6 : Nat → Int32) (hn6 : n6 ≤ 8) (b7 : Nat) (n7 : Nat) (g7 : Nat → Int32) (hn7 : n7 ≤ 8) (sz : Nat) : Met l yX4_readUnit w_s_unit4_1_1 ({ frames := 39, cells := 0, slots := 0, locals := 2340 }) (kW dC dI [.ref jR, .int 1, .int 1] [(jR, .inr (4, [.ref jT, .ref r1, .ref r2, .int (nI (wr)), .int (nI (fi)), .int pl, .ref q6, .ref q7])), (r1, .inl (c1, 120, .inl s1)), (r2, .inl (c2, 124, .inl s2)), (jT, .inr (8, [.ref t0, .int (nI (kt))])), (t0, .inl (cC, 120, .inl gT))] [(c1, .int), (c2, .int), (cC, .char)] (kS2 q6 b6 n6 g6 q7 b7 n7 g7 (va_A [(jR, .inr (4, [.ref jT, .ref r1, .ref r2, .int (nI (wr)), .int (nI (fi)), .int pl, .ref q6, .ref q7])), (r1, .inl (c1, 120, .inl s1)), (r2, .inl (c2, 124, .inl s2)), (jT, .inr (8, [.ref t0, .int (nI (kt))])), (t0, .inl (cC, 120, .inl gT))] sz)) sz) (va_Qi (fun (r : Int32) (u : (Nat → Int32) × (Nat → Int32) × Int32 × Nat × Nat) => match u with | (S1, S2, Pl, Wr, Fi) => ((r = 0 ∨ r = 1) ∧ Wr ≤ 120 ∧ Fi ≤ 124)) (fun (u : (Nat → Int32) × (Nat → Int32) × Int32 × Nat × Nat) => match u with | (S1, S2, Pl, Wr, Fi) => fun t : State => kB dC dI [(jR, .inr (4, [.ref jT, .ref r1, .ref r2, .int (nI (Wr)), .int (nI (Fi)), .int Pl, .ref q6, .ref q7])), (r1, .inl (c1, 120, .inl S1)), (r2, .inl (c2, 124, .inl S2)), (jT, .inr (8, [.ref t0, .int (nI (kt))])), (t0, .inl (cC, 120, .inl gT))] [(c1, .int), (c2, .int), (cC, .char)] (va_A [(jR, .inr (4, [.ref jT, .ref r1, .ref r2, .int (nI (wr)), .int (nI (fi)), .int pl, .ref q6, .ref q7])), (r1, .inl (c1, 120, .inl s1)), (r2, .inl (c2, 124, .inl s2)), (jT, .inr (8, [.ref t0, .int (nI (kt))])), (t0, .inl (cC, 120, .inl gT))] sz) t) (va_A [(jR, .inr (4, [.ref jT, .ref r1, .ref r2, .int (nI (wr)), .int (nI (fi)), .int pl, .ref q6, .ref q7])), (r1, .inl (c1, 120, .inl s1)), (r2, .inl (c2, 124, .inl s2)), (jT, .inr (8, [.ref t0, .int (nI (kt))])), (t0, .inl (cC, 120, .inl gT))] sz)) 0 0 (va_A [(jR, .inr (4, [.ref jT, .ref r1, .ref r2, .int (nI (wr)), .int (nI (fi)), .int pl, .ref q6, .ref q7])), (r1, .inl (c1, 120, .inl s1)), (r2, .inl (c2, 124, .inl s2)), (jT, .inr (8, [.ref t0, .int (nI (kt))])), (t0, .inl (cC, 120, .inl gT))] sz) := by
  refine Met.ofW (cc := cX4_readUnit) (maxL := 4) (ret := (some .boolean)) (by decide) rfl ?_
  intro p e s m args below meth c s₁ B hml hv
  obtain ⟨rfl, hsz, hP, hK, hD0, hX⟩ := hv
  have hx := B.exec
  have hb := B.bytes
  have hr := B.returns
  have hts := atoms_spec (ws := w_s_unit4_1_1) B.pre
  have hown : s.vm.findClass RX4 = some m.cls := findClass_of_methodNamed B.named
  have hlocks := B.notSynchronized
  subst hsz
  have hD := hD0.self (sz := s.heap.size)
  generalize hAe : va_A [(jR, .inr (4, [.ref jT, .ref r1, .ref r2, .int (nI (wr)), .int (nI (fi)), .int pl, .ref q6, .ref q7])), (r1, .inl (c1, 120, .inl s1)), (r2, .inl (c2, 124, .inl s2)), (jT, .inr (8, [.ref t0, .int (nI (kt))])), (t0, .inl (cC, 120, .inl gT))] s.heap.size = A at hD hX ⊢
  have hA : ∀ q : Nat, s.heap.size ≤ q → A q := fun q h => by rw [← hAe]; exact Or.inr h
  have hS : va_S A s.heap s.heap [] := va_S.rf
  have hP : va_P (dC, dI) vwCl [(jR, .inr (4, [.ref jT, .ref r1, .ref r2, .int (nI (wr)), .int (nI (fi)), .int pl, .ref q6, .ref q7])), (r1, .inl (c1, 120, .inl s1)), (r2, .inl (c2, 124, .inl s2)), (jT, .inr (8, [.ref t0, .int (nI (kt))])), (t0, .inl (cC, 120, .inl gT))] s.heap := hP
  have hl := lv_entry ([.ref jR, .int 1, .int 1]) (n := 4) (Nat.le_of_ble_eq_true rfl)
  rw [lg_entry_eq]
  generalize (lg_sl ([.ref jR, .int 1, .int 1]) ++ List.replicate (4 - (lg_sl ([.ref jR, .int 1, .int 1])).length) Slot.unset).toArray = ls at hl ⊢
  have hl : lv_has ls 4 [(0, .ref jR), (1, .int 1), (2, .int 1)] := hl
  refine kQ (fun Q hQ => ?_)
  refine lv_iload_n hx hb dX4_readUnit_0 rfl (lv_at hl 2 rfl) ?_
  refine lv_if_ne (tgt := 100) hx hb dX4_readUnit_1 kc_t_1_99 (fun c_1 => ?_) (fun c_1 => absurd c_1 (by decide))
  refine lv_aload_n hx hb dX4_readUnit_100 rfl (lv_at hl 0 rfl) ?_
  have hCu := kCut (wc := [(jR, .inr (4, [.ref jT, .ref r1, .ref r2, .int (nI (wr)), .int (nI (fi)), .int pl, .ref q6, .ref q7])), (r1, .inl (c1, 120, .inl s1)), (r2, .inl (c2, 124, .inl s2)), (jT, .inr (8, [.ref t0, .int (nI (kt))])), (t0, .inl (cC, 120, .inl gT))]) hP hD hS hA [0, 1, 2, 3, 4] rfl kc_nd_311 rfl
  have hPc := hCu.1
  have hDc := hCu.2.1
  have hFc := hCu.2.2
  have hKc := hK.sb (tys2 := [(c1, .int), (c2, .int), (cC, .char)]) [0, 1, 2] rfl
  refine va_calli (va_runV (As := []) (rest := []) ⟨hx, hb, hml, hown, hts⟩ (s_look4 l dC dI jT t0 cC gT kt hkt hgT jR r1 r2 c1 c2 s1 s2 wr fi pl q6 q7 hwr hfi s.heap.size) (cwV 0 hts (kG (List.forall_mem_cons.mpr ⟨(List.mem_cons_of_mem _ (List.mem_append_left _ (List.mem_of_getElem? (i := 3) rfl))), (List.forall_mem_cons.mpr ⟨(List.mem_cons_of_mem _ (List.mem_append_left _ (List.mem_of_getElem? (i := 2) rfl))), (List.forall_mem_cons.mpr ⟨(List.mem_cons_of_mem _ (List.mem_append_left _ (List.mem_of_getElem? (i := 1) rfl))), (List.forall_mem_cons.mpr ⟨(List.mem_cons_of_mem _ (List.mem_append_left _ (List.mem_of_getElem? (i := 0) rfl))), (fun _ h => absurd h List.not_mem_nil)⟩)⟩)⟩)⟩) (kGV _ _ _ _) (fun _ h => List.mem_cons_of_mem _ (List.mem_append_right _ (List.mem_append_left _ h))) gw_s_look4) rfl rfl rfl ⟨rfl, hd_X4_look⟩ ⟨(Nat.le_of_ble_eq_true rfl), (Nat.le_of_ble_eq_true rfl)⟩) (kW_V kT_blind kT_give (va_recv hKc hPc (ci := 4) (q0 := 0) rfl rfl) hPc hKc hDc) rfl rfl hl.1 rfl (lv_room (Nat.le_of_ble_eq_true rfl)) dX4_readUnit_101 ⟨(Nat.le_of_ble_eq_true rfl), (Nat.le_of_ble_eq_true rfl)⟩) hS (fun q _ h => hFc q h) hFc (fun r_2 Pl_3 t H_4 locs ht hvm hw hB hz1 hk1 hS => ?_)
  try dsimp only at hw
  have hPD : kPD dC dI A [(jR, .inr (4, [.ref jT, .ref r1, .ref r2, .int (nI (wr)), .int (nI (fi)), .int Pl_3, .ref q6, .ref q7])), (r1, .inl (c1, 120, .inl s1)), (r2, .inl (c2, 124, .inl s2)), (jT, .inr (8, [.ref t0, .int (nI (kt))])), (t0, .inl (cC, 120, .inl gT))] H_4 := kJoinX hP hD [0, 1, 2, 3, 4] rfl hk1 hFc hB.1 ht hB.2.2 rfl [some 0, some 1, some 2, some 3, some 4] rfl rfl
  have hP := hPD.1
  have hD := hPD.2
  have hw_5 := hw
  refine lv_istore_n hx hb dX4_readUnit_104 rfl hl kc_l_3_4 (kTo [(3, .int r_2), (0, .ref jR), (1, .int 1), (2, .int 1)]) (fun ls hl => ?_)
  refine lv_iload_n hx hb dX4_readUnit_105 rfl (lv_at hl 0 rfl) ?_
  have hPc := hP.sb (ws2 := []) [] rfl
  have hKc := hK.sb (tys2 := []) [] rfl
  refine vp_callSi (va_runS (As := [.int r_2]) (rest := []) ⟨hx, hb, hml, hown, hts⟩ (s_comp4 l dC dI r_2) (va_cwS 1 hts (kG (List.forall_mem_cons.mpr ⟨(List.mem_cons_of_mem _ (List.mem_append_left _ (List.mem_of_getElem? (i := 34) rfl))), (List.forall_mem_cons.mpr ⟨(List.mem_cons_of_mem _ (List.mem_append_left _ (List.mem_of_getElem? (i := 33) rfl))), (List.forall_mem_cons.mpr ⟨(List.mem_cons_of_mem _ (List.mem_append_left _ (List.mem_of_getElem? (i := 0) rfl))), (fun _ h => absurd h List.not_mem_nil)⟩)⟩)⟩) (kGS _ _ _) (fun _ h => List.mem_cons_of_mem _ (List.mem_append_right _ (List.mem_append_right _ (List.mem_append_right _ (List.mem_append_right _ (List.mem_append_right _ (List.mem_append_right _ (List.mem_append_right _ (List.mem_append_right _ (List.mem_append_left _ h)))))))))) gw_s_comp4) rfl rfl rfl hd_X4_isComparison ⟨(Nat.le_of_ble_eq_true rfl), (Nat.le_of_ble_eq_true rfl)⟩) (kR_S kT_blind kT_give hPc hKc) rfl rfl hl.1 rfl (lv_room (Nat.le_of_ble_eq_true rfl)) dX4_readUnit_106 ⟨(Nat.le_of_ble_eq_true rfl), (Nat.le_of_ble_eq_true rfl)⟩).run (fun r_6 hw => ?_)
  have hw_7 := hw
  refine lv_if_ne (tgt := 114) hx hb dX4_readUnit_109 kc_t_109_5 (fun c_8 => ?_) (fun c_8 => ?_)
  · refine lv_aload_n hx hb dX4_readUnit_114 rfl (lv_at hl 1 rfl) ?_
    refine lv_dup hx hb dX4_readUnit_115 rfl ?_
    refine va_get (D := (dC, dI)) (ci := 4) (v := .int Pl_3) (C := RX4) (T := TX4) (N := 8) hx hb hts (fun _ h => List.mem_cons_of_mem _ (List.mem_append_right _ (List.mem_append_right _ (List.mem_append_right _ (List.mem_append_left _ h))))) hown hK hP 0 rfl rfl 5 kc_l_5_8 (hts (.fieldLink RX4 25 "NotEnded$Reader" "place" "I") (List.mem_cons_of_mem _ (List.mem_append_left _ (List.mem_of_getElem? (i := 11) rfl)))) (fun _ h9 => h9) rfl dX4_readUnit_116 ?_
    refine lv_iconst (v := 1) hx hb dX4_readUnit_119 kc_i_1 ?_
    refine lv_iadd hx hb dX4_readUnit_120 ?_
    refine lv_topi (fun x_9 ex_9 => ?_)
    refine va_put (D := (dC, dI)) (ci := 4) (v := .int x_9) (ty := tyX4 5) (C := RX4) (T := TX4) (N := 8) hx hb hts (fun _ h => List.mem_cons_of_mem _ (List.mem_append_right _ (List.mem_append_right _ (List.mem_append_right _ (List.mem_append_left _ h))))) tyX4 tyX4_ok nmX4 hown hK hP hD hS 0 rfl rfl 5 kc_l_5_8 (hts (.fieldLink RX4 25 "NotEnded$Reader" "place" "I") (List.mem_cons_of_mem _ (List.mem_append_left _ (List.mem_of_getElem? (i := 11) rfl)))) (fun _ h9 => h9) rfl (tyX4_ok 5 kc_l_5_8) rfl rfl (Nat.le_of_ble_eq_true rfl) dX4_readUnit_121 (fun H locs hP hD hS => ?_)
    have hPD : kPD dC dI A [(jR, .inr (4, [.ref jT, .ref r1, .ref r2, .int (nI (wr)), .int (nI (fi)), .int x_9, .ref q6, .ref q7])), (r1, .inl (c1, 120, .inl s1)), (r2, .inl (c2, 124, .inl s2)), (jT, .inr (8, [.ref t0, .int (nI (kt))])), (t0, .inl (cC, 120, .inl gT))] H := ⟨hP, hD⟩
    have hP := hPD.1
    have hD := hPD.2
    refine lv_aload_n hx hb dX4_readUnit_124 rfl (lv_at hl 1 rfl) ?_
    refine lv_iload_n hx hb dX4_readUnit_125 rfl (lv_at hl 2 rfl) ?_
    have hCu := kCut (wc := [(jR, .inr (4, [.ref jT, .ref r1, .ref r2, .int (nI (wr)), .int (nI (fi)), .int x_9, .ref q6, .ref q7])), (r1, .inl (c1, 120, .inl s1)), (r2, .inl (c2, 124, .inl s2)), (jT, .inr (8, [.ref t0, .int (nI (kt))])), (t0, .inl (cC, 120, .inl gT))]) hP hD hS hA [0, 1, 2, 3, 4] rfl kc_nd_311 rfl
    have hPc := hCu.1
    have hDc := hCu.2.1
    have hFc := hCu.2.2
    have hKc := hK.sb (tys2 := [(c1, .int), (c2, .int), (cC, .char)]) [0, 1, 2] rfl
    refine va_calli (va_runV (As := [.int 1]) (rest := []) ⟨hx, hb, hml, hown, hts⟩ (s_sum4_1 l dC dI jT t0 cC gT kt hkt hgT jR r1 r2 c1 c2 s1 s2 wr fi x_9 q6 q7 hwr hfi b6 n6 g6 hn6 b7 n7 g7 hn7 H.size) (cwV 1 hts (kG (List.forall_mem_cons.mpr ⟨(List.mem_cons_of_mem _ (List.mem_append_left _ (List.mem_of_getElem? (i := 32) rfl))), (List.forall_mem_cons.mpr ⟨(List.mem_cons_of_mem _ (List.mem_append_left _ (List.mem_of_getElem? (i := 31) rfl))), (List.forall_mem_cons.mpr ⟨(List.mem_cons_of_mem _ (List.mem_append_left _ (List.mem_of_getElem? (i := 30) rfl))), (List.forall_mem_cons.mpr ⟨(List.mem_cons_of_mem _ (List.mem_append_left _ (List.mem_of_getElem? (i := 0) rfl))), (fun _ h => absurd h List.not_mem_nil)⟩)⟩)⟩)⟩) (kGV _ _ _ _) (kFam (List.mem_cons_of_mem _ (List.mem_append_left _ (List.mem_of_getElem? (i := 29) rfl)))) gw_s_sum4_1) rfl rfl rfl ⟨rfl, hd_X4_readSum⟩ ⟨(Nat.le_of_ble_eq_true rfl), (Nat.le_of_ble_eq_true rfl)⟩) (kW_V kS2_blind (kS2_give hX hS hFc) (va_recv hKc hPc (ci := 4) (q0 := 0) rfl rfl) hPc hKc hDc) rfl rfl hl.1 rfl (lv_room (Nat.le_of_ble_eq_true rfl)) dX4_readUnit_126 ⟨(Nat.le_of_ble_eq_true rfl), (Nat.le_of_ble_eq_true rfl)⟩) hS (fun q _ h => hFc q h) hFc (fun r_10 => kU5 (fun S1_11 S2_12 Pl_13 Wr_14 Fi_15 t H_16 locs ht hvm hw hB hz1 hk1 hS => ?_))
    try dsimp only at hw
    have hPD : kPD dC dI A [(jR, .inr (4, [.ref jT, .ref r1, .ref r2, .int (nI (Wr_14)), .int (nI (Fi_15)), .int Pl_13, .ref q6, .ref q7])), (r1, .inl (c1, 120, .inl S1_11)), (r2, .inl (c2, 124, .inl S2_12)), (jT, .inr (8, [.ref t0, .int (nI (kt))])), (t0, .inl (cC, 120, .inl gT))] H_16 := kJoinX hP hD [0, 1, 2, 3, 4] rfl hk1 hFc hB.1 ht hB.2.2 rfl [some 0, some 1, some 2, some 3, some 4] rfl rfl
    have hP := hPD.1
    have hD := hPD.2
    have hw_17 := hw
    refine lv_if_eq (tgt := 148) hx hb dX4_readUnit_129 kc_t_129_19 (fun c_18 => ?_) (fun c_18 => ?_)
    · refine lv_iconst (v := 0) hx hb dX4_readUnit_148 kc_i_0 ?_
      have hP9 := hP
      have hD9 := hD
      have hK9 := hK
      rw [hQ]
      exact W.zret (v := 0) hx hb hr rfl (fun t ht hW => ⟨⟨0, (S1_11, S2_12, Pl_13, Wr_14, Fi_15), rfl, ⟨(Or.inl rfl), by omega, by omega⟩,  by rw [ht]; exact hP9, va_K.moved hW.alike hK9, hD9⟩, hS.F ht⟩) hS.2.2 dX4_readUnit_149
    · refine lv_aload_n hx hb dX4_readUnit_132 rfl (lv_at hl 1 rfl) ?_
      refine lv_sipush (v := 20000) hx hb dX4_readUnit_133 kc_s_20000 ?_
      refine lv_iload_n hx hb dX4_readUnit_136 rfl (lv_at hl 0 rfl) ?_
      refine lv_iadd hx hb dX4_readUnit_137 ?_
      refine lv_topi (fun x_19 ex_19 => ?_)
      have bd_20 : Wr_14 ≤ 120 := by omega
      have bd_21 : Fi_15 ≤ 124 := by omega
      have hCu := kCut (wc := [(jR, .inr (4, [.ref jT, .ref r1, .ref r2, .int (nI (Wr_14)), .int (nI (Fi_15)), .int Pl_13, .ref q6, .ref q7])), (r1, .inl (c1, 120, .inl S1_11)), (r2, .inl (c2, 124, .inl S2_12)), (jT, .inr (8, [.ref t0, .int (nI (kt))])), (t0, .inl (cC, 120, .inl gT))]) hP hD hS hA [0, 1, 2, 3, 4] rfl kc_nd_311 rfl
      have hPc := hCu.1
      have hDc := hCu.2.1
      have hFc := hCu.2.2
      have hKc := hK.sb (tys2 := [(c1, .int), (c2, .int), (cC, .char)]) [0, 1, 2] rfl
      refine va_calli (va_runV (As := [.int x_19]) (rest := []) ⟨hx, hb, hml, hown, hts⟩ (s_write4 l dC dI jT t0 cC gT kt hkt hgT jR r1 r2 c1 c2 S1_11 S2_12 Wr_14 Fi_15 Pl_13 q6 q7 bd_20 bd_21 x_19 H_16.size) (cwV 1 hts (kG (List.forall_mem_cons.mpr ⟨(List.mem_cons_of_mem _ (List.mem_append_left _ (List.mem_of_getElem? (i := 14) rfl))), (List.forall_mem_cons.mpr ⟨(List.mem_cons_of_mem _ (List.mem_append_left _ (List.mem_of_getElem? (i := 13) rfl))), (List.forall_mem_cons.mpr ⟨(List.mem_cons_of_mem _ (List.mem_append_left _ (List.mem_of_getElem? (i := 12) rfl))), (List.forall_mem_cons.mpr ⟨(List.mem_cons_of_mem _ (List.mem_append_left _ (List.mem_of_getElem? (i := 0) rfl))), (fun _ h => absurd h List.not_mem_nil)⟩)⟩)⟩)⟩) (kGV _ _ _ _) (fun _ h => List.mem_cons_of_mem _ (List.mem_append_right _ (List.mem_append_right _ (List.mem_append_right _ (List.mem_append_right _ (List.mem_append_right _ (List.mem_append_left _ h))))))) gw_s_write4) rfl rfl rfl ⟨rfl, hd_X4_write⟩ ⟨(Nat.le_of_ble_eq_true rfl), (Nat.le_of_ble_eq_true rfl)⟩) (kW_V kT_blind kT_give (va_recv hKc hPc (ci := 4) (q0 := 0) rfl rfl) hPc hKc hDc) rfl rfl hl.1 rfl (lv_room (Nat.le_of_ble_eq_true rfl)) dX4_readUnit_138 ⟨(Nat.le_of_ble_eq_true rfl), (Nat.le_of_ble_eq_true rfl)⟩) hS (fun q _ h => hFc q h) hFc (fun r_22 => kU5 (fun S1_23 S2_24 Pl_25 Wr_26 Fi_27 t H_28 locs ht hvm hw hB hz1 hk1 hS => ?_))
      try dsimp only at hw
      have hPD : kPD dC dI A [(jR, .inr (4, [.ref jT, .ref r1, .ref r2, .int (nI (Wr_26)), .int (nI (Fi_27)), .int Pl_25, .ref q6, .ref q7])), (r1, .inl (c1, 120, .inl S1_23)), (r2, .inl (c2, 124, .inl S2_24)), (jT, .inr (8, [.ref t0, .int (nI (kt))])), (t0, .inl (cC, 120, .inl gT))] H_28 := kJoinX hP hD [0, 1, 2, 3, 4] rfl hk1 hFc hB.1 ht hB.2.2 rfl [some 0, some 1, some 2, some 3, some 4] rfl rfl
      have hP := hPD.1
      have hD := hPD.2
      have hw_29 := hw
      refine lv_if_eq (tgt := 148) hx hb dX4_readUnit_141 kc_t_141_7 (fun c_30 => ?_) (fun c_30 => ?_)
      · refine lv_iconst (v := 0) hx hb dX4_readUnit_148 kc_i_0 ?_
        have hP9 := hP
        have hD9 := hD
        have hK9 := hK
        rw [hQ]
        exact W.zret (v := 0) hx hb hr rfl (fun t ht hW => ⟨⟨0, (S1_23, S2_24, Pl_25, Wr_26, Fi_27), rfl, ⟨(Or.inl rfl), by omega, by omega⟩,  by rw [ht]; exact hP9, va_K.moved hW.alike hK9, hD9⟩, hS.F ht⟩) hS.2.2 dX4_readUnit_149
      · refine lv_iconst (v := 1) hx hb dX4_readUnit_144 kc_i_1 ?_
        refine lv_goto (tgt := 149) hx hb dX4_readUnit_145 kc_t_145_4 ?_
        have hP9 := hP
        have hD9 := hD
        have hK9 := hK
        rw [hQ]
        exact W.zret (v := 1) hx hb hr rfl (fun t ht hW => ⟨⟨1, (S1_23, S2_24, Pl_25, Wr_26, Fi_27), rfl, ⟨(Or.inr rfl), by omega, by omega⟩,  by rw [ht]; exact hP9, va_K.moved hW.alike hK9, hD9⟩, hS.F ht⟩) hS.2.2 dX4_readUnit_149
  · refine lv_iconst (v := 0) hx hb dX4_readUnit_112 kc_i_0 ?_
    have hP9 := hP
    have hD9 := hD
    have hK9 := hK
    rw [hQ]
    exact W.zret (v := 0) hx hb hr rfl (fun t ht hW => ⟨⟨0, (s1, s2, Pl_3, wr, fi), rfl, ⟨(Or.inl rfl), by omega, by omega⟩,  by rw [ht]; exact hP9, va_K.moved hW.alike hK9, hD9⟩, hS.F ht⟩) hS.2.2 dX4_readUnit_113

def w_s_truth4_1_0 : List Cond := .code yX4_readTruth cX4_readTruth 4 (some .boolean) :: wf_rd
theorem gw_s_truth4_1_0 : (w_s_truth4_1_0).all goodWord = true := kFamG rfl gf_rd
set_option maxHeartbeats 4000000 in
set_option maxRecDepth 100000 in
theorem s_truth4_1_0 (l : Launch) (dC : Nat → ClassId) (dI : Nat → Nat → Nat) (jT : Nat) (t0 : Nat) (cC : ClassId) (gT : Nat → Int32) (kt : Nat) (hkt : kt ≤ 120) (hgT : ∀ j : Nat, narrow .char (.int (gT j)) = .int (gT j)) (jR : Nat) (r1 : Nat) (r2 : Nat) (c1 : ClassId) (c2 : ClassId) (s1 : Nat → Int32) (s2 : Nat → Int32) (wr : Nat) (fi : Nat) (pl : Int32) (q6 : Nat) (q7 : Nat) (hwr : wr ≤ 120) (hfi : fi ≤ 124) (b6 : Nat) (n6 : Nat) (g6 : Nat → Int32) (hn6 : n6 ≤ 8) (b7 : Nat) (n7 : Nat) (g7 : Nat → Int32) (hn7 : n7 ≤ 8) (sz : Nat) : Met l yX4_readTruth w_s_truth4_1_0 ({ frames := 40, cells := 0, slots := 0, locals := 2400 }) (kW dC dI [.ref jR, .int 1, .int 0] [(jR, .inr (4, [.ref jT, .ref r1, .ref r2, .int (nI (wr)), .int (nI (fi)), .int pl, .ref q6, .ref q7])), (r1, .inl (c1, 120, .inl s1)), (r2, .inl (c2, 124, .inl s2)), (jT, .inr (8, [.ref t0, .int (nI (kt))])), (t0, .inl (cC, 120, .inl gT))] [(c1, .int), (c2, .int), (cC, .char)] (kS2 q6 b6 n6 g6 q7 b7 n7 g7 (va_A [(jR, .inr (4, [.ref jT, .ref r1, .ref r2, .int (nI (wr)), .int (nI (fi)), .int pl, .ref q6, .ref q7])), (r1, .inl (c1, 120, .inl s1)), (r2, .inl (c2, 124, .inl s2)), (jT, .inr (8, [.ref t0, .int (nI (kt))])), (t0, .inl (cC, 120, .inl gT))] sz)) sz) (va_Qi (fun (r : Int32) (u : (Nat → Int32) × (Nat → Int32) × Int32 × Nat × Nat) => match u with | (S1, S2, Pl, Wr, Fi) => ((r = 0 ∨ r = 1) ∧ Wr ≤ 120 ∧ Fi ≤ 124)) (fun (u : (Nat → Int32) × (Nat → Int32) × Int32 × Nat × Nat) => match u with | (S1, S2, Pl, Wr, Fi) => fun t : State => kB dC dI [(jR, .inr (4, [.ref jT, .ref r1, .ref r2, .int (nI (Wr)), .int (nI (Fi)), .int Pl, .ref q6, .ref q7])), (r1, .inl (c1, 120, .inl S1)), (r2, .inl (c2, 124, .inl S2)), (jT, .inr (8, [.ref t0, .int (nI (kt))])), (t0, .inl (cC, 120, .inl gT))] [(c1, .int), (c2, .int), (cC, .char)] (va_A [(jR, .inr (4, [.ref jT, .ref r1, .ref r2, .int (nI (wr)), .int (nI (fi)), .int pl, .ref q6, .ref q7])), (r1, .inl (c1, 120, .inl s1)), (r2, .inl (c2, 124, .inl s2)), (jT, .inr (8, [.ref t0, .int (nI (kt))])), (t0, .inl (cC, 120, .inl gT))] sz) t) (va_A [(jR, .inr (4, [.ref jT, .ref r1, .ref r2, .int (nI (wr)), .int (nI (fi)), .int pl, .ref q6, .ref q7])), (r1, .inl (c1, 120, .inl s1)), (r2, .inl (c2, 124, .inl s2)), (jT, .inr (8, [.ref t0, .int (nI (kt))])), (t0, .inl (cC, 120, .inl gT))] sz)) 0 0 (va_A [(jR, .inr (4, [.ref jT, .ref r1, .ref r2, .int (nI (wr)), .int (nI (fi)), .int pl, .ref q6, .ref q7])), (r1, .inl (c1, 120, .inl s1)), (r2, .inl (c2, 124, .inl s2)), (jT, .inr (8, [.ref t0, .int (nI (kt))])), (t0, .inl (cC, 120, .inl gT))] sz) := by
  refine Met.ofW (cc := cX4_readTruth) (maxL := 4) (ret := (some .boolean)) (by decide) rfl ?_
  intro p e s m args below meth c s₁ B hml hv
  obtain ⟨rfl, hsz, hP, hK, hD0, hX⟩ := hv
  have hx := B.exec
  have hb := B.bytes
  have hr := B.returns
  have hts := atoms_spec (ws := w_s_truth4_1_0) B.pre
  have hown : s.vm.findClass RX4 = some m.cls := findClass_of_methodNamed B.named
  have hlocks := B.notSynchronized
  subst hsz
  have hD := hD0.self (sz := s.heap.size)
  generalize hAe : va_A [(jR, .inr (4, [.ref jT, .ref r1, .ref r2, .int (nI (wr)), .int (nI (fi)), .int pl, .ref q6, .ref q7])), (r1, .inl (c1, 120, .inl s1)), (r2, .inl (c2, 124, .inl s2)), (jT, .inr (8, [.ref t0, .int (nI (kt))])), (t0, .inl (cC, 120, .inl gT))] s.heap.size = A at hD hX ⊢
  have hA : ∀ q : Nat, s.heap.size ≤ q → A q := fun q h => by rw [← hAe]; exact Or.inr h
  have hS : va_S A s.heap s.heap [] := va_S.rf
  have hP : va_P (dC, dI) vwCl [(jR, .inr (4, [.ref jT, .ref r1, .ref r2, .int (nI (wr)), .int (nI (fi)), .int pl, .ref q6, .ref q7])), (r1, .inl (c1, 120, .inl s1)), (r2, .inl (c2, 124, .inl s2)), (jT, .inr (8, [.ref t0, .int (nI (kt))])), (t0, .inl (cC, 120, .inl gT))] s.heap := hP
  have hl := lv_entry ([.ref jR, .int 1, .int 0]) (n := 4) (Nat.le_of_ble_eq_true rfl)
  rw [lg_entry_eq]
  generalize (lg_sl ([.ref jR, .int 1, .int 0]) ++ List.replicate (4 - (lg_sl ([.ref jR, .int 1, .int 0])).length) Slot.unset).toArray = ls at hl ⊢
  have hl : lv_has ls 4 [(0, .ref jR), (1, .int 1), (2, .int 0)] := hl
  refine kQ (fun Q hQ => ?_)
  refine lv_aload_n hx hb dX4_readTruth_0 rfl (lv_at hl 0 rfl) ?_
  refine lv_iload_n hx hb dX4_readTruth_1 rfl (lv_at hl 1 rfl) ?_
  refine lv_iload_n hx hb dX4_readTruth_2 rfl (lv_at hl 2 rfl) ?_
  have hCu := kCut (wc := [(jR, .inr (4, [.ref jT, .ref r1, .ref r2, .int (nI (wr)), .int (nI (fi)), .int pl, .ref q6, .ref q7])), (r1, .inl (c1, 120, .inl s1)), (r2, .inl (c2, 124, .inl s2)), (jT, .inr (8, [.ref t0, .int (nI (kt))])), (t0, .inl (cC, 120, .inl gT))]) hP hD hS hA [0, 1, 2, 3, 4] rfl kc_nd_311 rfl
  have hPc := hCu.1
  have hDc := hCu.2.1
  have hFc := hCu.2.2
  have hKc := hK.sb (tys2 := [(c1, .int), (c2, .int), (cC, .char)]) [0, 1, 2] rfl
  refine va_calli (va_runV (As := [.int 1, .int 0]) (rest := []) ⟨hx, hb, hml, hown, hts⟩ (s_unit4_1_0 l dC dI jT t0 cC gT kt hkt hgT jR r1 r2 c1 c2 s1 s2 wr fi pl q6 q7 hwr hfi b6 n6 g6 hn6 b7 n7 g7 hn7 s.heap.size) (cwV 2 hts (kG (List.forall_mem_cons.mpr ⟨(List.mem_cons_of_mem _ (List.mem_append_left _ (List.mem_of_getElem? (i := 38) rfl))), (List.forall_mem_cons.mpr ⟨(List.mem_cons_of_mem _ (List.mem_append_left _ (List.mem_of_getElem? (i := 37) rfl))), (List.forall_mem_cons.mpr ⟨(List.mem_cons_of_mem _ (List.mem_append_left _ (List.mem_of_getElem? (i := 36) rfl))), (List.forall_mem_cons.mpr ⟨(List.mem_cons_of_mem _ (List.mem_append_left _ (List.mem_of_getElem? (i := 0) rfl))), (fun _ h => absurd h List.not_mem_nil)⟩)⟩)⟩)⟩) (kGV _ _ _ _) (kFam (List.mem_cons_of_mem _ (List.mem_append_left _ (List.mem_of_getElem? (i := 35) rfl)))) gw_s_unit4_1_0) rfl rfl rfl ⟨rfl, hd_X4_readUnit⟩ ⟨(Nat.le_of_ble_eq_true rfl), (Nat.le_of_ble_eq_true rfl)⟩) (kW_V kS2_blind (kS2_give hX hS hFc) (va_recv hKc hPc (ci := 4) (q0 := 0) rfl rfl) hPc hKc hDc) rfl rfl hl.1 rfl (lv_room (Nat.le_of_ble_eq_true rfl)) dX4_readTruth_3 ⟨(Nat.le_of_ble_eq_true rfl), (Nat.le_of_ble_eq_true rfl)⟩) hS (fun q _ h => hFc q h) hFc (fun r_1 => kU5 (fun S1_2 S2_3 Pl_4 Wr_5 Fi_6 t H_7 locs ht hvm hw hB hz1 hk1 hS => ?_))
  try dsimp only at hw
  have hPD : kPD dC dI A [(jR, .inr (4, [.ref jT, .ref r1, .ref r2, .int (nI (Wr_5)), .int (nI (Fi_6)), .int Pl_4, .ref q6, .ref q7])), (r1, .inl (c1, 120, .inl S1_2)), (r2, .inl (c2, 124, .inl S2_3)), (jT, .inr (8, [.ref t0, .int (nI (kt))])), (t0, .inl (cC, 120, .inl gT))] H_7 := kJoinX hP hD [0, 1, 2, 3, 4] rfl hk1 hFc hB.1 ht hB.2.2 rfl [some 0, some 1, some 2, some 3, some 4] rfl rfl
  have hP := hPD.1
  have hD := hPD.2
  have hw_8 := hw
  refine lv_if_ne (tgt := 11) hx hb dX4_readTruth_6 kc_t_6_5 (fun c_9 => ?_) (fun c_9 => ?_)
  · refine lv_iconst (v := 0) hx hb dX4_readTruth_11 kc_i_0 ?_
    refine lv_istore_n hx hb dX4_readTruth_12 rfl hl kc_l_3_4 (kTo [(3, .int 0), (0, .ref jR), (1, .int 1), (2, .int 0)]) (fun ls hl => ?_)
    have lp_k_10 : ∀ (n9 : Nat) (i : Nat) (xs1 : Nat → Int32) (xs2 : Nat → Int32) (xpl : Int32) (xwr : Nat) (xfi : Nat) (ivk_10_0 : i ≤ 120) (ivk_10_1 : xwr ≤ 120) (ivk_10_2 : xfi ≤ 124) (H : Heap) (locs : List Loc) (_ : va_P (dC, dI) vwCl [(jR, .inr (4, [.ref jT, .ref r1, .ref r2, .int (nI (xwr)), .int (nI (xfi)), .int xpl, .ref q6, .ref q7])), (r1, .inl (c1, 120, .inl xs1)), (r2, .inl (c2, 124, .inl xs2)), (jT, .inr (8, [.ref t0, .int (nI (kt))])), (t0, .inl (cC, 120, .inl gT))] H) (_ : va_D A [(jR, .inr (4, [.ref jT, .ref r1, .ref r2, .int (nI (xwr)), .int (nI (xfi)), .int xpl, .ref q6, .ref q7])), (r1, .inl (c1, 120, .inl xs1)), (r2, .inl (c2, 124, .inl xs2)), (jT, .inr (8, [.ref t0, .int (nI (kt))])), (t0, .inl (cC, 120, .inl gT))]) (_ : va_S A s.heap H locs) (ls : Array Slot) (_ : lv_has ls 4 [(3, .int (nI (i))), (0, .ref jR), (1, .int 1), (2, .int 0)]) (_ : 120 - i < n9), W p l e (headSpec w_s_truth4_1_0 ({ frames := 40, cells := 0, slots := 0, locals := 2400 })).room s m (#[.ref jR, .int 1, .int 0] : Array Value) below meth c H locs 0 0 Q (F0 m 13 ls []) := by
      intro n9
      induction n9 with
      | zero => intro i xs1 xs2 xpl xwr xfi ivk_10_0 ivk_10_1 ivk_10_2 H locs hP hD hS ls hl hm9; exact absurd hm9 (Nat.not_lt_zero _)
      | succ n9 ih_k_10 =>
        intro i xs1 xs2 xpl xwr xfi ivk_10_0 ivk_10_1 ivk_10_2 H locs hP hD hS ls hl hm9
        refine lv_iload_n hx hb dX4_readTruth_13 rfl (lv_at hl 0 rfl) ?_
        refine lv_bipush (v := 120) hx hb dX4_readTruth_14 kc_b_120 ?_
        refine lv_icmp_ge (tgt := 65) hx hb dX4_readTruth_16 kc_t_16_49 (fun c_11 => ?_) (fun c_11 => ?_)
        · have bd_13 : i < 2147483648 := by omega
          have hn_12 := kle (a := 120) (b := i) kc_31_120 bd_13 c_11
          refine lv_iconst (v := 1) hx hb dX4_readTruth_65 kc_i_1 ?_
          have hP9 := hP
          have hD9 := hD
          have hK9 := hK
          rw [hQ]
          exact W.zret (v := 1) hx hb hr rfl (fun t ht hW => ⟨⟨1, (xs1, xs2, xpl, xwr, xfi), rfl, ⟨(Or.inr rfl), by omega, by omega⟩,  by rw [ht]; exact hP9, va_K.moved hW.alike hK9, hD9⟩, hS.F ht⟩) hS.2.2 dX4_readTruth_66
        · have bd_15 : i < 2147483648 := by omega
          have hn_14 := knle (a := 120) (b := i) kc_31_120 bd_15 c_11
          refine lv_aload_n hx hb dX4_readTruth_19 rfl (lv_at hl 1 rfl) ?_
          have bd_16 : xwr ≤ 120 := by omega
          have bd_17 : xfi ≤ 124 := by omega
          have hCu := kCut (wc := [(jR, .inr (4, [.ref jT, .ref r1, .ref r2, .int (nI (xwr)), .int (nI (xfi)), .int xpl, .ref q6, .ref q7])), (r1, .inl (c1, 120, .inl xs1)), (r2, .inl (c2, 124, .inl xs2)), (jT, .inr (8, [.ref t0, .int (nI (kt))])), (t0, .inl (cC, 120, .inl gT))]) hP hD hS hA [0, 1, 2, 3, 4] rfl kc_nd_311 rfl
          have hPc := hCu.1
          have hDc := hCu.2.1
          have hFc := hCu.2.2
          have hKc := hK.sb (tys2 := [(c1, .int), (c2, .int), (cC, .char)]) [0, 1, 2] rfl
          refine va_calli (va_runV (As := []) (rest := []) ⟨hx, hb, hml, hown, hts⟩ (s_look4 l dC dI jT t0 cC gT kt hkt hgT jR r1 r2 c1 c2 xs1 xs2 xwr xfi xpl q6 q7 bd_16 bd_17 H.size) (cwV 0 hts (kG (List.forall_mem_cons.mpr ⟨(List.mem_cons_of_mem _ (List.mem_append_left _ (List.mem_of_getElem? (i := 3) rfl))), (List.forall_mem_cons.mpr ⟨(List.mem_cons_of_mem _ (List.mem_append_left _ (List.mem_of_getElem? (i := 2) rfl))), (List.forall_mem_cons.mpr ⟨(List.mem_cons_of_mem _ (List.mem_append_left _ (List.mem_of_getElem? (i := 1) rfl))), (List.forall_mem_cons.mpr ⟨(List.mem_cons_of_mem _ (List.mem_append_left _ (List.mem_of_getElem? (i := 0) rfl))), (fun _ h => absurd h List.not_mem_nil)⟩)⟩)⟩)⟩) (kGV _ _ _ _) (fun _ h => List.mem_cons_of_mem _ (List.mem_append_right _ (List.mem_append_left _ h))) gw_s_look4) rfl rfl rfl ⟨rfl, hd_X4_look⟩ ⟨(Nat.le_of_ble_eq_true rfl), (Nat.le_of_ble_eq_true rfl)⟩) (kW_V kT_blind kT_give (va_recv hKc hPc (ci := 4) (q0 := 0) rfl rfl) hPc hKc hDc) rfl rfl hl.1 rfl (lv_room (Nat.le_of_ble_eq_true rfl)) dX4_readTruth_20 ⟨(Nat.le_of_ble_eq_true rfl), (Nat.le_of_ble_eq_true rfl)⟩) hS (fun q _ h => hFc q h) hFc (fun r_18 Pl_19 t H_20 locs ht hvm hw hB hz1 hk1 hS => ?_)
          try dsimp only at hw
          have hPD : kPD dC dI A [(jR, .inr (4, [.ref jT, .ref r1, .ref r2, .int (nI (xwr)), .int (nI (xfi)), .int Pl_19, .ref q6, .ref q7])), (r1, .inl (c1, 120, .inl xs1)), (r2, .inl (c2, 124, .inl xs2)), (jT, .inr (8, [.ref t0, .int (nI (kt))])), (t0, .inl (cC, 120, .inl gT))] H_20 := kJoinX hP hD [0, 1, 2, 3, 4] rfl hk1 hFc hB.1 ht hB.2.2 rfl [some 0, some 1, some 2, some 3, some 4] rfl rfl
          have hP := hPD.1
          have hD := hPD.2
          have hw_21 := hw
          refine lv_bipush (v := 38) hx hb dX4_readTruth_23 kc_b_38 ?_
          refine lv_icmp_ne (tgt := 65) hx hb dX4_readTruth_25 kc_t_25_40 (fun c_22 => ?_) (fun c_22 => ?_)
          · refine lv_iconst (v := 1) hx hb dX4_readTruth_65 kc_i_1 ?_
            have hP9 := hP
            have hD9 := hD
            have hK9 := hK
            rw [hQ]
            exact W.zret (v := 1) hx hb hr rfl (fun t ht hW => ⟨⟨1, (xs1, xs2, Pl_19, xwr, xfi), rfl, ⟨(Or.inr rfl), by omega, by omega⟩,  by rw [ht]; exact hP9, va_K.moved hW.alike hK9, hD9⟩, hS.F ht⟩) hS.2.2 dX4_readTruth_66
          · refine lv_aload_n hx hb dX4_readTruth_28 rfl (lv_at hl 1 rfl) ?_
            refine lv_dup hx hb dX4_readTruth_29 rfl ?_
            refine va_get (D := (dC, dI)) (ci := 4) (v := .int Pl_19) (C := RX4) (T := TX4) (N := 8) hx hb hts (fun _ h => List.mem_cons_of_mem _ (List.mem_append_right _ (List.mem_append_right _ (List.mem_append_right _ (List.mem_append_left _ h))))) hown hK hP 0 rfl rfl 5 kc_l_5_8 (hts (.fieldLink RX4 25 "NotEnded$Reader" "place" "I") (List.mem_cons_of_mem _ (List.mem_append_left _ (List.mem_of_getElem? (i := 11) rfl)))) (fun _ h9 => h9) rfl dX4_readTruth_30 ?_
            refine lv_iconst (v := 1) hx hb dX4_readTruth_33 kc_i_1 ?_
            refine lv_iadd hx hb dX4_readTruth_34 ?_
            refine lv_topi (fun x_23 ex_23 => ?_)
            refine va_put (D := (dC, dI)) (ci := 4) (v := .int x_23) (ty := tyX4 5) (C := RX4) (T := TX4) (N := 8) hx hb hts (fun _ h => List.mem_cons_of_mem _ (List.mem_append_right _ (List.mem_append_right _ (List.mem_append_right _ (List.mem_append_left _ h))))) tyX4 tyX4_ok nmX4 hown hK hP hD hS 0 rfl rfl 5 kc_l_5_8 (hts (.fieldLink RX4 25 "NotEnded$Reader" "place" "I") (List.mem_cons_of_mem _ (List.mem_append_left _ (List.mem_of_getElem? (i := 11) rfl)))) (fun _ h9 => h9) rfl (tyX4_ok 5 kc_l_5_8) rfl rfl (Nat.le_of_ble_eq_true rfl) dX4_readTruth_35 (fun H locs hP hD hS => ?_)
            have hPD : kPD dC dI A [(jR, .inr (4, [.ref jT, .ref r1, .ref r2, .int (nI (xwr)), .int (nI (xfi)), .int x_23, .ref q6, .ref q7])), (r1, .inl (c1, 120, .inl xs1)), (r2, .inl (c2, 124, .inl xs2)), (jT, .inr (8, [.ref t0, .int (nI (kt))])), (t0, .inl (cC, 120, .inl gT))] H := ⟨hP, hD⟩
            have hP := hPD.1
            have hD := hPD.2
            refine lv_aload_n hx hb dX4_readTruth_38 rfl (lv_at hl 1 rfl) ?_
            refine lv_iload_n hx hb dX4_readTruth_39 rfl (lv_at hl 2 rfl) ?_
            refine lv_iconst (v := 0) hx hb dX4_readTruth_40 kc_i_0 ?_
            have hCu := kCut (wc := [(jR, .inr (4, [.ref jT, .ref r1, .ref r2, .int (nI (xwr)), .int (nI (xfi)), .int x_23, .ref q6, .ref q7])), (r1, .inl (c1, 120, .inl xs1)), (r2, .inl (c2, 124, .inl xs2)), (jT, .inr (8, [.ref t0, .int (nI (kt))])), (t0, .inl (cC, 120, .inl gT))]) hP hD hS hA [0, 1, 2, 3, 4] rfl kc_nd_311 rfl
            have hPc := hCu.1
            have hDc := hCu.2.1
            have hFc := hCu.2.2
            have hKc := hK.sb (tys2 := [(c1, .int), (c2, .int), (cC, .char)]) [0, 1, 2] rfl
            refine va_calli (va_runV (As := [.int 1, .int 0]) (rest := []) ⟨hx, hb, hml, hown, hts⟩ (s_unit4_1_0 l dC dI jT t0 cC gT kt hkt hgT jR r1 r2 c1 c2 xs1 xs2 xwr xfi x_23 q6 q7 bd_16 bd_17 b6 n6 g6 hn6 b7 n7 g7 hn7 H.size) (cwV 2 hts (kG (List.forall_mem_cons.mpr ⟨(List.mem_cons_of_mem _ (List.mem_append_left _ (List.mem_of_getElem? (i := 38) rfl))), (List.forall_mem_cons.mpr ⟨(List.mem_cons_of_mem _ (List.mem_append_left _ (List.mem_of_getElem? (i := 37) rfl))), (List.forall_mem_cons.mpr ⟨(List.mem_cons_of_mem _ (List.mem_append_left _ (List.mem_of_getElem? (i := 36) rfl))), (List.forall_mem_cons.mpr ⟨(List.mem_cons_of_mem _ (List.mem_append_left _ (List.mem_of_getElem? (i := 0) rfl))), (fun _ h => absurd h List.not_mem_nil)⟩)⟩)⟩)⟩) (kGV _ _ _ _) (kFam (List.mem_cons_of_mem _ (List.mem_append_left _ (List.mem_of_getElem? (i := 35) rfl)))) gw_s_unit4_1_0) rfl rfl rfl ⟨rfl, hd_X4_readUnit⟩ ⟨(Nat.le_of_ble_eq_true rfl), (Nat.le_of_ble_eq_true rfl)⟩) (kW_V kS2_blind (kS2_give hX hS hFc) (va_recv hKc hPc (ci := 4) (q0 := 0) rfl rfl) hPc hKc hDc) rfl rfl hl.1 rfl (lv_room (Nat.le_of_ble_eq_true rfl)) dX4_readTruth_41 ⟨(Nat.le_of_ble_eq_true rfl), (Nat.le_of_ble_eq_true rfl)⟩) hS (fun q _ h => hFc q h) hFc (fun r_24 => kU5 (fun S1_25 S2_26 Pl_27 Wr_28 Fi_29 t H_30 locs ht hvm hw hB hz1 hk1 hS => ?_))
            try dsimp only at hw
            have hPD : kPD dC dI A [(jR, .inr (4, [.ref jT, .ref r1, .ref r2, .int (nI (Wr_28)), .int (nI (Fi_29)), .int Pl_27, .ref q6, .ref q7])), (r1, .inl (c1, 120, .inl S1_25)), (r2, .inl (c2, 124, .inl S2_26)), (jT, .inr (8, [.ref t0, .int (nI (kt))])), (t0, .inl (cC, 120, .inl gT))] H_30 := kJoinX hP hD [0, 1, 2, 3, 4] rfl hk1 hFc hB.1 ht hB.2.2 rfl [some 0, some 1, some 2, some 3, some 4] rfl rfl
            have hP := hPD.1
            have hD := hPD.2
            have hw_31 := hw
            refine lv_if_eq (tgt := 57) hx hb dX4_readTruth_44 kc_t_44_13 (fun c_32 => ?_) (fun c_32 => ?_)
            · refine lv_iconst (v := 0) hx hb dX4_readTruth_57 kc_i_0 ?_
              have hP9 := hP
              have hD9 := hD
              have hK9 := hK
              rw [hQ]
              exact W.zret (v := 0) hx hb hr rfl (fun t ht hW => ⟨⟨0, (S1_25, S2_26, Pl_27, Wr_28, Fi_29), rfl, ⟨(Or.inl rfl), by omega, by omega⟩,  by rw [ht]; exact hP9, va_K.moved hW.alike hK9, hD9⟩, hS.F ht⟩) hS.2.2 dX4_readTruth_58
            · refine lv_aload_n hx hb dX4_readTruth_47 rfl (lv_at hl 1 rfl) ?_
              refine lv_sipush (v := 20038) hx hb dX4_readTruth_48 kc_s_20038 ?_
              have bd_33 : Wr_28 ≤ 120 := by omega
              have bd_34 : Fi_29 ≤ 124 := by omega
              have hCu := kCut (wc := [(jR, .inr (4, [.ref jT, .ref r1, .ref r2, .int (nI (Wr_28)), .int (nI (Fi_29)), .int Pl_27, .ref q6, .ref q7])), (r1, .inl (c1, 120, .inl S1_25)), (r2, .inl (c2, 124, .inl S2_26)), (jT, .inr (8, [.ref t0, .int (nI (kt))])), (t0, .inl (cC, 120, .inl gT))]) hP hD hS hA [0, 1, 2, 3, 4] rfl kc_nd_311 rfl
              have hPc := hCu.1
              have hDc := hCu.2.1
              have hFc := hCu.2.2
              have hKc := hK.sb (tys2 := [(c1, .int), (c2, .int), (cC, .char)]) [0, 1, 2] rfl
              refine va_calli (va_runV (As := [.int 20038]) (rest := []) ⟨hx, hb, hml, hown, hts⟩ (s_write4 l dC dI jT t0 cC gT kt hkt hgT jR r1 r2 c1 c2 S1_25 S2_26 Wr_28 Fi_29 Pl_27 q6 q7 bd_33 bd_34 20038 H_30.size) (cwV 1 hts (kG (List.forall_mem_cons.mpr ⟨(List.mem_cons_of_mem _ (List.mem_append_left _ (List.mem_of_getElem? (i := 14) rfl))), (List.forall_mem_cons.mpr ⟨(List.mem_cons_of_mem _ (List.mem_append_left _ (List.mem_of_getElem? (i := 13) rfl))), (List.forall_mem_cons.mpr ⟨(List.mem_cons_of_mem _ (List.mem_append_left _ (List.mem_of_getElem? (i := 12) rfl))), (List.forall_mem_cons.mpr ⟨(List.mem_cons_of_mem _ (List.mem_append_left _ (List.mem_of_getElem? (i := 0) rfl))), (fun _ h => absurd h List.not_mem_nil)⟩)⟩)⟩)⟩) (kGV _ _ _ _) (fun _ h => List.mem_cons_of_mem _ (List.mem_append_right _ (List.mem_append_right _ (List.mem_append_right _ (List.mem_append_right _ (List.mem_append_right _ (List.mem_append_left _ h))))))) gw_s_write4) rfl rfl rfl ⟨rfl, hd_X4_write⟩ ⟨(Nat.le_of_ble_eq_true rfl), (Nat.le_of_ble_eq_true rfl)⟩) (kW_V kT_blind kT_give (va_recv hKc hPc (ci := 4) (q0 := 0) rfl rfl) hPc hKc hDc) rfl rfl hl.1 rfl (lv_room (Nat.le_of_ble_eq_true rfl)) dX4_readTruth_51 ⟨(Nat.le_of_ble_eq_true rfl), (Nat.le_of_ble_eq_true rfl)⟩) hS (fun q _ h => hFc q h) hFc (fun r_35 => kU5 (fun S1_36 S2_37 Pl_38 Wr_39 Fi_40 t H_41 locs ht hvm hw hB hz1 hk1 hS => ?_))
              try dsimp only at hw
              have hPD : kPD dC dI A [(jR, .inr (4, [.ref jT, .ref r1, .ref r2, .int (nI (Wr_39)), .int (nI (Fi_40)), .int Pl_38, .ref q6, .ref q7])), (r1, .inl (c1, 120, .inl S1_36)), (r2, .inl (c2, 124, .inl S2_37)), (jT, .inr (8, [.ref t0, .int (nI (kt))])), (t0, .inl (cC, 120, .inl gT))] H_41 := kJoinX hP hD [0, 1, 2, 3, 4] rfl hk1 hFc hB.1 ht hB.2.2 rfl [some 0, some 1, some 2, some 3, some 4] rfl rfl
              have hP := hPD.1
              have hD := hPD.2
              have hw_42 := hw
              refine lv_if_ne (tgt := 59) hx hb dX4_readTruth_54 kc_t_54_5 (fun c_43 => ?_) (fun c_43 => ?_)
              · refine lv_iinc (v := nI (i + 1)) hx hb dX4_readTruth_59 hl (k := 0) rfl (kInc _ 1) kc_l_3_4 (kTo [(3, .int (nI (i + 1))), (0, .ref jR), (1, .int 1), (2, .int 0)]) (fun ls hl => ?_)
                refine lv_goto (tgt := 13) hx hb dX4_readTruth_62 kc_t_62_m49 ?_
                exact ih_k_10 (i + 1) S1_36 S2_37 Pl_38 Wr_39 Fi_40 (by omega) (by omega) (by omega) _ _ hP hD hS ls (lv_sub hl [0, 1, 2, 3] rfl) (by omega)
              · refine lv_iconst (v := 0) hx hb dX4_readTruth_57 kc_i_0 ?_
                have hP9 := hP
                have hD9 := hD
                have hK9 := hK
                rw [hQ]
                exact W.zret (v := 0) hx hb hr rfl (fun t ht hW => ⟨⟨0, (S1_36, S2_37, Pl_38, Wr_39, Fi_40), rfl, ⟨(Or.inl rfl), by omega, by omega⟩,  by rw [ht]; exact hP9, va_K.moved hW.alike hK9, hD9⟩, hS.F ht⟩) hS.2.2 dX4_readTruth_58
    exact lp_k_10 (120 - 0 + 1) 0 S1_2 S2_3 Pl_4 Wr_5 Fi_6 (by omega) (by omega) (by omega) _ _ hP hD hS ls (lv_sub hl [0, 1, 2, 3] rfl) (by omega)
  · refine lv_iconst (v := 0) hx hb dX4_readTruth_9 kc_i_0 ?_
    have hP9 := hP
    have hD9 := hD
    have hK9 := hK
    rw [hQ]
    exact W.zret (v := 0) hx hb hr rfl (fun t ht hW => ⟨⟨0, (S1_2, S2_3, Pl_4, Wr_5, Fi_6), rfl, ⟨(Or.inl rfl), by omega, by omega⟩,  by rw [ht]; exact hP9, va_K.moved hW.alike hK9, hD9⟩, hS.F ht⟩) hS.2.2 dX4_readTruth_10

def w_s_truth4_1_1 : List Cond := .code yX4_readTruth cX4_readTruth 4 (some .boolean) :: wf_rd
theorem gw_s_truth4_1_1 : (w_s_truth4_1_1).all goodWord = true := kFamG rfl gf_rd
set_option maxHeartbeats 4000000 in
set_option maxRecDepth 100000 in
theorem s_truth4_1_1 (l : Launch) (dC : Nat → ClassId) (dI : Nat → Nat → Nat) (jT : Nat) (t0 : Nat) (cC : ClassId) (gT : Nat → Int32) (kt : Nat) (hkt : kt ≤ 120) (hgT : ∀ j : Nat, narrow .char (.int (gT j)) = .int (gT j)) (jR : Nat) (r1 : Nat) (r2 : Nat) (c1 : ClassId) (c2 : ClassId) (s1 : Nat → Int32) (s2 : Nat → Int32) (wr : Nat) (fi : Nat) (pl : Int32) (q6 : Nat) (q7 : Nat) (hwr : wr ≤ 120) (hfi : fi ≤ 124) (b6 : Nat) (n6 : Nat) (g6 : Nat → Int32) (hn6 : n6 ≤ 8) (b7 : Nat) (n7 : Nat) (g7 : Nat → Int32) (hn7 : n7 ≤ 8) (sz : Nat) : Met l yX4_readTruth w_s_truth4_1_1 ({ frames := 40, cells := 0, slots := 0, locals := 2400 }) (kW dC dI [.ref jR, .int 1, .int 1] [(jR, .inr (4, [.ref jT, .ref r1, .ref r2, .int (nI (wr)), .int (nI (fi)), .int pl, .ref q6, .ref q7])), (r1, .inl (c1, 120, .inl s1)), (r2, .inl (c2, 124, .inl s2)), (jT, .inr (8, [.ref t0, .int (nI (kt))])), (t0, .inl (cC, 120, .inl gT))] [(c1, .int), (c2, .int), (cC, .char)] (kS2 q6 b6 n6 g6 q7 b7 n7 g7 (va_A [(jR, .inr (4, [.ref jT, .ref r1, .ref r2, .int (nI (wr)), .int (nI (fi)), .int pl, .ref q6, .ref q7])), (r1, .inl (c1, 120, .inl s1)), (r2, .inl (c2, 124, .inl s2)), (jT, .inr (8, [.ref t0, .int (nI (kt))])), (t0, .inl (cC, 120, .inl gT))] sz)) sz) (va_Qi (fun (r : Int32) (u : (Nat → Int32) × (Nat → Int32) × Int32 × Nat × Nat) => match u with | (S1, S2, Pl, Wr, Fi) => ((r = 0 ∨ r = 1) ∧ Wr ≤ 120 ∧ Fi ≤ 124)) (fun (u : (Nat → Int32) × (Nat → Int32) × Int32 × Nat × Nat) => match u with | (S1, S2, Pl, Wr, Fi) => fun t : State => kB dC dI [(jR, .inr (4, [.ref jT, .ref r1, .ref r2, .int (nI (Wr)), .int (nI (Fi)), .int Pl, .ref q6, .ref q7])), (r1, .inl (c1, 120, .inl S1)), (r2, .inl (c2, 124, .inl S2)), (jT, .inr (8, [.ref t0, .int (nI (kt))])), (t0, .inl (cC, 120, .inl gT))] [(c1, .int), (c2, .int), (cC, .char)] (va_A [(jR, .inr (4, [.ref jT, .ref r1, .ref r2, .int (nI (wr)), .int (nI (fi)), .int pl, .ref q6, .ref q7])), (r1, .inl (c1, 120, .inl s1)), (r2, .inl (c2, 124, .inl s2)), (jT, .inr (8, [.ref t0, .int (nI (kt))])), (t0, .inl (cC, 120, .inl gT))] sz) t) (va_A [(jR, .inr (4, [.ref jT, .ref r1, .ref r2, .int (nI (wr)), .int (nI (fi)), .int pl, .ref q6, .ref q7])), (r1, .inl (c1, 120, .inl s1)), (r2, .inl (c2, 124, .inl s2)), (jT, .inr (8, [.ref t0, .int (nI (kt))])), (t0, .inl (cC, 120, .inl gT))] sz)) 0 0 (va_A [(jR, .inr (4, [.ref jT, .ref r1, .ref r2, .int (nI (wr)), .int (nI (fi)), .int pl, .ref q6, .ref q7])), (r1, .inl (c1, 120, .inl s1)), (r2, .inl (c2, 124, .inl s2)), (jT, .inr (8, [.ref t0, .int (nI (kt))])), (t0, .inl (cC, 120, .inl gT))] sz) := by
  refine Met.ofW (cc := cX4_readTruth) (maxL := 4) (ret := (some .boolean)) (by decide) rfl ?_
  intro p e s m args below meth c s₁ B hml hv
  obtain ⟨rfl, hsz, hP, hK, hD0, hX⟩ := hv
  have hx := B.exec
  have hb := B.bytes
  have hr := B.returns
  have hts := atoms_spec (ws := w_s_truth4_1_1) B.pre
  have hown : s.vm.findClass RX4 = some m.cls := findClass_of_methodNamed B.named
  have hlocks := B.notSynchronized
  subst hsz
  have hD := hD0.self (sz := s.heap.size)
  generalize hAe : va_A [(jR, .inr (4, [.ref jT, .ref r1, .ref r2, .int (nI (wr)), .int (nI (fi)), .int pl, .ref q6, .ref q7])), (r1, .inl (c1, 120, .inl s1)), (r2, .inl (c2, 124, .inl s2)), (jT, .inr (8, [.ref t0, .int (nI (kt))])), (t0, .inl (cC, 120, .inl gT))] s.heap.size = A at hD hX ⊢
  have hA : ∀ q : Nat, s.heap.size ≤ q → A q := fun q h => by rw [← hAe]; exact Or.inr h
  have hS : va_S A s.heap s.heap [] := va_S.rf
  have hP : va_P (dC, dI) vwCl [(jR, .inr (4, [.ref jT, .ref r1, .ref r2, .int (nI (wr)), .int (nI (fi)), .int pl, .ref q6, .ref q7])), (r1, .inl (c1, 120, .inl s1)), (r2, .inl (c2, 124, .inl s2)), (jT, .inr (8, [.ref t0, .int (nI (kt))])), (t0, .inl (cC, 120, .inl gT))] s.heap := hP
  have hl := lv_entry ([.ref jR, .int 1, .int 1]) (n := 4) (Nat.le_of_ble_eq_true rfl)
  rw [lg_entry_eq]
  generalize (lg_sl ([.ref jR, .int 1, .int 1]) ++ List.replicate (4 - (lg_sl ([.ref jR, .int 1, .int 1])).length) Slot.unset).toArray = ls at hl ⊢
  have hl : lv_has ls 4 [(0, .ref jR), (1, .int 1), (2, .int 1)] := hl
  refine kQ (fun Q hQ => ?_)
  refine lv_aload_n hx hb dX4_readTruth_0 rfl (lv_at hl 0 rfl) ?_
  refine lv_iload_n hx hb dX4_readTruth_1 rfl (lv_at hl 1 rfl) ?_
  refine lv_iload_n hx hb dX4_readTruth_2 rfl (lv_at hl 2 rfl) ?_
  have hCu := kCut (wc := [(jR, .inr (4, [.ref jT, .ref r1, .ref r2, .int (nI (wr)), .int (nI (fi)), .int pl, .ref q6, .ref q7])), (r1, .inl (c1, 120, .inl s1)), (r2, .inl (c2, 124, .inl s2)), (jT, .inr (8, [.ref t0, .int (nI (kt))])), (t0, .inl (cC, 120, .inl gT))]) hP hD hS hA [0, 1, 2, 3, 4] rfl kc_nd_311 rfl
  have hPc := hCu.1
  have hDc := hCu.2.1
  have hFc := hCu.2.2
  have hKc := hK.sb (tys2 := [(c1, .int), (c2, .int), (cC, .char)]) [0, 1, 2] rfl
  refine va_calli (va_runV (As := [.int 1, .int 1]) (rest := []) ⟨hx, hb, hml, hown, hts⟩ (s_unit4_1_1 l dC dI jT t0 cC gT kt hkt hgT jR r1 r2 c1 c2 s1 s2 wr fi pl q6 q7 hwr hfi b6 n6 g6 hn6 b7 n7 g7 hn7 s.heap.size) (cwV 2 hts (kG (List.forall_mem_cons.mpr ⟨(List.mem_cons_of_mem _ (List.mem_append_left _ (List.mem_of_getElem? (i := 38) rfl))), (List.forall_mem_cons.mpr ⟨(List.mem_cons_of_mem _ (List.mem_append_left _ (List.mem_of_getElem? (i := 37) rfl))), (List.forall_mem_cons.mpr ⟨(List.mem_cons_of_mem _ (List.mem_append_left _ (List.mem_of_getElem? (i := 36) rfl))), (List.forall_mem_cons.mpr ⟨(List.mem_cons_of_mem _ (List.mem_append_left _ (List.mem_of_getElem? (i := 0) rfl))), (fun _ h => absurd h List.not_mem_nil)⟩)⟩)⟩)⟩) (kGV _ _ _ _) (kFam (List.mem_cons_of_mem _ (List.mem_append_left _ (List.mem_of_getElem? (i := 35) rfl)))) gw_s_unit4_1_1) rfl rfl rfl ⟨rfl, hd_X4_readUnit⟩ ⟨(Nat.le_of_ble_eq_true rfl), (Nat.le_of_ble_eq_true rfl)⟩) (kW_V kS2_blind (kS2_give hX hS hFc) (va_recv hKc hPc (ci := 4) (q0 := 0) rfl rfl) hPc hKc hDc) rfl rfl hl.1 rfl (lv_room (Nat.le_of_ble_eq_true rfl)) dX4_readTruth_3 ⟨(Nat.le_of_ble_eq_true rfl), (Nat.le_of_ble_eq_true rfl)⟩) hS (fun q _ h => hFc q h) hFc (fun r_1 => kU5 (fun S1_2 S2_3 Pl_4 Wr_5 Fi_6 t H_7 locs ht hvm hw hB hz1 hk1 hS => ?_))
  try dsimp only at hw
  have hPD : kPD dC dI A [(jR, .inr (4, [.ref jT, .ref r1, .ref r2, .int (nI (Wr_5)), .int (nI (Fi_6)), .int Pl_4, .ref q6, .ref q7])), (r1, .inl (c1, 120, .inl S1_2)), (r2, .inl (c2, 124, .inl S2_3)), (jT, .inr (8, [.ref t0, .int (nI (kt))])), (t0, .inl (cC, 120, .inl gT))] H_7 := kJoinX hP hD [0, 1, 2, 3, 4] rfl hk1 hFc hB.1 ht hB.2.2 rfl [some 0, some 1, some 2, some 3, some 4] rfl rfl
  have hP := hPD.1
  have hD := hPD.2
  have hw_8 := hw
  refine lv_if_ne (tgt := 11) hx hb dX4_readTruth_6 kc_t_6_5 (fun c_9 => ?_) (fun c_9 => ?_)
  · refine lv_iconst (v := 0) hx hb dX4_readTruth_11 kc_i_0 ?_
    refine lv_istore_n hx hb dX4_readTruth_12 rfl hl kc_l_3_4 (kTo [(3, .int 0), (0, .ref jR), (1, .int 1), (2, .int 1)]) (fun ls hl => ?_)
    have lp_k_10 : ∀ (n9 : Nat) (i : Nat) (xs1 : Nat → Int32) (xs2 : Nat → Int32) (xpl : Int32) (xwr : Nat) (xfi : Nat) (ivk_10_0 : i ≤ 120) (ivk_10_1 : xwr ≤ 120) (ivk_10_2 : xfi ≤ 124) (H : Heap) (locs : List Loc) (_ : va_P (dC, dI) vwCl [(jR, .inr (4, [.ref jT, .ref r1, .ref r2, .int (nI (xwr)), .int (nI (xfi)), .int xpl, .ref q6, .ref q7])), (r1, .inl (c1, 120, .inl xs1)), (r2, .inl (c2, 124, .inl xs2)), (jT, .inr (8, [.ref t0, .int (nI (kt))])), (t0, .inl (cC, 120, .inl gT))] H) (_ : va_D A [(jR, .inr (4, [.ref jT, .ref r1, .ref r2, .int (nI (xwr)), .int (nI (xfi)), .int xpl, .ref q6, .ref q7])), (r1, .inl (c1, 120, .inl xs1)), (r2, .inl (c2, 124, .inl xs2)), (jT, .inr (8, [.ref t0, .int (nI (kt))])), (t0, .inl (cC, 120, .inl gT))]) (_ : va_S A s.heap H locs) (ls : Array Slot) (_ : lv_has ls 4 [(3, .int (nI (i))), (0, .ref jR), (1, .int 1), (2, .int 1)]) (_ : 120 - i < n9), W p l e (headSpec w_s_truth4_1_1 ({ frames := 40, cells := 0, slots := 0, locals := 2400 })).room s m (#[.ref jR, .int 1, .int 1] : Array Value) below meth c H locs 0 0 Q (F0 m 13 ls []) := by
      intro n9
      induction n9 with
      | zero => intro i xs1 xs2 xpl xwr xfi ivk_10_0 ivk_10_1 ivk_10_2 H locs hP hD hS ls hl hm9; exact absurd hm9 (Nat.not_lt_zero _)
      | succ n9 ih_k_10 =>
        intro i xs1 xs2 xpl xwr xfi ivk_10_0 ivk_10_1 ivk_10_2 H locs hP hD hS ls hl hm9
        refine lv_iload_n hx hb dX4_readTruth_13 rfl (lv_at hl 0 rfl) ?_
        refine lv_bipush (v := 120) hx hb dX4_readTruth_14 kc_b_120 ?_
        refine lv_icmp_ge (tgt := 65) hx hb dX4_readTruth_16 kc_t_16_49 (fun c_11 => ?_) (fun c_11 => ?_)
        · have bd_13 : i < 2147483648 := by omega
          have hn_12 := kle (a := 120) (b := i) kc_31_120 bd_13 c_11
          refine lv_iconst (v := 1) hx hb dX4_readTruth_65 kc_i_1 ?_
          have hP9 := hP
          have hD9 := hD
          have hK9 := hK
          rw [hQ]
          exact W.zret (v := 1) hx hb hr rfl (fun t ht hW => ⟨⟨1, (xs1, xs2, xpl, xwr, xfi), rfl, ⟨(Or.inr rfl), by omega, by omega⟩,  by rw [ht]; exact hP9, va_K.moved hW.alike hK9, hD9⟩, hS.F ht⟩) hS.2.2 dX4_readTruth_66
        · have bd_15 : i < 2147483648 := by omega
          have hn_14 := knle (a := 120) (b := i) kc_31_120 bd_15 c_11
          refine lv_aload_n hx hb dX4_readTruth_19 rfl (lv_at hl 1 rfl) ?_
          have bd_16 : xwr ≤ 120 := by omega
          have bd_17 : xfi ≤ 124 := by omega
          have hCu := kCut (wc := [(jR, .inr (4, [.ref jT, .ref r1, .ref r2, .int (nI (xwr)), .int (nI (xfi)), .int xpl, .ref q6, .ref q7])), (r1, .inl (c1, 120, .inl xs1)), (r2, .inl (c2, 124, .inl xs2)), (jT, .inr (8, [.ref t0, .int (nI (kt))])), (t0, .inl (cC, 120, .inl gT))]) hP hD hS hA [0, 1, 2, 3, 4] rfl kc_nd_311 rfl
          have hPc := hCu.1
          have hDc := hCu.2.1
          have hFc := hCu.2.2
          have hKc := hK.sb (tys2 := [(c1, .int), (c2, .int), (cC, .char)]) [0, 1, 2] rfl
          refine va_calli (va_runV (As := []) (rest := []) ⟨hx, hb, hml, hown, hts⟩ (s_look4 l dC dI jT t0 cC gT kt hkt hgT jR r1 r2 c1 c2 xs1 xs2 xwr xfi xpl q6 q7 bd_16 bd_17 H.size) (cwV 0 hts (kG (List.forall_mem_cons.mpr ⟨(List.mem_cons_of_mem _ (List.mem_append_left _ (List.mem_of_getElem? (i := 3) rfl))), (List.forall_mem_cons.mpr ⟨(List.mem_cons_of_mem _ (List.mem_append_left _ (List.mem_of_getElem? (i := 2) rfl))), (List.forall_mem_cons.mpr ⟨(List.mem_cons_of_mem _ (List.mem_append_left _ (List.mem_of_getElem? (i := 1) rfl))), (List.forall_mem_cons.mpr ⟨(List.mem_cons_of_mem _ (List.mem_append_left _ (List.mem_of_getElem? (i := 0) rfl))), (fun _ h => absurd h List.not_mem_nil)⟩)⟩)⟩)⟩) (kGV _ _ _ _) (fun _ h => List.mem_cons_of_mem _ (List.mem_append_right _ (List.mem_append_left _ h))) gw_s_look4) rfl rfl rfl ⟨rfl, hd_X4_look⟩ ⟨(Nat.le_of_ble_eq_true rfl), (Nat.le_of_ble_eq_true rfl)⟩) (kW_V kT_blind kT_give (va_recv hKc hPc (ci := 4) (q0 := 0) rfl rfl) hPc hKc hDc) rfl rfl hl.1 rfl (lv_room (Nat.le_of_ble_eq_true rfl)) dX4_readTruth_20 ⟨(Nat.le_of_ble_eq_true rfl), (Nat.le_of_ble_eq_true rfl)⟩) hS (fun q _ h => hFc q h) hFc (fun r_18 Pl_19 t H_20 locs ht hvm hw hB hz1 hk1 hS => ?_)
          try dsimp only at hw
          have hPD : kPD dC dI A [(jR, .inr (4, [.ref jT, .ref r1, .ref r2, .int (nI (xwr)), .int (nI (xfi)), .int Pl_19, .ref q6, .ref q7])), (r1, .inl (c1, 120, .inl xs1)), (r2, .inl (c2, 124, .inl xs2)), (jT, .inr (8, [.ref t0, .int (nI (kt))])), (t0, .inl (cC, 120, .inl gT))] H_20 := kJoinX hP hD [0, 1, 2, 3, 4] rfl hk1 hFc hB.1 ht hB.2.2 rfl [some 0, some 1, some 2, some 3, some 4] rfl rfl
          have hP := hPD.1
          have hD := hPD.2
          have hw_21 := hw
          refine lv_bipush (v := 38) hx hb dX4_readTruth_23 kc_b_38 ?_
          refine lv_icmp_ne (tgt := 65) hx hb dX4_readTruth_25 kc_t_25_40 (fun c_22 => ?_) (fun c_22 => ?_)
          · refine lv_iconst (v := 1) hx hb dX4_readTruth_65 kc_i_1 ?_
            have hP9 := hP
            have hD9 := hD
            have hK9 := hK
            rw [hQ]
            exact W.zret (v := 1) hx hb hr rfl (fun t ht hW => ⟨⟨1, (xs1, xs2, Pl_19, xwr, xfi), rfl, ⟨(Or.inr rfl), by omega, by omega⟩,  by rw [ht]; exact hP9, va_K.moved hW.alike hK9, hD9⟩, hS.F ht⟩) hS.2.2 dX4_readTruth_66
          · refine lv_aload_n hx hb dX4_readTruth_28 rfl (lv_at hl 1 rfl) ?_
            refine lv_dup hx hb dX4_readTruth_29 rfl ?_
            refine va_get (D := (dC, dI)) (ci := 4) (v := .int Pl_19) (C := RX4) (T := TX4) (N := 8) hx hb hts (fun _ h => List.mem_cons_of_mem _ (List.mem_append_right _ (List.mem_append_right _ (List.mem_append_right _ (List.mem_append_left _ h))))) hown hK hP 0 rfl rfl 5 kc_l_5_8 (hts (.fieldLink RX4 25 "NotEnded$Reader" "place" "I") (List.mem_cons_of_mem _ (List.mem_append_left _ (List.mem_of_getElem? (i := 11) rfl)))) (fun _ h9 => h9) rfl dX4_readTruth_30 ?_
            refine lv_iconst (v := 1) hx hb dX4_readTruth_33 kc_i_1 ?_
            refine lv_iadd hx hb dX4_readTruth_34 ?_
            refine lv_topi (fun x_23 ex_23 => ?_)
            refine va_put (D := (dC, dI)) (ci := 4) (v := .int x_23) (ty := tyX4 5) (C := RX4) (T := TX4) (N := 8) hx hb hts (fun _ h => List.mem_cons_of_mem _ (List.mem_append_right _ (List.mem_append_right _ (List.mem_append_right _ (List.mem_append_left _ h))))) tyX4 tyX4_ok nmX4 hown hK hP hD hS 0 rfl rfl 5 kc_l_5_8 (hts (.fieldLink RX4 25 "NotEnded$Reader" "place" "I") (List.mem_cons_of_mem _ (List.mem_append_left _ (List.mem_of_getElem? (i := 11) rfl)))) (fun _ h9 => h9) rfl (tyX4_ok 5 kc_l_5_8) rfl rfl (Nat.le_of_ble_eq_true rfl) dX4_readTruth_35 (fun H locs hP hD hS => ?_)
            have hPD : kPD dC dI A [(jR, .inr (4, [.ref jT, .ref r1, .ref r2, .int (nI (xwr)), .int (nI (xfi)), .int x_23, .ref q6, .ref q7])), (r1, .inl (c1, 120, .inl xs1)), (r2, .inl (c2, 124, .inl xs2)), (jT, .inr (8, [.ref t0, .int (nI (kt))])), (t0, .inl (cC, 120, .inl gT))] H := ⟨hP, hD⟩
            have hP := hPD.1
            have hD := hPD.2
            refine lv_aload_n hx hb dX4_readTruth_38 rfl (lv_at hl 1 rfl) ?_
            refine lv_iload_n hx hb dX4_readTruth_39 rfl (lv_at hl 2 rfl) ?_
            refine lv_iconst (v := 0) hx hb dX4_readTruth_40 kc_i_0 ?_
            have hCu := kCut (wc := [(jR, .inr (4, [.ref jT, .ref r1, .ref r2, .int (nI (xwr)), .int (nI (xfi)), .int x_23, .ref q6, .ref q7])), (r1, .inl (c1, 120, .inl xs1)), (r2, .inl (c2, 124, .inl xs2)), (jT, .inr (8, [.ref t0, .int (nI (kt))])), (t0, .inl (cC, 120, .inl gT))]) hP hD hS hA [0, 1, 2, 3, 4] rfl kc_nd_311 rfl
            have hPc := hCu.1
            have hDc := hCu.2.1
            have hFc := hCu.2.2
            have hKc := hK.sb (tys2 := [(c1, .int), (c2, .int), (cC, .char)]) [0, 1, 2] rfl
            refine va_calli (va_runV (As := [.int 1, .int 0]) (rest := []) ⟨hx, hb, hml, hown, hts⟩ (s_unit4_1_0 l dC dI jT t0 cC gT kt hkt hgT jR r1 r2 c1 c2 xs1 xs2 xwr xfi x_23 q6 q7 bd_16 bd_17 b6 n6 g6 hn6 b7 n7 g7 hn7 H.size) (cwV 2 hts (kG (List.forall_mem_cons.mpr ⟨(List.mem_cons_of_mem _ (List.mem_append_left _ (List.mem_of_getElem? (i := 38) rfl))), (List.forall_mem_cons.mpr ⟨(List.mem_cons_of_mem _ (List.mem_append_left _ (List.mem_of_getElem? (i := 37) rfl))), (List.forall_mem_cons.mpr ⟨(List.mem_cons_of_mem _ (List.mem_append_left _ (List.mem_of_getElem? (i := 36) rfl))), (List.forall_mem_cons.mpr ⟨(List.mem_cons_of_mem _ (List.mem_append_left _ (List.mem_of_getElem? (i := 0) rfl))), (fun _ h => absurd h List.not_mem_nil)⟩)⟩)⟩)⟩) (kGV _ _ _ _) (kFam (List.mem_cons_of_mem _ (List.mem_append_left _ (List.mem_of_getElem? (i := 35) rfl)))) gw_s_unit4_1_0) rfl rfl rfl ⟨rfl, hd_X4_readUnit⟩ ⟨(Nat.le_of_ble_eq_true rfl), (Nat.le_of_ble_eq_true rfl)⟩) (kW_V kS2_blind (kS2_give hX hS hFc) (va_recv hKc hPc (ci := 4) (q0 := 0) rfl rfl) hPc hKc hDc) rfl rfl hl.1 rfl (lv_room (Nat.le_of_ble_eq_true rfl)) dX4_readTruth_41 ⟨(Nat.le_of_ble_eq_true rfl), (Nat.le_of_ble_eq_true rfl)⟩) hS (fun q _ h => hFc q h) hFc (fun r_24 => kU5 (fun S1_25 S2_26 Pl_27 Wr_28 Fi_29 t H_30 locs ht hvm hw hB hz1 hk1 hS => ?_))
            try dsimp only at hw
            have hPD : kPD dC dI A [(jR, .inr (4, [.ref jT, .ref r1, .ref r2, .int (nI (Wr_28)), .int (nI (Fi_29)), .int Pl_27, .ref q6, .ref q7])), (r1, .inl (c1, 120, .inl S1_25)), (r2, .inl (c2, 124, .inl S2_26)), (jT, .inr (8, [.ref t0, .int (nI (kt))])), (t0, .inl (cC, 120, .inl gT))] H_30 := kJoinX hP hD [0, 1, 2, 3, 4] rfl hk1 hFc hB.1 ht hB.2.2 rfl [some 0, some 1, some 2, some 3, some 4] rfl rfl
            have hP := hPD.1
            have hD := hPD.2
            have hw_31 := hw
            refine lv_if_eq (tgt := 57) hx hb dX4_readTruth_44 kc_t_44_13 (fun c_32 => ?_) (fun c_32 => ?_)
            · refine lv_iconst (v := 0) hx hb dX4_readTruth_57 kc_i_0 ?_
              have hP9 := hP
              have hD9 := hD
              have hK9 := hK
              rw [hQ]
              exact W.zret (v := 0) hx hb hr rfl (fun t ht hW => ⟨⟨0, (S1_25, S2_26, Pl_27, Wr_28, Fi_29), rfl, ⟨(Or.inl rfl), by omega, by omega⟩,  by rw [ht]; exact hP9, va_K.moved hW.alike hK9, hD9⟩, hS.F ht⟩) hS.2.2 dX4_readTruth_58
            · refine lv_aload_n hx hb dX4_readTruth_47 rfl (lv_at hl 1 rfl) ?_
              refine lv_sipush (v := 20038) hx hb dX4_readTruth_48 kc_s_20038 ?_
              have bd_33 : Wr_28 ≤ 120 := by omega
              have bd_34 : Fi_29 ≤ 124 := by omega
              have hCu := kCut (wc := [(jR, .inr (4, [.ref jT, .ref r1, .ref r2, .int (nI (Wr_28)), .int (nI (Fi_29)), .int Pl_27, .ref q6, .ref q7])), (r1, .inl (c1, 120, .inl S1_25)), (r2, .inl (c2, 124, .inl S2_26)), (jT, .inr (8, [.ref t0, .int (nI (kt))])), (t0, .inl (cC, 120, .inl gT))]) hP hD hS hA [0, 1, 2, 3, 4] rfl kc_nd_311 rfl
              have hPc := hCu.1
              have hDc := hCu.2.1
              have hFc := hCu.2.2
              have hKc := hK.sb (tys2 := [(c1, .int), (c2, .int), (cC, .char)]) [0, 1, 2] rfl
              refine va_calli (va_runV (As := [.int 20038]) (rest := []) ⟨hx, hb, hml, hown, hts⟩ (s_write4 l dC dI jT t0 cC gT kt hkt hgT jR r1 r2 c1 c2 S1_25 S2_26 Wr_28 Fi_29 Pl_27 q6 q7 bd_33 bd_34 20038 H_30.size) (cwV 1 hts (kG (List.forall_mem_cons.mpr ⟨(List.mem_cons_of_mem _ (List.mem_append_left _ (List.mem_of_getElem? (i := 14) rfl))), (List.forall_mem_cons.mpr ⟨(List.mem_cons_of_mem _ (List.mem_append_left _ (List.mem_of_getElem? (i := 13) rfl))), (List.forall_mem_cons.mpr ⟨(List.mem_cons_of_mem _ (List.mem_append_left _ (List.mem_of_getElem? (i := 12) rfl))), (List.forall_mem_cons.mpr ⟨(List.mem_cons_of_mem _ (List.mem_append_left _ (List.mem_of_getElem? (i := 0) rfl))), (fun _ h => absurd h List.not_mem_nil)⟩)⟩)⟩)⟩) (kGV _ _ _ _) (fun _ h => List.mem_cons_of_mem _ (List.mem_append_right _ (List.mem_append_right _ (List.mem_append_right _ (List.mem_append_right _ (List.mem_append_right _ (List.mem_append_left _ h))))))) gw_s_write4) rfl rfl rfl ⟨rfl, hd_X4_write⟩ ⟨(Nat.le_of_ble_eq_true rfl), (Nat.le_of_ble_eq_true rfl)⟩) (kW_V kT_blind kT_give (va_recv hKc hPc (ci := 4) (q0 := 0) rfl rfl) hPc hKc hDc) rfl rfl hl.1 rfl (lv_room (Nat.le_of_ble_eq_true rfl)) dX4_readTruth_51 ⟨(Nat.le_of_ble_eq_true rfl), (Nat.le_of_ble_eq_true rfl)⟩) hS (fun q _ h => hFc q h) hFc (fun r_35 => kU5 (fun S1_36 S2_37 Pl_38 Wr_39 Fi_40 t H_41 locs ht hvm hw hB hz1 hk1 hS => ?_))
              try dsimp only at hw
              have hPD : kPD dC dI A [(jR, .inr (4, [.ref jT, .ref r1, .ref r2, .int (nI (Wr_39)), .int (nI (Fi_40)), .int Pl_38, .ref q6, .ref q7])), (r1, .inl (c1, 120, .inl S1_36)), (r2, .inl (c2, 124, .inl S2_37)), (jT, .inr (8, [.ref t0, .int (nI (kt))])), (t0, .inl (cC, 120, .inl gT))] H_41 := kJoinX hP hD [0, 1, 2, 3, 4] rfl hk1 hFc hB.1 ht hB.2.2 rfl [some 0, some 1, some 2, some 3, some 4] rfl rfl
              have hP := hPD.1
              have hD := hPD.2
              have hw_42 := hw
              refine lv_if_ne (tgt := 59) hx hb dX4_readTruth_54 kc_t_54_5 (fun c_43 => ?_) (fun c_43 => ?_)
              · refine lv_iinc (v := nI (i + 1)) hx hb dX4_readTruth_59 hl (k := 0) rfl (kInc _ 1) kc_l_3_4 (kTo [(3, .int (nI (i + 1))), (0, .ref jR), (1, .int 1), (2, .int 1)]) (fun ls hl => ?_)
                refine lv_goto (tgt := 13) hx hb dX4_readTruth_62 kc_t_62_m49 ?_
                exact ih_k_10 (i + 1) S1_36 S2_37 Pl_38 Wr_39 Fi_40 (by omega) (by omega) (by omega) _ _ hP hD hS ls (lv_sub hl [0, 1, 2, 3] rfl) (by omega)
              · refine lv_iconst (v := 0) hx hb dX4_readTruth_57 kc_i_0 ?_
                have hP9 := hP
                have hD9 := hD
                have hK9 := hK
                rw [hQ]
                exact W.zret (v := 0) hx hb hr rfl (fun t ht hW => ⟨⟨0, (S1_36, S2_37, Pl_38, Wr_39, Fi_40), rfl, ⟨(Or.inl rfl), by omega, by omega⟩,  by rw [ht]; exact hP9, va_K.moved hW.alike hK9, hD9⟩, hS.F ht⟩) hS.2.2 dX4_readTruth_58
    exact lp_k_10 (120 - 0 + 1) 0 S1_2 S2_3 Pl_4 Wr_5 Fi_6 (by omega) (by omega) (by omega) _ _ hP hD hS ls (lv_sub hl [0, 1, 2, 3] rfl) (by omega)
  · refine lv_iconst (v := 0) hx hb dX4_readTruth_9 kc_i_0 ?_
    have hP9 := hP
    have hD9 := hD
    have hK9 := hK
    rw [hQ]
    exact W.zret (v := 0) hx hb hr rfl (fun t ht hW => ⟨⟨0, (S1_2, S2_3, Pl_4, Wr_5, Fi_6), rfl, ⟨(Or.inl rfl), by omega, by omega⟩,  by rw [ht]; exact hP9, va_K.moved hW.alike hK9, hD9⟩, hS.F ht⟩) hS.2.2 dX4_readTruth_10

def w_s_cond4_1_0 : List Cond := .code yX4_readCondition cX4_readCondition 4 (some .boolean) :: wf_rd
theorem gw_s_cond4_1_0 : (w_s_cond4_1_0).all goodWord = true := kFamG rfl gf_rd
set_option maxHeartbeats 4000000 in
set_option maxRecDepth 100000 in
theorem s_cond4_1_0 (l : Launch) (dC : Nat → ClassId) (dI : Nat → Nat → Nat) (jT : Nat) (t0 : Nat) (cC : ClassId) (gT : Nat → Int32) (kt : Nat) (hkt : kt ≤ 120) (hgT : ∀ j : Nat, narrow .char (.int (gT j)) = .int (gT j)) (jR : Nat) (r1 : Nat) (r2 : Nat) (c1 : ClassId) (c2 : ClassId) (s1 : Nat → Int32) (s2 : Nat → Int32) (wr : Nat) (fi : Nat) (pl : Int32) (q6 : Nat) (q7 : Nat) (hwr : wr ≤ 120) (hfi : fi ≤ 124) (b6 : Nat) (n6 : Nat) (g6 : Nat → Int32) (hn6 : n6 ≤ 8) (b7 : Nat) (n7 : Nat) (g7 : Nat → Int32) (hn7 : n7 ≤ 8) (sz : Nat) : Met l yX4_readCondition w_s_cond4_1_0 ({ frames := 41, cells := 0, slots := 0, locals := 2460 }) (kW dC dI [.ref jR, .int 1, .int 0] [(jR, .inr (4, [.ref jT, .ref r1, .ref r2, .int (nI (wr)), .int (nI (fi)), .int pl, .ref q6, .ref q7])), (r1, .inl (c1, 120, .inl s1)), (r2, .inl (c2, 124, .inl s2)), (jT, .inr (8, [.ref t0, .int (nI (kt))])), (t0, .inl (cC, 120, .inl gT))] [(c1, .int), (c2, .int), (cC, .char)] (kS2 q6 b6 n6 g6 q7 b7 n7 g7 (va_A [(jR, .inr (4, [.ref jT, .ref r1, .ref r2, .int (nI (wr)), .int (nI (fi)), .int pl, .ref q6, .ref q7])), (r1, .inl (c1, 120, .inl s1)), (r2, .inl (c2, 124, .inl s2)), (jT, .inr (8, [.ref t0, .int (nI (kt))])), (t0, .inl (cC, 120, .inl gT))] sz)) sz) (va_Qi (fun (r : Int32) (u : (Nat → Int32) × (Nat → Int32) × Int32 × Nat × Nat) => match u with | (S1, S2, Pl, Wr, Fi) => ((r = 0 ∨ r = 1) ∧ Wr ≤ 120 ∧ Fi ≤ 124)) (fun (u : (Nat → Int32) × (Nat → Int32) × Int32 × Nat × Nat) => match u with | (S1, S2, Pl, Wr, Fi) => fun t : State => kB dC dI [(jR, .inr (4, [.ref jT, .ref r1, .ref r2, .int (nI (Wr)), .int (nI (Fi)), .int Pl, .ref q6, .ref q7])), (r1, .inl (c1, 120, .inl S1)), (r2, .inl (c2, 124, .inl S2)), (jT, .inr (8, [.ref t0, .int (nI (kt))])), (t0, .inl (cC, 120, .inl gT))] [(c1, .int), (c2, .int), (cC, .char)] (va_A [(jR, .inr (4, [.ref jT, .ref r1, .ref r2, .int (nI (wr)), .int (nI (fi)), .int pl, .ref q6, .ref q7])), (r1, .inl (c1, 120, .inl s1)), (r2, .inl (c2, 124, .inl s2)), (jT, .inr (8, [.ref t0, .int (nI (kt))])), (t0, .inl (cC, 120, .inl gT))] sz) t) (va_A [(jR, .inr (4, [.ref jT, .ref r1, .ref r2, .int (nI (wr)), .int (nI (fi)), .int pl, .ref q6, .ref q7])), (r1, .inl (c1, 120, .inl s1)), (r2, .inl (c2, 124, .inl s2)), (jT, .inr (8, [.ref t0, .int (nI (kt))])), (t0, .inl (cC, 120, .inl gT))] sz)) 0 0 (va_A [(jR, .inr (4, [.ref jT, .ref r1, .ref r2, .int (nI (wr)), .int (nI (fi)), .int pl, .ref q6, .ref q7])), (r1, .inl (c1, 120, .inl s1)), (r2, .inl (c2, 124, .inl s2)), (jT, .inr (8, [.ref t0, .int (nI (kt))])), (t0, .inl (cC, 120, .inl gT))] sz) := by
  refine Met.ofW (cc := cX4_readCondition) (maxL := 4) (ret := (some .boolean)) (by decide) rfl ?_
  intro p e s m args below meth c s₁ B hml hv
  obtain ⟨rfl, hsz, hP, hK, hD0, hX⟩ := hv
  have hx := B.exec
  have hb := B.bytes
  have hr := B.returns
  have hts := atoms_spec (ws := w_s_cond4_1_0) B.pre
  have hown : s.vm.findClass RX4 = some m.cls := findClass_of_methodNamed B.named
  have hlocks := B.notSynchronized
  subst hsz
  have hD := hD0.self (sz := s.heap.size)
  generalize hAe : va_A [(jR, .inr (4, [.ref jT, .ref r1, .ref r2, .int (nI (wr)), .int (nI (fi)), .int pl, .ref q6, .ref q7])), (r1, .inl (c1, 120, .inl s1)), (r2, .inl (c2, 124, .inl s2)), (jT, .inr (8, [.ref t0, .int (nI (kt))])), (t0, .inl (cC, 120, .inl gT))] s.heap.size = A at hD hX ⊢
  have hA : ∀ q : Nat, s.heap.size ≤ q → A q := fun q h => by rw [← hAe]; exact Or.inr h
  have hS : va_S A s.heap s.heap [] := va_S.rf
  have hP : va_P (dC, dI) vwCl [(jR, .inr (4, [.ref jT, .ref r1, .ref r2, .int (nI (wr)), .int (nI (fi)), .int pl, .ref q6, .ref q7])), (r1, .inl (c1, 120, .inl s1)), (r2, .inl (c2, 124, .inl s2)), (jT, .inr (8, [.ref t0, .int (nI (kt))])), (t0, .inl (cC, 120, .inl gT))] s.heap := hP
  have hl := lv_entry ([.ref jR, .int 1, .int 0]) (n := 4) (Nat.le_of_ble_eq_true rfl)
  rw [lg_entry_eq]
  generalize (lg_sl ([.ref jR, .int 1, .int 0]) ++ List.replicate (4 - (lg_sl ([.ref jR, .int 1, .int 0])).length) Slot.unset).toArray = ls at hl ⊢
  have hl : lv_has ls 4 [(0, .ref jR), (1, .int 1), (2, .int 0)] := hl
  refine kQ (fun Q hQ => ?_)
  refine lv_aload_n hx hb dX4_readCondition_0 rfl (lv_at hl 0 rfl) ?_
  refine lv_iload_n hx hb dX4_readCondition_1 rfl (lv_at hl 1 rfl) ?_
  refine lv_iload_n hx hb dX4_readCondition_2 rfl (lv_at hl 2 rfl) ?_
  have hCu := kCut (wc := [(jR, .inr (4, [.ref jT, .ref r1, .ref r2, .int (nI (wr)), .int (nI (fi)), .int pl, .ref q6, .ref q7])), (r1, .inl (c1, 120, .inl s1)), (r2, .inl (c2, 124, .inl s2)), (jT, .inr (8, [.ref t0, .int (nI (kt))])), (t0, .inl (cC, 120, .inl gT))]) hP hD hS hA [0, 1, 2, 3, 4] rfl kc_nd_311 rfl
  have hPc := hCu.1
  have hDc := hCu.2.1
  have hFc := hCu.2.2
  have hKc := hK.sb (tys2 := [(c1, .int), (c2, .int), (cC, .char)]) [0, 1, 2] rfl
  refine va_calli (va_runV (As := [.int 1, .int 0]) (rest := []) ⟨hx, hb, hml, hown, hts⟩ (s_truth4_1_0 l dC dI jT t0 cC gT kt hkt hgT jR r1 r2 c1 c2 s1 s2 wr fi pl q6 q7 hwr hfi b6 n6 g6 hn6 b7 n7 g7 hn7 s.heap.size) (cwV 2 hts (kG (List.forall_mem_cons.mpr ⟨(List.mem_cons_of_mem _ (List.mem_append_left _ (List.mem_of_getElem? (i := 42) rfl))), (List.forall_mem_cons.mpr ⟨(List.mem_cons_of_mem _ (List.mem_append_left _ (List.mem_of_getElem? (i := 41) rfl))), (List.forall_mem_cons.mpr ⟨(List.mem_cons_of_mem _ (List.mem_append_left _ (List.mem_of_getElem? (i := 40) rfl))), (List.forall_mem_cons.mpr ⟨(List.mem_cons_of_mem _ (List.mem_append_left _ (List.mem_of_getElem? (i := 0) rfl))), (fun _ h => absurd h List.not_mem_nil)⟩)⟩)⟩)⟩) (kGV _ _ _ _) (kFam (List.mem_cons_of_mem _ (List.mem_append_left _ (List.mem_of_getElem? (i := 39) rfl)))) gw_s_truth4_1_0) rfl rfl rfl ⟨rfl, hd_X4_readTruth⟩ ⟨(Nat.le_of_ble_eq_true rfl), (Nat.le_of_ble_eq_true rfl)⟩) (kW_V kS2_blind (kS2_give hX hS hFc) (va_recv hKc hPc (ci := 4) (q0 := 0) rfl rfl) hPc hKc hDc) rfl rfl hl.1 rfl (lv_room (Nat.le_of_ble_eq_true rfl)) dX4_readCondition_3 ⟨(Nat.le_of_ble_eq_true rfl), (Nat.le_of_ble_eq_true rfl)⟩) hS (fun q _ h => hFc q h) hFc (fun r_1 => kU5 (fun S1_2 S2_3 Pl_4 Wr_5 Fi_6 t H_7 locs ht hvm hw hB hz1 hk1 hS => ?_))
  try dsimp only at hw
  have hPD : kPD dC dI A [(jR, .inr (4, [.ref jT, .ref r1, .ref r2, .int (nI (Wr_5)), .int (nI (Fi_6)), .int Pl_4, .ref q6, .ref q7])), (r1, .inl (c1, 120, .inl S1_2)), (r2, .inl (c2, 124, .inl S2_3)), (jT, .inr (8, [.ref t0, .int (nI (kt))])), (t0, .inl (cC, 120, .inl gT))] H_7 := kJoinX hP hD [0, 1, 2, 3, 4] rfl hk1 hFc hB.1 ht hB.2.2 rfl [some 0, some 1, some 2, some 3, some 4] rfl rfl
  have hP := hPD.1
  have hD := hPD.2
  have hw_8 := hw
  refine lv_if_ne (tgt := 11) hx hb dX4_readCondition_6 kc_t_6_5 (fun c_9 => ?_) (fun c_9 => ?_)
  · refine lv_iconst (v := 0) hx hb dX4_readCondition_11 kc_i_0 ?_
    refine lv_istore_n hx hb dX4_readCondition_12 rfl hl kc_l_3_4 (kTo [(3, .int 0), (0, .ref jR), (1, .int 1), (2, .int 0)]) (fun ls hl => ?_)
    have lp_k_10 : ∀ (n9 : Nat) (i : Nat) (xs1 : Nat → Int32) (xs2 : Nat → Int32) (xpl : Int32) (xwr : Nat) (xfi : Nat) (ivk_10_0 : i ≤ 120) (ivk_10_1 : xwr ≤ 120) (ivk_10_2 : xfi ≤ 124) (H : Heap) (locs : List Loc) (_ : va_P (dC, dI) vwCl [(jR, .inr (4, [.ref jT, .ref r1, .ref r2, .int (nI (xwr)), .int (nI (xfi)), .int xpl, .ref q6, .ref q7])), (r1, .inl (c1, 120, .inl xs1)), (r2, .inl (c2, 124, .inl xs2)), (jT, .inr (8, [.ref t0, .int (nI (kt))])), (t0, .inl (cC, 120, .inl gT))] H) (_ : va_D A [(jR, .inr (4, [.ref jT, .ref r1, .ref r2, .int (nI (xwr)), .int (nI (xfi)), .int xpl, .ref q6, .ref q7])), (r1, .inl (c1, 120, .inl xs1)), (r2, .inl (c2, 124, .inl xs2)), (jT, .inr (8, [.ref t0, .int (nI (kt))])), (t0, .inl (cC, 120, .inl gT))]) (_ : va_S A s.heap H locs) (ls : Array Slot) (_ : lv_has ls 4 [(3, .int (nI (i))), (0, .ref jR), (1, .int 1), (2, .int 0)]) (_ : 120 - i < n9), W p l e (headSpec w_s_cond4_1_0 ({ frames := 41, cells := 0, slots := 0, locals := 2460 })).room s m (#[.ref jR, .int 1, .int 0] : Array Value) below meth c H locs 0 0 Q (F0 m 13 ls []) := by
      intro n9
      induction n9 with
      | zero => intro i xs1 xs2 xpl xwr xfi ivk_10_0 ivk_10_1 ivk_10_2 H locs hP hD hS ls hl hm9; exact absurd hm9 (Nat.not_lt_zero _)
      | succ n9 ih_k_10 =>
        intro i xs1 xs2 xpl xwr xfi ivk_10_0 ivk_10_1 ivk_10_2 H locs hP hD hS ls hl hm9
        refine lv_iload_n hx hb dX4_readCondition_13 rfl (lv_at hl 0 rfl) ?_
        refine lv_bipush (v := 120) hx hb dX4_readCondition_14 kc_b_120 ?_
        refine lv_icmp_ge (tgt := 65) hx hb dX4_readCondition_16 kc_t_16_49 (fun c_11 => ?_) (fun c_11 => ?_)
        · have bd_13 : i < 2147483648 := by omega
          have hn_12 := kle (a := 120) (b := i) kc_31_120 bd_13 c_11
          refine lv_iconst (v := 1) hx hb dX4_readCondition_65 kc_i_1 ?_
          have hP9 := hP
          have hD9 := hD
          have hK9 := hK
          rw [hQ]
          exact W.zret (v := 1) hx hb hr rfl (fun t ht hW => ⟨⟨1, (xs1, xs2, xpl, xwr, xfi), rfl, ⟨(Or.inr rfl), by omega, by omega⟩,  by rw [ht]; exact hP9, va_K.moved hW.alike hK9, hD9⟩, hS.F ht⟩) hS.2.2 dX4_readCondition_66
        · have bd_15 : i < 2147483648 := by omega
          have hn_14 := knle (a := 120) (b := i) kc_31_120 bd_15 c_11
          refine lv_aload_n hx hb dX4_readCondition_19 rfl (lv_at hl 1 rfl) ?_
          have bd_16 : xwr ≤ 120 := by omega
          have bd_17 : xfi ≤ 124 := by omega
          have hCu := kCut (wc := [(jR, .inr (4, [.ref jT, .ref r1, .ref r2, .int (nI (xwr)), .int (nI (xfi)), .int xpl, .ref q6, .ref q7])), (r1, .inl (c1, 120, .inl xs1)), (r2, .inl (c2, 124, .inl xs2)), (jT, .inr (8, [.ref t0, .int (nI (kt))])), (t0, .inl (cC, 120, .inl gT))]) hP hD hS hA [0, 1, 2, 3, 4] rfl kc_nd_311 rfl
          have hPc := hCu.1
          have hDc := hCu.2.1
          have hFc := hCu.2.2
          have hKc := hK.sb (tys2 := [(c1, .int), (c2, .int), (cC, .char)]) [0, 1, 2] rfl
          refine va_calli (va_runV (As := []) (rest := []) ⟨hx, hb, hml, hown, hts⟩ (s_look4 l dC dI jT t0 cC gT kt hkt hgT jR r1 r2 c1 c2 xs1 xs2 xwr xfi xpl q6 q7 bd_16 bd_17 H.size) (cwV 0 hts (kG (List.forall_mem_cons.mpr ⟨(List.mem_cons_of_mem _ (List.mem_append_left _ (List.mem_of_getElem? (i := 3) rfl))), (List.forall_mem_cons.mpr ⟨(List.mem_cons_of_mem _ (List.mem_append_left _ (List.mem_of_getElem? (i := 2) rfl))), (List.forall_mem_cons.mpr ⟨(List.mem_cons_of_mem _ (List.mem_append_left _ (List.mem_of_getElem? (i := 1) rfl))), (List.forall_mem_cons.mpr ⟨(List.mem_cons_of_mem _ (List.mem_append_left _ (List.mem_of_getElem? (i := 0) rfl))), (fun _ h => absurd h List.not_mem_nil)⟩)⟩)⟩)⟩) (kGV _ _ _ _) (fun _ h => List.mem_cons_of_mem _ (List.mem_append_right _ (List.mem_append_left _ h))) gw_s_look4) rfl rfl rfl ⟨rfl, hd_X4_look⟩ ⟨(Nat.le_of_ble_eq_true rfl), (Nat.le_of_ble_eq_true rfl)⟩) (kW_V kT_blind kT_give (va_recv hKc hPc (ci := 4) (q0 := 0) rfl rfl) hPc hKc hDc) rfl rfl hl.1 rfl (lv_room (Nat.le_of_ble_eq_true rfl)) dX4_readCondition_20 ⟨(Nat.le_of_ble_eq_true rfl), (Nat.le_of_ble_eq_true rfl)⟩) hS (fun q _ h => hFc q h) hFc (fun r_18 Pl_19 t H_20 locs ht hvm hw hB hz1 hk1 hS => ?_)
          try dsimp only at hw
          have hPD : kPD dC dI A [(jR, .inr (4, [.ref jT, .ref r1, .ref r2, .int (nI (xwr)), .int (nI (xfi)), .int Pl_19, .ref q6, .ref q7])), (r1, .inl (c1, 120, .inl xs1)), (r2, .inl (c2, 124, .inl xs2)), (jT, .inr (8, [.ref t0, .int (nI (kt))])), (t0, .inl (cC, 120, .inl gT))] H_20 := kJoinX hP hD [0, 1, 2, 3, 4] rfl hk1 hFc hB.1 ht hB.2.2 rfl [some 0, some 1, some 2, some 3, some 4] rfl rfl
          have hP := hPD.1
          have hD := hPD.2
          have hw_21 := hw
          refine lv_bipush (v := 124) hx hb dX4_readCondition_23 kc_b_124 ?_
          refine lv_icmp_ne (tgt := 65) hx hb dX4_readCondition_25 kc_t_25_40 (fun c_22 => ?_) (fun c_22 => ?_)
          · refine lv_iconst (v := 1) hx hb dX4_readCondition_65 kc_i_1 ?_
            have hP9 := hP
            have hD9 := hD
            have hK9 := hK
            rw [hQ]
            exact W.zret (v := 1) hx hb hr rfl (fun t ht hW => ⟨⟨1, (xs1, xs2, Pl_19, xwr, xfi), rfl, ⟨(Or.inr rfl), by omega, by omega⟩,  by rw [ht]; exact hP9, va_K.moved hW.alike hK9, hD9⟩, hS.F ht⟩) hS.2.2 dX4_readCondition_66
          · refine lv_aload_n hx hb dX4_readCondition_28 rfl (lv_at hl 1 rfl) ?_
            refine lv_dup hx hb dX4_readCondition_29 rfl ?_
            refine va_get (D := (dC, dI)) (ci := 4) (v := .int Pl_19) (C := RX4) (T := TX4) (N := 8) hx hb hts (fun _ h => List.mem_cons_of_mem _ (List.mem_append_right _ (List.mem_append_right _ (List.mem_append_right _ (List.mem_append_left _ h))))) hown hK hP 0 rfl rfl 5 kc_l_5_8 (hts (.fieldLink RX4 25 "NotEnded$Reader" "place" "I") (List.mem_cons_of_mem _ (List.mem_append_left _ (List.mem_of_getElem? (i := 11) rfl)))) (fun _ h9 => h9) rfl dX4_readCondition_30 ?_
            refine lv_iconst (v := 1) hx hb dX4_readCondition_33 kc_i_1 ?_
            refine lv_iadd hx hb dX4_readCondition_34 ?_
            refine lv_topi (fun x_23 ex_23 => ?_)
            refine va_put (D := (dC, dI)) (ci := 4) (v := .int x_23) (ty := tyX4 5) (C := RX4) (T := TX4) (N := 8) hx hb hts (fun _ h => List.mem_cons_of_mem _ (List.mem_append_right _ (List.mem_append_right _ (List.mem_append_right _ (List.mem_append_left _ h))))) tyX4 tyX4_ok nmX4 hown hK hP hD hS 0 rfl rfl 5 kc_l_5_8 (hts (.fieldLink RX4 25 "NotEnded$Reader" "place" "I") (List.mem_cons_of_mem _ (List.mem_append_left _ (List.mem_of_getElem? (i := 11) rfl)))) (fun _ h9 => h9) rfl (tyX4_ok 5 kc_l_5_8) rfl rfl (Nat.le_of_ble_eq_true rfl) dX4_readCondition_35 (fun H locs hP hD hS => ?_)
            have hPD : kPD dC dI A [(jR, .inr (4, [.ref jT, .ref r1, .ref r2, .int (nI (xwr)), .int (nI (xfi)), .int x_23, .ref q6, .ref q7])), (r1, .inl (c1, 120, .inl xs1)), (r2, .inl (c2, 124, .inl xs2)), (jT, .inr (8, [.ref t0, .int (nI (kt))])), (t0, .inl (cC, 120, .inl gT))] H := ⟨hP, hD⟩
            have hP := hPD.1
            have hD := hPD.2
            refine lv_aload_n hx hb dX4_readCondition_38 rfl (lv_at hl 1 rfl) ?_
            refine lv_iload_n hx hb dX4_readCondition_39 rfl (lv_at hl 2 rfl) ?_
            refine lv_iconst (v := 0) hx hb dX4_readCondition_40 kc_i_0 ?_
            have hCu := kCut (wc := [(jR, .inr (4, [.ref jT, .ref r1, .ref r2, .int (nI (xwr)), .int (nI (xfi)), .int x_23, .ref q6, .ref q7])), (r1, .inl (c1, 120, .inl xs1)), (r2, .inl (c2, 124, .inl xs2)), (jT, .inr (8, [.ref t0, .int (nI (kt))])), (t0, .inl (cC, 120, .inl gT))]) hP hD hS hA [0, 1, 2, 3, 4] rfl kc_nd_311 rfl
            have hPc := hCu.1
            have hDc := hCu.2.1
            have hFc := hCu.2.2
            have hKc := hK.sb (tys2 := [(c1, .int), (c2, .int), (cC, .char)]) [0, 1, 2] rfl
            refine va_calli (va_runV (As := [.int 1, .int 0]) (rest := []) ⟨hx, hb, hml, hown, hts⟩ (s_truth4_1_0 l dC dI jT t0 cC gT kt hkt hgT jR r1 r2 c1 c2 xs1 xs2 xwr xfi x_23 q6 q7 bd_16 bd_17 b6 n6 g6 hn6 b7 n7 g7 hn7 H.size) (cwV 2 hts (kG (List.forall_mem_cons.mpr ⟨(List.mem_cons_of_mem _ (List.mem_append_left _ (List.mem_of_getElem? (i := 42) rfl))), (List.forall_mem_cons.mpr ⟨(List.mem_cons_of_mem _ (List.mem_append_left _ (List.mem_of_getElem? (i := 41) rfl))), (List.forall_mem_cons.mpr ⟨(List.mem_cons_of_mem _ (List.mem_append_left _ (List.mem_of_getElem? (i := 40) rfl))), (List.forall_mem_cons.mpr ⟨(List.mem_cons_of_mem _ (List.mem_append_left _ (List.mem_of_getElem? (i := 0) rfl))), (fun _ h => absurd h List.not_mem_nil)⟩)⟩)⟩)⟩) (kGV _ _ _ _) (kFam (List.mem_cons_of_mem _ (List.mem_append_left _ (List.mem_of_getElem? (i := 39) rfl)))) gw_s_truth4_1_0) rfl rfl rfl ⟨rfl, hd_X4_readTruth⟩ ⟨(Nat.le_of_ble_eq_true rfl), (Nat.le_of_ble_eq_true rfl)⟩) (kW_V kS2_blind (kS2_give hX hS hFc) (va_recv hKc hPc (ci := 4) (q0 := 0) rfl rfl) hPc hKc hDc) rfl rfl hl.1 rfl (lv_room (Nat.le_of_ble_eq_true rfl)) dX4_readCondition_41 ⟨(Nat.le_of_ble_eq_true rfl), (Nat.le_of_ble_eq_true rfl)⟩) hS (fun q _ h => hFc q h) hFc (fun r_24 => kU5 (fun S1_25 S2_26 Pl_27 Wr_28 Fi_29 t H_30 locs ht hvm hw hB hz1 hk1 hS => ?_))
            try dsimp only at hw
            have hPD : kPD dC dI A [(jR, .inr (4, [.ref jT, .ref r1, .ref r2, .int (nI (Wr_28)), .int (nI (Fi_29)), .int Pl_27, .ref q6, .ref q7])), (r1, .inl (c1, 120, .inl S1_25)), (r2, .inl (c2, 124, .inl S2_26)), (jT, .inr (8, [.ref t0, .int (nI (kt))])), (t0, .inl (cC, 120, .inl gT))] H_30 := kJoinX hP hD [0, 1, 2, 3, 4] rfl hk1 hFc hB.1 ht hB.2.2 rfl [some 0, some 1, some 2, some 3, some 4] rfl rfl
            have hP := hPD.1
            have hD := hPD.2
            have hw_31 := hw
            refine lv_if_eq (tgt := 57) hx hb dX4_readCondition_44 kc_t_44_13 (fun c_32 => ?_) (fun c_32 => ?_)
            · refine lv_iconst (v := 0) hx hb dX4_readCondition_57 kc_i_0 ?_
              have hP9 := hP
              have hD9 := hD
              have hK9 := hK
              rw [hQ]
              exact W.zret (v := 0) hx hb hr rfl (fun t ht hW => ⟨⟨0, (S1_25, S2_26, Pl_27, Wr_28, Fi_29), rfl, ⟨(Or.inl rfl), by omega, by omega⟩,  by rw [ht]; exact hP9, va_K.moved hW.alike hK9, hD9⟩, hS.F ht⟩) hS.2.2 dX4_readCondition_58
            · refine lv_aload_n hx hb dX4_readCondition_47 rfl (lv_at hl 1 rfl) ?_
              refine lv_sipush (v := 20124) hx hb dX4_readCondition_48 kc_s_20124 ?_
              have bd_33 : Wr_28 ≤ 120 := by omega
              have bd_34 : Fi_29 ≤ 124 := by omega
              have hCu := kCut (wc := [(jR, .inr (4, [.ref jT, .ref r1, .ref r2, .int (nI (Wr_28)), .int (nI (Fi_29)), .int Pl_27, .ref q6, .ref q7])), (r1, .inl (c1, 120, .inl S1_25)), (r2, .inl (c2, 124, .inl S2_26)), (jT, .inr (8, [.ref t0, .int (nI (kt))])), (t0, .inl (cC, 120, .inl gT))]) hP hD hS hA [0, 1, 2, 3, 4] rfl kc_nd_311 rfl
              have hPc := hCu.1
              have hDc := hCu.2.1
              have hFc := hCu.2.2
              have hKc := hK.sb (tys2 := [(c1, .int), (c2, .int), (cC, .char)]) [0, 1, 2] rfl
              refine va_calli (va_runV (As := [.int 20124]) (rest := []) ⟨hx, hb, hml, hown, hts⟩ (s_write4 l dC dI jT t0 cC gT kt hkt hgT jR r1 r2 c1 c2 S1_25 S2_26 Wr_28 Fi_29 Pl_27 q6 q7 bd_33 bd_34 20124 H_30.size) (cwV 1 hts (kG (List.forall_mem_cons.mpr ⟨(List.mem_cons_of_mem _ (List.mem_append_left _ (List.mem_of_getElem? (i := 14) rfl))), (List.forall_mem_cons.mpr ⟨(List.mem_cons_of_mem _ (List.mem_append_left _ (List.mem_of_getElem? (i := 13) rfl))), (List.forall_mem_cons.mpr ⟨(List.mem_cons_of_mem _ (List.mem_append_left _ (List.mem_of_getElem? (i := 12) rfl))), (List.forall_mem_cons.mpr ⟨(List.mem_cons_of_mem _ (List.mem_append_left _ (List.mem_of_getElem? (i := 0) rfl))), (fun _ h => absurd h List.not_mem_nil)⟩)⟩)⟩)⟩) (kGV _ _ _ _) (fun _ h => List.mem_cons_of_mem _ (List.mem_append_right _ (List.mem_append_right _ (List.mem_append_right _ (List.mem_append_right _ (List.mem_append_right _ (List.mem_append_left _ h))))))) gw_s_write4) rfl rfl rfl ⟨rfl, hd_X4_write⟩ ⟨(Nat.le_of_ble_eq_true rfl), (Nat.le_of_ble_eq_true rfl)⟩) (kW_V kT_blind kT_give (va_recv hKc hPc (ci := 4) (q0 := 0) rfl rfl) hPc hKc hDc) rfl rfl hl.1 rfl (lv_room (Nat.le_of_ble_eq_true rfl)) dX4_readCondition_51 ⟨(Nat.le_of_ble_eq_true rfl), (Nat.le_of_ble_eq_true rfl)⟩) hS (fun q _ h => hFc q h) hFc (fun r_35 => kU5 (fun S1_36 S2_37 Pl_38 Wr_39 Fi_40 t H_41 locs ht hvm hw hB hz1 hk1 hS => ?_))
              try dsimp only at hw
              have hPD : kPD dC dI A [(jR, .inr (4, [.ref jT, .ref r1, .ref r2, .int (nI (Wr_39)), .int (nI (Fi_40)), .int Pl_38, .ref q6, .ref q7])), (r1, .inl (c1, 120, .inl S1_36)), (r2, .inl (c2, 124, .inl S2_37)), (jT, .inr (8, [.ref t0, .int (nI (kt))])), (t0, .inl (cC, 120, .inl gT))] H_41 := kJoinX hP hD [0, 1, 2, 3, 4] rfl hk1 hFc hB.1 ht hB.2.2 rfl [some 0, some 1, some 2, some 3, some 4] rfl rfl
              have hP := hPD.1
              have hD := hPD.2
              have hw_42 := hw
              refine lv_if_ne (tgt := 59) hx hb dX4_readCondition_54 kc_t_54_5 (fun c_43 => ?_) (fun c_43 => ?_)
              · refine lv_iinc (v := nI (i + 1)) hx hb dX4_readCondition_59 hl (k := 0) rfl (kInc _ 1) kc_l_3_4 (kTo [(3, .int (nI (i + 1))), (0, .ref jR), (1, .int 1), (2, .int 0)]) (fun ls hl => ?_)
                refine lv_goto (tgt := 13) hx hb dX4_readCondition_62 kc_t_62_m49 ?_
                exact ih_k_10 (i + 1) S1_36 S2_37 Pl_38 Wr_39 Fi_40 (by omega) (by omega) (by omega) _ _ hP hD hS ls (lv_sub hl [0, 1, 2, 3] rfl) (by omega)
              · refine lv_iconst (v := 0) hx hb dX4_readCondition_57 kc_i_0 ?_
                have hP9 := hP
                have hD9 := hD
                have hK9 := hK
                rw [hQ]
                exact W.zret (v := 0) hx hb hr rfl (fun t ht hW => ⟨⟨0, (S1_36, S2_37, Pl_38, Wr_39, Fi_40), rfl, ⟨(Or.inl rfl), by omega, by omega⟩,  by rw [ht]; exact hP9, va_K.moved hW.alike hK9, hD9⟩, hS.F ht⟩) hS.2.2 dX4_readCondition_58
    exact lp_k_10 (120 - 0 + 1) 0 S1_2 S2_3 Pl_4 Wr_5 Fi_6 (by omega) (by omega) (by omega) _ _ hP hD hS ls (lv_sub hl [0, 1, 2, 3] rfl) (by omega)
  · refine lv_iconst (v := 0) hx hb dX4_readCondition_9 kc_i_0 ?_
    have hP9 := hP
    have hD9 := hD
    have hK9 := hK
    rw [hQ]
    exact W.zret (v := 0) hx hb hr rfl (fun t ht hW => ⟨⟨0, (S1_2, S2_3, Pl_4, Wr_5, Fi_6), rfl, ⟨(Or.inl rfl), by omega, by omega⟩,  by rw [ht]; exact hP9, va_K.moved hW.alike hK9, hD9⟩, hS.F ht⟩) hS.2.2 dX4_readCondition_10

def w_s_cond4_1_1 : List Cond := .code yX4_readCondition cX4_readCondition 4 (some .boolean) :: wf_rd
theorem gw_s_cond4_1_1 : (w_s_cond4_1_1).all goodWord = true := kFamG rfl gf_rd
set_option maxHeartbeats 4000000 in
set_option maxRecDepth 100000 in
theorem s_cond4_1_1 (l : Launch) (dC : Nat → ClassId) (dI : Nat → Nat → Nat) (jT : Nat) (t0 : Nat) (cC : ClassId) (gT : Nat → Int32) (kt : Nat) (hkt : kt ≤ 120) (hgT : ∀ j : Nat, narrow .char (.int (gT j)) = .int (gT j)) (jR : Nat) (r1 : Nat) (r2 : Nat) (c1 : ClassId) (c2 : ClassId) (s1 : Nat → Int32) (s2 : Nat → Int32) (wr : Nat) (fi : Nat) (pl : Int32) (q6 : Nat) (q7 : Nat) (hwr : wr ≤ 120) (hfi : fi ≤ 124) (b6 : Nat) (n6 : Nat) (g6 : Nat → Int32) (hn6 : n6 ≤ 8) (b7 : Nat) (n7 : Nat) (g7 : Nat → Int32) (hn7 : n7 ≤ 8) (sz : Nat) : Met l yX4_readCondition w_s_cond4_1_1 ({ frames := 41, cells := 0, slots := 0, locals := 2460 }) (kW dC dI [.ref jR, .int 1, .int 1] [(jR, .inr (4, [.ref jT, .ref r1, .ref r2, .int (nI (wr)), .int (nI (fi)), .int pl, .ref q6, .ref q7])), (r1, .inl (c1, 120, .inl s1)), (r2, .inl (c2, 124, .inl s2)), (jT, .inr (8, [.ref t0, .int (nI (kt))])), (t0, .inl (cC, 120, .inl gT))] [(c1, .int), (c2, .int), (cC, .char)] (kS2 q6 b6 n6 g6 q7 b7 n7 g7 (va_A [(jR, .inr (4, [.ref jT, .ref r1, .ref r2, .int (nI (wr)), .int (nI (fi)), .int pl, .ref q6, .ref q7])), (r1, .inl (c1, 120, .inl s1)), (r2, .inl (c2, 124, .inl s2)), (jT, .inr (8, [.ref t0, .int (nI (kt))])), (t0, .inl (cC, 120, .inl gT))] sz)) sz) (va_Qi (fun (r : Int32) (u : (Nat → Int32) × (Nat → Int32) × Int32 × Nat × Nat) => match u with | (S1, S2, Pl, Wr, Fi) => ((r = 0 ∨ r = 1) ∧ Wr ≤ 120 ∧ Fi ≤ 124)) (fun (u : (Nat → Int32) × (Nat → Int32) × Int32 × Nat × Nat) => match u with | (S1, S2, Pl, Wr, Fi) => fun t : State => kB dC dI [(jR, .inr (4, [.ref jT, .ref r1, .ref r2, .int (nI (Wr)), .int (nI (Fi)), .int Pl, .ref q6, .ref q7])), (r1, .inl (c1, 120, .inl S1)), (r2, .inl (c2, 124, .inl S2)), (jT, .inr (8, [.ref t0, .int (nI (kt))])), (t0, .inl (cC, 120, .inl gT))] [(c1, .int), (c2, .int), (cC, .char)] (va_A [(jR, .inr (4, [.ref jT, .ref r1, .ref r2, .int (nI (wr)), .int (nI (fi)), .int pl, .ref q6, .ref q7])), (r1, .inl (c1, 120, .inl s1)), (r2, .inl (c2, 124, .inl s2)), (jT, .inr (8, [.ref t0, .int (nI (kt))])), (t0, .inl (cC, 120, .inl gT))] sz) t) (va_A [(jR, .inr (4, [.ref jT, .ref r1, .ref r2, .int (nI (wr)), .int (nI (fi)), .int pl, .ref q6, .ref q7])), (r1, .inl (c1, 120, .inl s1)), (r2, .inl (c2, 124, .inl s2)), (jT, .inr (8, [.ref t0, .int (nI (kt))])), (t0, .inl (cC, 120, .inl gT))] sz)) 0 0 (va_A [(jR, .inr (4, [.ref jT, .ref r1, .ref r2, .int (nI (wr)), .int (nI (fi)), .int pl, .ref q6, .ref q7])), (r1, .inl (c1, 120, .inl s1)), (r2, .inl (c2, 124, .inl s2)), (jT, .inr (8, [.ref t0, .int (nI (kt))])), (t0, .inl (cC, 120, .inl gT))] sz) := by
  refine Met.ofW (cc := cX4_readCondition) (maxL := 4) (ret := (some .boolean)) (by decide) rfl ?_
  intro p e s m args below meth c s₁ B hml hv
  obtain ⟨rfl, hsz, hP, hK, hD0, hX⟩ := hv
  have hx := B.exec
  have hb := B.bytes
  have hr := B.returns
  have hts := atoms_spec (ws := w_s_cond4_1_1) B.pre
  have hown : s.vm.findClass RX4 = some m.cls := findClass_of_methodNamed B.named
  have hlocks := B.notSynchronized
  subst hsz
  have hD := hD0.self (sz := s.heap.size)
  generalize hAe : va_A [(jR, .inr (4, [.ref jT, .ref r1, .ref r2, .int (nI (wr)), .int (nI (fi)), .int pl, .ref q6, .ref q7])), (r1, .inl (c1, 120, .inl s1)), (r2, .inl (c2, 124, .inl s2)), (jT, .inr (8, [.ref t0, .int (nI (kt))])), (t0, .inl (cC, 120, .inl gT))] s.heap.size = A at hD hX ⊢
  have hA : ∀ q : Nat, s.heap.size ≤ q → A q := fun q h => by rw [← hAe]; exact Or.inr h
  have hS : va_S A s.heap s.heap [] := va_S.rf
  have hP : va_P (dC, dI) vwCl [(jR, .inr (4, [.ref jT, .ref r1, .ref r2, .int (nI (wr)), .int (nI (fi)), .int pl, .ref q6, .ref q7])), (r1, .inl (c1, 120, .inl s1)), (r2, .inl (c2, 124, .inl s2)), (jT, .inr (8, [.ref t0, .int (nI (kt))])), (t0, .inl (cC, 120, .inl gT))] s.heap := hP
  have hl := lv_entry ([.ref jR, .int 1, .int 1]) (n := 4) (Nat.le_of_ble_eq_true rfl)
  rw [lg_entry_eq]
  generalize (lg_sl ([.ref jR, .int 1, .int 1]) ++ List.replicate (4 - (lg_sl ([.ref jR, .int 1, .int 1])).length) Slot.unset).toArray = ls at hl ⊢
  have hl : lv_has ls 4 [(0, .ref jR), (1, .int 1), (2, .int 1)] := hl
  refine kQ (fun Q hQ => ?_)
  refine lv_aload_n hx hb dX4_readCondition_0 rfl (lv_at hl 0 rfl) ?_
  refine lv_iload_n hx hb dX4_readCondition_1 rfl (lv_at hl 1 rfl) ?_
  refine lv_iload_n hx hb dX4_readCondition_2 rfl (lv_at hl 2 rfl) ?_
  have hCu := kCut (wc := [(jR, .inr (4, [.ref jT, .ref r1, .ref r2, .int (nI (wr)), .int (nI (fi)), .int pl, .ref q6, .ref q7])), (r1, .inl (c1, 120, .inl s1)), (r2, .inl (c2, 124, .inl s2)), (jT, .inr (8, [.ref t0, .int (nI (kt))])), (t0, .inl (cC, 120, .inl gT))]) hP hD hS hA [0, 1, 2, 3, 4] rfl kc_nd_311 rfl
  have hPc := hCu.1
  have hDc := hCu.2.1
  have hFc := hCu.2.2
  have hKc := hK.sb (tys2 := [(c1, .int), (c2, .int), (cC, .char)]) [0, 1, 2] rfl
  refine va_calli (va_runV (As := [.int 1, .int 1]) (rest := []) ⟨hx, hb, hml, hown, hts⟩ (s_truth4_1_1 l dC dI jT t0 cC gT kt hkt hgT jR r1 r2 c1 c2 s1 s2 wr fi pl q6 q7 hwr hfi b6 n6 g6 hn6 b7 n7 g7 hn7 s.heap.size) (cwV 2 hts (kG (List.forall_mem_cons.mpr ⟨(List.mem_cons_of_mem _ (List.mem_append_left _ (List.mem_of_getElem? (i := 42) rfl))), (List.forall_mem_cons.mpr ⟨(List.mem_cons_of_mem _ (List.mem_append_left _ (List.mem_of_getElem? (i := 41) rfl))), (List.forall_mem_cons.mpr ⟨(List.mem_cons_of_mem _ (List.mem_append_left _ (List.mem_of_getElem? (i := 40) rfl))), (List.forall_mem_cons.mpr ⟨(List.mem_cons_of_mem _ (List.mem_append_left _ (List.mem_of_getElem? (i := 0) rfl))), (fun _ h => absurd h List.not_mem_nil)⟩)⟩)⟩)⟩) (kGV _ _ _ _) (kFam (List.mem_cons_of_mem _ (List.mem_append_left _ (List.mem_of_getElem? (i := 39) rfl)))) gw_s_truth4_1_1) rfl rfl rfl ⟨rfl, hd_X4_readTruth⟩ ⟨(Nat.le_of_ble_eq_true rfl), (Nat.le_of_ble_eq_true rfl)⟩) (kW_V kS2_blind (kS2_give hX hS hFc) (va_recv hKc hPc (ci := 4) (q0 := 0) rfl rfl) hPc hKc hDc) rfl rfl hl.1 rfl (lv_room (Nat.le_of_ble_eq_true rfl)) dX4_readCondition_3 ⟨(Nat.le_of_ble_eq_true rfl), (Nat.le_of_ble_eq_true rfl)⟩) hS (fun q _ h => hFc q h) hFc (fun r_1 => kU5 (fun S1_2 S2_3 Pl_4 Wr_5 Fi_6 t H_7 locs ht hvm hw hB hz1 hk1 hS => ?_))
  try dsimp only at hw
  have hPD : kPD dC dI A [(jR, .inr (4, [.ref jT, .ref r1, .ref r2, .int (nI (Wr_5)), .int (nI (Fi_6)), .int Pl_4, .ref q6, .ref q7])), (r1, .inl (c1, 120, .inl S1_2)), (r2, .inl (c2, 124, .inl S2_3)), (jT, .inr (8, [.ref t0, .int (nI (kt))])), (t0, .inl (cC, 120, .inl gT))] H_7 := kJoinX hP hD [0, 1, 2, 3, 4] rfl hk1 hFc hB.1 ht hB.2.2 rfl [some 0, some 1, some 2, some 3, some 4] rfl rfl
  have hP := hPD.1
  have hD := hPD.2
  have hw_8 := hw
  refine lv_if_ne (tgt := 11) hx hb dX4_readCondition_6 kc_t_6_5 (fun c_9 => ?_) (fun c_9 => ?_)
  · refine lv_iconst (v := 0) hx hb dX4_readCondition_11 kc_i_0 ?_
    refine lv_istore_n hx hb dX4_readCondition_12 rfl hl kc_l_3_4 (kTo [(3, .int 0), (0, .ref jR), (1, .int 1), (2, .int 1)]) (fun ls hl => ?_)
    have lp_k_10 : ∀ (n9 : Nat) (i : Nat) (xs1 : Nat → Int32) (xs2 : Nat → Int32) (xpl : Int32) (xwr : Nat) (xfi : Nat) (ivk_10_0 : i ≤ 120) (ivk_10_1 : xwr ≤ 120) (ivk_10_2 : xfi ≤ 124) (H : Heap) (locs : List Loc) (_ : va_P (dC, dI) vwCl [(jR, .inr (4, [.ref jT, .ref r1, .ref r2, .int (nI (xwr)), .int (nI (xfi)), .int xpl, .ref q6, .ref q7])), (r1, .inl (c1, 120, .inl xs1)), (r2, .inl (c2, 124, .inl xs2)), (jT, .inr (8, [.ref t0, .int (nI (kt))])), (t0, .inl (cC, 120, .inl gT))] H) (_ : va_D A [(jR, .inr (4, [.ref jT, .ref r1, .ref r2, .int (nI (xwr)), .int (nI (xfi)), .int xpl, .ref q6, .ref q7])), (r1, .inl (c1, 120, .inl xs1)), (r2, .inl (c2, 124, .inl xs2)), (jT, .inr (8, [.ref t0, .int (nI (kt))])), (t0, .inl (cC, 120, .inl gT))]) (_ : va_S A s.heap H locs) (ls : Array Slot) (_ : lv_has ls 4 [(3, .int (nI (i))), (0, .ref jR), (1, .int 1), (2, .int 1)]) (_ : 120 - i < n9), W p l e (headSpec w_s_cond4_1_1 ({ frames := 41, cells := 0, slots := 0, locals := 2460 })).room s m (#[.ref jR, .int 1, .int 1] : Array Value) below meth c H locs 0 0 Q (F0 m 13 ls []) := by
      intro n9
      induction n9 with
      | zero => intro i xs1 xs2 xpl xwr xfi ivk_10_0 ivk_10_1 ivk_10_2 H locs hP hD hS ls hl hm9; exact absurd hm9 (Nat.not_lt_zero _)
      | succ n9 ih_k_10 =>
        intro i xs1 xs2 xpl xwr xfi ivk_10_0 ivk_10_1 ivk_10_2 H locs hP hD hS ls hl hm9
        refine lv_iload_n hx hb dX4_readCondition_13 rfl (lv_at hl 0 rfl) ?_
        refine lv_bipush (v := 120) hx hb dX4_readCondition_14 kc_b_120 ?_
        refine lv_icmp_ge (tgt := 65) hx hb dX4_readCondition_16 kc_t_16_49 (fun c_11 => ?_) (fun c_11 => ?_)
        · have bd_13 : i < 2147483648 := by omega
          have hn_12 := kle (a := 120) (b := i) kc_31_120 bd_13 c_11
          refine lv_iconst (v := 1) hx hb dX4_readCondition_65 kc_i_1 ?_
          have hP9 := hP
          have hD9 := hD
          have hK9 := hK
          rw [hQ]
          exact W.zret (v := 1) hx hb hr rfl (fun t ht hW => ⟨⟨1, (xs1, xs2, xpl, xwr, xfi), rfl, ⟨(Or.inr rfl), by omega, by omega⟩,  by rw [ht]; exact hP9, va_K.moved hW.alike hK9, hD9⟩, hS.F ht⟩) hS.2.2 dX4_readCondition_66
        · have bd_15 : i < 2147483648 := by omega
          have hn_14 := knle (a := 120) (b := i) kc_31_120 bd_15 c_11
          refine lv_aload_n hx hb dX4_readCondition_19 rfl (lv_at hl 1 rfl) ?_
          have bd_16 : xwr ≤ 120 := by omega
          have bd_17 : xfi ≤ 124 := by omega
          have hCu := kCut (wc := [(jR, .inr (4, [.ref jT, .ref r1, .ref r2, .int (nI (xwr)), .int (nI (xfi)), .int xpl, .ref q6, .ref q7])), (r1, .inl (c1, 120, .inl xs1)), (r2, .inl (c2, 124, .inl xs2)), (jT, .inr (8, [.ref t0, .int (nI (kt))])), (t0, .inl (cC, 120, .inl gT))]) hP hD hS hA [0, 1, 2, 3, 4] rfl kc_nd_311 rfl
          have hPc := hCu.1
          have hDc := hCu.2.1
          have hFc := hCu.2.2
          have hKc := hK.sb (tys2 := [(c1, .int), (c2, .int), (cC, .char)]) [0, 1, 2] rfl
          refine va_calli (va_runV (As := []) (rest := []) ⟨hx, hb, hml, hown, hts⟩ (s_look4 l dC dI jT t0 cC gT kt hkt hgT jR r1 r2 c1 c2 xs1 xs2 xwr xfi xpl q6 q7 bd_16 bd_17 H.size) (cwV 0 hts (kG (List.forall_mem_cons.mpr ⟨(List.mem_cons_of_mem _ (List.mem_append_left _ (List.mem_of_getElem? (i := 3) rfl))), (List.forall_mem_cons.mpr ⟨(List.mem_cons_of_mem _ (List.mem_append_left _ (List.mem_of_getElem? (i := 2) rfl))), (List.forall_mem_cons.mpr ⟨(List.mem_cons_of_mem _ (List.mem_append_left _ (List.mem_of_getElem? (i := 1) rfl))), (List.forall_mem_cons.mpr ⟨(List.mem_cons_of_mem _ (List.mem_append_left _ (List.mem_of_getElem? (i := 0) rfl))), (fun _ h => absurd h List.not_mem_nil)⟩)⟩)⟩)⟩) (kGV _ _ _ _) (fun _ h => List.mem_cons_of_mem _ (List.mem_append_right _ (List.mem_append_left _ h))) gw_s_look4) rfl rfl rfl ⟨rfl, hd_X4_look⟩ ⟨(Nat.le_of_ble_eq_true rfl), (Nat.le_of_ble_eq_true rfl)⟩) (kW_V kT_blind kT_give (va_recv hKc hPc (ci := 4) (q0 := 0) rfl rfl) hPc hKc hDc) rfl rfl hl.1 rfl (lv_room (Nat.le_of_ble_eq_true rfl)) dX4_readCondition_20 ⟨(Nat.le_of_ble_eq_true rfl), (Nat.le_of_ble_eq_true rfl)⟩) hS (fun q _ h => hFc q h) hFc (fun r_18 Pl_19 t H_20 locs ht hvm hw hB hz1 hk1 hS => ?_)
          try dsimp only at hw
          have hPD : kPD dC dI A [(jR, .inr (4, [.ref jT, .ref r1, .ref r2, .int (nI (xwr)), .int (nI (xfi)), .int Pl_19, .ref q6, .ref q7])), (r1, .inl (c1, 120, .inl xs1)), (r2, .inl (c2, 124, .inl xs2)), (jT, .inr (8, [.ref t0, .int (nI (kt))])), (t0, .inl (cC, 120, .inl gT))] H_20 := kJoinX hP hD [0, 1, 2, 3, 4] rfl hk1 hFc hB.1 ht hB.2.2 rfl [some 0, some 1, some 2, some 3, some 4] rfl rfl
          have hP := hPD.1
          have hD := hPD.2
          have hw_21 := hw
          refine lv_bipush (v := 124) hx hb dX4_readCondition_23 kc_b_124 ?_
          refine lv_icmp_ne (tgt := 65) hx hb dX4_readCondition_25 kc_t_25_40 (fun c_22 => ?_) (fun c_22 => ?_)
          · refine lv_iconst (v := 1) hx hb dX4_readCondition_65 kc_i_1 ?_
            have hP9 := hP
            have hD9 := hD
            have hK9 := hK
            rw [hQ]
            exact W.zret (v := 1) hx hb hr rfl (fun t ht hW => ⟨⟨1, (xs1, xs2, Pl_19, xwr, xfi), rfl, ⟨(Or.inr rfl), by omega, by omega⟩,  by rw [ht]; exact hP9, va_K.moved hW.alike hK9, hD9⟩, hS.F ht⟩) hS.2.2 dX4_readCondition_66
          · refine lv_aload_n hx hb dX4_readCondition_28 rfl (lv_at hl 1 rfl) ?_
            refine lv_dup hx hb dX4_readCondition_29 rfl ?_
            refine va_get (D := (dC, dI)) (ci := 4) (v := .int Pl_19) (C := RX4) (T := TX4) (N := 8) hx hb hts (fun _ h => List.mem_cons_of_mem _ (List.mem_append_right _ (List.mem_append_right _ (List.mem_append_right _ (List.mem_append_left _ h))))) hown hK hP 0 rfl rfl 5 kc_l_5_8 (hts (.fieldLink RX4 25 "NotEnded$Reader" "place" "I") (List.mem_cons_of_mem _ (List.mem_append_left _ (List.mem_of_getElem? (i := 11) rfl)))) (fun _ h9 => h9) rfl dX4_readCondition_30 ?_
            refine lv_iconst (v := 1) hx hb dX4_readCondition_33 kc_i_1 ?_
            refine lv_iadd hx hb dX4_readCondition_34 ?_
            refine lv_topi (fun x_23 ex_23 => ?_)
            refine va_put (D := (dC, dI)) (ci := 4) (v := .int x_23) (ty := tyX4 5) (C := RX4) (T := TX4) (N := 8) hx hb hts (fun _ h => List.mem_cons_of_mem _ (List.mem_append_right _ (List.mem_append_right _ (List.mem_append_right _ (List.mem_append_left _ h))))) tyX4 tyX4_ok nmX4 hown hK hP hD hS 0 rfl rfl 5 kc_l_5_8 (hts (.fieldLink RX4 25 "NotEnded$Reader" "place" "I") (List.mem_cons_of_mem _ (List.mem_append_left _ (List.mem_of_getElem? (i := 11) rfl)))) (fun _ h9 => h9) rfl (tyX4_ok 5 kc_l_5_8) rfl rfl (Nat.le_of_ble_eq_true rfl) dX4_readCondition_35 (fun H locs hP hD hS => ?_)
            have hPD : kPD dC dI A [(jR, .inr (4, [.ref jT, .ref r1, .ref r2, .int (nI (xwr)), .int (nI (xfi)), .int x_23, .ref q6, .ref q7])), (r1, .inl (c1, 120, .inl xs1)), (r2, .inl (c2, 124, .inl xs2)), (jT, .inr (8, [.ref t0, .int (nI (kt))])), (t0, .inl (cC, 120, .inl gT))] H := ⟨hP, hD⟩
            have hP := hPD.1
            have hD := hPD.2
            refine lv_aload_n hx hb dX4_readCondition_38 rfl (lv_at hl 1 rfl) ?_
            refine lv_iload_n hx hb dX4_readCondition_39 rfl (lv_at hl 2 rfl) ?_
            refine lv_iconst (v := 0) hx hb dX4_readCondition_40 kc_i_0 ?_
            have hCu := kCut (wc := [(jR, .inr (4, [.ref jT, .ref r1, .ref r2, .int (nI (xwr)), .int (nI (xfi)), .int x_23, .ref q6, .ref q7])), (r1, .inl (c1, 120, .inl xs1)), (r2, .inl (c2, 124, .inl xs2)), (jT, .inr (8, [.ref t0, .int (nI (kt))])), (t0, .inl (cC, 120, .inl gT))]) hP hD hS hA [0, 1, 2, 3, 4] rfl kc_nd_311 rfl
            have hPc := hCu.1
            have hDc := hCu.2.1
            have hFc := hCu.2.2
            have hKc := hK.sb (tys2 := [(c1, .int), (c2, .int), (cC, .char)]) [0, 1, 2] rfl
            refine va_calli (va_runV (As := [.int 1, .int 0]) (rest := []) ⟨hx, hb, hml, hown, hts⟩ (s_truth4_1_0 l dC dI jT t0 cC gT kt hkt hgT jR r1 r2 c1 c2 xs1 xs2 xwr xfi x_23 q6 q7 bd_16 bd_17 b6 n6 g6 hn6 b7 n7 g7 hn7 H.size) (cwV 2 hts (kG (List.forall_mem_cons.mpr ⟨(List.mem_cons_of_mem _ (List.mem_append_left _ (List.mem_of_getElem? (i := 42) rfl))), (List.forall_mem_cons.mpr ⟨(List.mem_cons_of_mem _ (List.mem_append_left _ (List.mem_of_getElem? (i := 41) rfl))), (List.forall_mem_cons.mpr ⟨(List.mem_cons_of_mem _ (List.mem_append_left _ (List.mem_of_getElem? (i := 40) rfl))), (List.forall_mem_cons.mpr ⟨(List.mem_cons_of_mem _ (List.mem_append_left _ (List.mem_of_getElem? (i := 0) rfl))), (fun _ h => absurd h List.not_mem_nil)⟩)⟩)⟩)⟩) (kGV _ _ _ _) (kFam (List.mem_cons_of_mem _ (List.mem_append_left _ (List.mem_of_getElem? (i := 39) rfl)))) gw_s_truth4_1_0) rfl rfl rfl ⟨rfl, hd_X4_readTruth⟩ ⟨(Nat.le_of_ble_eq_true rfl), (Nat.le_of_ble_eq_true rfl)⟩) (kW_V kS2_blind (kS2_give hX hS hFc) (va_recv hKc hPc (ci := 4) (q0 := 0) rfl rfl) hPc hKc hDc) rfl rfl hl.1 rfl (lv_room (Nat.le_of_ble_eq_true rfl)) dX4_readCondition_41 ⟨(Nat.le_of_ble_eq_true rfl), (Nat.le_of_ble_eq_true rfl)⟩) hS (fun q _ h => hFc q h) hFc (fun r_24 => kU5 (fun S1_25 S2_26 Pl_27 Wr_28 Fi_29 t H_30 locs ht hvm hw hB hz1 hk1 hS => ?_))
            try dsimp only at hw
            have hPD : kPD dC dI A [(jR, .inr (4, [.ref jT, .ref r1, .ref r2, .int (nI (Wr_28)), .int (nI (Fi_29)), .int Pl_27, .ref q6, .ref q7])), (r1, .inl (c1, 120, .inl S1_25)), (r2, .inl (c2, 124, .inl S2_26)), (jT, .inr (8, [.ref t0, .int (nI (kt))])), (t0, .inl (cC, 120, .inl gT))] H_30 := kJoinX hP hD [0, 1, 2, 3, 4] rfl hk1 hFc hB.1 ht hB.2.2 rfl [some 0, some 1, some 2, some 3, some 4] rfl rfl
            have hP := hPD.1
            have hD := hPD.2
            have hw_31 := hw
            refine lv_if_eq (tgt := 57) hx hb dX4_readCondition_44 kc_t_44_13 (fun c_32 => ?_) (fun c_32 => ?_)
            · refine lv_iconst (v := 0) hx hb dX4_readCondition_57 kc_i_0 ?_
              have hP9 := hP
              have hD9 := hD
              have hK9 := hK
              rw [hQ]
              exact W.zret (v := 0) hx hb hr rfl (fun t ht hW => ⟨⟨0, (S1_25, S2_26, Pl_27, Wr_28, Fi_29), rfl, ⟨(Or.inl rfl), by omega, by omega⟩,  by rw [ht]; exact hP9, va_K.moved hW.alike hK9, hD9⟩, hS.F ht⟩) hS.2.2 dX4_readCondition_58
            · refine lv_aload_n hx hb dX4_readCondition_47 rfl (lv_at hl 1 rfl) ?_
              refine lv_sipush (v := 20124) hx hb dX4_readCondition_48 kc_s_20124 ?_
              have bd_33 : Wr_28 ≤ 120 := by omega
              have bd_34 : Fi_29 ≤ 124 := by omega
              have hCu := kCut (wc := [(jR, .inr (4, [.ref jT, .ref r1, .ref r2, .int (nI (Wr_28)), .int (nI (Fi_29)), .int Pl_27, .ref q6, .ref q7])), (r1, .inl (c1, 120, .inl S1_25)), (r2, .inl (c2, 124, .inl S2_26)), (jT, .inr (8, [.ref t0, .int (nI (kt))])), (t0, .inl (cC, 120, .inl gT))]) hP hD hS hA [0, 1, 2, 3, 4] rfl kc_nd_311 rfl
              have hPc := hCu.1
              have hDc := hCu.2.1
              have hFc := hCu.2.2
              have hKc := hK.sb (tys2 := [(c1, .int), (c2, .int), (cC, .char)]) [0, 1, 2] rfl
              refine va_calli (va_runV (As := [.int 20124]) (rest := []) ⟨hx, hb, hml, hown, hts⟩ (s_write4 l dC dI jT t0 cC gT kt hkt hgT jR r1 r2 c1 c2 S1_25 S2_26 Wr_28 Fi_29 Pl_27 q6 q7 bd_33 bd_34 20124 H_30.size) (cwV 1 hts (kG (List.forall_mem_cons.mpr ⟨(List.mem_cons_of_mem _ (List.mem_append_left _ (List.mem_of_getElem? (i := 14) rfl))), (List.forall_mem_cons.mpr ⟨(List.mem_cons_of_mem _ (List.mem_append_left _ (List.mem_of_getElem? (i := 13) rfl))), (List.forall_mem_cons.mpr ⟨(List.mem_cons_of_mem _ (List.mem_append_left _ (List.mem_of_getElem? (i := 12) rfl))), (List.forall_mem_cons.mpr ⟨(List.mem_cons_of_mem _ (List.mem_append_left _ (List.mem_of_getElem? (i := 0) rfl))), (fun _ h => absurd h List.not_mem_nil)⟩)⟩)⟩)⟩) (kGV _ _ _ _) (fun _ h => List.mem_cons_of_mem _ (List.mem_append_right _ (List.mem_append_right _ (List.mem_append_right _ (List.mem_append_right _ (List.mem_append_right _ (List.mem_append_left _ h))))))) gw_s_write4) rfl rfl rfl ⟨rfl, hd_X4_write⟩ ⟨(Nat.le_of_ble_eq_true rfl), (Nat.le_of_ble_eq_true rfl)⟩) (kW_V kT_blind kT_give (va_recv hKc hPc (ci := 4) (q0 := 0) rfl rfl) hPc hKc hDc) rfl rfl hl.1 rfl (lv_room (Nat.le_of_ble_eq_true rfl)) dX4_readCondition_51 ⟨(Nat.le_of_ble_eq_true rfl), (Nat.le_of_ble_eq_true rfl)⟩) hS (fun q _ h => hFc q h) hFc (fun r_35 => kU5 (fun S1_36 S2_37 Pl_38 Wr_39 Fi_40 t H_41 locs ht hvm hw hB hz1 hk1 hS => ?_))
              try dsimp only at hw
              have hPD : kPD dC dI A [(jR, .inr (4, [.ref jT, .ref r1, .ref r2, .int (nI (Wr_39)), .int (nI (Fi_40)), .int Pl_38, .ref q6, .ref q7])), (r1, .inl (c1, 120, .inl S1_36)), (r2, .inl (c2, 124, .inl S2_37)), (jT, .inr (8, [.ref t0, .int (nI (kt))])), (t0, .inl (cC, 120, .inl gT))] H_41 := kJoinX hP hD [0, 1, 2, 3, 4] rfl hk1 hFc hB.1 ht hB.2.2 rfl [some 0, some 1, some 2, some 3, some 4] rfl rfl
              have hP := hPD.1
              have hD := hPD.2
              have hw_42 := hw
              refine lv_if_ne (tgt := 59) hx hb dX4_readCondition_54 kc_t_54_5 (fun c_43 => ?_) (fun c_43 => ?_)
              · refine lv_iinc (v := nI (i + 1)) hx hb dX4_readCondition_59 hl (k := 0) rfl (kInc _ 1) kc_l_3_4 (kTo [(3, .int (nI (i + 1))), (0, .ref jR), (1, .int 1), (2, .int 1)]) (fun ls hl => ?_)
                refine lv_goto (tgt := 13) hx hb dX4_readCondition_62 kc_t_62_m49 ?_
                exact ih_k_10 (i + 1) S1_36 S2_37 Pl_38 Wr_39 Fi_40 (by omega) (by omega) (by omega) _ _ hP hD hS ls (lv_sub hl [0, 1, 2, 3] rfl) (by omega)
              · refine lv_iconst (v := 0) hx hb dX4_readCondition_57 kc_i_0 ?_
                have hP9 := hP
                have hD9 := hD
                have hK9 := hK
                rw [hQ]
                exact W.zret (v := 0) hx hb hr rfl (fun t ht hW => ⟨⟨0, (S1_36, S2_37, Pl_38, Wr_39, Fi_40), rfl, ⟨(Or.inl rfl), by omega, by omega⟩,  by rw [ht]; exact hP9, va_K.moved hW.alike hK9, hD9⟩, hS.F ht⟩) hS.2.2 dX4_readCondition_58
    exact lp_k_10 (120 - 0 + 1) 0 S1_2 S2_3 Pl_4 Wr_5 Fi_6 (by omega) (by omega) (by omega) _ _ hP hD hS ls (lv_sub hl [0, 1, 2, 3] rfl) (by omega)
  · refine lv_iconst (v := 0) hx hb dX4_readCondition_9 kc_i_0 ?_
    have hP9 := hP
    have hD9 := hD
    have hK9 := hK
    rw [hQ]
    exact W.zret (v := 0) hx hb hr rfl (fun t ht hW => ⟨⟨0, (S1_2, S2_3, Pl_4, Wr_5, Fi_6), rfl, ⟨(Or.inl rfl), by omega, by omega⟩,  by rw [ht]; exact hP9, va_K.moved hW.alike hK9, hD9⟩, hS.F ht⟩) hS.2.2 dX4_readCondition_10
