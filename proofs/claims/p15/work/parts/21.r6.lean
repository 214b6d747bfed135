def w_s_atom4_0 : List Cond := .code yX4_readAtom cX4_readAtom 4 (some .boolean) :: wf_rd
theorem gw_s_atom4_0 : (w_s_atom4_0).all goodWord = true := kFamG rfl gf_rd
set_option maxHeartbeats 4000000 in
set_option maxRecDepth 100000 in
theorem s_atom4_0 (l : Launch) (dC : Nat → ClassId) (dI : Nat → Nat → Nat) (jT : Nat) (t0 : Nat) (cC : ClassId) (gT : Nat → Int32) (kt : Nat) (hkt : kt ≤ 120) (hgT : ∀ j : Nat, narrow .char (.int (gT j)) = .int (gT j)) (jR : Nat) (r1 : Nat) (r2 : Nat) (c1 : ClassId) (c2 : ClassId) (s1 : Nat → Int32) (s2 : Nat → Int32) (wr : Nat) (fi : Nat) (pl : Int32) (q6 : Nat) (q7 : Nat) (hwr : wr ≤ 120) (hfi : fi ≤ 124) (b6 : Nat) (n6 : Nat) (g6 : Nat → Int32) (hn6 : n6 ≤ 8) (b7 : Nat) (n7 : Nat) (g7 : Nat → Int32) (hn7 : n7 ≤ 8) (sz : Nat) : Met l yX4_readAtom w_s_atom4_0 ({ frames := 42, cells := 0, slots := 0, locals := 2520 }) (kW dC dI [.ref jR, .int 0] [(jR, .inr (4, [.ref jT, .ref r1, .ref r2, .int (nI (wr)), .int (nI (fi)), .int pl, .ref q6, .ref q7])), (r1, .inl (c1, 120, .inl s1)), (r2, .inl (c2, 124, .inl s2)), (jT, .inr (8, [.ref t0, .int (nI (kt))])), (t0, .inl (cC, 120, .inl gT))] [(c1, .int), (c2, .int), (cC, .char)] (kS2 q6 b6 n6 g6 q7 b7 n7 g7 (va_A [(jR, .inr (4, [.ref jT, .ref r1, .ref r2, .int (nI (wr)), .int (nI (fi)), .int pl, .ref q6, .ref q7])), (r1, .inl (c1, 120, .inl s1)), (r2, .inl (c2, 124, .inl s2)), (jT, .inr (8, [.ref t0, .int (nI (kt))])), (t0, .inl (cC, 120, .inl gT))] sz)) sz) (va_Qi (fun (r : Int32) (u : (Nat → Int32) × (Nat → Int32) × Int32 × Nat × Nat) => match u with | (S1, S2, Pl, Wr, Fi) => ((r = 0 ∨ r = 1) ∧ Wr ≤ 120 ∧ Fi ≤ 124)) (fun (u : (Nat → Int32) × (Nat → Int32) × Int32 × Nat × Nat) => match u with | (S1, S2, Pl, Wr, Fi) => fun t : State => kB dC dI [(jR, .inr (4, [.ref jT, .ref r1, .ref r2, .int (nI (Wr)), .int (nI (Fi)), .int Pl, .ref q6, .ref q7])), (r1, .inl (c1, 120, .inl S1)), (r2, .inl (c2, 124, .inl S2)), (jT, .inr (8, [.ref t0, .int (nI (kt))])), (t0, .inl (cC, 120, .inl gT))] [(c1, .int), (c2, .int), (cC, .char)] (va_A [(jR, .inr (4, [.ref jT, .ref r1, .ref r2, .int (nI (wr)), .int (nI (fi)), .int pl, .ref q6, .ref q7])), (r1, .inl (c1, 120, .inl s1)), (r2, .inl (c2, 124, .inl s2)), (jT, .inr (8, [.ref t0, .int (nI (kt))])), (t0, .inl (cC, 120, .inl gT))] sz) t) (va_A [(jR, .inr (4, [.ref jT, .ref r1, .ref r2, .int (nI (wr)), .int (nI (fi)), .int pl, .ref q6, .ref q7])), (r1, .inl (c1, 120, .inl s1)), (r2, .inl (c2, 124, .inl s2)), (jT, .inr (8, [.ref t0, .int (nI (kt))])), (t0, .inl (cC, 120, .inl gT))] sz)) 0 0 (va_A [(jR, .inr (4, [.ref jT, .ref r1, .ref r2, .int (nI (wr)), .int (nI (fi)), .int pl, .ref q6, .ref q7])), (r1, .inl (c1, 120, .inl s1)), (r2, .inl (c2, 124, .inl s2)), (jT, .inr (8, [.ref t0, .int (nI (kt))])), (t0, .inl (cC, 120, .inl gT))] sz) := by
  refine Met.ofW (cc := cX4_readAtom) (maxL := 4) (ret := (some .boolean)) (by decide) rfl ?_
  intro p e s m args below meth c s₁ B hml hv
  obtain ⟨rfl, hsz, hP, hK, hD0, hX⟩ := hv
  have hx := B.exec
  have hb := B.bytes
  have hr := B.returns
  have hts := atoms_spec (ws := w_s_atom4_0) B.pre
  have hown : s.vm.findClass RX4 = some m.cls := findClass_of_methodNamed B.named
  have hlocks := B.notSynchronized
  subst hsz
  have hD := hD0.self (sz := s.heap.size)
  generalize hAe : va_A [(jR, .inr (4, [.ref jT, .ref r1, .ref r2, .int (nI (wr)), .int (nI (fi)), .int pl, .ref q6, .ref q7])), (r1, .inl (c1, 120, .inl s1)), (r2, .inl (c2, 124, .inl s2)), (jT, .inr (8, [.ref t0, .int (nI (kt))])), (t0, .inl (cC, 120, .inl gT))] s.heap.size = A at hD hX ⊢
  have hA : ∀ q : Nat, s.heap.size ≤ q → A q := fun q h => by rw [← hAe]; exact Or.inr h
  have hS : va_S A s.heap s.heap [] := va_S.rf
  have hP : va_P (dC, dI) vwCl [(jR, .inr (4, [.ref jT, .ref r1, .ref r2, .int (nI (wr)), .int (nI (fi)), .int pl, .ref q6, .ref q7])), (r1, .inl (c1, 120, .inl s1)), (r2, .inl (c2, 124, .inl s2)), (jT, .inr (8, [.ref t0, .int (nI (kt))])), (t0, .inl (cC, 120, .inl gT))] s.heap := hP
  have hl := lv_entry ([.ref jR, .int 0]) (n := 4) (Nat.le_of_ble_eq_true rfl)
  rw [lg_entry_eq]
  generalize (lg_sl ([.ref jR, .int 0]) ++ List.replicate (4 - (lg_sl ([.ref jR, .int 0])).length) Slot.unset).toArray = ls at hl ⊢
  have hl : lv_has ls 4 [(0, .ref jR), (1, .int 0)] := hl
  refine kQ (fun Q hQ => ?_)
  refine lv_aload_n hx hb dX4_readAtom_0 rfl (lv_at hl 0 rfl) ?_
  obtain ⟨hPc, hDc, hFc⟩ := kCut (wc := [(jR, .inr (4, [.ref jT, .ref r1, .ref r2, .int (nI (wr)), .int (nI (fi)), .int pl, .ref q6, .ref q7])), (r1, .inl (c1, 120, .inl s1)), (r2, .inl (c2, 124, .inl s2)), (jT, .inr (8, [.ref t0, .int (nI (kt))])), (t0, .inl (cC, 120, .inl gT))]) hP hD hS hA [0, 1, 2, 3, 4] rfl (by decide) rfl
  have hKc := hK.sb (tys2 := [(c1, .int), (c2, .int), (cC, .char)]) [0, 1, 2] rfl
  refine va_calli (va_runV (As := []) (rest := []) ⟨hx, hb, hml, hown, hts⟩ (s_look4 l dC dI jT t0 cC gT kt (by omega) (by omega) jR r1 r2 c1 c2 s1 s2 wr fi pl q6 q7 (by omega) (by omega) s.heap.size) (cwV 0 hts (kG (List.forall_mem_cons.mpr ⟨(List.mem_cons_of_mem _ (List.mem_append_left _ (List.mem_of_getElem? (i := 3) rfl))), (List.forall_mem_cons.mpr ⟨(List.mem_cons_of_mem _ (List.mem_append_left _ (List.mem_of_getElem? (i := 2) rfl))), (List.forall_mem_cons.mpr ⟨(List.mem_cons_of_mem _ (List.mem_append_left _ (List.mem_of_getElem? (i := 1) rfl))), (List.forall_mem_cons.mpr ⟨(List.mem_cons_of_mem _ (List.mem_append_left _ (List.mem_of_getElem? (i := 0) rfl))), (fun _ h => absurd h List.not_mem_nil)⟩)⟩)⟩)⟩) (kGV _ _ _ _) (fun _ h => List.mem_cons_of_mem _ (List.mem_append_right _ (List.mem_append_left _ h))) gw_s_look4) rfl rfl rfl ⟨rfl, hd_X4_look⟩ ⟨(Nat.le_of_ble_eq_true rfl), (Nat.le_of_ble_eq_true rfl)⟩) (kW_V kT_blind kT_give (va_recv hKc hPc (ci := 4) (q0 := 0) rfl rfl) hPc hKc hDc) rfl rfl hl.1 rfl (lv_room (Nat.le_of_ble_eq_true rfl)) dX4_readAtom_1 ⟨(Nat.le_of_ble_eq_true rfl), (Nat.le_of_ble_eq_true rfl)⟩) hS (fun q _ h => hFc q h) hFc (fun r_1 u t H1 locs ht hvm hw hB hz1 hk1 hS => ?_)
  obtain ⟨Pl_2, rfl⟩ : ∃ z, z = u := ⟨_, rfl⟩
  obtain ⟨hP1, hK1, hD1⟩ := hB
  rw [ht] at hP1
  try dsimp only at hw
  obtain ⟨hP, hD⟩ : kPD dC dI A [(jR, .inr (4, [.ref jT, .ref r1, .ref r2, .int (nI (wr)), .int (nI (fi)), .int Pl_2, .ref q6, .ref q7])), (r1, .inl (c1, 120, .inl s1)), (r2, .inl (c2, 124, .inl s2)), (jT, .inr (8, [.ref t0, .int (nI (kt))])), (t0, .inl (cC, 120, .inl gT))] H1 := kJoinI hP hD [0, 1, 2, 3, 4] rfl hk1 hFc hP1 hD1 rfl [some 0, some 1, some 2, some 3, some 4] rfl rfl
  generalize H1 = H at hP hS ⊢
  have hw_3 := hw
  refine lv_istore_n hx hb dX4_readAtom_4 rfl hl (by decide) (kTo [(2, .int r_1), (0, .ref jR), (1, .int 0)]) (fun ls hl => ?_)
  refine lv_iload_n hx hb dX4_readAtom_5 rfl (lv_at hl 0 rfl) ?_
  refine lv_bipush (v := 91) hx hb dX4_readAtom_6 (by decide) ?_
  refine lv_icmp_ne (tgt := 44) hx hb dX4_readAtom_8 (by decide) (fun c_4 => ?_) (fun c_4 => ?_)
  · refine lv_iload_n hx hb dX4_readAtom_44 rfl (lv_at hl 0 rfl) ?_
    have hPc := hP.sb (ws2 := []) [] rfl
    have hKc := hK.sb (tys2 := []) [] rfl
    refine vp_callSi (va_runS (As := [.int r_1]) (rest := []) ⟨hx, hb, hml, hown, hts⟩ (s_digit4 l dC dI r_1) (va_cwS 1 hts (kG (List.forall_mem_cons.mpr ⟨(List.mem_cons_of_mem _ (List.mem_append_left _ (List.mem_of_getElem? (i := 5) rfl))), (List.forall_mem_cons.mpr ⟨(List.mem_cons_of_mem _ (List.mem_append_left _ (List.mem_of_getElem? (i := 4) rfl))), (List.forall_mem_cons.mpr ⟨(List.mem_cons_of_mem _ (List.mem_append_left _ (List.mem_of_getElem? (i := 0) rfl))), (fun _ h => absurd h List.not_mem_nil)⟩)⟩)⟩) (kGS _ _ _) (fun _ h => List.mem_cons_of_mem _ (List.mem_append_right _ (List.mem_append_right _ (List.mem_append_left _ h)))) gw_s_digit4) rfl rfl rfl hd_X4_isDigit ⟨(Nat.le_of_ble_eq_true rfl), (Nat.le_of_ble_eq_true rfl)⟩) (kR_S kT_blind kT_give hPc hKc) rfl rfl hl.1 rfl (lv_room (Nat.le_of_ble_eq_true rfl)) dX4_readAtom_45 ⟨(Nat.le_of_ble_eq_true rfl), (Nat.le_of_ble_eq_true rfl)⟩).run (fun r_5 hw => ?_)
    have hw_6 := hw
    refine lv_if_eq (tgt := 56) hx hb dX4_readAtom_48 (by decide) (fun c_7 => ?_) (fun c_7 => ?_)
    · refine lv_aload_n hx hb dX4_readAtom_56 rfl (lv_at hl 1 rfl) ?_
      refine va_get (D := (dC, dI)) (ci := 4) (v := .ref q7) (C := RX4) (T := TX4) (N := 8) hx hb hts (fun _ h => List.mem_cons_of_mem _ (List.mem_append_right _ (List.mem_append_right _ (List.mem_append_right _ (List.mem_append_left _ h))))) hown hK hP 0 rfl rfl 7 (by decide) (hts (.fieldLink RX4 34 "NotEnded$Reader" "letterSigns" "Ljava/lang/String;") (List.mem_cons_of_mem _ (List.mem_append_left _ (List.mem_of_getElem? (i := 6) rfl)))) (fun _ h9 => h9) rfl dX4_readAtom_57 ?_
      refine lv_iload_n hx hb dX4_readAtom_60 rfl (lv_at hl 0 rfl) ?_
      have hPc := hP.sb (ws2 := []) [] rfl
      have hKc := hK.sb (tys2 := []) [] rfl
      refine vp_callSi (va_runV (As := [.int r_1]) (rest := []) ⟨hx, hb, hml, hown, hts⟩ (s_t_ix l dC dI q7 b7 n7 g7 (by omega) A r_1) (cwV 1 hts (kG (List.forall_mem_cons.mpr ⟨(List.mem_cons_of_mem _ (List.mem_append_left _ (List.mem_of_getElem? (i := 10) rfl))), (List.forall_mem_cons.mpr ⟨(List.mem_cons_of_mem _ (List.mem_append_left _ (List.mem_of_getElem? (i := 9) rfl))), (List.forall_mem_cons.mpr ⟨(List.mem_cons_of_mem _ (List.mem_append_left _ (List.mem_of_getElem? (i := 8) rfl))), (List.forall_mem_cons.mpr ⟨(List.mem_cons_of_mem _ (List.mem_append_left _ (List.mem_of_getElem? (i := 7) rfl))), (fun _ h => absurd h List.not_mem_nil)⟩)⟩)⟩)⟩) (kGV _ _ _ _) (fun _ h => List.mem_cons_of_mem _ (List.mem_append_right _ (List.mem_append_right _ (List.mem_append_right _ (List.mem_append_right _ (List.mem_append_left _ h)))))) gw_s_t_ix) rfl rfl rfl ⟨rfl, hd_J0_indexOf_0f7a4⟩ ⟨(Nat.le_of_ble_eq_true rfl), (Nat.le_of_ble_eq_true rfl)⟩) (kR_V kSt_blind (kSt_give hX.2 hS) (kSt_recv hX.2 hS) hPc hKc) rfl rfl hl.1 rfl (lv_room (Nat.le_of_ble_eq_true rfl)) dX4_readAtom_61 ⟨(Nat.le_of_ble_eq_true rfl), (Nat.le_of_ble_eq_true rfl)⟩).run (fun r_8 hw => ?_)
      refine lv_istore_n hx hb dX4_readAtom_64 rfl hl (by decide) (kTo [(3, .int r_8), (2, .int r_1), (0, .ref jR), (1, .int 0)]) (fun ls hl => ?_)
      refine lv_iload_n hx hb dX4_readAtom_65 rfl (lv_at hl 0 rfl) ?_
      refine lv_if_ge (tgt := 71) hx hb dX4_readAtom_66 (by decide) (fun c_9 => ?_) (fun c_9 => ?_)
      · refine lv_aload_n hx hb dX4_readAtom_71 rfl (lv_at hl 2 rfl) ?_
        refine lv_dup hx hb dX4_readAtom_72 rfl ?_
        refine va_get (D := (dC, dI)) (ci := 4) (v := .int Pl_2) (C := RX4) (T := TX4) (N := 8) hx hb hts (fun _ h => List.mem_cons_of_mem _ (List.mem_append_right _ (List.mem_append_right _ (List.mem_append_right _ (List.mem_append_left _ h))))) hown hK hP 0 rfl rfl 5 (by decide) (hts (.fieldLink RX4 25 "NotEnded$Reader" "place" "I") (List.mem_cons_of_mem _ (List.mem_append_left _ (List.mem_of_getElem? (i := 11) rfl)))) (fun _ h9 => h9) rfl dX4_readAtom_73 ?_
        refine lv_iconst (v := 1) hx hb dX4_readAtom_76 (by decide) ?_
        refine lv_iadd hx hb dX4_readAtom_77 ?_
        refine lv_topi (fun x_10 ex_10 => ?_)
        refine va_put (D := (dC, dI)) (ci := 4) (v := .int x_10) (ty := tyX4 5) (C := RX4) (T := TX4) (N := 8) hx hb hts (fun _ h => List.mem_cons_of_mem _ (List.mem_append_right _ (List.mem_append_right _ (List.mem_append_right _ (List.mem_append_left _ h))))) tyX4 tyX4_ok nmX4 hown hK hP hD hS 0 rfl rfl 5 (by decide) (hts (.fieldLink RX4 25 "NotEnded$Reader" "place" "I") (List.mem_cons_of_mem _ (List.mem_append_left _ (List.mem_of_getElem? (i := 11) rfl)))) (fun _ h9 => h9) rfl (tyX4_ok 5 (by decide)) rfl rfl (Nat.le_of_ble_eq_true rfl) dX4_readAtom_78 (fun H locs hP hD hS => ?_)
        obtain ⟨hP, hD⟩ : kPD dC dI A [(jR, .inr (4, [.ref jT, .ref r1, .ref r2, .int (nI (wr)), .int (nI (fi)), .int x_10, .ref q6, .ref q7])), (r1, .inl (c1, 120, .inl s1)), (r2, .inl (c2, 124, .inl s2)), (jT, .inr (8, [.ref t0, .int (nI (kt))])), (t0, .inl (cC, 120, .inl gT))] H := ⟨hP, hD⟩
        refine lv_aload_n hx hb dX4_readAtom_81 rfl (lv_at hl 2 rfl) ?_
        refine lv_sipush (v := 10000) hx hb dX4_readAtom_82 (by decide) ?_
        refine lv_iload_n hx hb dX4_readAtom_85 rfl (lv_at hl 0 rfl) ?_
        refine lv_iadd hx hb dX4_readAtom_86 ?_
        refine lv_topi (fun x_11 ex_11 => ?_)
        obtain ⟨hPc, hDc, hFc⟩ := kCut (wc := [(jR, .inr (4, [.ref jT, .ref r1, .ref r2, .int (nI (wr)), .int (nI (fi)), .int x_10, .ref q6, .ref q7])), (r1, .inl (c1, 120, .inl s1)), (r2, .inl (c2, 124, .inl s2)), (jT, .inr (8, [.ref t0, .int (nI (kt))])), (t0, .inl (cC, 120, .inl gT))]) hP hD hS hA [0, 1, 2, 3, 4] rfl (by decide) rfl
        have hKc := hK.sb (tys2 := [(c1, .int), (c2, .int), (cC, .char)]) [0, 1, 2] rfl
        refine va_calli (va_runV (As := [.int x_11]) (rest := []) ⟨hx, hb, hml, hown, hts⟩ (s_write4 l dC dI jT t0 cC gT kt (by omega) (by omega) jR r1 r2 c1 c2 s1 s2 wr fi x_10 q6 q7 (by omega) (by omega) x_11 H.size) (cwV 1 hts (kG (List.forall_mem_cons.mpr ⟨(List.mem_cons_of_mem _ (List.mem_append_left _ (List.mem_of_getElem? (i := 14) rfl))), (List.forall_mem_cons.mpr ⟨(List.mem_cons_of_mem _ (List.mem_append_left _ (List.mem_of_getElem? (i := 13) rfl))), (List.forall_mem_cons.mpr ⟨(List.mem_cons_of_mem _ (List.mem_append_left _ (List.mem_of_getElem? (i := 12) rfl))), (List.forall_mem_cons.mpr ⟨(List.mem_cons_of_mem _ (List.mem_append_left _ (List.mem_of_getElem? (i := 0) rfl))), (fun _ h => absurd h List.not_mem_nil)⟩)⟩)⟩)⟩) (kGV _ _ _ _) (fun _ h => List.mem_cons_of_mem _ (List.mem_append_right _ (List.mem_append_right _ (List.mem_append_right _ (List.mem_append_right _ (List.mem_append_right _ (List.mem_append_left _ h))))))) gw_s_write4) rfl rfl rfl ⟨rfl, hd_X4_write⟩ ⟨(Nat.le_of_ble_eq_true rfl), (Nat.le_of_ble_eq_true rfl)⟩) (kW_V kT_blind kT_give (va_recv hKc hPc (ci := 4) (q0 := 0) rfl rfl) hPc hKc hDc) rfl rfl hl.1 rfl (lv_room (Nat.le_of_ble_eq_true rfl)) dX4_readAtom_87 ⟨(Nat.le_of_ble_eq_true rfl), (Nat.le_of_ble_eq_true rfl)⟩) hS (fun q _ h => hFc q h) hFc (fun r_12 u t H1 locs ht hvm hw hB hz1 hk1 hS => ?_)
        obtain ⟨S1_13, S2_14, Pl_15, Wr_16, Fi_17⟩ := u
        obtain ⟨hP1, hK1, hD1⟩ := hB
        rw [ht] at hP1
        try dsimp only at hw
        obtain ⟨hP, hD⟩ : kPD dC dI A [(jR, .inr (4, [.ref jT, .ref r1, .ref r2, .int (nI (Wr_16)), .int (nI (Fi_17)), .int Pl_15, .ref q6, .ref q7])), (r1, .inl (c1, 120, .inl S1_13)), (r2, .inl (c2, 124, .inl S2_14)), (jT, .inr (8, [.ref t0, .int (nI (kt))])), (t0, .inl (cC, 120, .inl gT))] H1 := kJoinI hP hD [0, 1, 2, 3, 4] rfl hk1 hFc hP1 hD1 rfl [some 0, some 1, some 2, some 3, some 4] rfl rfl
        generalize H1 = H at hP hS ⊢
        have hw_18 := hw
        have hP9 := hP
        have hD9 := hD
        have hK9 := hK
        rw [hQ]
        exact W.zret (v := r_12) hx hb hr (kB01 hw_18.1) (fun t ht hW => ⟨⟨r_12, (S1_13, S2_14, Pl_15, Wr_16, Fi_17), rfl, ⟨hw_18.1, by omega, by omega⟩,  by rw [ht]; exact hP9, va_K.moved hW.alike hK9, hD9⟩, hS.F ht⟩) hS.2.2 dX4_readAtom_90
      · refine lv_iconst (v := 0) hx hb dX4_readAtom_69 (by decide) ?_
        have hP9 := hP
        have hD9 := hD
        have hK9 := hK
        rw [hQ]
        exact W.zret (v := 0) hx hb hr rfl (fun t ht hW => ⟨⟨0, (s1, s2, Pl_2, wr, fi), rfl, ⟨(Or.inl rfl), by omega, by omega⟩,  by rw [ht]; exact hP9, va_K.moved hW.alike hK9, hD9⟩, hS.F ht⟩) hS.2.2 dX4_readAtom_70
    · refine lv_aload_n hx hb dX4_readAtom_51 rfl (lv_at hl 1 rfl) ?_
      obtain ⟨hPc, hDc, hFc⟩ := kCut (wc := [(jR, .inr (4, [.ref jT, .ref r1, .ref r2, .int (nI (wr)), .int (nI (fi)), .int Pl_2, .ref q6, .ref q7])), (r1, .inl (c1, 120, .inl s1)), (r2, .inl (c2, 124, .inl s2)), (jT, .inr (8, [.ref t0, .int (nI (kt))])), (t0, .inl (cC, 120, .inl gT))]) hP hD hS hA [0, 1, 2, 3, 4] rfl (by decide) rfl
      have hKc := hK.sb (tys2 := [(c1, .int), (c2, .int), (cC, .char)]) [0, 1, 2] rfl
      refine va_calli (va_runV (As := []) (rest := []) ⟨hx, hb, hml, hown, hts⟩ (s_number4 l dC dI jT t0 cC gT kt (by omega) (by omega) jR r1 r2 c1 c2 s1 s2 wr fi Pl_2 q6 q7 (by omega) (by omega) H.size) (cwV 0 hts (kG (List.forall_mem_cons.mpr ⟨(List.mem_cons_of_mem _ (List.mem_append_left _ (List.mem_of_getElem? (i := 17) rfl))), (List.forall_mem_cons.mpr ⟨(List.mem_cons_of_mem _ (List.mem_append_left _ (List.mem_of_getElem? (i := 16) rfl))), (List.forall_mem_cons.mpr ⟨(List.mem_cons_of_mem _ (List.mem_append_left _ (List.mem_of_getElem? (i := 15) rfl))), (List.forall_mem_cons.mpr ⟨(List.mem_cons_of_mem _ (List.mem_append_left _ (List.mem_of_getElem? (i := 0) rfl))), (fun _ h => absurd h List.not_mem_nil)⟩)⟩)⟩)⟩) (kGV _ _ _ _) (fun _ h => List.mem_cons_of_mem _ (List.mem_append_right _ (List.mem_append_right _ (List.mem_append_right _ (List.mem_append_right _ (List.mem_append_right _ (List.mem_append_right _ (List.mem_append_left _ h)))))))) gw_s_number4) rfl rfl rfl ⟨rfl, hd_X4_readNumber⟩ ⟨(Nat.le_of_ble_eq_true rfl), (Nat.le_of_ble_eq_true rfl)⟩) (kW_V kT_blind kT_give (va_recv hKc hPc (ci := 4) (q0 := 0) rfl rfl) hPc hKc hDc) rfl rfl hl.1 rfl (lv_room (Nat.le_of_ble_eq_true rfl)) dX4_readAtom_52 ⟨(Nat.le_of_ble_eq_true rfl), (Nat.le_of_ble_eq_true rfl)⟩) hS (fun q _ h => hFc q h) hFc (fun r_19 u t H1 locs ht hvm hw hB hz1 hk1 hS => ?_)
      obtain ⟨S1_20, S2_21, Pl_22, Wr_23, Fi_24⟩ := u
      obtain ⟨hP1, hK1, hD1⟩ := hB
      rw [ht] at hP1
      try dsimp only at hw
      obtain ⟨hP, hD⟩ : kPD dC dI A [(jR, .inr (4, [.ref jT, .ref r1, .ref r2, .int (nI (Wr_23)), .int (nI (Fi_24)), .int Pl_22, .ref q6, .ref q7])), (r1, .inl (c1, 120, .inl S1_20)), (r2, .inl (c2, 124, .inl S2_21)), (jT, .inr (8, [.ref t0, .int (nI (kt))])), (t0, .inl (cC, 120, .inl gT))] H1 := kJoinI hP hD [0, 1, 2, 3, 4] rfl hk1 hFc hP1 hD1 rfl [some 0, some 1, some 2, some 3, some 4] rfl rfl
      generalize H1 = H at hP hS ⊢
      have hw_25 := hw
      have hP9 := hP
      have hD9 := hD
      have hK9 := hK
      rw [hQ]
      exact W.zret (v := r_19) hx hb hr (kB01 hw_25.1) (fun t ht hW => ⟨⟨r_19, (S1_20, S2_21, Pl_22, Wr_23, Fi_24), rfl, ⟨hw_25.1, by omega, by omega⟩,  by rw [ht]; exact hP9, va_K.moved hW.alike hK9, hD9⟩, hS.F ht⟩) hS.2.2 dX4_readAtom_55
  · refine lv_aload_n hx hb dX4_readAtom_11 rfl (lv_at hl 1 rfl) ?_
    refine lv_iload_n hx hb dX4_readAtom_12 rfl (lv_at hl 2 rfl) ?_
    obtain ⟨hPc, hDc, hFc⟩ := kCut (wc := [(jR, .inr (4, [.ref jT, .ref r1, .ref r2, .int (nI (wr)), .int (nI (fi)), .int Pl_2, .ref q6, .ref q7])), (r1, .inl (c1, 120, .inl s1)), (r2, .inl (c2, 124, .inl s2)), (jT, .inr (8, [.ref t0, .int (nI (kt))])), (t0, .inl (cC, 120, .inl gT))]) hP hD hS hA [0, 1, 2, 3, 4] rfl (by decide) rfl
    have hKc := hK.sb (tys2 := [(c1, .int), (c2, .int), (cC, .char)]) [0, 1, 2] rfl
    refine va_calli (va_runV (As := [.int 0]) (rest := []) ⟨hx, hb, hml, hown, hts⟩ (s_opens4 l dC dI jT t0 cC gT kt (by omega) (by omega) jR r1 r2 c1 c2 s1 s2 wr fi Pl_2 q6 q7 (by omega) (by omega) 0 H.size) (cwV 1 hts (kG (List.forall_mem_cons.mpr ⟨(List.mem_cons_of_mem _ (List.mem_append_left _ (List.mem_of_getElem? (i := 20) rfl))), (List.forall_mem_cons.mpr ⟨(List.mem_cons_of_mem _ (List.mem_append_left _ (List.mem_of_getElem? (i := 19) rfl))), (List.forall_mem_cons.mpr ⟨(List.mem_cons_of_mem _ (List.mem_append_left _ (List.mem_of_getElem? (i := 18) rfl))), (List.forall_mem_cons.mpr ⟨(List.mem_cons_of_mem _ (List.mem_append_left _ (List.mem_of_getElem? (i := 0) rfl))), (fun _ h => absurd h List.not_mem_nil)⟩)⟩)⟩)⟩) (kGV _ _ _ _) (fun _ h => List.mem_cons_of_mem _ (List.mem_append_right _ (List.mem_append_right _ (List.mem_append_right _ (List.mem_append_right _ (List.mem_append_right _ (List.mem_append_right _ (List.mem_append_right _ (List.mem_append_right _ (List.mem_append_right _ (List.mem_append_left _ h))))))))))) gw_s_opens4) rfl rfl rfl ⟨rfl, hd_X4_opens⟩ ⟨(Nat.le_of_ble_eq_true rfl), (Nat.le_of_ble_eq_true rfl)⟩) (kW_V kT_blind kT_give (va_recv hKc hPc (ci := 4) (q0 := 0) rfl rfl) hPc hKc hDc) rfl rfl hl.1 rfl (lv_room (Nat.le_of_ble_eq_true rfl)) dX4_readAtom_13 ⟨(Nat.le_of_ble_eq_true rfl), (Nat.le_of_ble_eq_true rfl)⟩) hS (fun q _ h => hFc q h) hFc (fun r_26 u t H1 locs ht hvm hw hB hz1 hk1 hS => ?_)
    obtain ⟨S1_27, S2_28, Pl_29, Wr_30, Fi_31⟩ := u
    obtain ⟨hP1, hK1, hD1⟩ := hB
    rw [ht] at hP1
    try dsimp only at hw
    obtain ⟨hP, hD⟩ : kPD dC dI A [(jR, .inr (4, [.ref jT, .ref r1, .ref r2, .int (nI (Wr_30)), .int (nI (Fi_31)), .int Pl_29, .ref q6, .ref q7])), (r1, .inl (c1, 120, .inl S1_27)), (r2, .inl (c2, 124, .inl S2_28)), (jT, .inr (8, [.ref t0, .int (nI (kt))])), (t0, .inl (cC, 120, .inl gT))] H1 := kJoinI hP hD [0, 1, 2, 3, 4] rfl hk1 hFc hP1 hD1 rfl [some 0, some 1, some 2, some 3, some 4] rfl rfl
    generalize H1 = H at hP hS ⊢
    have hw_32 := hw
    refine lv_if_eq (tgt := 42) hx hb dX4_readAtom_16 (by decide) (fun c_33 => ?_) (fun c_33 => ?_)
    · refine lv_iconst (v := 0) hx hb dX4_readAtom_42 (by decide) ?_
      have hP9 := hP
      have hD9 := hD
      have hK9 := hK
      rw [hQ]
      exact W.zret (v := 0) hx hb hr rfl (fun t ht hW => ⟨⟨0, (S1_27, S2_28, Pl_29, Wr_30, Fi_31), rfl, ⟨(Or.inl rfl), by omega, by omega⟩,  by rw [ht]; exact hP9, va_K.moved hW.alike hK9, hD9⟩, hS.F ht⟩) hS.2.2 dX4_readAtom_43
    · refine lv_aload_n hx hb dX4_readAtom_19 rfl (lv_at hl 1 rfl) ?_
      refine lv_iload_n hx hb dX4_readAtom_20 rfl (lv_at hl 2 rfl) ?_
      refine lv_iconst (v := 1) hx hb dX4_readAtom_21 (by decide) ?_
      refine lv_iadd hx hb dX4_readAtom_22 ?_
      refine lv_topi (fun y_34 ey_34 => ?_)
      obtain rfl : y_34 = 1 := ey_34.trans (by decide)
      obtain ⟨hPc, hDc, hFc⟩ := kCut (wc := [(jR, .inr (4, [.ref jT, .ref r1, .ref r2, .int (nI (Wr_30)), .int (nI (Fi_31)), .int Pl_29, .ref q6, .ref q7])), (r1, .inl (c1, 120, .inl S1_27)), (r2, .inl (c2, 124, .inl S2_28)), (jT, .inr (8, [.ref t0, .int (nI (kt))])), (t0, .inl (cC, 120, .inl gT))]) hP hD hS hA [0, 1, 2, 3, 4] rfl (by decide) rfl
      have hKc := hK.sb (tys2 := [(c1, .int), (c2, .int), (cC, .char)]) [0, 1, 2] rfl
      refine va_calli (va_runV (As := [.int 1]) (rest := []) ⟨hx, hb, hml, hown, hts⟩ (s_sum4_1 l dC dI jT t0 cC gT kt (by omega) (by omega) jR r1 r2 c1 c2 S1_27 S2_28 Wr_30 Fi_31 Pl_29 q6 q7 (by omega) (by omega) b6 n6 g6 (by omega) b7 n7 g7 (by omega) H.size) (cwV 1 hts (kG (List.forall_mem_cons.mpr ⟨(List.mem_cons_of_mem _ (List.mem_append_left _ (List.mem_of_getElem? (i := 32) rfl))), (List.forall_mem_cons.mpr ⟨(List.mem_cons_of_mem _ (List.mem_append_left _ (List.mem_of_getElem? (i := 31) rfl))), (List.forall_mem_cons.mpr ⟨(List.mem_cons_of_mem _ (List.mem_append_left _ (List.mem_of_getElem? (i := 30) rfl))), (List.forall_mem_cons.mpr ⟨(List.mem_cons_of_mem _ (List.mem_append_left _ (List.mem_of_getElem? (i := 0) rfl))), (fun _ h => absurd h List.not_mem_nil)⟩)⟩)⟩)⟩) (kGV _ _ _ _) (kFam (List.mem_cons_of_mem _ (List.mem_append_left _ (List.mem_of_getElem? (i := 29) rfl)))) gw_s_sum4_1) rfl rfl rfl ⟨rfl, hd_X4_readSum⟩ ⟨(Nat.le_of_ble_eq_true rfl), (Nat.le_of_ble_eq_true rfl)⟩) (kW_V kS2_blind (kS2_give hX hS hFc) (va_recv hKc hPc (ci := 4) (q0 := 0) rfl rfl) hPc hKc hDc) rfl rfl hl.1 rfl (lv_room (Nat.le_of_ble_eq_true rfl)) dX4_readAtom_23 ⟨(Nat.le_of_ble_eq_true rfl), (Nat.le_of_ble_eq_true rfl)⟩) hS (fun q _ h => hFc q h) hFc (fun r_35 u t H1 locs ht hvm hw hB hz1 hk1 hS => ?_)
      obtain ⟨S1_36, S2_37, Pl_38, Wr_39, Fi_40⟩ := u
      obtain ⟨hP1, hK1, hD1⟩ := hB
      rw [ht] at hP1
      try dsimp only at hw
      obtain ⟨hP, hD⟩ : kPD dC dI A [(jR, .inr (4, [.ref jT, .ref r1, .ref r2, .int (nI (Wr_39)), .int (nI (Fi_40)), .int Pl_38, .ref q6, .ref q7])), (r1, .inl (c1, 120, .inl S1_36)), (r2, .inl (c2, 124, .inl S2_37)), (jT, .inr (8, [.ref t0, .int (nI (kt))])), (t0, .inl (cC, 120, .inl gT))] H1 := kJoinI hP hD [0, 1, 2, 3, 4] rfl hk1 hFc hP1 hD1 rfl [some 0, some 1, some 2, some 3, some 4] rfl rfl
      generalize H1 = H at hP hS ⊢
      have hw_41 := hw
      refine lv_if_eq (tgt := 42) hx hb dX4_readAtom_26 (by decide) (fun c_42 => ?_) (fun c_42 => ?_)
      · refine lv_iconst (v := 0) hx hb dX4_readAtom_42 (by decide) ?_
        have hP9 := hP
        have hD9 := hD
        have hK9 := hK
        rw [hQ]
        exact W.zret (v := 0) hx hb hr rfl (fun t ht hW => ⟨⟨0, (S1_36, S2_37, Pl_38, Wr_39, Fi_40), rfl, ⟨(Or.inl rfl), by omega, by omega⟩,  by rw [ht]; exact hP9, va_K.moved hW.alike hK9, hD9⟩, hS.F ht⟩) hS.2.2 dX4_readAtom_43
      · refine lv_aload_n hx hb dX4_readAtom_29 rfl (lv_at hl 1 rfl) ?_
        refine lv_bipush (v := 93) hx hb dX4_readAtom_30 (by decide) ?_
        obtain ⟨hPc, hDc, hFc⟩ := kCut (wc := [(jR, .inr (4, [.ref jT, .ref r1, .ref r2, .int (nI (Wr_39)), .int (nI (Fi_40)), .int Pl_38, .ref q6, .ref q7])), (r1, .inl (c1, 120, .inl S1_36)), (r2, .inl (c2, 124, .inl S2_37)), (jT, .inr (8, [.ref t0, .int (nI (kt))])), (t0, .inl (cC, 120, .inl gT))]) hP hD hS hA [0, 1, 2, 3, 4] rfl (by decide) rfl
        have hKc := hK.sb (tys2 := [(c1, .int), (c2, .int), (cC, .char)]) [0, 1, 2] rfl
        refine va_calli (va_runV (As := [.int 93]) (rest := []) ⟨hx, hb, hml, hown, hts⟩ (s_take4 l dC dI jT t0 cC gT kt (by omega) (by omega) jR r1 r2 c1 c2 S1_36 S2_37 Wr_39 Fi_40 Pl_38 q6 q7 (by omega) (by omega) 93 H.size) (cwV 1 hts (kG (List.forall_mem_cons.mpr ⟨(List.mem_cons_of_mem _ (List.mem_append_left _ (List.mem_of_getElem? (i := 45) rfl))), (List.forall_mem_cons.mpr ⟨(List.mem_cons_of_mem _ (List.mem_append_left _ (List.mem_of_getElem? (i := 44) rfl))), (List.forall_mem_cons.mpr ⟨(List.mem_cons_of_mem _ (List.mem_append_left _ (List.mem_of_getElem? (i := 43) rfl))), (List.forall_mem_cons.mpr ⟨(List.mem_cons_of_mem _ (List.mem_append_left _ (List.mem_of_getElem? (i := 0) rfl))), (fun _ h => absurd h List.not_mem_nil)⟩)⟩)⟩)⟩) (kGV _ _ _ _) (fun _ h => List.mem_cons_of_mem _ (List.mem_append_right _ (List.mem_append_right _ (List.mem_append_right _ (List.mem_append_right _ (List.mem_append_right _ (List.mem_append_right _ (List.mem_append_right _ (List.mem_append_right _ (List.mem_append_right _ (List.mem_append_right _ (List.mem_append_left _ h)))))))))))) gw_s_take4) rfl rfl rfl ⟨rfl, hd_X4_take⟩ ⟨(Nat.le_of_ble_eq_true rfl), (Nat.le_of_ble_eq_true rfl)⟩) (kW_V kT_blind kT_give (va_recv hKc hPc (ci := 4) (q0 := 0) rfl rfl) hPc hKc hDc) rfl rfl hl.1 rfl (lv_room (Nat.le_of_ble_eq_true rfl)) dX4_readAtom_32 ⟨(Nat.le_of_ble_eq_true rfl), (Nat.le_of_ble_eq_true rfl)⟩) hS (fun q _ h => hFc q h) hFc (fun r_43 u t H1 locs ht hvm hw hB hz1 hk1 hS => ?_)
        obtain ⟨S1_44, S2_45, Pl_46, Wr_47, Fi_48⟩ := u
        obtain ⟨hP1, hK1, hD1⟩ := hB
        rw [ht] at hP1
        try dsimp only at hw
        obtain ⟨hP, hD⟩ : kPD dC dI A [(jR, .inr (4, [.ref jT, .ref r1, .ref r2, .int (nI (Wr_47)), .int (nI (Fi_48)), .int Pl_46, .ref q6, .ref q7])), (r1, .inl (c1, 120, .inl S1_44)), (r2, .inl (c2, 124, .inl S2_45)), (jT, .inr (8, [.ref t0, .int (nI (kt))])), (t0, .inl (cC, 120, .inl gT))] H1 := kJoinI hP hD [0, 1, 2, 3, 4] rfl hk1 hFc hP1 hD1 rfl [some 0, some 1, some 2, some 3, some 4] rfl rfl
        generalize H1 = H at hP hS ⊢
        have hw_49 := hw
        refine lv_if_eq (tgt := 42) hx hb dX4_readAtom_35 (by decide) (fun c_50 => ?_) (fun c_50 => ?_)
        · refine lv_iconst (v := 0) hx hb dX4_readAtom_42 (by decide) ?_
          have hP9 := hP
          have hD9 := hD
          have hK9 := hK
          rw [hQ]
          exact W.zret (v := 0) hx hb hr rfl (fun t ht hW => ⟨⟨0, (S1_44, S2_45, Pl_46, Wr_47, Fi_48), rfl, ⟨(Or.inl rfl), by omega, by omega⟩,  by rw [ht]; exact hP9, va_K.moved hW.alike hK9, hD9⟩, hS.F ht⟩) hS.2.2 dX4_readAtom_43
        · refine lv_iconst (v := 1) hx hb dX4_readAtom_38 (by decide) ?_
          refine lv_goto (tgt := 43) hx hb dX4_readAtom_39 (by decide) ?_
          have hP9 := hP
          have hD9 := hD
          have hK9 := hK
          rw [hQ]
          exact W.zret (v := 1) hx hb hr rfl (fun t ht hW => ⟨⟨1, (S1_44, S2_45, Pl_46, Wr_47, Fi_48), rfl, ⟨(Or.inr rfl), by omega, by omega⟩,  by rw [ht]; exact hP9, va_K.moved hW.alike hK9, hD9⟩, hS.F ht⟩) hS.2.2 dX4_readAtom_43

def w_s_term4_0 : List Cond := .code yX4_readTerm cX4_readTerm 4 (some .boolean) :: wf_rd
theorem gw_s_term4_0 : (w_s_term4_0).all goodWord = true := kFamG rfl gf_rd
set_option maxHeartbeats 4000000 in
set_option maxRecDepth 100000 in
theorem s_term4_0 (l : Launch) (dC : Nat → ClassId) (dI : Nat → Nat → Nat) (jT : Nat) (t0 : Nat) (cC : ClassId) (gT : Nat → Int32) (kt : Nat) (hkt : kt ≤ 120) (hgT : ∀ j : Nat, narrow .char (.int (gT j)) = .int (gT j)) (jR : Nat) (r1 : Nat) (r2 : Nat) (c1 : ClassId) (c2 : ClassId) (s1 : Nat → Int32) (s2 : Nat → Int32) (wr : Nat) (fi : Nat) (pl : Int32) (q6 : Nat) (q7 : Nat) (hwr : wr ≤ 120) (hfi : fi ≤ 124) (b6 : Nat) (n6 : Nat) (g6 : Nat → Int32) (hn6 : n6 ≤ 8) (b7 : Nat) (n7 : Nat) (g7 : Nat → Int32) (hn7 : n7 ≤ 8) (sz : Nat) : Met l yX4_readTerm w_s_term4_0 ({ frames := 43, cells := 0, slots := 0, locals := 2580 }) (kW dC dI [.ref jR, .int 0] [(jR, .inr (4, [.ref jT, .ref r1, .ref r2, .int (nI (wr)), .int (nI (fi)), .int pl, .ref q6, .ref q7])), (r1, .inl (c1, 120, .inl s1)), (r2, .inl (c2, 124, .inl s2)), (jT, .inr (8, [.ref t0, .int (nI (kt))])), (t0, .inl (cC, 120, .inl gT))] [(c1, .int), (c2, .int), (cC, .char)] (kS2 q6 b6 n6 g6 q7 b7 n7 g7 (va_A [(jR, .inr (4, [.ref jT, .ref r1, .ref r2, .int (nI (wr)), .int (nI (fi)), .int pl, .ref q6, .ref q7])), (r1, .inl (c1, 120, .inl s1)), (r2, .inl (c2, 124, .inl s2)), (jT, .inr (8, [.ref t0, .int (nI (kt))])), (t0, .inl (cC, 120, .inl gT))] sz)) sz) (va_Qi (fun (r : Int32) (u : (Nat → Int32) × (Nat → Int32) × Int32 × Nat × Nat) => match u with | (S1, S2, Pl, Wr, Fi) => ((r = 0 ∨ r = 1) ∧ Wr ≤ 120 ∧ Fi ≤ 124)) (fun (u : (Nat → Int32) × (Nat → Int32) × Int32 × Nat × Nat) => match u with | (S1, S2, Pl, Wr, Fi) => fun t : State => kB dC dI [(jR, .inr (4, [.ref jT, .ref r1, .ref r2, .int (nI (Wr)), .int (nI (Fi)), .int Pl, .ref q6, .ref q7])), (r1, .inl (c1, 120, .inl S1)), (r2, .inl (c2, 124, .inl S2)), (jT, .inr (8, [.ref t0, .int (nI (kt))])), (t0, .inl (cC, 120, .inl gT))] [(c1, .int), (c2, .int), (cC, .char)] (va_A [(jR, .inr (4, [.ref jT, .ref r1, .ref r2, .int (nI (wr)), .int (nI (fi)), .int pl, .ref q6, .ref q7])), (r1, .inl (c1, 120, .inl s1)), (r2, .inl (c2, 124, .inl s2)), (jT, .inr (8, [.ref t0, .int (nI (kt))])), (t0, .inl (cC, 120, .inl gT))] sz) t) (va_A [(jR, .inr (4, [.ref jT, .ref r1, .ref r2, .int (nI (wr)), .int (nI (fi)), .int pl, .ref q6, .ref q7])), (r1, .inl (c1, 120, .inl s1)), (r2, .inl (c2, 124, .inl s2)), (jT, .inr (8, [.ref t0, .int (nI (kt))])), (t0, .inl (cC, 120, .inl gT))] sz)) 0 0 (va_A [(jR, .inr (4, [.ref jT, .ref r1, .ref r2, .int (nI (wr)), .int (nI (fi)), .int pl, .ref q6, .ref q7])), (r1, .inl (c1, 120, .inl s1)), (r2, .inl (c2, 124, .inl s2)), (jT, .inr (8, [.ref t0, .int (nI (kt))])), (t0, .inl (cC, 120, .inl gT))] sz) := by
  refine Met.ofW (cc := cX4_readTerm) (maxL := 4) (ret := (some .boolean)) (by decide) rfl ?_
  intro p e s m args below meth c s₁ B hml hv
  obtain ⟨rfl, hsz, hP, hK, hD0, hX⟩ := hv
  have hx := B.exec
  have hb := B.bytes
  have hr := B.returns
  have hts := atoms_spec (ws := w_s_term4_0) B.pre
  have hown : s.vm.findClass RX4 = some m.cls := findClass_of_methodNamed B.named
  have hlocks := B.notSynchronized
  subst hsz
  have hD := hD0.self (sz := s.heap.size)
  generalize hAe : va_A [(jR, .inr (4, [.ref jT, .ref r1, .ref r2, .int (nI (wr)), .int (nI (fi)), .int pl, .ref q6, .ref q7])), (r1, .inl (c1, 120, .inl s1)), (r2, .inl (c2, 124, .inl s2)), (jT, .inr (8, [.ref t0, .int (nI (kt))])), (t0, .inl (cC, 120, .inl gT))] s.heap.size = A at hD hX ⊢
  have hA : ∀ q : Nat, s.heap.size ≤ q → A q := fun q h => by rw [← hAe]; exact Or.inr h
  have hS : va_S A s.heap s.heap [] := va_S.rf
  have hP : va_P (dC, dI) vwCl [(jR, .inr (4, [.ref jT, .ref r1, .ref r2, .int (nI (wr)), .int (nI (fi)), .int pl, .ref q6, .ref q7])), (r1, .inl (c1, 120, .inl s1)), (r2, .inl (c2, 124, .inl s2)), (jT, .inr (8, [.ref t0, .int (nI (kt))])), (t0, .inl (cC, 120, .inl gT))] s.heap := hP
  have hl := lv_entry ([.ref jR, .int 0]) (n := 4) (Nat.le_of_ble_eq_true rfl)
  rw [lg_entry_eq]
  generalize (lg_sl ([.ref jR, .int 0]) ++ List.replicate (4 - (lg_sl ([.ref jR, .int 0])).length) Slot.unset).toArray = ls at hl ⊢
  have hl : lv_has ls 4 [(0, .ref jR), (1, .int 0)] := hl
  refine kQ (fun Q hQ => ?_)
  refine lv_aload_n hx hb dX4_readTerm_0 rfl (lv_at hl 0 rfl) ?_
  refine lv_iload_n hx hb dX4_readTerm_1 rfl (lv_at hl 1 rfl) ?_
  obtain ⟨hPc, hDc, hFc⟩ := kCut (wc := [(jR, .inr (4, [.ref jT, .ref r1, .ref r2, .int (nI (wr)), .int (nI (fi)), .int pl, .ref q6, .ref q7])), (r1, .inl (c1, 120, .inl s1)), (r2, .inl (c2, 124, .inl s2)), (jT, .inr (8, [.ref t0, .int (nI (kt))])), (t0, .inl (cC, 120, .inl gT))]) hP hD hS hA [0, 1, 2, 3, 4] rfl (by decide) rfl
  have hKc := hK.sb (tys2 := [(c1, .int), (c2, .int), (cC, .char)]) [0, 1, 2] rfl
  refine va_calli (va_runV (As := [.int 0]) (rest := []) ⟨hx, hb, hml, hown, hts⟩ (s_atom4_0 l dC dI jT t0 cC gT kt (by omega) (by omega) jR r1 r2 c1 c2 s1 s2 wr fi pl q6 q7 (by omega) (by omega) b6 n6 g6 (by omega) b7 n7 g7 (by omega) s.heap.size) (cwV 1 hts (kG (List.forall_mem_cons.mpr ⟨(List.mem_cons_of_mem _ (List.mem_append_left _ (List.mem_of_getElem? (i := 24) rfl))), (List.forall_mem_cons.mpr ⟨(List.mem_cons_of_mem _ (List.mem_append_left _ (List.mem_of_getElem? (i := 23) rfl))), (List.forall_mem_cons.mpr ⟨(List.mem_cons_of_mem _ (List.mem_append_left _ (List.mem_of_getElem? (i := 22) rfl))), (List.forall_mem_cons.mpr ⟨(List.mem_cons_of_mem _ (List.mem_append_left _ (List.mem_of_getElem? (i := 0) rfl))), (fun _ h => absurd h List.not_mem_nil)⟩)⟩)⟩)⟩) (kGV _ _ _ _) (kFam (List.mem_cons_of_mem _ (List.mem_append_left _ (List.mem_of_getElem? (i := 21) rfl)))) gw_s_atom4_0) rfl rfl rfl ⟨rfl, hd_X4_readAtom⟩ ⟨(Nat.le_of_ble_eq_true rfl), (Nat.le_of_ble_eq_true rfl)⟩) (kW_V kS2_blind (kS2_give hX hS hFc) (va_recv hKc hPc (ci := 4) (q0 := 0) rfl rfl) hPc hKc hDc) rfl rfl hl.1 rfl (lv_room (Nat.le_of_ble_eq_true rfl)) dX4_readTerm_2 ⟨(Nat.le_of_ble_eq_true rfl), (Nat.le_of_ble_eq_true rfl)⟩) hS (fun q _ h => hFc q h) hFc (fun r_1 u t H1 locs ht hvm hw hB hz1 hk1 hS => ?_)
  obtain ⟨S1_2, S2_3, Pl_4, Wr_5, Fi_6⟩ := u
  obtain ⟨hP1, hK1, hD1⟩ := hB
  rw [ht] at hP1
  try dsimp only at hw
  obtain ⟨hP, hD⟩ : kPD dC dI A [(jR, .inr (4, [.ref jT, .ref r1, .ref r2, .int (nI (Wr_5)), .int (nI (Fi_6)), .int Pl_4, .ref q6, .ref q7])), (r1, .inl (c1, 120, .inl S1_2)), (r2, .inl (c2, 124, .inl S2_3)), (jT, .inr (8, [.ref t0, .int (nI (kt))])), (t0, .inl (cC, 120, .inl gT))] H1 := kJoinI hP hD [0, 1, 2, 3, 4] rfl hk1 hFc hP1 hD1 rfl [some 0, some 1, some 2, some 3, some 4] rfl rfl
  generalize H1 = H at hP hS ⊢
  have hw_7 := hw
  refine lv_if_ne (tgt := 10) hx hb dX4_readTerm_5 (by decide) (fun c_8 => ?_) (fun c_8 => ?_)
  · refine lv_iconst (v := 0) hx hb dX4_readTerm_10 (by decide) ?_
    refine lv_istore_n hx hb dX4_readTerm_11 rfl hl (by decide) (kTo [(2, .int 0), (0, .ref jR), (1, .int 0)]) (fun ls hl => ?_)
    have lp_k_9 : ∀ (n9 : Nat) (i : Nat) (xs1 : Nat → Int32) (xs2 : Nat → Int32) (xpl : Int32) (xwr : Nat) (xfi : Nat) (ivk_9_0 : i ≤ 120) (ivk_9_1 : xwr ≤ 120) (ivk_9_2 : xfi ≤ 124) (H : Heap) (locs : List Loc) (_ : va_P (dC, dI) vwCl [(jR, .inr (4, [.ref jT, .ref r1, .ref r2, .int (nI (xwr)), .int (nI (xfi)), .int xpl, .ref q6, .ref q7])), (r1, .inl (c1, 120, .inl xs1)), (r2, .inl (c2, 124, .inl xs2)), (jT, .inr (8, [.ref t0, .int (nI (kt))])), (t0, .inl (cC, 120, .inl gT))] H) (_ : va_D A [(jR, .inr (4, [.ref jT, .ref r1, .ref r2, .int (nI (xwr)), .int (nI (xfi)), .int xpl, .ref q6, .ref q7])), (r1, .inl (c1, 120, .inl xs1)), (r2, .inl (c2, 124, .inl xs2)), (jT, .inr (8, [.ref t0, .int (nI (kt))])), (t0, .inl (cC, 120, .inl gT))]) (_ : va_S A s.heap H locs) (ls : Array Slot) (_ : lv_has ls 4 [(2, .int (nI (i))), (0, .ref jR), (1, .int 0)]) (_ : 120 - i < n9), W p l e (headSpec w_s_term4_0 ({ frames := 43, cells := 0, slots := 0, locals := 2580 })).room s m (#[.ref jR, .int 0] : Array Value) below meth c H locs 0 0 Q (F0 m 12 ls []) := by
      intro n9
      induction n9 with
      | zero => intro i xs1 xs2 xpl xwr xfi ivk_9_0 ivk_9_1 ivk_9_2 H locs hP hD hS ls hl hm9; exact absurd hm9 (Nat.not_lt_zero _)
      | succ n9 ih_k_9 =>
        intro i xs1 xs2 xpl xwr xfi ivk_9_0 ivk_9_1 ivk_9_2 H locs hP hD hS ls hl hm9
        refine lv_iload_n hx hb dX4_readTerm_12 rfl (lv_at hl 0 rfl) ?_
        refine lv_bipush (v := 120) hx hb dX4_readTerm_13 (by decide) ?_
        refine lv_icmp_ge (tgt := 79) hx hb dX4_readTerm_15 (by decide) (fun c_10 => ?_) (fun c_10 => ?_)
        · have hn_11 := kle (a := 120) (b := i) (by omega) (by omega) c_10
          refine lv_iconst (v := 1) hx hb dX4_readTerm_79 (by decide) ?_
          have hP9 := hP
          have hD9 := hD
          have hK9 := hK
          rw [hQ]
          exact W.zret (v := 1) hx hb hr rfl (fun t ht hW => ⟨⟨1, (xs1, xs2, xpl, xwr, xfi), rfl, ⟨(Or.inr rfl), by omega, by omega⟩,  by rw [ht]; exact hP9, va_K.moved hW.alike hK9, hD9⟩, hS.F ht⟩) hS.2.2 dX4_readTerm_80
        · have hn_12 := knle (a := 120) (b := i) (by omega) (by omega) c_10
          refine lv_aload_n hx hb dX4_readTerm_18 rfl (lv_at hl 1 rfl) ?_
          obtain ⟨hPc, hDc, hFc⟩ := kCut (wc := [(jR, .inr (4, [.ref jT, .ref r1, .ref r2, .int (nI (xwr)), .int (nI (xfi)), .int xpl, .ref q6, .ref q7])), (r1, .inl (c1, 120, .inl xs1)), (r2, .inl (c2, 124, .inl xs2)), (jT, .inr (8, [.ref t0, .int (nI (kt))])), (t0, .inl (cC, 120, .inl gT))]) hP hD hS hA [0, 1, 2, 3, 4] rfl (by decide) rfl
          have hKc := hK.sb (tys2 := [(c1, .int), (c2, .int), (cC, .char)]) [0, 1, 2] rfl
          refine va_calli (va_runV (As := []) (rest := []) ⟨hx, hb, hml, hown, hts⟩ (s_look4 l dC dI jT t0 cC gT kt (by omega) (by omega) jR r1 r2 c1 c2 xs1 xs2 xwr xfi xpl q6 q7 (by omega) (by omega) H.size) (cwV 0 hts (kG (List.forall_mem_cons.mpr ⟨(List.mem_cons_of_mem _ (List.mem_append_left _ (List.mem_of_getElem? (i := 3) rfl))), (List.forall_mem_cons.mpr ⟨(List.mem_cons_of_mem _ (List.mem_append_left _ (List.mem_of_getElem? (i := 2) rfl))), (List.forall_mem_cons.mpr ⟨(List.mem_cons_of_mem _ (List.mem_append_left _ (List.mem_of_getElem? (i := 1) rfl))), (List.forall_mem_cons.mpr ⟨(List.mem_cons_of_mem _ (List.mem_append_left _ (List.mem_of_getElem? (i := 0) rfl))), (fun _ h => absurd h List.not_mem_nil)⟩)⟩)⟩)⟩) (kGV _ _ _ _) (fun _ h => List.mem_cons_of_mem _ (List.mem_append_right _ (List.mem_append_left _ h))) gw_s_look4) rfl rfl rfl ⟨rfl, hd_X4_look⟩ ⟨(Nat.le_of_ble_eq_true rfl), (Nat.le_of_ble_eq_true rfl)⟩) (kW_V kT_blind kT_give (va_recv hKc hPc (ci := 4) (q0 := 0) rfl rfl) hPc hKc hDc) rfl rfl hl.1 rfl (lv_room (Nat.le_of_ble_eq_true rfl)) dX4_readTerm_19 ⟨(Nat.le_of_ble_eq_true rfl), (Nat.le_of_ble_eq_true rfl)⟩) hS (fun q _ h => hFc q h) hFc (fun r_13 u t H1 locs ht hvm hw hB hz1 hk1 hS => ?_)
          obtain ⟨Pl_14, rfl⟩ : ∃ z, z = u := ⟨_, rfl⟩
          obtain ⟨hP1, hK1, hD1⟩ := hB
          rw [ht] at hP1
          try dsimp only at hw
          obtain ⟨hP, hD⟩ : kPD dC dI A [(jR, .inr (4, [.ref jT, .ref r1, .ref r2, .int (nI (xwr)), .int (nI (xfi)), .int Pl_14, .ref q6, .ref q7])), (r1, .inl (c1, 120, .inl xs1)), (r2, .inl (c2, 124, .inl xs2)), (jT, .inr (8, [.ref t0, .int (nI (kt))])), (t0, .inl (cC, 120, .inl gT))] H1 := kJoinI hP hD [0, 1, 2, 3, 4] rfl hk1 hFc hP1 hD1 rfl [some 0, some 1, some 2, some 3, some 4] rfl rfl
          generalize H1 = H at hP hS ⊢
          have hw_15 := hw
          refine lv_bipush (v := 42) hx hb dX4_readTerm_22 (by decide) ?_
          refine lv_icmp_eq (tgt := 36) hx hb dX4_readTerm_24 (by decide) (fun c_16 => ?_) (fun c_16 => ?_)
          · refine lv_aload_n hx hb dX4_readTerm_36 rfl (lv_at hl 1 rfl) ?_
            obtain ⟨hPc, hDc, hFc⟩ := kCut (wc := [(jR, .inr (4, [.ref jT, .ref r1, .ref r2, .int (nI (xwr)), .int (nI (xfi)), .int Pl_14, .ref q6, .ref q7])), (r1, .inl (c1, 120, .inl xs1)), (r2, .inl (c2, 124, .inl xs2)), (jT, .inr (8, [.ref t0, .int (nI (kt))])), (t0, .inl (cC, 120, .inl gT))]) hP hD hS hA [0, 1, 2, 3, 4] rfl (by decide) rfl
            have hKc := hK.sb (tys2 := [(c1, .int), (c2, .int), (cC, .char)]) [0, 1, 2] rfl
            refine va_calli (va_runV (As := []) (rest := []) ⟨hx, hb, hml, hown, hts⟩ (s_look4 l dC dI jT t0 cC gT kt (by omega) (by omega) jR r1 r2 c1 c2 xs1 xs2 xwr xfi Pl_14 q6 q7 (by omega) (by omega) H.size) (cwV 0 hts (kG (List.forall_mem_cons.mpr ⟨(List.mem_cons_of_mem _ (List.mem_append_left _ (List.mem_of_getElem? (i := 3) rfl))), (List.forall_mem_cons.mpr ⟨(List.mem_cons_of_mem _ (List.mem_append_left _ (List.mem_of_getElem? (i := 2) rfl))), (List.forall_mem_cons.mpr ⟨(List.mem_cons_of_mem _ (List.mem_append_left _ (List.mem_of_getElem? (i := 1) rfl))), (List.forall_mem_cons.mpr ⟨(List.mem_cons_of_mem _ (List.mem_append_left _ (List.mem_of_getElem? (i := 0) rfl))), (fun _ h => absurd h List.not_mem_nil)⟩)⟩)⟩)⟩) (kGV _ _ _ _) (fun _ h => List.mem_cons_of_mem _ (List.mem_append_right _ (List.mem_append_left _ h))) gw_s_look4) rfl rfl rfl ⟨rfl, hd_X4_look⟩ ⟨(Nat.le_of_ble_eq_true rfl), (Nat.le_of_ble_eq_true rfl)⟩) (kW_V kT_blind kT_give (va_recv hKc hPc (ci := 4) (q0 := 0) rfl rfl) hPc hKc hDc) rfl rfl hl.1 rfl (lv_room (Nat.le_of_ble_eq_true rfl)) dX4_readTerm_37 ⟨(Nat.le_of_ble_eq_true rfl), (Nat.le_of_ble_eq_true rfl)⟩) hS (fun q _ h => hFc q h) hFc (fun r_17 u t H1 locs ht hvm hw hB hz1 hk1 hS => ?_)
            obtain ⟨Pl_18, rfl⟩ : ∃ z, z = u := ⟨_, rfl⟩
            obtain ⟨hP1, hK1, hD1⟩ := hB
            rw [ht] at hP1
            try dsimp only at hw
            obtain ⟨hP, hD⟩ : kPD dC dI A [(jR, .inr (4, [.ref jT, .ref r1, .ref r2, .int (nI (xwr)), .int (nI (xfi)), .int Pl_18, .ref q6, .ref q7])), (r1, .inl (c1, 120, .inl xs1)), (r2, .inl (c2, 124, .inl xs2)), (jT, .inr (8, [.ref t0, .int (nI (kt))])), (t0, .inl (cC, 120, .inl gT))] H1 := kJoinI hP hD [0, 1, 2, 3, 4] rfl hk1 hFc hP1 hD1 rfl [some 0, some 1, some 2, some 3, some 4] rfl rfl
            generalize H1 = H at hP hS ⊢
            have hw_19 := hw
            refine lv_istore_n hx hb dX4_readTerm_40 rfl hl (by decide) (kTo [(3, .int r_17), (2, .int (nI (i))), (0, .ref jR), (1, .int 0)]) (fun ls hl => ?_)
            refine lv_aload_n hx hb dX4_readTerm_41 rfl (lv_at hl 2 rfl) ?_
            refine lv_dup hx hb dX4_readTerm_42 rfl ?_
            refine va_get (D := (dC, dI)) (ci := 4) (v := .int Pl_18) (C := RX4) (T := TX4) (N := 8) hx hb hts (fun _ h => List.mem_cons_of_mem _ (List.mem_append_right _ (List.mem_append_right _ (List.mem_append_right _ (List.mem_append_left _ h))))) hown hK hP 0 rfl rfl 5 (by decide) (hts (.fieldLink RX4 25 "NotEnded$Reader" "place" "I") (List.mem_cons_of_mem _ (List.mem_append_left _ (List.mem_of_getElem? (i := 11) rfl)))) (fun _ h9 => h9) rfl dX4_readTerm_43 ?_
            refine lv_iconst (v := 1) hx hb dX4_readTerm_46 (by decide) ?_
            refine lv_iadd hx hb dX4_readTerm_47 ?_
            refine lv_topi (fun x_20 ex_20 => ?_)
            refine va_put (D := (dC, dI)) (ci := 4) (v := .int x_20) (ty := tyX4 5) (C := RX4) (T := TX4) (N := 8) hx hb hts (fun _ h => List.mem_cons_of_mem _ (List.mem_append_right _ (List.mem_append_right _ (List.mem_append_right _ (List.mem_append_left _ h))))) tyX4 tyX4_ok nmX4 hown hK hP hD hS 0 rfl rfl 5 (by decide) (hts (.fieldLink RX4 25 "NotEnded$Reader" "place" "I") (List.mem_cons_of_mem _ (List.mem_append_left _ (List.mem_of_getElem? (i := 11) rfl)))) (fun _ h9 => h9) rfl (tyX4_ok 5 (by decide)) rfl rfl (Nat.le_of_ble_eq_true rfl) dX4_readTerm_48 (fun H locs hP hD hS => ?_)
            obtain ⟨hP, hD⟩ : kPD dC dI A [(jR, .inr (4, [.ref jT, .ref r1, .ref r2, .int (nI (xwr)), .int (nI (xfi)), .int x_20, .ref q6, .ref q7])), (r1, .inl (c1, 120, .inl xs1)), (r2, .inl (c2, 124, .inl xs2)), (jT, .inr (8, [.ref t0, .int (nI (kt))])), (t0, .inl (cC, 120, .inl gT))] H := ⟨hP, hD⟩
            refine lv_aload_n hx hb dX4_readTerm_51 rfl (lv_at hl 2 rfl) ?_
            refine lv_iload_n hx hb dX4_readTerm_52 rfl (lv_at hl 3 rfl) ?_
            obtain ⟨hPc, hDc, hFc⟩ := kCut (wc := [(jR, .inr (4, [.ref jT, .ref r1, .ref r2, .int (nI (xwr)), .int (nI (xfi)), .int x_20, .ref q6, .ref q7])), (r1, .inl (c1, 120, .inl xs1)), (r2, .inl (c2, 124, .inl xs2)), (jT, .inr (8, [.ref t0, .int (nI (kt))])), (t0, .inl (cC, 120, .inl gT))]) hP hD hS hA [0, 1, 2, 3, 4] rfl (by decide) rfl
            have hKc := hK.sb (tys2 := [(c1, .int), (c2, .int), (cC, .char)]) [0, 1, 2] rfl
            refine va_calli (va_runV (As := [.int 0]) (rest := []) ⟨hx, hb, hml, hown, hts⟩ (s_atom4_0 l dC dI jT t0 cC gT kt (by omega) (by omega) jR r1 r2 c1 c2 xs1 xs2 xwr xfi x_20 q6 q7 (by omega) (by omega) b6 n6 g6 (by omega) b7 n7 g7 (by omega) H.size) (cwV 1 hts (kG (List.forall_mem_cons.mpr ⟨(List.mem_cons_of_mem _ (List.mem_append_left _ (List.mem_of_getElem? (i := 24) rfl))), (List.forall_mem_cons.mpr ⟨(List.mem_cons_of_mem _ (List.mem_append_left _ (List.mem_of_getElem? (i := 23) rfl))), (List.forall_mem_cons.mpr ⟨(List.mem_cons_of_mem _ (List.mem_append_left _ (List.mem_of_getElem? (i := 22) rfl))), (List.forall_mem_cons.mpr ⟨(List.mem_cons_of_mem _ (List.mem_append_left _ (List.mem_of_getElem? (i := 0) rfl))), (fun _ h => absurd h List.not_mem_nil)⟩)⟩)⟩)⟩) (kGV _ _ _ _) (kFam (List.mem_cons_of_mem _ (List.mem_append_left _ (List.mem_of_getElem? (i := 21) rfl)))) gw_s_atom4_0) rfl rfl rfl ⟨rfl, hd_X4_readAtom⟩ ⟨(Nat.le_of_ble_eq_true rfl), (Nat.le_of_ble_eq_true rfl)⟩) (kW_V kS2_blind (kS2_give hX hS hFc) (va_recv hKc hPc (ci := 4) (q0 := 0) rfl rfl) hPc hKc hDc) rfl rfl hl.1 rfl (lv_room (Nat.le_of_ble_eq_true rfl)) dX4_readTerm_53 ⟨(Nat.le_of_ble_eq_true rfl), (Nat.le_of_ble_eq_true rfl)⟩) hS (fun q _ h => hFc q h) hFc (fun r_21 u t H1 locs ht hvm hw hB hz1 hk1 hS => ?_)
            obtain ⟨S1_22, S2_23, Pl_24, Wr_25, Fi_26⟩ := u
            obtain ⟨hP1, hK1, hD1⟩ := hB
            rw [ht] at hP1
            try dsimp only at hw
            obtain ⟨hP, hD⟩ : kPD dC dI A [(jR, .inr (4, [.ref jT, .ref r1, .ref r2, .int (nI (Wr_25)), .int (nI (Fi_26)), .int Pl_24, .ref q6, .ref q7])), (r1, .inl (c1, 120, .inl S1_22)), (r2, .inl (c2, 124, .inl S2_23)), (jT, .inr (8, [.ref t0, .int (nI (kt))])), (t0, .inl (cC, 120, .inl gT))] H1 := kJoinI hP hD [0, 1, 2, 3, 4] rfl hk1 hFc hP1 hD1 rfl [some 0, some 1, some 2, some 3, some 4] rfl rfl
            generalize H1 = H at hP hS ⊢
            have hw_27 := hw
            refine lv_if_eq (tgt := 71) hx hb dX4_readTerm_56 (by decide) (fun c_28 => ?_) (fun c_28 => ?_)
            · refine lv_iconst (v := 0) hx hb dX4_readTerm_71 (by decide) ?_
              have hP9 := hP
              have hD9 := hD
              have hK9 := hK
              rw [hQ]
              exact W.zret (v := 0) hx hb hr rfl (fun t ht hW => ⟨⟨0, (S1_22, S2_23, Pl_24, Wr_25, Fi_26), rfl, ⟨(Or.inl rfl), by omega, by omega⟩,  by rw [ht]; exact hP9, va_K.moved hW.alike hK9, hD9⟩, hS.F ht⟩) hS.2.2 dX4_readTerm_72
            · refine lv_aload_n hx hb dX4_readTerm_59 rfl (lv_at hl 2 rfl) ?_
              refine lv_sipush (v := 20000) hx hb dX4_readTerm_60 (by decide) ?_
              refine lv_iload_n hx hb dX4_readTerm_63 rfl (lv_at hl 0 rfl) ?_
              refine lv_iadd hx hb dX4_readTerm_64 ?_
              refine lv_topi (fun x_29 ex_29 => ?_)
              obtain ⟨hPc, hDc, hFc⟩ := kCut (wc := [(jR, .inr (4, [.ref jT, .ref r1, .ref r2, .int (nI (Wr_25)), .int (nI (Fi_26)), .int Pl_24, .ref q6, .ref q7])), (r1, .inl (c1, 120, .inl S1_22)), (r2, .inl (c2, 124, .inl S2_23)), (jT, .inr (8, [.ref t0, .int (nI (kt))])), (t0, .inl (cC, 120, .inl gT))]) hP hD hS hA [0, 1, 2, 3, 4] rfl (by decide) rfl
              have hKc := hK.sb (tys2 := [(c1, .int), (c2, .int), (cC, .char)]) [0, 1, 2] rfl
              refine va_calli (va_runV (As := [.int x_29]) (rest := []) ⟨hx, hb, hml, hown, hts⟩ (s_write4 l dC dI jT t0 cC gT kt (by omega) (by omega) jR r1 r2 c1 c2 S1_22 S2_23 Wr_25 Fi_26 Pl_24 q6 q7 (by omega) (by omega) x_29 H.size) (cwV 1 hts (kG (List.forall_mem_cons.mpr ⟨(List.mem_cons_of_mem _ (List.mem_append_left _ (List.mem_of_getElem? (i := 14) rfl))), (List.forall_mem_cons.mpr ⟨(List.mem_cons_of_mem _ (List.mem_append_left _ (List.mem_of_getElem? (i := 13) rfl))), (List.forall_mem_cons.mpr ⟨(List.mem_cons_of_mem _ (List.mem_append_left _ (List.mem_of_getElem? (i := 12) rfl))), (List.forall_mem_cons.mpr ⟨(List.mem_cons_of_mem _ (List.mem_append_left _ (List.mem_of_getElem? (i := 0) rfl))), (fun _ h => absurd h List.not_mem_nil)⟩)⟩)⟩)⟩) (kGV _ _ _ _) (fun _ h => List.mem_cons_of_mem _ (List.mem_append_right _ (List.mem_append_right _ (List.mem_append_right _ (List.mem_append_right _ (List.mem_append_right _ (List.mem_append_left _ h))))))) gw_s_write4) rfl rfl rfl ⟨rfl, hd_X4_write⟩ ⟨(Nat.le_of_ble_eq_true rfl), (Nat.le_of_ble_eq_true rfl)⟩) (kW_V kT_blind kT_give (va_recv hKc hPc (ci := 4) (q0 := 0) rfl rfl) hPc hKc hDc) rfl rfl hl.1 rfl (lv_room (Nat.le_of_ble_eq_true rfl)) dX4_readTerm_65 ⟨(Nat.le_of_ble_eq_true rfl), (Nat.le_of_ble_eq_true rfl)⟩) hS (fun q _ h => hFc q h) hFc (fun r_30 u t H1 locs ht hvm hw hB hz1 hk1 hS => ?_)
              obtain ⟨S1_31, S2_32, Pl_33, Wr_34, Fi_35⟩ := u
              obtain ⟨hP1, hK1, hD1⟩ := hB
              rw [ht] at hP1
              try dsimp only at hw
              obtain ⟨hP, hD⟩ : kPD dC dI A [(jR, .inr (4, [.ref jT, .ref r1, .ref r2, .int (nI (Wr_34)), .int (nI (Fi_35)), .int Pl_33, .ref q6, .ref q7])), (r1, .inl (c1, 120, .inl S1_31)), (r2, .inl (c2, 124, .inl S2_32)), (jT, .inr (8, [.ref t0, .int (nI (kt))])), (t0, .inl (cC, 120, .inl gT))] H1 := kJoinI hP hD [0, 1, 2, 3, 4] rfl hk1 hFc hP1 hD1 rfl [some 0, some 1, some 2, some 3, some 4] rfl rfl
              generalize H1 = H at hP hS ⊢
              have hw_36 := hw
              refine lv_if_ne (tgt := 73) hx hb dX4_readTerm_68 (by decide) (fun c_37 => ?_) (fun c_37 => ?_)
              · refine lv_iinc (v := nI (i + 1)) hx hb dX4_readTerm_73 hl (k := 1) rfl (kInc _ 1) (by decide) (kTo [(2, .int (nI (i + 1))), (3, .int r_17), (0, .ref jR), (1, .int 0)]) (fun ls hl => ?_)
                refine lv_goto (tgt := 12) hx hb dX4_readTerm_76 (by decide) ?_
                exact ih_k_9 (i + 1) S1_31 S2_32 Pl_33 Wr_34 Fi_35 (by omega) (by omega) (by omega) _ _ hP hD hS ls (lv_sub hl [0, 2, 3] rfl) (by omega)
              · refine lv_iconst (v := 0) hx hb dX4_readTerm_71 (by decide) ?_
                have hP9 := hP
                have hD9 := hD
                have hK9 := hK
                rw [hQ]
                exact W.zret (v := 0) hx hb hr rfl (fun t ht hW => ⟨⟨0, (S1_31, S2_32, Pl_33, Wr_34, Fi_35), rfl, ⟨(Or.inl rfl), by omega, by omega⟩,  by rw [ht]; exact hP9, va_K.moved hW.alike hK9, hD9⟩, hS.F ht⟩) hS.2.2 dX4_readTerm_72
          · refine lv_aload_n hx hb dX4_readTerm_27 rfl (lv_at hl 1 rfl) ?_
            obtain ⟨hPc, hDc, hFc⟩ := kCut (wc := [(jR, .inr (4, [.ref jT, .ref r1, .ref r2, .int (nI (xwr)), .int (nI (xfi)), .int Pl_14, .ref q6, .ref q7])), (r1, .inl (c1, 120, .inl xs1)), (r2, .inl (c2, 124, .inl xs2)), (jT, .inr (8, [.ref t0, .int (nI (kt))])), (t0, .inl (cC, 120, .inl gT))]) hP hD hS hA [0, 1, 2, 3, 4] rfl (by decide) rfl
            have hKc := hK.sb (tys2 := [(c1, .int), (c2, .int), (cC, .char)]) [0, 1, 2] rfl
            refine va_calli (va_runV (As := []) (rest := []) ⟨hx, hb, hml, hown, hts⟩ (s_look4 l dC dI jT t0 cC gT kt (by omega) (by omega) jR r1 r2 c1 c2 xs1 xs2 xwr xfi Pl_14 q6 q7 (by omega) (by omega) H.size) (cwV 0 hts (kG (List.forall_mem_cons.mpr ⟨(List.mem_cons_of_mem _ (List.mem_append_left _ (List.mem_of_getElem? (i := 3) rfl))), (List.forall_mem_cons.mpr ⟨(List.mem_cons_of_mem _ (List.mem_append_left _ (List.mem_of_getElem? (i := 2) rfl))), (List.forall_mem_cons.mpr ⟨(List.mem_cons_of_mem _ (List.mem_append_left _ (List.mem_of_getElem? (i := 1) rfl))), (List.forall_mem_cons.mpr ⟨(List.mem_cons_of_mem _ (List.mem_append_left _ (List.mem_of_getElem? (i := 0) rfl))), (fun _ h => absurd h List.not_mem_nil)⟩)⟩)⟩)⟩) (kGV _ _ _ _) (fun _ h => List.mem_cons_of_mem _ (List.mem_append_right _ (List.mem_append_left _ h))) gw_s_look4) rfl rfl rfl ⟨rfl, hd_X4_look⟩ ⟨(Nat.le_of_ble_eq_true rfl), (Nat.le_of_ble_eq_true rfl)⟩) (kW_V kT_blind kT_give (va_recv hKc hPc (ci := 4) (q0 := 0) rfl rfl) hPc hKc hDc) rfl rfl hl.1 rfl (lv_room (Nat.le_of_ble_eq_true rfl)) dX4_readTerm_28 ⟨(Nat.le_of_ble_eq_true rfl), (Nat.le_of_ble_eq_true rfl)⟩) hS (fun q _ h => hFc q h) hFc (fun r_38 u t H1 locs ht hvm hw hB hz1 hk1 hS => ?_)
            obtain ⟨Pl_39, rfl⟩ : ∃ z, z = u := ⟨_, rfl⟩
            obtain ⟨hP1, hK1, hD1⟩ := hB
            rw [ht] at hP1
            try dsimp only at hw
            obtain ⟨hP, hD⟩ : kPD dC dI A [(jR, .inr (4, [.ref jT, .ref r1, .ref r2, .int (nI (xwr)), .int (nI (xfi)), .int Pl_39, .ref q6, .ref q7])), (r1, .inl (c1, 120, .inl xs1)), (r2, .inl (c2, 124, .inl xs2)), (jT, .inr (8, [.ref t0, .int (nI (kt))])), (t0, .inl (cC, 120, .inl gT))] H1 := kJoinI hP hD [0, 1, 2, 3, 4] rfl hk1 hFc hP1 hD1 rfl [some 0, some 1, some 2, some 3, some 4] rfl rfl
            generalize H1 = H at hP hS ⊢
            have hw_40 := hw
            refine lv_bipush (v := 47) hx hb dX4_readTerm_31 (by decide) ?_
            refine lv_icmp_ne (tgt := 79) hx hb dX4_readTerm_33 (by decide) (fun c_41 => ?_) (fun c_41 => ?_)
            · refine lv_iconst (v := 1) hx hb dX4_readTerm_79 (by decide) ?_
              have hP9 := hP
              have hD9 := hD
              have hK9 := hK
              rw [hQ]
              exact W.zret (v := 1) hx hb hr rfl (fun t ht hW => ⟨⟨1, (xs1, xs2, Pl_39, xwr, xfi), rfl, ⟨(Or.inr rfl), by omega, by omega⟩,  by rw [ht]; exact hP9, va_K.moved hW.alike hK9, hD9⟩, hS.F ht⟩) hS.2.2 dX4_readTerm_80
            · refine lv_aload_n hx hb dX4_readTerm_36 rfl (lv_at hl 1 rfl) ?_
              obtain ⟨hPc, hDc, hFc⟩ := kCut (wc := [(jR, .inr (4, [.ref jT, .ref r1, .ref r2, .int (nI (xwr)), .int (nI (xfi)), .int Pl_39, .ref q6, .ref q7])), (r1, .inl (c1, 120, .inl xs1)), (r2, .inl (c2, 124, .inl xs2)), (jT, .inr (8, [.ref t0, .int (nI (kt))])), (t0, .inl (cC, 120, .inl gT))]) hP hD hS hA [0, 1, 2, 3, 4] rfl (by decide) rfl
              have hKc := hK.sb (tys2 := [(c1, .int), (c2, .int), (cC, .char)]) [0, 1, 2] rfl
              refine va_calli (va_runV (As := []) (rest := []) ⟨hx, hb, hml, hown, hts⟩ (s_look4 l dC dI jT t0 cC gT kt (by omega) (by omega) jR r1 r2 c1 c2 xs1 xs2 xwr xfi Pl_39 q6 q7 (by omega) (by omega) H.size) (cwV 0 hts (kG (List.forall_mem_cons.mpr ⟨(List.mem_cons_of_mem _ (List.mem_append_left _ (List.mem_of_getElem? (i := 3) rfl))), (List.forall_mem_cons.mpr ⟨(List.mem_cons_of_mem _ (List.mem_append_left _ (List.mem_of_getElem? (i := 2) rfl))), (List.forall_mem_cons.mpr ⟨(List.mem_cons_of_mem _ (List.mem_append_left _ (List.mem_of_getElem? (i := 1) rfl))), (List.forall_mem_cons.mpr ⟨(List.mem_cons_of_mem _ (List.mem_append_left _ (List.mem_of_getElem? (i := 0) rfl))), (fun _ h => absurd h List.not_mem_nil)⟩)⟩)⟩)⟩) (kGV _ _ _ _) (fun _ h => List.mem_cons_of_mem _ (List.mem_append_right _ (List.mem_append_left _ h))) gw_s_look4) rfl rfl rfl ⟨rfl, hd_X4_look⟩ ⟨(Nat.le_of_ble_eq_true rfl), (Nat.le_of_ble_eq_true rfl)⟩) (kW_V kT_blind kT_give (va_recv hKc hPc (ci := 4) (q0 := 0) rfl rfl) hPc hKc hDc) rfl rfl hl.1 rfl (lv_room (Nat.le_of_ble_eq_true rfl)) dX4_readTerm_37 ⟨(Nat.le_of_ble_eq_true rfl), (Nat.le_of_ble_eq_true rfl)⟩) hS (fun q _ h => hFc q h) hFc (fun r_42 u t H1 locs ht hvm hw hB hz1 hk1 hS => ?_)
              obtain ⟨Pl_43, rfl⟩ : ∃ z, z = u := ⟨_, rfl⟩
              obtain ⟨hP1, hK1, hD1⟩ := hB
              rw [ht] at hP1
              try dsimp only at hw
              obtain ⟨hP, hD⟩ : kPD dC dI A [(jR, .inr (4, [.ref jT, .ref r1, .ref r2, .int (nI (xwr)), .int (nI (xfi)), .int Pl_43, .ref q6, .ref q7])), (r1, .inl (c1, 120, .inl xs1)), (r2, .inl (c2, 124, .inl xs2)), (jT, .inr (8, [.ref t0, .int (nI (kt))])), (t0, .inl (cC, 120, .inl gT))] H1 := kJoinI hP hD [0, 1, 2, 3, 4] rfl hk1 hFc hP1 hD1 rfl [some 0, some 1, some 2, some 3, some 4] rfl rfl
              generalize H1 = H at hP hS ⊢
              have hw_44 := hw
              refine lv_istore_n hx hb dX4_readTerm_40 rfl hl (by decide) (kTo [(3, .int r_42), (2, .int (nI (i))), (0, .ref jR), (1, .int 0)]) (fun ls hl => ?_)
              refine lv_aload_n hx hb dX4_readTerm_41 rfl (lv_at hl 2 rfl) ?_
              refine lv_dup hx hb dX4_readTerm_42 rfl ?_
              refine va_get (D := (dC, dI)) (ci := 4) (v := .int Pl_43) (C := RX4) (T := TX4) (N := 8) hx hb hts (fun _ h => List.mem_cons_of_mem _ (List.mem_append_right _ (List.mem_append_right _ (List.mem_append_right _ (List.mem_append_left _ h))))) hown hK hP 0 rfl rfl 5 (by decide) (hts (.fieldLink RX4 25 "NotEnded$Reader" "place" "I") (List.mem_cons_of_mem _ (List.mem_append_left _ (List.mem_of_getElem? (i := 11) rfl)))) (fun _ h9 => h9) rfl dX4_readTerm_43 ?_
              refine lv_iconst (v := 1) hx hb dX4_readTerm_46 (by decide) ?_
              refine lv_iadd hx hb dX4_readTerm_47 ?_
              refine lv_topi (fun x_45 ex_45 => ?_)
              refine va_put (D := (dC, dI)) (ci := 4) (v := .int x_45) (ty := tyX4 5) (C := RX4) (T := TX4) (N := 8) hx hb hts (fun _ h => List.mem_cons_of_mem _ (List.mem_append_right _ (List.mem_append_right _ (List.mem_append_right _ (List.mem_append_left _ h))))) tyX4 tyX4_ok nmX4 hown hK hP hD hS 0 rfl rfl 5 (by decide) (hts (.fieldLink RX4 25 "NotEnded$Reader" "place" "I") (List.mem_cons_of_mem _ (List.mem_append_left _ (List.mem_of_getElem? (i := 11) rfl)))) (fun _ h9 => h9) rfl (tyX4_ok 5 (by decide)) rfl rfl (Nat.le_of_ble_eq_true rfl) dX4_readTerm_48 (fun H locs hP hD hS => ?_)
              obtain ⟨hP, hD⟩ : kPD dC dI A [(jR, .inr (4, [.ref jT, .ref r1, .ref r2, .int (nI (xwr)), .int (nI (xfi)), .int x_45, .ref q6, .ref q7])), (r1, .inl (c1, 120, .inl xs1)), (r2, .inl (c2, 124, .inl xs2)), (jT, .inr (8, [.ref t0, .int (nI (kt))])), (t0, .inl (cC, 120, .inl gT))] H := ⟨hP, hD⟩
              refine lv_aload_n hx hb dX4_readTerm_51 rfl (lv_at hl 2 rfl) ?_
              refine lv_iload_n hx hb dX4_readTerm_52 rfl (lv_at hl 3 rfl) ?_
              obtain ⟨hPc, hDc, hFc⟩ := kCut (wc := [(jR, .inr (4, [.ref jT, .ref r1, .ref r2, .int (nI (xwr)), .int (nI (xfi)), .int x_45, .ref q6, .ref q7])), (r1, .inl (c1, 120, .inl xs1)), (r2, .inl (c2, 124, .inl xs2)), (jT, .inr (8, [.ref t0, .int (nI (kt))])), (t0, .inl (cC, 120, .inl gT))]) hP hD hS hA [0, 1, 2, 3, 4] rfl (by decide) rfl
              have hKc := hK.sb (tys2 := [(c1, .int), (c2, .int), (cC, .char)]) [0, 1, 2] rfl
              refine va_calli (va_runV (As := [.int 0]) (rest := []) ⟨hx, hb, hml, hown, hts⟩ (s_atom4_0 l dC dI jT t0 cC gT kt (by omega) (by omega) jR r1 r2 c1 c2 xs1 xs2 xwr xfi x_45 q6 q7 (by omega) (by omega) b6 n6 g6 (by omega) b7 n7 g7 (by omega) H.size) (cwV 1 hts (kG (List.forall_mem_cons.mpr ⟨(List.mem_cons_of_mem _ (List.mem_append_left _ (List.mem_of_getElem? (i := 24) rfl))), (List.forall_mem_cons.mpr ⟨(List.mem_cons_of_mem _ (List.mem_append_left _ (List.mem_of_getElem? (i := 23) rfl))), (List.forall_mem_cons.mpr ⟨(List.mem_cons_of_mem _ (List.mem_append_left _ (List.mem_of_getElem? (i := 22) rfl))), (List.forall_mem_cons.mpr ⟨(List.mem_cons_of_mem _ (List.mem_append_left _ (List.mem_of_getElem? (i := 0) rfl))), (fun _ h => absurd h List.not_mem_nil)⟩)⟩)⟩)⟩) (kGV _ _ _ _) (kFam (List.mem_cons_of_mem _ (List.mem_append_left _ (List.mem_of_getElem? (i := 21) rfl)))) gw_s_atom4_0) rfl rfl rfl ⟨rfl, hd_X4_readAtom⟩ ⟨(Nat.le_of_ble_eq_true rfl), (Nat.le_of_ble_eq_true rfl)⟩) (kW_V kS2_blind (kS2_give hX hS hFc) (va_recv hKc hPc (ci := 4) (q0 := 0) rfl rfl) hPc hKc hDc) rfl rfl hl.1 rfl (lv_room (Nat.le_of_ble_eq_true rfl)) dX4_readTerm_53 ⟨(Nat.le_of_ble_eq_true rfl), (Nat.le_of_ble_eq_true rfl)⟩) hS (fun q _ h => hFc q h) hFc (fun r_46 u t H1 locs ht hvm hw hB hz1 hk1 hS => ?_)
              obtain ⟨S1_47, S2_48, Pl_49, Wr_50, Fi_51⟩ := u
              obtain ⟨hP1, hK1, hD1⟩ := hB
              rw [ht] at hP1
              try dsimp only at hw
              obtain ⟨hP, hD⟩ : kPD dC dI A [(jR, .inr (4, [.ref jT, .ref r1, .ref r2, .int (nI (Wr_50)), .int (nI (Fi_51)), .int Pl_49, .ref q6, .ref q7])), (r1, .inl (c1, 120, .inl S1_47)), (r2, .inl (c2, 124, .inl S2_48)), (jT, .inr (8, [.ref t0, .int (nI (kt))])), (t0, .inl (cC, 120, .inl gT))] H1 := kJoinI hP hD [0, 1, 2, 3, 4] rfl hk1 hFc hP1 hD1 rfl [some 0, some 1, some 2, some 3, some 4] rfl rfl
              generalize H1 = H at hP hS ⊢
              have hw_52 := hw
              refine lv_if_eq (tgt := 71) hx hb dX4_readTerm_56 (by decide) (fun c_53 => ?_) (fun c_53 => ?_)
              · refine lv_iconst (v := 0) hx hb dX4_readTerm_71 (by decide) ?_
                have hP9 := hP
                have hD9 := hD
                have hK9 := hK
                rw [hQ]
                exact W.zret (v := 0) hx hb hr rfl (fun t ht hW => ⟨⟨0, (S1_47, S2_48, Pl_49, Wr_50, Fi_51), rfl, ⟨(Or.inl rfl), by omega, by omega⟩,  by rw [ht]; exact hP9, va_K.moved hW.alike hK9, hD9⟩, hS.F ht⟩) hS.2.2 dX4_readTerm_72
              · refine lv_aload_n hx hb dX4_readTerm_59 rfl (lv_at hl 2 rfl) ?_
                refine lv_sipush (v := 20000) hx hb dX4_readTerm_60 (by decide) ?_
                refine lv_iload_n hx hb dX4_readTerm_63 rfl (lv_at hl 0 rfl) ?_
                refine lv_iadd hx hb dX4_readTerm_64 ?_
                refine lv_topi (fun x_54 ex_54 => ?_)
                obtain ⟨hPc, hDc, hFc⟩ := kCut (wc := [(jR, .inr (4, [.ref jT, .ref r1, .ref r2, .int (nI (Wr_50)), .int (nI (Fi_51)), .int Pl_49, .ref q6, .ref q7])), (r1, .inl (c1, 120, .inl S1_47)), (r2, .inl (c2, 124, .inl S2_48)), (jT, .inr (8, [.ref t0, .int (nI (kt))])), (t0, .inl (cC, 120, .inl gT))]) hP hD hS hA [0, 1, 2, 3, 4] rfl (by decide) rfl
                have hKc := hK.sb (tys2 := [(c1, .int), (c2, .int), (cC, .char)]) [0, 1, 2] rfl
                refine va_calli (va_runV (As := [.int x_54]) (rest := []) ⟨hx, hb, hml, hown, hts⟩ (s_write4 l dC dI jT t0 cC gT kt (by omega) (by omega) jR r1 r2 c1 c2 S1_47 S2_48 Wr_50 Fi_51 Pl_49 q6 q7 (by omega) (by omega) x_54 H.size) (cwV 1 hts (kG (List.forall_mem_cons.mpr ⟨(List.mem_cons_of_mem _ (List.mem_append_left _ (List.mem_of_getElem? (i := 14) rfl))), (List.forall_mem_cons.mpr ⟨(List.mem_cons_of_mem _ (List.mem_append_left _ (List.mem_of_getElem? (i := 13) rfl))), (List.forall_mem_cons.mpr ⟨(List.mem_cons_of_mem _ (List.mem_append_left _ (List.mem_of_getElem? (i := 12) rfl))), (List.forall_mem_cons.mpr ⟨(List.mem_cons_of_mem _ (List.mem_append_left _ (List.mem_of_getElem? (i := 0) rfl))), (fun _ h => absurd h List.not_mem_nil)⟩)⟩)⟩)⟩) (kGV _ _ _ _) (fun _ h => List.mem_cons_of_mem _ (List.mem_append_right _ (List.mem_append_right _ (List.mem_append_right _ (List.mem_append_right _ (List.mem_append_right _ (List.mem_append_left _ h))))))) gw_s_write4) rfl rfl rfl ⟨rfl, hd_X4_write⟩ ⟨(Nat.le_of_ble_eq_true rfl), (Nat.le_of_ble_eq_true rfl)⟩) (kW_V kT_blind kT_give (va_recv hKc hPc (ci := 4) (q0 := 0) rfl rfl) hPc hKc hDc) rfl rfl hl.1 rfl (lv_room (Nat.le_of_ble_eq_true rfl)) dX4_readTerm_65 ⟨(Nat.le_of_ble_eq_true rfl), (Nat.le_of_ble_eq_true rfl)⟩) hS (fun q _ h => hFc q h) hFc (fun r_55 u t H1 locs ht hvm hw hB hz1 hk1 hS => ?_)
                obtain ⟨S1_56, S2_57, Pl_58, Wr_59, Fi_60⟩ := u
                obtain ⟨hP1, hK1, hD1⟩ := hB
                rw [ht] at hP1
                try dsimp only at hw
                obtain ⟨hP, hD⟩ : kPD dC dI A [(jR, .inr (4, [.ref jT, .ref r1, .ref r2, .int (nI (Wr_59)), .int (nI (Fi_60)), .int Pl_58, .ref q6, .ref q7])), (r1, .inl (c1, 120, .inl S1_56)), (r2, .inl (c2, 124, .inl S2_57)), (jT, .inr (8, [.ref t0, .int (nI (kt))])), (t0, .inl (cC, 120, .inl gT))] H1 := kJoinI hP hD [0, 1, 2, 3, 4] rfl hk1 hFc hP1 hD1 rfl [some 0, some 1, some 2, some 3, some 4] rfl rfl
                generalize H1 = H at hP hS ⊢
                have hw_61 := hw
                refine lv_if_ne (tgt := 73) hx hb dX4_readTerm_68 (by decide) (fun c_62 => ?_) (fun c_62 => ?_)
                · refine lv_iinc (v := nI (i + 1)) hx hb dX4_readTerm_73 hl (k := 1) rfl (kInc _ 1) (by decide) (kTo [(2, .int (nI (i + 1))), (3, .int r_42), (0, .ref jR), (1, .int 0)]) (fun ls hl => ?_)
                  refine lv_goto (tgt := 12) hx hb dX4_readTerm_76 (by decide) ?_
                  exact ih_k_9 (i + 1) S1_56 S2_57 Pl_58 Wr_59 Fi_60 (by omega) (by omega) (by omega) _ _ hP hD hS ls (lv_sub hl [0, 2, 3] rfl) (by omega)
                · refine lv_iconst (v := 0) hx hb dX4_readTerm_71 (by decide) ?_
                  have hP9 := hP
                  have hD9 := hD
                  have hK9 := hK
                  rw [hQ]
                  exact W.zret (v := 0) hx hb hr rfl (fun t ht hW => ⟨⟨0, (S1_56, S2_57, Pl_58, Wr_59, Fi_60), rfl, ⟨(Or.inl rfl), by omega, by omega⟩,  by rw [ht]; exact hP9, va_K.moved hW.alike hK9, hD9⟩, hS.F ht⟩) hS.2.2 dX4_readTerm_72
    exact lp_k_9 (120 - 0 + 1) 0 S1_2 S2_3 Pl_4 Wr_5 Fi_6 (by omega) (by omega) (by omega) _ _ hP hD hS ls (lv_sub hl [0, 1, 2] rfl) (by omega)
  · refine lv_iconst (v := 0) hx hb dX4_readTerm_8 (by decide) ?_
    have hP9 := hP
    have hD9 := hD
    have hK9 := hK
    rw [hQ]
    exact W.zret (v := 0) hx hb hr rfl (fun t ht hW => ⟨⟨0, (S1_2, S2_3, Pl_4, Wr_5, Fi_6), rfl, ⟨(Or.inl rfl), by omega, by omega⟩,  by rw [ht]; exact hP9, va_K.moved hW.alike hK9, hD9⟩, hS.F ht⟩) hS.2.2 dX4_readTerm_9

def w_s_sum4_0 : List Cond := .code yX4_readSum cX4_readSum 4 (some .boolean) :: wf_rd
theorem gw_s_sum4_0 : (w_s_sum4_0).all goodWord = true := kFamG rfl gf_rd
set_option maxHeartbeats 4000000 in
set_option maxRecDepth 100000 in
theorem s_sum4_0 (l : Launch) (dC : Nat → ClassId) (dI : Nat → Nat → Nat) (jT : Nat) (t0 : Nat) (cC : ClassId) (gT : Nat → Int32) (kt : Nat) (hkt : kt ≤ 120) (hgT : ∀ j : Nat, narrow .char (.int (gT j)) = .int (gT j)) (jR : Nat) (r1 : Nat) (r2 : Nat) (c1 : ClassId) (c2 : ClassId) (s1 : Nat → Int32) (s2 : Nat → Int32) (wr : Nat) (fi : Nat) (pl : Int32) (q6 : Nat) (q7 : Nat) (hwr : wr ≤ 120) (hfi : fi ≤ 124) (b6 : Nat) (n6 : Nat) (g6 : Nat → Int32) (hn6 : n6 ≤ 8) (b7 : Nat) (n7 : Nat) (g7 : Nat → Int32) (hn7 : n7 ≤ 8) (sz : Nat) : Met l yX4_readSum w_s_sum4_0 ({ frames := 44, cells := 0, slots := 0, locals := 2640 }) (kW dC dI [.ref jR, .int 0] [(jR, .inr (4, [.ref jT, .ref r1, .ref r2, .int (nI (wr)), .int (nI (fi)), .int pl, .ref q6, .ref q7])), (r1, .inl (c1, 120, .inl s1)), (r2, .inl (c2, 124, .inl s2)), (jT, .inr (8, [.ref t0, .int (nI (kt))])), (t0, .inl (cC, 120, .inl gT))] [(c1, .int), (c2, .int), (cC, .char)] (kS2 q6 b6 n6 g6 q7 b7 n7 g7 (va_A [(jR, .inr (4, [.ref jT, .ref r1, .ref r2, .int (nI (wr)), .int (nI (fi)), .int pl, .ref q6, .ref q7])), (r1, .inl (c1, 120, .inl s1)), (r2, .inl (c2, 124, .inl s2)), (jT, .inr (8, [.ref t0, .int (nI (kt))])), (t0, .inl (cC, 120, .inl gT))] sz)) sz) (va_Qi (fun (r : Int32) (u : (Nat → Int32) × (Nat → Int32) × Int32 × Nat × Nat) => match u with | (S1, S2, Pl, Wr, Fi) => ((r = 0 ∨ r = 1) ∧ Wr ≤ 120 ∧ Fi ≤ 124)) (fun (u : (Nat → Int32) × (Nat → Int32) × Int32 × Nat × Nat) => match u with | (S1, S2, Pl, Wr, Fi) => fun t : State => kB dC dI [(jR, .inr (4, [.ref jT, .ref r1, .ref r2, .int (nI (Wr)), .int (nI (Fi)), .int Pl, .ref q6, .ref q7])), (r1, .inl (c1, 120, .inl S1)), (r2, .inl (c2, 124, .inl S2)), (jT, .inr (8, [.ref t0, .int (nI (kt))])), (t0, .inl (cC, 120, .inl gT))] [(c1, .int), (c2, .int), (cC, .char)] (va_A [(jR, .inr (4, [.ref jT, .ref r1, .ref r2, .int (nI (wr)), .int (nI (fi)), .int pl, .ref q6, .ref q7])), (r1, .inl (c1, 120, .inl s1)), (r2, .inl (c2, 124, .inl s2)), (jT, .inr (8, [.ref t0, .int (nI (kt))])), (t0, .inl (cC, 120, .inl gT))] sz) t) (va_A [(jR, .inr (4, [.ref jT, .ref r1, .ref r2, .int (nI (wr)), .int (nI (fi)), .int pl, .ref q6, .ref q7])), (r1, .inl (c1, 120, .inl s1)), (r2, .inl (c2, 124, .inl s2)), (jT, .inr (8, [.ref t0, .int (nI (kt))])), (t0, .inl (cC, 120, .inl gT))] sz)) 0 0 (va_A [(jR, .inr (4, [.ref jT, .ref r1, .ref r2, .int (nI (wr)), .int (nI (fi)), .int pl, .ref q6, .ref q7])), (r1, .inl (c1, 120, .inl s1)), (r2, .inl (c2, 124, .inl s2)), (jT, .inr (8, [.ref t0, .int (nI (kt))])), (t0, .inl (cC, 120, .inl gT))] sz) := by
  refine Met.ofW (cc := cX4_readSum) (maxL := 4) (ret := (some .boolean)) (by decide) rfl ?_
  intro p e s m args below meth c s₁ B hml hv
  obtain ⟨rfl, hsz, hP, hK, hD0, hX⟩ := hv
  have hx := B.exec
  have hb := B.bytes
  have hr := B.returns
  have hts := atoms_spec (ws := w_s_sum4_0) B.pre
  have hown : s.vm.findClass RX4 = some m.cls := findClass_of_methodNamed B.named
  have hlocks := B.notSynchronized
  subst hsz
  have hD := hD0.self (sz := s.heap.size)
  generalize hAe : va_A [(jR, .inr (4, [.ref jT, .ref r1, .ref r2, .int (nI (wr)), .int (nI (fi)), .int pl, .ref q6, .ref q7])), (r1, .inl (c1, 120, .inl s1)), (r2, .inl (c2, 124, .inl s2)), (jT, .inr (8, [.ref t0, .int (nI (kt))])), (t0, .inl (cC, 120, .inl gT))] s.heap.size = A at hD hX ⊢
  have hA : ∀ q : Nat, s.heap.size ≤ q → A q := fun q h => by rw [← hAe]; exact Or.inr h
  have hS : va_S A s.heap s.heap [] := va_S.rf
  have hP : va_P (dC, dI) vwCl [(jR, .inr (4, [.ref jT, .ref r1, .ref r2, .int (nI (wr)), .int (nI (fi)), .int pl, .ref q6, .ref q7])), (r1, .inl (c1, 120, .inl s1)), (r2, .inl (c2, 124, .inl s2)), (jT, .inr (8, [.ref t0, .int (nI (kt))])), (t0, .inl (cC, 120, .inl gT))] s.heap := hP
  have hl := lv_entry ([.ref jR, .int 0]) (n := 4) (Nat.le_of_ble_eq_true rfl)
  rw [lg_entry_eq]
  generalize (lg_sl ([.ref jR, .int 0]) ++ List.replicate (4 - (lg_sl ([.ref jR, .int 0])).length) Slot.unset).toArray = ls at hl ⊢
  have hl : lv_has ls 4 [(0, .ref jR), (1, .int 0)] := hl
  refine kQ (fun Q hQ => ?_)
  refine lv_aload_n hx hb dX4_readSum_0 rfl (lv_at hl 0 rfl) ?_
  refine lv_iload_n hx hb dX4_readSum_1 rfl (lv_at hl 1 rfl) ?_
  obtain ⟨hPc, hDc, hFc⟩ := kCut (wc := [(jR, .inr (4, [.ref jT, .ref r1, .ref r2, .int (nI (wr)), .int (nI (fi)), .int pl, .ref q6, .ref q7])), (r1, .inl (c1, 120, .inl s1)), (r2, .inl (c2, 124, .inl s2)), (jT, .inr (8, [.ref t0, .int (nI (kt))])), (t0, .inl (cC, 120, .inl gT))]) hP hD hS hA [0, 1, 2, 3, 4] rfl (by decide) rfl
  have hKc := hK.sb (tys2 := [(c1, .int), (c2, .int), (cC, .char)]) [0, 1, 2] rfl
  refine va_calli (va_runV (As := [.int 0]) (rest := []) ⟨hx, hb, hml, hown, hts⟩ (s_term4_0 l dC dI jT t0 cC gT kt (by omega) (by omega) jR r1 r2 c1 c2 s1 s2 wr fi pl q6 q7 (by omega) (by omega) b6 n6 g6 (by omega) b7 n7 g7 (by omega) s.heap.size) (cwV 1 hts (kG (List.forall_mem_cons.mpr ⟨(List.mem_cons_of_mem _ (List.mem_append_left _ (List.mem_of_getElem? (i := 28) rfl))), (List.forall_mem_cons.mpr ⟨(List.mem_cons_of_mem _ (List.mem_append_left _ (List.mem_of_getElem? (i := 27) rfl))), (List.forall_mem_cons.mpr ⟨(List.mem_cons_of_mem _ (List.mem_append_left _ (List.mem_of_getElem? (i := 26) rfl))), (List.forall_mem_cons.mpr ⟨(List.mem_cons_of_mem _ (List.mem_append_left _ (List.mem_of_getElem? (i := 0) rfl))), (fun _ h => absurd h List.not_mem_nil)⟩)⟩)⟩)⟩) (kGV _ _ _ _) (kFam (List.mem_cons_of_mem _ (List.mem_append_left _ (List.mem_of_getElem? (i := 25) rfl)))) gw_s_term4_0) rfl rfl rfl ⟨rfl, hd_X4_readTerm⟩ ⟨(Nat.le_of_ble_eq_true rfl), (Nat.le_of_ble_eq_true rfl)⟩) (kW_V kS2_blind (kS2_give hX hS hFc) (va_recv hKc hPc (ci := 4) (q0 := 0) rfl rfl) hPc hKc hDc) rfl rfl hl.1 rfl (lv_room (Nat.le_of_ble_eq_true rfl)) dX4_readSum_2 ⟨(Nat.le_of_ble_eq_true rfl), (Nat.le_of_ble_eq_true rfl)⟩) hS (fun q _ h => hFc q h) hFc (fun r_1 u t H1 locs ht hvm hw hB hz1 hk1 hS => ?_)
  obtain ⟨S1_2, S2_3, Pl_4, Wr_5, Fi_6⟩ := u
  obtain ⟨hP1, hK1, hD1⟩ := hB
  rw [ht] at hP1
  try dsimp only at hw
  obtain ⟨hP, hD⟩ : kPD dC dI A [(jR, .inr (4, [.ref jT, .ref r1, .ref r2, .int (nI (Wr_5)), .int (nI (Fi_6)), .int Pl_4, .ref q6, .ref q7])), (r1, .inl (c1, 120, .inl S1_2)), (r2, .inl (c2, 124, .inl S2_3)), (jT, .inr (8, [.ref t0, .int (nI (kt))])), (t0, .inl (cC, 120, .inl gT))] H1 := kJoinI hP hD [0, 1, 2, 3, 4] rfl hk1 hFc hP1 hD1 rfl [some 0, some 1, some 2, some 3, some 4] rfl rfl
  generalize H1 = H at hP hS ⊢
  have hw_7 := hw
  refine lv_if_ne (tgt := 10) hx hb dX4_readSum_5 (by decide) (fun c_8 => ?_) (fun c_8 => ?_)
  · refine lv_iconst (v := 0) hx hb dX4_readSum_10 (by decide) ?_
    refine lv_istore_n hx hb dX4_readSum_11 rfl hl (by decide) (kTo [(2, .int 0), (0, .ref jR), (1, .int 0)]) (fun ls hl => ?_)
    have lp_k_9 : ∀ (n9 : Nat) (i : Nat) (xs1 : Nat → Int32) (xs2 : Nat → Int32) (xpl : Int32) (xwr : Nat) (xfi : Nat) (ivk_9_0 : i ≤ 120) (ivk_9_1 : xwr ≤ 120) (ivk_9_2 : xfi ≤ 124) (H : Heap) (locs : List Loc) (_ : va_P (dC, dI) vwCl [(jR, .inr (4, [.ref jT, .ref r1, .ref r2, .int (nI (xwr)), .int (nI (xfi)), .int xpl, .ref q6, .ref q7])), (r1, .inl (c1, 120, .inl xs1)), (r2, .inl (c2, 124, .inl xs2)), (jT, .inr (8, [.ref t0, .int (nI (kt))])), (t0, .inl (cC, 120, .inl gT))] H) (_ : va_D A [(jR, .inr (4, [.ref jT, .ref r1, .ref r2, .int (nI (xwr)), .int (nI (xfi)), .int xpl, .ref q6, .ref q7])), (r1, .inl (c1, 120, .inl xs1)), (r2, .inl (c2, 124, .inl xs2)), (jT, .inr (8, [.ref t0, .int (nI (kt))])), (t0, .inl (cC, 120, .inl gT))]) (_ : va_S A s.heap H locs) (ls : Array Slot) (_ : lv_has ls 4 [(2, .int (nI (i))), (0, .ref jR), (1, .int 0)]) (_ : 120 - i < n9), W p l e (headSpec w_s_sum4_0 ({ frames := 44, cells := 0, slots := 0, locals := 2640 })).room s m (#[.ref jR, .int 0] : Array Value) below meth c H locs 0 0 Q (F0 m 12 ls []) := by
      intro n9
      induction n9 with
      | zero => intro i xs1 xs2 xpl xwr xfi ivk_9_0 ivk_9_1 ivk_9_2 H locs hP hD hS ls hl hm9; exact absurd hm9 (Nat.not_lt_zero _)
      | succ n9 ih_k_9 =>
        intro i xs1 xs2 xpl xwr xfi ivk_9_0 ivk_9_1 ivk_9_2 H locs hP hD hS ls hl hm9
        refine lv_iload_n hx hb dX4_readSum_12 rfl (lv_at hl 0 rfl) ?_
        refine lv_bipush (v := 120) hx hb dX4_readSum_13 (by decide) ?_
        refine lv_icmp_ge (tgt := 79) hx hb dX4_readSum_15 (by decide) (fun c_10 => ?_) (fun c_10 => ?_)
        · have hn_11 := kle (a := 120) (b := i) (by omega) (by omega) c_10
          refine lv_iconst (v := 1) hx hb dX4_readSum_79 (by decide) ?_
          have hP9 := hP
          have hD9 := hD
          have hK9 := hK
          rw [hQ]
          exact W.zret (v := 1) hx hb hr rfl (fun t ht hW => ⟨⟨1, (xs1, xs2, xpl, xwr, xfi), rfl, ⟨(Or.inr rfl), by omega, by omega⟩,  by rw [ht]; exact hP9, va_K.moved hW.alike hK9, hD9⟩, hS.F ht⟩) hS.2.2 dX4_readSum_80
        · have hn_12 := knle (a := 120) (b := i) (by omega) (by omega) c_10
          refine lv_aload_n hx hb dX4_readSum_18 rfl (lv_at hl 1 rfl) ?_
          obtain ⟨hPc, hDc, hFc⟩ := kCut (wc := [(jR, .inr (4, [.ref jT, .ref r1, .ref r2, .int (nI (xwr)), .int (nI (xfi)), .int xpl, .ref q6, .ref q7])), (r1, .inl (c1, 120, .inl xs1)), (r2, .inl (c2, 124, .inl xs2)), (jT, .inr (8, [.ref t0, .int (nI (kt))])), (t0, .inl (cC, 120, .inl gT))]) hP hD hS hA [0, 1, 2, 3, 4] rfl (by decide) rfl
          have hKc := hK.sb (tys2 := [(c1, .int), (c2, .int), (cC, .char)]) [0, 1, 2] rfl
          refine va_calli (va_runV (As := []) (rest := []) ⟨hx, hb, hml, hown, hts⟩ (s_look4 l dC dI jT t0 cC gT kt (by omega) (by omega) jR r1 r2 c1 c2 xs1 xs2 xwr xfi xpl q6 q7 (by omega) (by omega) H.size) (cwV 0 hts (kG (List.forall_mem_cons.mpr ⟨(List.mem_cons_of_mem _ (List.mem_append_left _ (List.mem_of_getElem? (i := 3) rfl))), (List.forall_mem_cons.mpr ⟨(List.mem_cons_of_mem _ (List.mem_append_left _ (List.mem_of_getElem? (i := 2) rfl))), (List.forall_mem_cons.mpr ⟨(List.mem_cons_of_mem _ (List.mem_append_left _ (List.mem_of_getElem? (i := 1) rfl))), (List.forall_mem_cons.mpr ⟨(List.mem_cons_of_mem _ (List.mem_append_left _ (List.mem_of_getElem? (i := 0) rfl))), (fun _ h => absurd h List.not_mem_nil)⟩)⟩)⟩)⟩) (kGV _ _ _ _) (fun _ h => List.mem_cons_of_mem _ (List.mem_append_right _ (List.mem_append_left _ h))) gw_s_look4) rfl rfl rfl ⟨rfl, hd_X4_look⟩ ⟨(Nat.le_of_ble_eq_true rfl), (Nat.le_of_ble_eq_true rfl)⟩) (kW_V kT_blind kT_give (va_recv hKc hPc (ci := 4) (q0 := 0) rfl rfl) hPc hKc hDc) rfl rfl hl.1 rfl (lv_room (Nat.le_of_ble_eq_true rfl)) dX4_readSum_19 ⟨(Nat.le_of_ble_eq_true rfl), (Nat.le_of_ble_eq_true rfl)⟩) hS (fun q _ h => hFc q h) hFc (fun r_13 u t H1 locs ht hvm hw hB hz1 hk1 hS => ?_)
          obtain ⟨Pl_14, rfl⟩ : ∃ z, z = u := ⟨_, rfl⟩
          obtain ⟨hP1, hK1, hD1⟩ := hB
          rw [ht] at hP1
          try dsimp only at hw
          obtain ⟨hP, hD⟩ : kPD dC dI A [(jR, .inr (4, [.ref jT, .ref r1, .ref r2, .int (nI (xwr)), .int (nI (xfi)), .int Pl_14, .ref q6, .ref q7])), (r1, .inl (c1, 120, .inl xs1)), (r2, .inl (c2, 124, .inl xs2)), (jT, .inr (8, [.ref t0, .int (nI (kt))])), (t0, .inl (cC, 120, .inl gT))] H1 := kJoinI hP hD [0, 1, 2, 3, 4] rfl hk1 hFc hP1 hD1 rfl [some 0, some 1, some 2, some 3, some 4] rfl rfl
          generalize H1 = H at hP hS ⊢
          have hw_15 := hw
          refine lv_bipush (v := 43) hx hb dX4_readSum_22 (by decide) ?_
          refine lv_icmp_eq (tgt := 36) hx hb dX4_readSum_24 (by decide) (fun c_16 => ?_) (fun c_16 => ?_)
          · refine lv_aload_n hx hb dX4_readSum_36 rfl (lv_at hl 1 rfl) ?_
            obtain ⟨hPc, hDc, hFc⟩ := kCut (wc := [(jR, .inr (4, [.ref jT, .ref r1, .ref r2, .int (nI (xwr)), .int (nI (xfi)), .int Pl_14, .ref q6, .ref q7])), (r1, .inl (c1, 120, .inl xs1)), (r2, .inl (c2, 124, .inl xs2)), (jT, .inr (8, [.ref t0, .int (nI (kt))])), (t0, .inl (cC, 120, .inl gT))]) hP hD hS hA [0, 1, 2, 3, 4] rfl (by decide) rfl
            have hKc := hK.sb (tys2 := [(c1, .int), (c2, .int), (cC, .char)]) [0, 1, 2] rfl
            refine va_calli (va_runV (As := []) (rest := []) ⟨hx, hb, hml, hown, hts⟩ (s_look4 l dC dI jT t0 cC gT kt (by omega) (by omega) jR r1 r2 c1 c2 xs1 xs2 xwr xfi Pl_14 q6 q7 (by omega) (by omega) H.size) (cwV 0 hts (kG (List.forall_mem_cons.mpr ⟨(List.mem_cons_of_mem _ (List.mem_append_left _ (List.mem_of_getElem? (i := 3) rfl))), (List.forall_mem_cons.mpr ⟨(List.mem_cons_of_mem _ (List.mem_append_left _ (List.mem_of_getElem? (i := 2) rfl))), (List.forall_mem_cons.mpr ⟨(List.mem_cons_of_mem _ (List.mem_append_left _ (List.mem_of_getElem? (i := 1) rfl))), (List.forall_mem_cons.mpr ⟨(List.mem_cons_of_mem _ (List.mem_append_left _ (List.mem_of_getElem? (i := 0) rfl))), (fun _ h => absurd h List.not_mem_nil)⟩)⟩)⟩)⟩) (kGV _ _ _ _) (fun _ h => List.mem_cons_of_mem _ (List.mem_append_right _ (List.mem_append_left _ h))) gw_s_look4) rfl rfl rfl ⟨rfl, hd_X4_look⟩ ⟨(Nat.le_of_ble_eq_true rfl), (Nat.le_of_ble_eq_true rfl)⟩) (kW_V kT_blind kT_give (va_recv hKc hPc (ci := 4) (q0 := 0) rfl rfl) hPc hKc hDc) rfl rfl hl.1 rfl (lv_room (Nat.le_of_ble_eq_true rfl)) dX4_readSum_37 ⟨(Nat.le_of_ble_eq_true rfl), (Nat.le_of_ble_eq_true rfl)⟩) hS (fun q _ h => hFc q h) hFc (fun r_17 u t H1 locs ht hvm hw hB hz1 hk1 hS => ?_)
            obtain ⟨Pl_18, rfl⟩ : ∃ z, z = u := ⟨_, rfl⟩
            obtain ⟨hP1, hK1, hD1⟩ := hB
            rw [ht] at hP1
            try dsimp only at hw
            obtain ⟨hP, hD⟩ : kPD dC dI A [(jR, .inr (4, [.ref jT, .ref r1, .ref r2, .int (nI (xwr)), .int (nI (xfi)), .int Pl_18, .ref q6, .ref q7])), (r1, .inl (c1, 120, .inl xs1)), (r2, .inl (c2, 124, .inl xs2)), (jT, .inr (8, [.ref t0, .int (nI (kt))])), (t0, .inl (cC, 120, .inl gT))] H1 := kJoinI hP hD [0, 1, 2, 3, 4] rfl hk1 hFc hP1 hD1 rfl [some 0, some 1, some 2, some 3, some 4] rfl rfl
            generalize H1 = H at hP hS ⊢
            have hw_19 := hw
            refine lv_istore_n hx hb dX4_readSum_40 rfl hl (by decide) (kTo [(3, .int r_17), (2, .int (nI (i))), (0, .ref jR), (1, .int 0)]) (fun ls hl => ?_)
            refine lv_aload_n hx hb dX4_readSum_41 rfl (lv_at hl 2 rfl) ?_
            refine lv_dup hx hb dX4_readSum_42 rfl ?_
            refine va_get (D := (dC, dI)) (ci := 4) (v := .int Pl_18) (C := RX4) (T := TX4) (N := 8) hx hb hts (fun _ h => List.mem_cons_of_mem _ (List.mem_append_right _ (List.mem_append_right _ (List.mem_append_right _ (List.mem_append_left _ h))))) hown hK hP 0 rfl rfl 5 (by decide) (hts (.fieldLink RX4 25 "NotEnded$Reader" "place" "I") (List.mem_cons_of_mem _ (List.mem_append_left _ (List.mem_of_getElem? (i := 11) rfl)))) (fun _ h9 => h9) rfl dX4_readSum_43 ?_
            refine lv_iconst (v := 1) hx hb dX4_readSum_46 (by decide) ?_
            refine lv_iadd hx hb dX4_readSum_47 ?_
            refine lv_topi (fun x_20 ex_20 => ?_)
            refine va_put (D := (dC, dI)) (ci := 4) (v := .int x_20) (ty := tyX4 5) (C := RX4) (T := TX4) (N := 8) hx hb hts (fun _ h => List.mem_cons_of_mem _ (List.mem_append_right _ (List.mem_append_right _ (List.mem_append_right _ (List.mem_append_left _ h))))) tyX4 tyX4_ok nmX4 hown hK hP hD hS 0 rfl rfl 5 (by decide) (hts (.fieldLink RX4 25 "NotEnded$Reader" "place" "I") (List.mem_cons_of_mem _ (List.mem_append_left _ (List.mem_of_getElem? (i := 11) rfl)))) (fun _ h9 => h9) rfl (tyX4_ok 5 (by decide)) rfl rfl (Nat.le_of_ble_eq_true rfl) dX4_readSum_48 (fun H locs hP hD hS => ?_)
            obtain ⟨hP, hD⟩ : kPD dC dI A [(jR, .inr (4, [.ref jT, .ref r1, .ref r2, .int (nI (xwr)), .int (nI (xfi)), .int x_20, .ref q6, .ref q7])), (r1, .inl (c1, 120, .inl xs1)), (r2, .inl (c2, 124, .inl xs2)), (jT, .inr (8, [.ref t0, .int (nI (kt))])), (t0, .inl (cC, 120, .inl gT))] H := ⟨hP, hD⟩
            refine lv_aload_n hx hb dX4_readSum_51 rfl (lv_at hl 2 rfl) ?_
            refine lv_iload_n hx hb dX4_readSum_52 rfl (lv_at hl 3 rfl) ?_
            obtain ⟨hPc, hDc, hFc⟩ := kCut (wc := [(jR, .inr (4, [.ref jT, .ref r1, .ref r2, .int (nI (xwr)), .int (nI (xfi)), .int x_20, .ref q6, .ref q7])), (r1, .inl (c1, 120, .inl xs1)), (r2, .inl (c2, 124, .inl xs2)), (jT, .inr (8, [.ref t0, .int (nI (kt))])), (t0, .inl (cC, 120, .inl gT))]) hP hD hS hA [0, 1, 2, 3, 4] rfl (by decide) rfl
            have hKc := hK.sb (tys2 := [(c1, .int), (c2, .int), (cC, .char)]) [0, 1, 2] rfl
            refine va_calli (va_runV (As := [.int 0]) (rest := []) ⟨hx, hb, hml, hown, hts⟩ (s_term4_0 l dC dI jT t0 cC gT kt (by omega) (by omega) jR r1 r2 c1 c2 xs1 xs2 xwr xfi x_20 q6 q7 (by omega) (by omega) b6 n6 g6 (by omega) b7 n7 g7 (by omega) H.size) (cwV 1 hts (kG (List.forall_mem_cons.mpr ⟨(List.mem_cons_of_mem _ (List.mem_append_left _ (List.mem_of_getElem? (i := 28) rfl))), (List.forall_mem_cons.mpr ⟨(List.mem_cons_of_mem _ (List.mem_append_left _ (List.mem_of_getElem? (i := 27) rfl))), (List.forall_mem_cons.mpr ⟨(List.mem_cons_of_mem _ (List.mem_append_left _ (List.mem_of_getElem? (i := 26) rfl))), (List.forall_mem_cons.mpr ⟨(List.mem_cons_of_mem _ (List.mem_append_left _ (List.mem_of_getElem? (i := 0) rfl))), (fun _ h => absurd h List.not_mem_nil)⟩)⟩)⟩)⟩) (kGV _ _ _ _) (kFam (List.mem_cons_of_mem _ (List.mem_append_left _ (List.mem_of_getElem? (i := 25) rfl)))) gw_s_term4_0) rfl rfl rfl ⟨rfl, hd_X4_readTerm⟩ ⟨(Nat.le_of_ble_eq_true rfl), (Nat.le_of_ble_eq_true rfl)⟩) (kW_V kS2_blind (kS2_give hX hS hFc) (va_recv hKc hPc (ci := 4) (q0 := 0) rfl rfl) hPc hKc hDc) rfl rfl hl.1 rfl (lv_room (Nat.le_of_ble_eq_true rfl)) dX4_readSum_53 ⟨(Nat.le_of_ble_eq_true rfl), (Nat.le_of_ble_eq_true rfl)⟩) hS (fun q _ h => hFc q h) hFc (fun r_21 u t H1 locs ht hvm hw hB hz1 hk1 hS => ?_)
            obtain ⟨S1_22, S2_23, Pl_24, Wr_25, Fi_26⟩ := u
            obtain ⟨hP1, hK1, hD1⟩ := hB
            rw [ht] at hP1
            try dsimp only at hw
            obtain ⟨hP, hD⟩ : kPD dC dI A [(jR, .inr (4, [.ref jT, .ref r1, .ref r2, .int (nI (Wr_25)), .int (nI (Fi_26)), .int Pl_24, .ref q6, .ref q7])), (r1, .inl (c1, 120, .inl S1_22)), (r2, .inl (c2, 124, .inl S2_23)), (jT, .inr (8, [.ref t0, .int (nI (kt))])), (t0, .inl (cC, 120, .inl gT))] H1 := kJoinI hP hD [0, 1, 2, 3, 4] rfl hk1 hFc hP1 hD1 rfl [some 0, some 1, some 2, some 3, some 4] rfl rfl
            generalize H1 = H at hP hS ⊢
            have hw_27 := hw
            refine lv_if_eq (tgt := 71) hx hb dX4_readSum_56 (by decide) (fun c_28 => ?_) (fun c_28 => ?_)
            · refine lv_iconst (v := 0) hx hb dX4_readSum_71 (by decide) ?_
              have hP9 := hP
              have hD9 := hD
              have hK9 := hK
              rw [hQ]
              exact W.zret (v := 0) hx hb hr rfl (fun t ht hW => ⟨⟨0, (S1_22, S2_23, Pl_24, Wr_25, Fi_26), rfl, ⟨(Or.inl rfl), by omega, by omega⟩,  by rw [ht]; exact hP9, va_K.moved hW.alike hK9, hD9⟩, hS.F ht⟩) hS.2.2 dX4_readSum_72
            · refine lv_aload_n hx hb dX4_readSum_59 rfl (lv_at hl 2 rfl) ?_
              refine lv_sipush (v := 20000) hx hb dX4_readSum_60 (by decide) ?_
              refine lv_iload_n hx hb dX4_readSum_63 rfl (lv_at hl 0 rfl) ?_
              refine lv_iadd hx hb dX4_readSum_64 ?_
              refine lv_topi (fun x_29 ex_29 => ?_)
              obtain ⟨hPc, hDc, hFc⟩ := kCut (wc := [(jR, .inr (4, [.ref jT, .ref r1, .ref r2, .int (nI (Wr_25)), .int (nI (Fi_26)), .int Pl_24, .ref q6, .ref q7])), (r1, .inl (c1, 120, .inl S1_22)), (r2, .inl (c2, 124, .inl S2_23)), (jT, .inr (8, [.ref t0, .int (nI (kt))])), (t0, .inl (cC, 120, .inl gT))]) hP hD hS hA [0, 1, 2, 3, 4] rfl (by decide) rfl
              have hKc := hK.sb (tys2 := [(c1, .int), (c2, .int), (cC, .char)]) [0, 1, 2] rfl
              refine va_calli (va_runV (As := [.int x_29]) (rest := []) ⟨hx, hb, hml, hown, hts⟩ (s_write4 l dC dI jT t0 cC gT kt (by omega) (by omega) jR r1 r2 c1 c2 S1_22 S2_23 Wr_25 Fi_26 Pl_24 q6 q7 (by omega) (by omega) x_29 H.size) (cwV 1 hts (kG (List.forall_mem_cons.mpr ⟨(List.mem_cons_of_mem _ (List.mem_append_left _ (List.mem_of_getElem? (i := 14) rfl))), (List.forall_mem_cons.mpr ⟨(List.mem_cons_of_mem _ (List.mem_append_left _ (List.mem_of_getElem? (i := 13) rfl))), (List.forall_mem_cons.mpr ⟨(List.mem_cons_of_mem _ (List.mem_append_left _ (List.mem_of_getElem? (i := 12) rfl))), (List.forall_mem_cons.mpr ⟨(List.mem_cons_of_mem _ (List.mem_append_left _ (List.mem_of_getElem? (i := 0) rfl))), (fun _ h => absurd h List.not_mem_nil)⟩)⟩)⟩)⟩) (kGV _ _ _ _) (fun _ h => List.mem_cons_of_mem _ (List.mem_append_right _ (List.mem_append_right _ (List.mem_append_right _ (List.mem_append_right _ (List.mem_append_right _ (List.mem_append_left _ h))))))) gw_s_write4) rfl rfl rfl ⟨rfl, hd_X4_write⟩ ⟨(Nat.le_of_ble_eq_true rfl), (Nat.le_of_ble_eq_true rfl)⟩) (kW_V kT_blind kT_give (va_recv hKc hPc (ci := 4) (q0 := 0) rfl rfl) hPc hKc hDc) rfl rfl hl.1 rfl (lv_room (Nat.le_of_ble_eq_true rfl)) dX4_readSum_65 ⟨(Nat.le_of_ble_eq_true rfl), (Nat.le_of_ble_eq_true rfl)⟩) hS (fun q _ h => hFc q h) hFc (fun r_30 u t H1 locs ht hvm hw hB hz1 hk1 hS => ?_)
              obtain ⟨S1_31, S2_32, Pl_33, Wr_34, Fi_35⟩ := u
              obtain ⟨hP1, hK1, hD1⟩ := hB
              rw [ht] at hP1
              try dsimp only at hw
              obtain ⟨hP, hD⟩ : kPD dC dI A [(jR, .inr (4, [.ref jT, .ref r1, .ref r2, .int (nI (Wr_34)), .int (nI (Fi_35)), .int Pl_33, .ref q6, .ref q7])), (r1, .inl (c1, 120, .inl S1_31)), (r2, .inl (c2, 124, .inl S2_32)), (jT, .inr (8, [.ref t0, .int (nI (kt))])), (t0, .inl (cC, 120, .inl gT))] H1 := kJoinI hP hD [0, 1, 2, 3, 4] rfl hk1 hFc hP1 hD1 rfl [some 0, some 1, some 2, some 3, some 4] rfl rfl
              generalize H1 = H at hP hS ⊢
              have hw_36 := hw
              refine lv_if_ne (tgt := 73) hx hb dX4_readSum_68 (by decide) (fun c_37 => ?_) (fun c_37 => ?_)
              · refine lv_iinc (v := nI (i + 1)) hx hb dX4_readSum_73 hl (k := 1) rfl (kInc _ 1) (by decide) (kTo [(2, .int (nI (i + 1))), (3, .int r_17), (0, .ref jR), (1, .int 0)]) (fun ls hl => ?_)
                refine lv_goto (tgt := 12) hx hb dX4_readSum_76 (by decide) ?_
                exact ih_k_9 (i + 1) S1_31 S2_32 Pl_33 Wr_34 Fi_35 (by omega) (by omega) (by omega) _ _ hP hD hS ls (lv_sub hl [0, 2, 3] rfl) (by omega)
              · refine lv_iconst (v := 0) hx hb dX4_readSum_71 (by decide) ?_
                have hP9 := hP
                have hD9 := hD
                have hK9 := hK
                rw [hQ]
                exact W.zret (v := 0) hx hb hr rfl (fun t ht hW => ⟨⟨0, (S1_31, S2_32, Pl_33, Wr_34, Fi_35), rfl, ⟨(Or.inl rfl), by omega, by omega⟩,  by rw [ht]; exact hP9, va_K.moved hW.alike hK9, hD9⟩, hS.F ht⟩) hS.2.2 dX4_readSum_72
          · refine lv_aload_n hx hb dX4_readSum_27 rfl (lv_at hl 1 rfl) ?_
            obtain ⟨hPc, hDc, hFc⟩ := kCut (wc := [(jR, .inr (4, [.ref jT, .ref r1, .ref r2, .int (nI (xwr)), .int (nI (xfi)), .int Pl_14, .ref q6, .ref q7])), (r1, .inl (c1, 120, .inl xs1)), (r2, .inl (c2, 124, .inl xs2)), (jT, .inr (8, [.ref t0, .int (nI (kt))])), (t0, .inl (cC, 120, .inl gT))]) hP hD hS hA [0, 1, 2, 3, 4] rfl (by decide) rfl
            have hKc := hK.sb (tys2 := [(c1, .int), (c2, .int), (cC, .char)]) [0, 1, 2] rfl
            refine va_calli (va_runV (As := []) (rest := []) ⟨hx, hb, hml, hown, hts⟩ (s_look4 l dC dI jT t0 cC gT kt (by omega) (by omega) jR r1 r2 c1 c2 xs1 xs2 xwr xfi Pl_14 q6 q7 (by omega) (by omega) H.size) (cwV 0 hts (kG (List.forall_mem_cons.mpr ⟨(List.mem_cons_of_mem _ (List.mem_append_left _ (List.mem_of_getElem? (i := 3) rfl))), (List.forall_mem_cons.mpr ⟨(List.mem_cons_of_mem _ (List.mem_append_left _ (List.mem_of_getElem? (i := 2) rfl))), (List.forall_mem_cons.mpr ⟨(List.mem_cons_of_mem _ (List.mem_append_left _ (List.mem_of_getElem? (i := 1) rfl))), (List.forall_mem_cons.mpr ⟨(List.mem_cons_of_mem _ (List.mem_append_left _ (List.mem_of_getElem? (i := 0) rfl))), (fun _ h => absurd h List.not_mem_nil)⟩)⟩)⟩)⟩) (kGV _ _ _ _) (fun _ h => List.mem_cons_of_mem _ (List.mem_append_right _ (List.mem_append_left _ h))) gw_s_look4) rfl rfl rfl ⟨rfl, hd_X4_look⟩ ⟨(Nat.le_of_ble_eq_true rfl), (Nat.le_of_ble_eq_true rfl)⟩) (kW_V kT_blind kT_give (va_recv hKc hPc (ci := 4) (q0 := 0) rfl rfl) hPc hKc hDc) rfl rfl hl.1 rfl (lv_room (Nat.le_of_ble_eq_true rfl)) dX4_readSum_28 ⟨(Nat.le_of_ble_eq_true rfl), (Nat.le_of_ble_eq_true rfl)⟩) hS (fun q _ h => hFc q h) hFc (fun r_38 u t H1 locs ht hvm hw hB hz1 hk1 hS => ?_)
            obtain ⟨Pl_39, rfl⟩ : ∃ z, z = u := ⟨_, rfl⟩
            obtain ⟨hP1, hK1, hD1⟩ := hB
            rw [ht] at hP1
            try dsimp only at hw
            obtain ⟨hP, hD⟩ : kPD dC dI A [(jR, .inr (4, [.ref jT, .ref r1, .ref r2, .int (nI (xwr)), .int (nI (xfi)), .int Pl_39, .ref q6, .ref q7])), (r1, .inl (c1, 120, .inl xs1)), (r2, .inl (c2, 124, .inl xs2)), (jT, .inr (8, [.ref t0, .int (nI (kt))])), (t0, .inl (cC, 120, .inl gT))] H1 := kJoinI hP hD [0, 1, 2, 3, 4] rfl hk1 hFc hP1 hD1 rfl [some 0, some 1, some 2, some 3, some 4] rfl rfl
            generalize H1 = H at hP hS ⊢
            have hw_40 := hw
            refine lv_bipush (v := 45) hx hb dX4_readSum_31 (by decide) ?_
            refine lv_icmp_ne (tgt := 79) hx hb dX4_readSum_33 (by decide) (fun c_41 => ?_) (fun c_41 => ?_)
            · refine lv_iconst (v := 1) hx hb dX4_readSum_79 (by decide) ?_
              have hP9 := hP
              have hD9 := hD
              have hK9 := hK
              rw [hQ]
              exact W.zret (v := 1) hx hb hr rfl (fun t ht hW => ⟨⟨1, (xs1, xs2, Pl_39, xwr, xfi), rfl, ⟨(Or.inr rfl), by omega, by omega⟩,  by rw [ht]; exact hP9, va_K.moved hW.alike hK9, hD9⟩, hS.F ht⟩) hS.2.2 dX4_readSum_80
            · refine lv_aload_n hx hb dX4_readSum_36 rfl (lv_at hl 1 rfl) ?_
              obtain ⟨hPc, hDc, hFc⟩ := kCut (wc := [(jR, .inr (4, [.ref jT, .ref r1, .ref r2, .int (nI (xwr)), .int (nI (xfi)), .int Pl_39, .ref q6, .ref q7])), (r1, .inl (c1, 120, .inl xs1)), (r2, .inl (c2, 124, .inl xs2)), (jT, .inr (8, [.ref t0, .int (nI (kt))])), (t0, .inl (cC, 120, .inl gT))]) hP hD hS hA [0, 1, 2, 3, 4] rfl (by decide) rfl
              have hKc := hK.sb (tys2 := [(c1, .int), (c2, .int), (cC, .char)]) [0, 1, 2] rfl
              refine va_calli (va_runV (As := []) (rest := []) ⟨hx, hb, hml, hown, hts⟩ (s_look4 l dC dI jT t0 cC gT kt (by omega) (by omega) jR r1 r2 c1 c2 xs1 xs2 xwr xfi Pl_39 q6 q7 (by omega) (by omega) H.size) (cwV 0 hts (kG (List.forall_mem_cons.mpr ⟨(List.mem_cons_of_mem _ (List.mem_append_left _ (List.mem_of_getElem? (i := 3) rfl))), (List.forall_mem_cons.mpr ⟨(List.mem_cons_of_mem _ (List.mem_append_left _ (List.mem_of_getElem? (i := 2) rfl))), (List.forall_mem_cons.mpr ⟨(List.mem_cons_of_mem _ (List.mem_append_left _ (List.mem_of_getElem? (i := 1) rfl))), (List.forall_mem_cons.mpr ⟨(List.mem_cons_of_mem _ (List.mem_append_left _ (List.mem_of_getElem? (i := 0) rfl))), (fun _ h => absurd h List.not_mem_nil)⟩)⟩)⟩)⟩) (kGV _ _ _ _) (fun _ h => List.mem_cons_of_mem _ (List.mem_append_right _ (List.mem_append_left _ h))) gw_s_look4) rfl rfl rfl ⟨rfl, hd_X4_look⟩ ⟨(Nat.le_of_ble_eq_true rfl), (Nat.le_of_ble_eq_true rfl)⟩) (kW_V kT_blind kT_give (va_recv hKc hPc (ci := 4) (q0 := 0) rfl rfl) hPc hKc hDc) rfl rfl hl.1 rfl (lv_room (Nat.le_of_ble_eq_true rfl)) dX4_readSum_37 ⟨(Nat.le_of_ble_eq_true rfl), (Nat.le_of_ble_eq_true rfl)⟩) hS (fun q _ h => hFc q h) hFc (fun r_42 u t H1 locs ht hvm hw hB hz1 hk1 hS => ?_)
              obtain ⟨Pl_43, rfl⟩ : ∃ z, z = u := ⟨_, rfl⟩
              obtain ⟨hP1, hK1, hD1⟩ := hB
              rw [ht] at hP1
              try dsimp only at hw
              obtain ⟨hP, hD⟩ : kPD dC dI A [(jR, .inr (4, [.ref jT, .ref r1, .ref r2, .int (nI (xwr)), .int (nI (xfi)), .int Pl_43, .ref q6, .ref q7])), (r1, .inl (c1, 120, .inl xs1)), (r2, .inl (c2, 124, .inl xs2)), (jT, .inr (8, [.ref t0, .int (nI (kt))])), (t0, .inl (cC, 120, .inl gT))] H1 := kJoinI hP hD [0, 1, 2, 3, 4] rfl hk1 hFc hP1 hD1 rfl [some 0, some 1, some 2, some 3, some 4] rfl rfl
              generalize H1 = H at hP hS ⊢
              have hw_44 := hw
              refine lv_istore_n hx hb dX4_readSum_40 rfl hl (by decide) (kTo [(3, .int r_42), (2, .int (nI (i))), (0, .ref jR), (1, .int 0)]) (fun ls hl => ?_)
              refine lv_aload_n hx hb dX4_readSum_41 rfl (lv_at hl 2 rfl) ?_
              refine lv_dup hx hb dX4_readSum_42 rfl ?_
              refine va_get (D := (dC, dI)) (ci := 4) (v := .int Pl_43) (C := RX4) (T := TX4) (N := 8) hx hb hts (fun _ h => List.mem_cons_of_mem _ (List.mem_append_right _ (List.mem_append_right _ (List.mem_append_right _ (List.mem_append_left _ h))))) hown hK hP 0 rfl rfl 5 (by decide) (hts (.fieldLink RX4 25 "NotEnded$Reader" "place" "I") (List.mem_cons_of_mem _ (List.mem_append_left _ (List.mem_of_getElem? (i := 11) rfl)))) (fun _ h9 => h9) rfl dX4_readSum_43 ?_
              refine lv_iconst (v := 1) hx hb dX4_readSum_46 (by decide) ?_
              refine lv_iadd hx hb dX4_readSum_47 ?_
              refine lv_topi (fun x_45 ex_45 => ?_)
              refine va_put (D := (dC, dI)) (ci := 4) (v := .int x_45) (ty := tyX4 5) (C := RX4) (T := TX4) (N := 8) hx hb hts (fun _ h => List.mem_cons_of_mem _ (List.mem_append_right _ (List.mem_append_right _ (List.mem_append_right _ (List.mem_append_left _ h))))) tyX4 tyX4_ok nmX4 hown hK hP hD hS 0 rfl rfl 5 (by decide) (hts (.fieldLink RX4 25 "NotEnded$Reader" "place" "I") (List.mem_cons_of_mem _ (List.mem_append_left _ (List.mem_of_getElem? (i := 11) rfl)))) (fun _ h9 => h9) rfl (tyX4_ok 5 (by decide)) rfl rfl (Nat.le_of_ble_eq_true rfl) dX4_readSum_48 (fun H locs hP hD hS => ?_)
              obtain ⟨hP, hD⟩ : kPD dC dI A [(jR, .inr (4, [.ref jT, .ref r1, .ref r2, .int (nI (xwr)), .int (nI (xfi)), .int x_45, .ref q6, .ref q7])), (r1, .inl (c1, 120, .inl xs1)), (r2, .inl (c2, 124, .inl xs2)), (jT, .inr (8, [.ref t0, .int (nI (kt))])), (t0, .inl (cC, 120, .inl gT))] H := ⟨hP, hD⟩
              refine lv_aload_n hx hb dX4_readSum_51 rfl (lv_at hl 2 rfl) ?_
              refine lv_iload_n hx hb dX4_readSum_52 rfl (lv_at hl 3 rfl) ?_
              obtain ⟨hPc, hDc, hFc⟩ := kCut (wc := [(jR, .inr (4, [.ref jT, .ref r1, .ref r2, .int (nI (xwr)), .int (nI (xfi)), .int x_45, .ref q6, .ref q7])), (r1, .inl (c1, 120, .inl xs1)), (r2, .inl (c2, 124, .inl xs2)), (jT, .inr (8, [.ref t0, .int (nI (kt))])), (t0, .inl (cC, 120, .inl gT))]) hP hD hS hA [0, 1, 2, 3, 4] rfl (by decide) rfl
              have hKc := hK.sb (tys2 := [(c1, .int), (c2, .int), (cC, .char)]) [0, 1, 2] rfl
              refine va_calli (va_runV (As := [.int 0]) (rest := []) ⟨hx, hb, hml, hown, hts⟩ (s_term4_0 l dC dI jT t0 cC gT kt (by omega) (by omega) jR r1 r2 c1 c2 xs1 xs2 xwr xfi x_45 q6 q7 (by omega) (by omega) b6 n6 g6 (by omega) b7 n7 g7 (by omega) H.size) (cwV 1 hts (kG (List.forall_mem_cons.mpr ⟨(List.mem_cons_of_mem _ (List.mem_append_left _ (List.mem_of_getElem? (i := 28) rfl))), (List.forall_mem_cons.mpr ⟨(List.mem_cons_of_mem _ (List.mem_append_left _ (List.mem_of_getElem? (i := 27) rfl))), (List.forall_mem_cons.mpr ⟨(List.mem_cons_of_mem _ (List.mem_append_left _ (List.mem_of_getElem? (i := 26) rfl))), (List.forall_mem_cons.mpr ⟨(List.mem_cons_of_mem _ (List.mem_append_left _ (List.mem_of_getElem? (i := 0) rfl))), (fun _ h => absurd h List.not_mem_nil)⟩)⟩)⟩)⟩) (kGV _ _ _ _) (kFam (List.mem_cons_of_mem _ (List.mem_append_left _ (List.mem_of_getElem? (i := 25) rfl)))) gw_s_term4_0) rfl rfl rfl ⟨rfl, hd_X4_readTerm⟩ ⟨(Nat.le_of_ble_eq_true rfl), (Nat.le_of_ble_eq_true rfl)⟩) (kW_V kS2_blind (kS2_give hX hS hFc) (va_recv hKc hPc (ci := 4) (q0 := 0) rfl rfl) hPc hKc hDc) rfl rfl hl.1 rfl (lv_room (Nat.le_of_ble_eq_true rfl)) dX4_readSum_53 ⟨(Nat.le_of_ble_eq_true rfl), (Nat.le_of_ble_eq_true rfl)⟩) hS (fun q _ h => hFc q h) hFc (fun r_46 u t H1 locs ht hvm hw hB hz1 hk1 hS => ?_)
              obtain ⟨S1_47, S2_48, Pl_49, Wr_50, Fi_51⟩ := u
              obtain ⟨hP1, hK1, hD1⟩ := hB
              rw [ht] at hP1
              try dsimp only at hw
              obtain ⟨hP, hD⟩ : kPD dC dI A [(jR, .inr (4, [.ref jT, .ref r1, .ref r2, .int (nI (Wr_50)), .int (nI (Fi_51)), .int Pl_49, .ref q6, .ref q7])), (r1, .inl (c1, 120, .inl S1_47)), (r2, .inl (c2, 124, .inl S2_48)), (jT, .inr (8, [.ref t0, .int (nI (kt))])), (t0, .inl (cC, 120, .inl gT))] H1 := kJoinI hP hD [0, 1, 2, 3, 4] rfl hk1 hFc hP1 hD1 rfl [some 0, some 1, some 2, some 3, some 4] rfl rfl
              generalize H1 = H at hP hS ⊢
              have hw_52 := hw
              refine lv_if_eq (tgt := 71) hx hb dX4_readSum_56 (by decide) (fun c_53 => ?_) (fun c_53 => ?_)
              · refine lv_iconst (v := 0) hx hb dX4_readSum_71 (by decide) ?_
                have hP9 := hP
                have hD9 := hD
                have hK9 := hK
                rw [hQ]
                exact W.zret (v := 0) hx hb hr rfl (fun t ht hW => ⟨⟨0, (S1_47, S2_48, Pl_49, Wr_50, Fi_51), rfl, ⟨(Or.inl rfl), by omega, by omega⟩,  by rw [ht]; exact hP9, va_K.moved hW.alike hK9, hD9⟩, hS.F ht⟩) hS.2.2 dX4_readSum_72
              · refine lv_aload_n hx hb dX4_readSum_59 rfl (lv_at hl 2 rfl) ?_
                refine lv_sipush (v := 20000) hx hb dX4_readSum_60 (by decide) ?_
                refine lv_iload_n hx hb dX4_readSum_63 rfl (lv_at hl 0 rfl) ?_
                refine lv_iadd hx hb dX4_readSum_64 ?_
                refine lv_topi (fun x_54 ex_54 => ?_)
                obtain ⟨hPc, hDc, hFc⟩ := kCut (wc := [(jR, .inr (4, [.ref jT, .ref r1, .ref r2, .int (nI (Wr_50)), .int (nI (Fi_51)), .int Pl_49, .ref q6, .ref q7])), (r1, .inl (c1, 120, .inl S1_47)), (r2, .inl (c2, 124, .inl S2_48)), (jT, .inr (8, [.ref t0, .int (nI (kt))])), (t0, .inl (cC, 120, .inl gT))]) hP hD hS hA [0, 1, 2, 3, 4] rfl (by decide) rfl
                have hKc := hK.sb (tys2 := [(c1, .int), (c2, .int), (cC, .char)]) [0, 1, 2] rfl
                refine va_calli (va_runV (As := [.int x_54]) (rest := []) ⟨hx, hb, hml, hown, hts⟩ (s_write4 l dC dI jT t0 cC gT kt (by omega) (by omega) jR r1 r2 c1 c2 S1_47 S2_48 Wr_50 Fi_51 Pl_49 q6 q7 (by omega) (by omega) x_54 H.size) (cwV 1 hts (kG (List.forall_mem_cons.mpr ⟨(List.mem_cons_of_mem _ (List.mem_append_left _ (List.mem_of_getElem? (i := 14) rfl))), (List.forall_mem_cons.mpr ⟨(List.mem_cons_of_mem _ (List.mem_append_left _ (List.mem_of_getElem? (i := 13) rfl))), (List.forall_mem_cons.mpr ⟨(List.mem_cons_of_mem _ (List.mem_append_left _ (List.mem_of_getElem? (i := 12) rfl))), (List.forall_mem_cons.mpr ⟨(List.mem_cons_of_mem _ (List.mem_append_left _ (List.mem_of_getElem? (i := 0) rfl))), (fun _ h => absurd h List.not_mem_nil)⟩)⟩)⟩)⟩) (kGV _ _ _ _) (fun _ h => List.mem_cons_of_mem _ (List.mem_append_right _ (List.mem_append_right _ (List.mem_append_right _ (List.mem_append_right _ (List.mem_append_right _ (List.mem_append_left _ h))))))) gw_s_write4) rfl rfl rfl ⟨rfl, hd_X4_write⟩ ⟨(Nat.le_of_ble_eq_true rfl), (Nat.le_of_ble_eq_true rfl)⟩) (kW_V kT_blind kT_give (va_recv hKc hPc (ci := 4) (q0 := 0) rfl rfl) hPc hKc hDc) rfl rfl hl.1 rfl (lv_room (Nat.le_of_ble_eq_true rfl)) dX4_readSum_65 ⟨(Nat.le_of_ble_eq_true rfl), (Nat.le_of_ble_eq_true rfl)⟩) hS (fun q _ h => hFc q h) hFc (fun r_55 u t H1 locs ht hvm hw hB hz1 hk1 hS => ?_)
                obtain ⟨S1_56, S2_57, Pl_58, Wr_59, Fi_60⟩ := u
                obtain ⟨hP1, hK1, hD1⟩ := hB
                rw [ht] at hP1
                try dsimp only at hw
                obtain ⟨hP, hD⟩ : kPD dC dI A [(jR, .inr (4, [.ref jT, .ref r1, .ref r2, .int (nI (Wr_59)), .int (nI (Fi_60)), .int Pl_58, .ref q6, .ref q7])), (r1, .inl (c1, 120, .inl S1_56)), (r2, .inl (c2, 124, .inl S2_57)), (jT, .inr (8, [.ref t0, .int (nI (kt))])), (t0, .inl (cC, 120, .inl gT))] H1 := kJoinI hP hD [0, 1, 2, 3, 4] rfl hk1 hFc hP1 hD1 rfl [some 0, some 1, some 2, some 3, some 4] rfl rfl
                generalize H1 = H at hP hS ⊢
                have hw_61 := hw
                refine lv_if_ne (tgt := 73) hx hb dX4_readSum_68 (by decide) (fun c_62 => ?_) (fun c_62 => ?_)
                · refine lv_iinc (v := nI (i + 1)) hx hb dX4_readSum_73 hl (k := 1) rfl (kInc _ 1) (by decide) (kTo [(2, .int (nI (i + 1))), (3, .int r_42), (0, .ref jR), (1, .int 0)]) (fun ls hl => ?_)
                  refine lv_goto (tgt := 12) hx hb dX4_readSum_76 (by decide) ?_
                  exact ih_k_9 (i + 1) S1_56 S2_57 Pl_58 Wr_59 Fi_60 (by omega) (by omega) (by omega) _ _ hP hD hS ls (lv_sub hl [0, 2, 3] rfl) (by omega)
                · refine lv_iconst (v := 0) hx hb dX4_readSum_71 (by decide) ?_
                  have hP9 := hP
                  have hD9 := hD
                  have hK9 := hK
                  rw [hQ]
                  exact W.zret (v := 0) hx hb hr rfl (fun t ht hW => ⟨⟨0, (S1_56, S2_57, Pl_58, Wr_59, Fi_60), rfl, ⟨(Or.inl rfl), by omega, by omega⟩,  by rw [ht]; exact hP9, va_K.moved hW.alike hK9, hD9⟩, hS.F ht⟩) hS.2.2 dX4_readSum_72
    exact lp_k_9 (120 - 0 + 1) 0 S1_2 S2_3 Pl_4 Wr_5 Fi_6 (by omega) (by omega) (by omega) _ _ hP hD hS ls (lv_sub hl [0, 1, 2] rfl) (by omega)
  · refine lv_iconst (v := 0) hx hb dX4_readSum_8 (by decide) ?_
    have hP9 := hP
    have hD9 := hD
    have hK9 := hK
    rw [hQ]
    exact W.zret (v := 0) hx hb hr rfl (fun t ht hW => ⟨⟨0, (S1_2, S2_3, Pl_4, Wr_5, Fi_6), rfl, ⟨(Or.inl rfl), by omega, by omega⟩,  by rw [ht]; exact hP9, va_K.moved hW.alike hK9, hD9⟩, hS.F ht⟩) hS.2.2 dX4_readSum_9

def w_s_unit4_0_0 : List Cond := .code yX4_readUnit cX4_readUnit 4 (some .boolean) :: wf_rd
theorem gw_s_unit4_0_0 : (w_s_unit4_0_0).all goodWord = true := kFamG rfl gf_rd
set_option maxHeartbeats 4000000 in
set_option maxRecDepth 100000 in
theorem s_unit4_0_0 (l : Launch) (dC : Nat → ClassId) (dI : Nat → Nat → Nat) (jT : Nat) (t0 : Nat) (cC : ClassId) (gT : Nat → Int32) (kt : Nat) (hkt : kt ≤ 120) (hgT : ∀ j : Nat, narrow .char (.int (gT j)) = .int (gT j)) (jR : Nat) (r1 : Nat) (r2 : Nat) (c1 : ClassId) (c2 : ClassId) (s1 : Nat → Int32) (s2 : Nat → Int32) (wr : Nat) (fi : Nat) (pl : Int32) (q6 : Nat) (q7 : Nat) (hwr : wr ≤ 120) (hfi : fi ≤ 124) (b6 : Nat) (n6 : Nat) (g6 : Nat → Int32) (hn6 : n6 ≤ 8) (b7 : Nat) (n7 : Nat) (g7 : Nat → Int32) (hn7 : n7 ≤ 8) (sz : Nat) : Met l yX4_readUnit w_s_unit4_0_0 ({ frames := 45, cells := 0, slots := 0, locals := 2700 }) (kW dC dI [.ref jR, .int 0, .int 0] [(jR, .inr (4, [.ref jT, .ref r1, .ref r2, .int (nI (wr)), .int (nI (fi)), .int pl, .ref q6, .ref q7])), (r1, .inl (c1, 120, .inl s1)), (r2, .inl (c2, 124, .inl s2)), (jT, .inr (8, [.ref t0, .int (nI (kt))])), (t0, .inl (cC, 120, .inl gT))] [(c1, .int), (c2, .int), (cC, .char)] (kS2 q6 b6 n6 g6 q7 b7 n7 g7 (va_A [(jR, .inr (4, [.ref jT, .ref r1, .ref r2, .int (nI (wr)), .int (nI (fi)), .int pl, .ref q6, .ref q7])), (r1, .inl (c1, 120, .inl s1)), (r2, .inl (c2, 124, .inl s2)), (jT, .inr (8, [.ref t0, .int (nI (kt))])), (t0, .inl (cC, 120, .inl gT))] sz)) sz) (va_Qi (fun (r : Int32) (u : (Nat → Int32) × (Nat → Int32) × Int32 × Nat × Nat) => match u with | (S1, S2, Pl, Wr, Fi) => ((r = 0 ∨ r = 1) ∧ Wr ≤ 120 ∧ Fi ≤ 124)) (fun (u : (Nat → Int32) × (Nat → Int32) × Int32 × Nat × Nat) => match u with | (S1, S2, Pl, Wr, Fi) => fun t : State => kB dC dI [(jR, .inr (4, [.ref jT, .ref r1, .ref r2, .int (nI (Wr)), .int (nI (Fi)), .int Pl, .ref q6, .ref q7])), (r1, .inl (c1, 120, .inl S1)), (r2, .inl (c2, 124, .inl S2)), (jT, .inr (8, [.ref t0, .int (nI (kt))])), (t0, .inl (cC, 120, .inl gT))] [(c1, .int), (c2, .int), (cC, .char)] (va_A [(jR, .inr (4, [.ref jT, .ref r1, .ref r2, .int (nI (wr)), .int (nI (fi)), .int pl, .ref q6, .ref q7])), (r1, .inl (c1, 120, .inl s1)), (r2, .inl (c2, 124, .inl s2)), (jT, .inr (8, [.ref t0, .int (nI (kt))])), (t0, .inl (cC, 120, .inl gT))] sz) t) (va_A [(jR, .inr (4, [.ref jT, .ref r1, .ref r2, .int (nI (wr)), .int (nI (fi)), .int pl, .ref q6, .ref q7])), (r1, .inl (c1, 120, .inl s1)), (r2, .inl (c2, 124, .inl s2)), (jT, .inr (8, [.ref t0, .int (nI (kt))])), (t0, .inl (cC, 120, .inl gT))] sz)) 0 0 (va_A [(jR, .inr (4, [.ref jT, .ref r1, .ref r2, .int (nI (wr)), .int (nI (fi)), .int pl, .ref q6, .ref q7])), (r1, .inl (c1, 120, .inl s1)), (r2, .inl (c2, 124, .inl s2)), (jT, .inr (8, [.ref t0, .int (nI (kt))])), (t0, .inl (cC, 120, .inl gT))] sz) := by
  refine Met.ofW (cc := cX4_readUnit) (maxL := 4) (ret := (some .boolean)) (by decide) rfl ?_
  intro p e s m args below meth c s₁ B hml hv
  obtain ⟨rfl, hsz, hP, hK, hD0, hX⟩ := hv
  have hx := B.exec
  have hb := B.bytes
  have hr := B.returns
  have hts := atoms_spec (ws := w_s_unit4_0_0) B.pre
  have hown : s.vm.findClass RX4 = some m.cls := findClass_of_methodNamed B.named
  have hlocks := B.notSynchronized
  subst hsz
  have hD := hD0.self (sz := s.heap.size)
  generalize hAe : va_A [(jR, .inr (4, [.ref jT, .ref r1, .ref r2, .int (nI (wr)), .int (nI (fi)), .int pl, .ref q6, .ref q7])), (r1, .inl (c1, 120, .inl s1)), (r2, .inl (c2, 124, .inl s2)), (jT, .inr (8, [.ref t0, .int (nI (kt))])), (t0, .inl (cC, 120, .inl gT))] s.heap.size = A at hD hX ⊢
  have hA : ∀ q : Nat, s.heap.size ≤ q → A q := fun q h => by rw [← hAe]; exact Or.inr h
  have hS : va_S A s.heap s.heap [] := va_S.rf
  have hP : va_P (dC, dI) vwCl [(jR, .inr (4, [.ref jT, .ref r1, .ref r2, .int (nI (wr)), .int (nI (fi)), .int pl, .ref q6, .ref q7])), (r1, .inl (c1, 120, .inl s1)), (r2, .inl (c2, 124, .inl s2)), (jT, .inr (8, [.ref t0, .int (nI (kt))])), (t0, .inl (cC, 120, .inl gT))] s.heap := hP
  have hl := lv_entry ([.ref jR, .int 0, .int 0]) (n := 4) (Nat.le_of_ble_eq_true rfl)
  rw [lg_entry_eq]
  generalize (lg_sl ([.ref jR, .int 0, .int 0]) ++ List.replicate (4 - (lg_sl ([.ref jR, .int 0, .int 0])).length) Slot.unset).toArray = ls at hl ⊢
  have hl : lv_has ls 4 [(0, .ref jR), (1, .int 0), (2, .int 0)] := hl
  refine kQ (fun Q hQ => ?_)
  refine lv_iload_n hx hb dX4_readUnit_0 rfl (lv_at hl 2 rfl) ?_
  refine lv_if_ne (tgt := 100) hx hb dX4_readUnit_1 (by decide) (fun c_1 => absurd (by decide) c_1) (fun c_1 => ?_)
  refine lv_aload_n hx hb dX4_readUnit_4 rfl (lv_at hl 0 rfl) ?_
  obtain ⟨hPc, hDc, hFc⟩ := kCut (wc := [(jR, .inr (4, [.ref jT, .ref r1, .ref r2, .int (nI (wr)), .int (nI (fi)), .int pl, .ref q6, .ref q7])), (r1, .inl (c1, 120, .inl s1)), (r2, .inl (c2, 124, .inl s2)), (jT, .inr (8, [.ref t0, .int (nI (kt))])), (t0, .inl (cC, 120, .inl gT))]) hP hD hS hA [0, 1, 2, 3, 4] rfl (by decide) rfl
  have hKc := hK.sb (tys2 := [(c1, .int), (c2, .int), (cC, .char)]) [0, 1, 2] rfl
  refine va_calli (va_runV (As := []) (rest := []) ⟨hx, hb, hml, hown, hts⟩ (s_look4 l dC dI jT t0 cC gT kt (by omega) (by omega) jR r1 r2 c1 c2 s1 s2 wr fi pl q6 q7 (by omega) (by omega) s.heap.size) (cwV 0 hts (kG (List.forall_mem_cons.mpr ⟨(List.mem_cons_of_mem _ (List.mem_append_left _ (List.mem_of_getElem? (i := 3) rfl))), (List.forall_mem_cons.mpr ⟨(List.mem_cons_of_mem _ (List.mem_append_left _ (List.mem_of_getElem? (i := 2) rfl))), (List.forall_mem_cons.mpr ⟨(List.mem_cons_of_mem _ (List.mem_append_left _ (List.mem_of_getElem? (i := 1) rfl))), (List.forall_mem_cons.mpr ⟨(List.mem_cons_of_mem _ (List.mem_append_left _ (List.mem_of_getElem? (i := 0) rfl))), (fun _ h => absurd h List.not_mem_nil)⟩)⟩)⟩)⟩) (kGV _ _ _ _) (fun _ h => List.mem_cons_of_mem _ (List.mem_append_right _ (List.mem_append_left _ h))) gw_s_look4) rfl rfl rfl ⟨rfl, hd_X4_look⟩ ⟨(Nat.le_of_ble_eq_true rfl), (Nat.le_of_ble_eq_true rfl)⟩) (kW_V kT_blind kT_give (va_recv hKc hPc (ci := 4) (q0 := 0) rfl rfl) hPc hKc hDc) rfl rfl hl.1 rfl (lv_room (Nat.le_of_ble_eq_true rfl)) dX4_readUnit_5 ⟨(Nat.le_of_ble_eq_true rfl), (Nat.le_of_ble_eq_true rfl)⟩) hS (fun q _ h => hFc q h) hFc (fun r_2 u t H1 locs ht hvm hw hB hz1 hk1 hS => ?_)
  obtain ⟨Pl_3, rfl⟩ : ∃ z, z = u := ⟨_, rfl⟩
  obtain ⟨hP1, hK1, hD1⟩ := hB
  rw [ht] at hP1
  try dsimp only at hw
  obtain ⟨hP, hD⟩ : kPD dC dI A [(jR, .inr (4, [.ref jT, .ref r1, .ref r2, .int (nI (wr)), .int (nI (fi)), .int Pl_3, .ref q6, .ref q7])), (r1, .inl (c1, 120, .inl s1)), (r2, .inl (c2, 124, .inl s2)), (jT, .inr (8, [.ref t0, .int (nI (kt))])), (t0, .inl (cC, 120, .inl gT))] H1 := kJoinI hP hD [0, 1, 2, 3, 4] rfl hk1 hFc hP1 hD1 rfl [some 0, some 1, some 2, some 3, some 4] rfl rfl
  generalize H1 = H at hP hS ⊢
  have hw_4 := hw
  refine lv_istore_n hx hb dX4_readUnit_8 rfl hl (by decide) (kTo [(3, .int r_2), (0, .ref jR), (1, .int 0), (2, .int 0)]) (fun ls hl => ?_)
  refine lv_iload_n hx hb dX4_readUnit_9 rfl (lv_at hl 0 rfl) ?_
  refine lv_bipush (v := 33) hx hb dX4_readUnit_10 (by decide) ?_
  refine lv_icmp_ne (tgt := 50) hx hb dX4_readUnit_12 (by decide) (fun c_5 => ?_) (fun c_5 => ?_)
  · refine lv_iload_n hx hb dX4_readUnit_50 rfl (lv_at hl 0 rfl) ?_
    refine lv_bipush (v := 40) hx hb dX4_readUnit_51 (by decide) ?_
    refine lv_icmp_ne (tgt := 90) hx hb dX4_readUnit_53 (by decide) (fun c_6 => ?_) (fun c_6 => ?_)
    · refine lv_aload_n hx hb dX4_readUnit_90 rfl (lv_at hl 1 rfl) ?_
      refine lv_iload_n hx hb dX4_readUnit_91 rfl (lv_at hl 2 rfl) ?_
      obtain ⟨hPc, hDc, hFc⟩ := kCut (wc := [(jR, .inr (4, [.ref jT, .ref r1, .ref r2, .int (nI (wr)), .int (nI (fi)), .int Pl_3, .ref q6, .ref q7])), (r1, .inl (c1, 120, .inl s1)), (r2, .inl (c2, 124, .inl s2)), (jT, .inr (8, [.ref t0, .int (nI (kt))])), (t0, .inl (cC, 120, .inl gT))]) hP hD hS hA [0, 1, 2, 3, 4] rfl (by decide) rfl
      have hKc := hK.sb (tys2 := [(c1, .int), (c2, .int), (cC, .char)]) [0, 1, 2] rfl
      refine va_calli (va_runV (As := [.int 0]) (rest := []) ⟨hx, hb, hml, hown, hts⟩ (s_sum4_0 l dC dI jT t0 cC gT kt (by omega) (by omega) jR r1 r2 c1 c2 s1 s2 wr fi Pl_3 q6 q7 (by omega) (by omega) b6 n6 g6 (by omega) b7 n7 g7 (by omega) H.size) (cwV 1 hts (kG (List.forall_mem_cons.mpr ⟨(List.mem_cons_of_mem _ (List.mem_append_left _ (List.mem_of_getElem? (i := 32) rfl))), (List.forall_mem_cons.mpr ⟨(List.mem_cons_of_mem _ (List.mem_append_left _ (List.mem_of_getElem? (i := 31) rfl))), (List.forall_mem_cons.mpr ⟨(List.mem_cons_of_mem _ (List.mem_append_left _ (List.mem_of_getElem? (i := 30) rfl))), (List.forall_mem_cons.mpr ⟨(List.mem_cons_of_mem _ (List.mem_append_left _ (List.mem_of_getElem? (i := 0) rfl))), (fun _ h => absurd h List.not_mem_nil)⟩)⟩)⟩)⟩) (kGV _ _ _ _) (kFam (List.mem_cons_of_mem _ (List.mem_append_left _ (List.mem_of_getElem? (i := 29) rfl)))) gw_s_sum4_0) rfl rfl rfl ⟨rfl, hd_X4_readSum⟩ ⟨(Nat.le_of_ble_eq_true rfl), (Nat.le_of_ble_eq_true rfl)⟩) (kW_V kS2_blind (kS2_give hX hS hFc) (va_recv hKc hPc (ci := 4) (q0 := 0) rfl rfl) hPc hKc hDc) rfl rfl hl.1 rfl (lv_room (Nat.le_of_ble_eq_true rfl)) dX4_readUnit_92 ⟨(Nat.le_of_ble_eq_true rfl), (Nat.le_of_ble_eq_true rfl)⟩) hS (fun q _ h => hFc q h) hFc (fun r_7 u t H1 locs ht hvm hw hB hz1 hk1 hS => ?_)
      obtain ⟨S1_8, S2_9, Pl_10, Wr_11, Fi_12⟩ := u
      obtain ⟨hP1, hK1, hD1⟩ := hB
      rw [ht] at hP1
      try dsimp only at hw
      obtain ⟨hP, hD⟩ : kPD dC dI A [(jR, .inr (4, [.ref jT, .ref r1, .ref r2, .int (nI (Wr_11)), .int (nI (Fi_12)), .int Pl_10, .ref q6, .ref q7])), (r1, .inl (c1, 120, .inl S1_8)), (r2, .inl (c2, 124, .inl S2_9)), (jT, .inr (8, [.ref t0, .int (nI (kt))])), (t0, .inl (cC, 120, .inl gT))] H1 := kJoinI hP hD [0, 1, 2, 3, 4] rfl hk1 hFc hP1 hD1 rfl [some 0, some 1, some 2, some 3, some 4] rfl rfl
      generalize H1 = H at hP hS ⊢
      have hw_13 := hw
      refine lv_if_ne (tgt := 100) hx hb dX4_readUnit_95 (by decide) (fun c_14 => ?_) (fun c_14 => ?_)
      · refine lv_aload_n hx hb dX4_readUnit_100 rfl (lv_at hl 1 rfl) ?_
        obtain ⟨hPc, hDc, hFc⟩ := kCut (wc := [(jR, .inr (4, [.ref jT, .ref r1, .ref r2, .int (nI (Wr_11)), .int (nI (Fi_12)), .int Pl_10, .ref q6, .ref q7])), (r1, .inl (c1, 120, .inl S1_8)), (r2, .inl (c2, 124, .inl S2_9)), (jT, .inr (8, [.ref t0, .int (nI (kt))])), (t0, .inl (cC, 120, .inl gT))]) hP hD hS hA [0, 1, 2, 3, 4] rfl (by decide) rfl
        have hKc := hK.sb (tys2 := [(c1, .int), (c2, .int), (cC, .char)]) [0, 1, 2] rfl
        refine va_calli (va_runV (As := []) (rest := []) ⟨hx, hb, hml, hown, hts⟩ (s_look4 l dC dI jT t0 cC gT kt (by omega) (by omega) jR r1 r2 c1 c2 S1_8 S2_9 Wr_11 Fi_12 Pl_10 q6 q7 (by omega) (by omega) H.size) (cwV 0 hts (kG (List.forall_mem_cons.mpr ⟨(List.mem_cons_of_mem _ (List.mem_append_left _ (List.mem_of_getElem? (i := 3) rfl))), (List.forall_mem_cons.mpr ⟨(List.mem_cons_of_mem _ (List.mem_append_left _ (List.mem_of_getElem? (i := 2) rfl))), (List.forall_mem_cons.mpr ⟨(List.mem_cons_of_mem _ (List.mem_append_left _ (List.mem_of_getElem? (i := 1) rfl))), (List.forall_mem_cons.mpr ⟨(List.mem_cons_of_mem _ (List.mem_append_left _ (List.mem_of_getElem? (i := 0) rfl))), (fun _ h => absurd h List.not_mem_nil)⟩)⟩)⟩)⟩) (kGV _ _ _ _) (fun _ h => List.mem_cons_of_mem _ (List.mem_append_right _ (List.mem_append_left _ h))) gw_s_look4) rfl rfl rfl ⟨rfl, hd_X4_look⟩ ⟨(Nat.le_of_ble_eq_true rfl), (Nat.le_of_ble_eq_true rfl)⟩) (kW_V kT_blind kT_give (va_recv hKc hPc (ci := 4) (q0 := 0) rfl rfl) hPc hKc hDc) rfl rfl hl.1 rfl (lv_room (Nat.le_of_ble_eq_true rfl)) dX4_readUnit_101 ⟨(Nat.le_of_ble_eq_true rfl), (Nat.le_of_ble_eq_true rfl)⟩) hS (fun q _ h => hFc q h) hFc (fun r_15 u t H1 locs ht hvm hw hB hz1 hk1 hS => ?_)
        obtain ⟨Pl_16, rfl⟩ : ∃ z, z = u := ⟨_, rfl⟩
        obtain ⟨hP1, hK1, hD1⟩ := hB
        rw [ht] at hP1
        try dsimp only at hw
        obtain ⟨hP, hD⟩ : kPD dC dI A [(jR, .inr (4, [.ref jT, .ref r1, .ref r2, .int (nI (Wr_11)), .int (nI (Fi_12)), .int Pl_16, .ref q6, .ref q7])), (r1, .inl (c1, 120, .inl S1_8)), (r2, .inl (c2, 124, .inl S2_9)), (jT, .inr (8, [.ref t0, .int (nI (kt))])), (t0, .inl (cC, 120, .inl gT))] H1 := kJoinI hP hD [0, 1, 2, 3, 4] rfl hk1 hFc hP1 hD1 rfl [some 0, some 1, some 2, some 3, some 4] rfl rfl
        generalize H1 = H at hP hS ⊢
        have hw_17 := hw
        refine lv_istore_n hx hb dX4_readUnit_104 rfl hl (by decide) (kTo [(3, .int r_15), (0, .ref jR), (1, .int 0), (2, .int 0)]) (fun ls hl => ?_)
        refine lv_iload_n hx hb dX4_readUnit_105 rfl (lv_at hl 0 rfl) ?_
        have hPc := hP.sb (ws2 := []) [] rfl
        have hKc := hK.sb (tys2 := []) [] rfl
        refine vp_callSi (va_runS (As := [.int r_15]) (rest := []) ⟨hx, hb, hml, hown, hts⟩ (s_comp4 l dC dI r_15) (va_cwS 1 hts (kG (List.forall_mem_cons.mpr ⟨(List.mem_cons_of_mem _ (List.mem_append_left _ (List.mem_of_getElem? (i := 34) rfl))), (List.forall_mem_cons.mpr ⟨(List.mem_cons_of_mem _ (List.mem_append_left _ (List.mem_of_getElem? (i := 33) rfl))), (List.forall_mem_cons.mpr ⟨(List.mem_cons_of_mem _ (List.mem_append_left _ (List.mem_of_getElem? (i := 0) rfl))), (fun _ h => absurd h List.not_mem_nil)⟩)⟩)⟩) (kGS _ _ _) (fun _ h => List.mem_cons_of_mem _ (List.mem_append_right _ (List.mem_append_right _ (List.mem_append_right _ (List.mem_append_right _ (List.mem_append_right _ (List.mem_append_right _ (List.mem_append_right _ (List.mem_append_right _ (List.mem_append_left _ h)))))))))) gw_s_comp4) rfl rfl rfl hd_X4_isComparison ⟨(Nat.le_of_ble_eq_true rfl), (Nat.le_of_ble_eq_true rfl)⟩) (kR_S kT_blind kT_give hPc hKc) rfl rfl hl.1 rfl (lv_room (Nat.le_of_ble_eq_true rfl)) dX4_readUnit_106 ⟨(Nat.le_of_ble_eq_true rfl), (Nat.le_of_ble_eq_true rfl)⟩).run (fun r_18 hw => ?_)
        have hw_19 := hw
        refine lv_if_ne (tgt := 114) hx hb dX4_readUnit_109 (by decide) (fun c_20 => ?_) (fun c_20 => ?_)
        · refine lv_aload_n hx hb dX4_readUnit_114 rfl (lv_at hl 1 rfl) ?_
          refine lv_dup hx hb dX4_readUnit_115 rfl ?_
          refine va_get (D := (dC, dI)) (ci := 4) (v := .int Pl_16) (C := RX4) (T := TX4) (N := 8) hx hb hts (fun _ h => List.mem_cons_of_mem _ (List.mem_append_right _ (List.mem_append_right _ (List.mem_append_right _ (List.mem_append_left _ h))))) hown hK hP 0 rfl rfl 5 (by decide) (hts (.fieldLink RX4 25 "NotEnded$Reader" "place" "I") (List.mem_cons_of_mem _ (List.mem_append_left _ (List.mem_of_getElem? (i := 11) rfl)))) (fun _ h9 => h9) rfl dX4_readUnit_116 ?_
          refine lv_iconst (v := 1) hx hb dX4_readUnit_119 (by decide) ?_
          refine lv_iadd hx hb dX4_readUnit_120 ?_
          refine lv_topi (fun x_21 ex_21 => ?_)
          refine va_put (D := (dC, dI)) (ci := 4) (v := .int x_21) (ty := tyX4 5) (C := RX4) (T := TX4) (N := 8) hx hb hts (fun _ h => List.mem_cons_of_mem _ (List.mem_append_right _ (List.mem_append_right _ (List.mem_append_right _ (List.mem_append_left _ h))))) tyX4 tyX4_ok nmX4 hown hK hP hD hS 0 rfl rfl 5 (by decide) (hts (.fieldLink RX4 25 "NotEnded$Reader" "place" "I") (List.mem_cons_of_mem _ (List.mem_append_left _ (List.mem_of_getElem? (i := 11) rfl)))) (fun _ h9 => h9) rfl (tyX4_ok 5 (by decide)) rfl rfl (Nat.le_of_ble_eq_true rfl) dX4_readUnit_121 (fun H locs hP hD hS => ?_)
          obtain ⟨hP, hD⟩ : kPD dC dI A [(jR, .inr (4, [.ref jT, .ref r1, .ref r2, .int (nI (Wr_11)), .int (nI (Fi_12)), .int x_21, .ref q6, .ref q7])), (r1, .inl (c1, 120, .inl S1_8)), (r2, .inl (c2, 124, .inl S2_9)), (jT, .inr (8, [.ref t0, .int (nI (kt))])), (t0, .inl (cC, 120, .inl gT))] H := ⟨hP, hD⟩
          refine lv_aload_n hx hb dX4_readUnit_124 rfl (lv_at hl 1 rfl) ?_
          refine lv_iload_n hx hb dX4_readUnit_125 rfl (lv_at hl 2 rfl) ?_
          obtain ⟨hPc, hDc, hFc⟩ := kCut (wc := [(jR, .inr (4, [.ref jT, .ref r1, .ref r2, .int (nI (Wr_11)), .int (nI (Fi_12)), .int x_21, .ref q6, .ref q7])), (r1, .inl (c1, 120, .inl S1_8)), (r2, .inl (c2, 124, .inl S2_9)), (jT, .inr (8, [.ref t0, .int (nI (kt))])), (t0, .inl (cC, 120, .inl gT))]) hP hD hS hA [0, 1, 2, 3, 4] rfl (by decide) rfl
          have hKc := hK.sb (tys2 := [(c1, .int), (c2, .int), (cC, .char)]) [0, 1, 2] rfl
          refine va_calli (va_runV (As := [.int 0]) (rest := []) ⟨hx, hb, hml, hown, hts⟩ (s_sum4_0 l dC dI jT t0 cC gT kt (by omega) (by omega) jR r1 r2 c1 c2 S1_8 S2_9 Wr_11 Fi_12 x_21 q6 q7 (by omega) (by omega) b6 n6 g6 (by omega) b7 n7 g7 (by omega) H.size) (cwV 1 hts (kG (List.forall_mem_cons.mpr ⟨(List.mem_cons_of_mem _ (List.mem_append_left _ (List.mem_of_getElem? (i := 32) rfl))), (List.forall_mem_cons.mpr ⟨(List.mem_cons_of_mem _ (List.mem_append_left _ (List.mem_of_getElem? (i := 31) rfl))), (List.forall_mem_cons.mpr ⟨(List.mem_cons_of_mem _ (List.mem_append_left _ (List.mem_of_getElem? (i := 30) rfl))), (List.forall_mem_cons.mpr ⟨(List.mem_cons_of_mem _ (List.mem_append_left _ (List.mem_of_getElem? (i := 0) rfl))), (fun _ h => absurd h List.not_mem_nil)⟩)⟩)⟩)⟩) (kGV _ _ _ _) (kFam (List.mem_cons_of_mem _ (List.mem_append_left _ (List.mem_of_getElem? (i := 29) rfl)))) gw_s_sum4_0) rfl rfl rfl ⟨rfl, hd_X4_readSum⟩ ⟨(Nat.le_of_ble_eq_true rfl), (Nat.le_of_ble_eq_true rfl)⟩) (kW_V kS2_blind (kS2_give hX hS hFc) (va_recv hKc hPc (ci := 4) (q0 := 0) rfl rfl) hPc hKc hDc) rfl rfl hl.1 rfl (lv_room (Nat.le_of_ble_eq_true rfl)) dX4_readUnit_126 ⟨(Nat.le_of_ble_eq_true rfl), (Nat.le_of_ble_eq_true rfl)⟩) hS (fun q _ h => hFc q h) hFc (fun r_22 u t H1 locs ht hvm hw hB hz1 hk1 hS => ?_)
          obtain ⟨S1_23, S2_24, Pl_25, Wr_26, Fi_27⟩ := u
          obtain ⟨hP1, hK1, hD1⟩ := hB
          rw [ht] at hP1
          try dsimp only at hw
          obtain ⟨hP, hD⟩ : kPD dC dI A [(jR, .inr (4, [.ref jT, .ref r1, .ref r2, .int (nI (Wr_26)), .int (nI (Fi_27)), .int Pl_25, .ref q6, .ref q7])), (r1, .inl (c1, 120, .inl S1_23)), (r2, .inl (c2, 124, .inl S2_24)), (jT, .inr (8, [.ref t0, .int (nI (kt))])), (t0, .inl (cC, 120, .inl gT))] H1 := kJoinI hP hD [0, 1, 2, 3, 4] rfl hk1 hFc hP1 hD1 rfl [some 0, some 1, some 2, some 3, some 4] rfl rfl
          generalize H1 = H at hP hS ⊢
          have hw_28 := hw
          refine lv_if_eq (tgt := 148) hx hb dX4_readUnit_129 (by decide) (fun c_29 => ?_) (fun c_29 => ?_)
          · refine lv_iconst (v := 0) hx hb dX4_readUnit_148 (by decide) ?_
            have hP9 := hP
            have hD9 := hD
            have hK9 := hK
            rw [hQ]
            exact W.zret (v := 0) hx hb hr rfl (fun t ht hW => ⟨⟨0, (S1_23, S2_24, Pl_25, Wr_26, Fi_27), rfl, ⟨(Or.inl rfl), by omega, by omega⟩,  by rw [ht]; exact hP9, va_K.moved hW.alike hK9, hD9⟩, hS.F ht⟩) hS.2.2 dX4_readUnit_149
          · refine lv_aload_n hx hb dX4_readUnit_132 rfl (lv_at hl 1 rfl) ?_
            refine lv_sipush (v := 20000) hx hb dX4_readUnit_133 (by decide) ?_
            refine lv_iload_n hx hb dX4_readUnit_136 rfl (lv_at hl 0 rfl) ?_
            refine lv_iadd hx hb dX4_readUnit_137 ?_
            refine lv_topi (fun x_30 ex_30 => ?_)
            obtain ⟨hPc, hDc, hFc⟩ := kCut (wc := [(jR, .inr (4, [.ref jT, .ref r1, .ref r2, .int (nI (Wr_26)), .int (nI (Fi_27)), .int Pl_25, .ref q6, .ref q7])), (r1, .inl (c1, 120, .inl S1_23)), (r2, .inl (c2, 124, .inl S2_24)), (jT, .inr (8, [.ref t0, .int (nI (kt))])), (t0, .inl (cC, 120, .inl gT))]) hP hD hS hA [0, 1, 2, 3, 4] rfl (by decide) rfl
            have hKc := hK.sb (tys2 := [(c1, .int), (c2, .int), (cC, .char)]) [0, 1, 2] rfl
            refine va_calli (va_runV (As := [.int x_30]) (rest := []) ⟨hx, hb, hml, hown, hts⟩ (s_write4 l dC dI jT t0 cC gT kt (by omega) (by omega) jR r1 r2 c1 c2 S1_23 S2_24 Wr_26 Fi_27 Pl_25 q6 q7 (by omega) (by omega) x_30 H.size) (cwV 1 hts (kG (List.forall_mem_cons.mpr ⟨(List.mem_cons_of_mem _ (List.mem_append_left _ (List.mem_of_getElem? (i := 14) rfl))), (List.forall_mem_cons.mpr ⟨(List.mem_cons_of_mem _ (List.mem_append_left _ (List.mem_of_getElem? (i := 13) rfl))), (List.forall_mem_cons.mpr ⟨(List.mem_cons_of_mem _ (List.mem_append_left _ (List.mem_of_getElem? (i := 12) rfl))), (List.forall_mem_cons.mpr ⟨(List.mem_cons_of_mem _ (List.mem_append_left _ (List.mem_of_getElem? (i := 0) rfl))), (fun _ h => absurd h List.not_mem_nil)⟩)⟩)⟩)⟩) (kGV _ _ _ _) (fun _ h => List.mem_cons_of_mem _ (List.mem_append_right _ (List.mem_append_right _ (List.mem_append_right _ (List.mem_append_right _ (List.mem_append_right _ (List.mem_append_left _ h))))))) gw_s_write4) rfl rfl rfl ⟨rfl, hd_X4_write⟩ ⟨(Nat.le_of_ble_eq_true rfl), (Nat.le_of_ble_eq_true rfl)⟩) (kW_V kT_blind kT_give (va_recv hKc hPc (ci := 4) (q0 := 0) rfl rfl) hPc hKc hDc) rfl rfl hl.1 rfl (lv_room (Nat.le_of_ble_eq_true rfl)) dX4_readUnit_138 ⟨(Nat.le_of_ble_eq_true rfl), (Nat.le_of_ble_eq_true rfl)⟩) hS (fun q _ h => hFc q h) hFc (fun r_31 u t H1 locs ht hvm hw hB hz1 hk1 hS => ?_)
            obtain ⟨S1_32, S2_33, Pl_34, Wr_35, Fi_36⟩ := u
            obtain ⟨hP1, hK1, hD1⟩ := hB
            rw [ht] at hP1
            try dsimp only at hw
            obtain ⟨hP, hD⟩ : kPD dC dI A [(jR, .inr (4, [.ref jT, .ref r1, .ref r2, .int (nI (Wr_35)), .int (nI (Fi_36)), .int Pl_34, .ref q6, .ref q7])), (r1, .inl (c1, 120, .inl S1_32)), (r2, .inl (c2, 124, .inl S2_33)), (jT, .inr (8, [.ref t0, .int (nI (kt))])), (t0, .inl (cC, 120, .inl gT))] H1 := kJoinI hP hD [0, 1, 2, 3, 4] rfl hk1 hFc hP1 hD1 rfl [some 0, some 1, some 2, some 3, some 4] rfl rfl
            generalize H1 = H at hP hS ⊢
            have hw_37 := hw
            refine lv_if_eq (tgt := 148) hx hb dX4_readUnit_141 (by decide) (fun c_38 => ?_) (fun c_38 => ?_)
            · refine lv_iconst (v := 0) hx hb dX4_readUnit_148 (by decide) ?_
              have hP9 := hP
              have hD9 := hD
              have hK9 := hK
              rw [hQ]
              exact W.zret (v := 0) hx hb hr rfl (fun t ht hW => ⟨⟨0, (S1_32, S2_33, Pl_34, Wr_35, Fi_36), rfl, ⟨(Or.inl rfl), by omega, by omega⟩,  by rw [ht]; exact hP9, va_K.moved hW.alike hK9, hD9⟩, hS.F ht⟩) hS.2.2 dX4_readUnit_149
            · refine lv_iconst (v := 1) hx hb dX4_readUnit_144 (by decide) ?_
              refine lv_goto (tgt := 149) hx hb dX4_readUnit_145 (by decide) ?_
              have hP9 := hP
              have hD9 := hD
              have hK9 := hK
              rw [hQ]
              exact W.zret (v := 1) hx hb hr rfl (fun t ht hW => ⟨⟨1, (S1_32, S2_33, Pl_34, Wr_35, Fi_36), rfl, ⟨(Or.inr rfl), by omega, by omega⟩,  by rw [ht]; exact hP9, va_K.moved hW.alike hK9, hD9⟩, hS.F ht⟩) hS.2.2 dX4_readUnit_149
        · refine lv_iconst (v := 0) hx hb dX4_readUnit_112 (by decide) ?_
          have hP9 := hP
          have hD9 := hD
          have hK9 := hK
          rw [hQ]
          exact W.zret (v := 0) hx hb hr rfl (fun t ht hW => ⟨⟨0, (S1_8, S2_9, Pl_16, Wr_11, Fi_12), rfl, ⟨(Or.inl rfl), by omega, by omega⟩,  by rw [ht]; exact hP9, va_K.moved hW.alike hK9, hD9⟩, hS.F ht⟩) hS.2.2 dX4_readUnit_113
      · refine lv_iconst (v := 0) hx hb dX4_readUnit_98 (by decide) ?_
        have hP9 := hP
        have hD9 := hD
        have hK9 := hK
        rw [hQ]
        exact W.zret (v := 0) hx hb hr rfl (fun t ht hW => ⟨⟨0, (S1_8, S2_9, Pl_10, Wr_11, Fi_12), rfl, ⟨(Or.inl rfl), by omega, by omega⟩,  by rw [ht]; exact hP9, va_K.moved hW.alike hK9, hD9⟩, hS.F ht⟩) hS.2.2 dX4_readUnit_99
    · refine lv_aload_n hx hb dX4_readUnit_56 rfl (lv_at hl 1 rfl) ?_
      refine lv_iload_n hx hb dX4_readUnit_57 rfl (lv_at hl 2 rfl) ?_
      obtain ⟨hPc, hDc, hFc⟩ := kCut (wc := [(jR, .inr (4, [.ref jT, .ref r1, .ref r2, .int (nI (wr)), .int (nI (fi)), .int Pl_3, .ref q6, .ref q7])), (r1, .inl (c1, 120, .inl s1)), (r2, .inl (c2, 124, .inl s2)), (jT, .inr (8, [.ref t0, .int (nI (kt))])), (t0, .inl (cC, 120, .inl gT))]) hP hD hS hA [0, 1, 2, 3, 4] rfl (by decide) rfl
      have hKc := hK.sb (tys2 := [(c1, .int), (c2, .int), (cC, .char)]) [0, 1, 2] rfl
      refine va_calli (va_runV (As := [.int 0]) (rest := []) ⟨hx, hb, hml, hown, hts⟩ (s_opens4 l dC dI jT t0 cC gT kt (by omega) (by omega) jR r1 r2 c1 c2 s1 s2 wr fi Pl_3 q6 q7 (by omega) (by omega) 0 H.size) (cwV 1 hts (kG (List.forall_mem_cons.mpr ⟨(List.mem_cons_of_mem _ (List.mem_append_left _ (List.mem_of_getElem? (i := 20) rfl))), (List.forall_mem_cons.mpr ⟨(List.mem_cons_of_mem _ (List.mem_append_left _ (List.mem_of_getElem? (i := 19) rfl))), (List.forall_mem_cons.mpr ⟨(List.mem_cons_of_mem _ (List.mem_append_left _ (List.mem_of_getElem? (i := 18) rfl))), (List.forall_mem_cons.mpr ⟨(List.mem_cons_of_mem _ (List.mem_append_left _ (List.mem_of_getElem? (i := 0) rfl))), (fun _ h => absurd h List.not_mem_nil)⟩)⟩)⟩)⟩) (kGV _ _ _ _) (fun _ h => List.mem_cons_of_mem _ (List.mem_append_right _ (List.mem_append_right _ (List.mem_append_right _ (List.mem_append_right _ (List.mem_append_right _ (List.mem_append_right _ (List.mem_append_right _ (List.mem_append_right _ (List.mem_append_right _ (List.mem_append_left _ h))))))))))) gw_s_opens4) rfl rfl rfl ⟨rfl, hd_X4_opens⟩ ⟨(Nat.le_of_ble_eq_true rfl), (Nat.le_of_ble_eq_true rfl)⟩) (kW_V kT_blind kT_give (va_recv hKc hPc (ci := 4) (q0 := 0) rfl rfl) hPc hKc hDc) rfl rfl hl.1 rfl (lv_room (Nat.le_of_ble_eq_true rfl)) dX4_readUnit_58 ⟨(Nat.le_of_ble_eq_true rfl), (Nat.le_of_ble_eq_true rfl)⟩) hS (fun q _ h => hFc q h) hFc (fun r_39 u t H1 locs ht hvm hw hB hz1 hk1 hS => ?_)
      obtain ⟨S1_40, S2_41, Pl_42, Wr_43, Fi_44⟩ := u
      obtain ⟨hP1, hK1, hD1⟩ := hB
      rw [ht] at hP1
      try dsimp only at hw
      obtain ⟨hP, hD⟩ : kPD dC dI A [(jR, .inr (4, [.ref jT, .ref r1, .ref r2, .int (nI (Wr_43)), .int (nI (Fi_44)), .int Pl_42, .ref q6, .ref q7])), (r1, .inl (c1, 120, .inl S1_40)), (r2, .inl (c2, 124, .inl S2_41)), (jT, .inr (8, [.ref t0, .int (nI (kt))])), (t0, .inl (cC, 120, .inl gT))] H1 := kJoinI hP hD [0, 1, 2, 3, 4] rfl hk1 hFc hP1 hD1 rfl [some 0, some 1, some 2, some 3, some 4] rfl rfl
      generalize H1 = H at hP hS ⊢
      have hw_45 := hw
      refine lv_if_eq (tgt := 88) hx hb dX4_readUnit_61 (by decide) (fun c_46 => ?_) (fun c_46 => ?_)
      · refine lv_iconst (v := 0) hx hb dX4_readUnit_88 (by decide) ?_
        have hP9 := hP
        have hD9 := hD
        have hK9 := hK
        rw [hQ]
        exact W.zret (v := 0) hx hb hr rfl (fun t ht hW => ⟨⟨0, (S1_40, S2_41, Pl_42, Wr_43, Fi_44), rfl, ⟨(Or.inl rfl), by omega, by omega⟩,  by rw [ht]; exact hP9, va_K.moved hW.alike hK9, hD9⟩, hS.F ht⟩) hS.2.2 dX4_readUnit_89
      · refine lv_aload_n hx hb dX4_readUnit_64 rfl (lv_at hl 1 rfl) ?_
        refine lv_iload_n hx hb dX4_readUnit_65 rfl (lv_at hl 2 rfl) ?_
        refine lv_iconst (v := 1) hx hb dX4_readUnit_66 (by decide) ?_
        refine lv_iadd hx hb dX4_readUnit_67 ?_
        refine lv_topi (fun y_47 ey_47 => ?_)
        obtain rfl : y_47 = 1 := ey_47.trans (by decide)
        refine lv_iconst (v := 0) hx hb dX4_readUnit_68 (by decide) ?_
        obtain ⟨hPc, hDc, hFc⟩ := kCut (wc := [(jR, .inr (4, [.ref jT, .ref r1, .ref r2, .int (nI (Wr_43)), .int (nI (Fi_44)), .int Pl_42, .ref q6, .ref q7])), (r1, .inl (c1, 120, .inl S1_40)), (r2, .inl (c2, 124, .inl S2_41)), (jT, .inr (8, [.ref t0, .int (nI (kt))])), (t0, .inl (cC, 120, .inl gT))]) hP hD hS hA [0, 1, 2, 3, 4] rfl (by decide) rfl
        have hKc := hK.sb (tys2 := [(c1, .int), (c2, .int), (cC, .char)]) [0, 1, 2] rfl
        refine va_calli (va_runV (As := [.int 1, .int 0]) (rest := []) ⟨hx, hb, hml, hown, hts⟩ (s_cond4_1_0 l dC dI jT t0 cC gT kt (by omega) (by omega) jR r1 r2 c1 c2 S1_40 S2_41 Wr_43 Fi_44 Pl_42 q6 q7 (by omega) (by omega) b6 n6 g6 (by omega) b7 n7 g7 (by omega) H.size) (cwV 2 hts (kG (List.forall_mem_cons.mpr ⟨(List.mem_cons_of_mem _ (List.mem_append_left _ (List.mem_of_getElem? (i := 49) rfl))), (List.forall_mem_cons.mpr ⟨(List.mem_cons_of_mem _ (List.mem_append_left _ (List.mem_of_getElem? (i := 48) rfl))), (List.forall_mem_cons.mpr ⟨(List.mem_cons_of_mem _ (List.mem_append_left _ (List.mem_of_getElem? (i := 47) rfl))), (List.forall_mem_cons.mpr ⟨(List.mem_cons_of_mem _ (List.mem_append_left _ (List.mem_of_getElem? (i := 0) rfl))), (fun _ h => absurd h List.not_mem_nil)⟩)⟩)⟩)⟩) (kGV _ _ _ _) (kFam (List.mem_cons_of_mem _ (List.mem_append_left _ (List.mem_of_getElem? (i := 46) rfl)))) gw_s_cond4_1_0) rfl rfl rfl ⟨rfl, hd_X4_readCondition⟩ ⟨(Nat.le_of_ble_eq_true rfl), (Nat.le_of_ble_eq_true rfl)⟩) (kW_V kS2_blind (kS2_give hX hS hFc) (va_recv hKc hPc (ci := 4) (q0 := 0) rfl rfl) hPc hKc hDc) rfl rfl hl.1 rfl (lv_room (Nat.le_of_ble_eq_true rfl)) dX4_readUnit_69 ⟨(Nat.le_of_ble_eq_true rfl), (Nat.le_of_ble_eq_true rfl)⟩) hS (fun q _ h => hFc q h) hFc (fun r_48 u t H1 locs ht hvm hw hB hz1 hk1 hS => ?_)
        obtain ⟨S1_49, S2_50, Pl_51, Wr_52, Fi_53⟩ := u
        obtain ⟨hP1, hK1, hD1⟩ := hB
        rw [ht] at hP1
        try dsimp only at hw
        obtain ⟨hP, hD⟩ : kPD dC dI A [(jR, .inr (4, [.ref jT, .ref r1, .ref r2, .int (nI (Wr_52)), .int (nI (Fi_53)), .int Pl_51, .ref q6, .ref q7])), (r1, .inl (c1, 120, .inl S1_49)), (r2, .inl (c2, 124, .inl S2_50)), (jT, .inr (8, [.ref t0, .int (nI (kt))])), (t0, .inl (cC, 120, .inl gT))] H1 := kJoinI hP hD [0, 1, 2, 3, 4] rfl hk1 hFc hP1 hD1 rfl [some 0, some 1, some 2, some 3, some 4] rfl rfl
        generalize H1 = H at hP hS ⊢
        have hw_54 := hw
        refine lv_if_eq (tgt := 88) hx hb dX4_readUnit_72 (by decide) (fun c_55 => ?_) (fun c_55 => ?_)
        · refine lv_iconst (v := 0) hx hb dX4_readUnit_88 (by decide) ?_
          have hP9 := hP
          have hD9 := hD
          have hK9 := hK
          rw [hQ]
          exact W.zret (v := 0) hx hb hr rfl (fun t ht hW => ⟨⟨0, (S1_49, S2_50, Pl_51, Wr_52, Fi_53), rfl, ⟨(Or.inl rfl), by omega, by omega⟩,  by rw [ht]; exact hP9, va_K.moved hW.alike hK9, hD9⟩, hS.F ht⟩) hS.2.2 dX4_readUnit_89
        · refine lv_aload_n hx hb dX4_readUnit_75 rfl (lv_at hl 1 rfl) ?_
          refine lv_bipush (v := 41) hx hb dX4_readUnit_76 (by decide) ?_
          obtain ⟨hPc, hDc, hFc⟩ := kCut (wc := [(jR, .inr (4, [.ref jT, .ref r1, .ref r2, .int (nI (Wr_52)), .int (nI (Fi_53)), .int Pl_51, .ref q6, .ref q7])), (r1, .inl (c1, 120, .inl S1_49)), (r2, .inl (c2, 124, .inl S2_50)), (jT, .inr (8, [.ref t0, .int (nI (kt))])), (t0, .inl (cC, 120, .inl gT))]) hP hD hS hA [0, 1, 2, 3, 4] rfl (by decide) rfl
          have hKc := hK.sb (tys2 := [(c1, .int), (c2, .int), (cC, .char)]) [0, 1, 2] rfl
          refine va_calli (va_runV (As := [.int 41]) (rest := []) ⟨hx, hb, hml, hown, hts⟩ (s_take4 l dC dI jT t0 cC gT kt (by omega) (by omega) jR r1 r2 c1 c2 S1_49 S2_50 Wr_52 Fi_53 Pl_51 q6 q7 (by omega) (by omega) 41 H.size) (cwV 1 hts (kG (List.forall_mem_cons.mpr ⟨(List.mem_cons_of_mem _ (List.mem_append_left _ (List.mem_of_getElem? (i := 45) rfl))), (List.forall_mem_cons.mpr ⟨(List.mem_cons_of_mem _ (List.mem_append_left _ (List.mem_of_getElem? (i := 44) rfl))), (List.forall_mem_cons.mpr ⟨(List.mem_cons_of_mem _ (List.mem_append_left _ (List.mem_of_getElem? (i := 43) rfl))), (List.forall_mem_cons.mpr ⟨(List.mem_cons_of_mem _ (List.mem_append_left _ (List.mem_of_getElem? (i := 0) rfl))), (fun _ h => absurd h List.not_mem_nil)⟩)⟩)⟩)⟩) (kGV _ _ _ _) (fun _ h => List.mem_cons_of_mem _ (List.mem_append_right _ (List.mem_append_right _ (List.mem_append_right _ (List.mem_append_right _ (List.mem_append_right _ (List.mem_append_right _ (List.mem_append_right _ (List.mem_append_right _ (List.mem_append_right _ (List.mem_append_right _ (List.mem_append_left _ h)))))))))))) gw_s_take4) rfl rfl rfl ⟨rfl, hd_X4_take⟩ ⟨(Nat.le_of_ble_eq_true rfl), (Nat.le_of_ble_eq_true rfl)⟩) (kW_V kT_blind kT_give (va_recv hKc hPc (ci := 4) (q0 := 0) rfl rfl) hPc hKc hDc) rfl rfl hl.1 rfl (lv_room (Nat.le_of_ble_eq_true rfl)) dX4_readUnit_78 ⟨(Nat.le_of_ble_eq_true rfl), (Nat.le_of_ble_eq_true rfl)⟩) hS (fun q _ h => hFc q h) hFc (fun r_56 u t H1 locs ht hvm hw hB hz1 hk1 hS => ?_)
          obtain ⟨S1_57, S2_58, Pl_59, Wr_60, Fi_61⟩ := u
          obtain ⟨hP1, hK1, hD1⟩ := hB
          rw [ht] at hP1
          try dsimp only at hw
          obtain ⟨hP, hD⟩ : kPD dC dI A [(jR, .inr (4, [.ref jT, .ref r1, .ref r2, .int (nI (Wr_60)), .int (nI (Fi_61)), .int Pl_59, .ref q6, .ref q7])), (r1, .inl (c1, 120, .inl S1_57)), (r2, .inl (c2, 124, .inl S2_58)), (jT, .inr (8, [.ref t0, .int (nI (kt))])), (t0, .inl (cC, 120, .inl gT))] H1 := kJoinI hP hD [0, 1, 2, 3, 4] rfl hk1 hFc hP1 hD1 rfl [some 0, some 1, some 2, some 3, some 4] rfl rfl
          generalize H1 = H at hP hS ⊢
          have hw_62 := hw
          refine lv_if_eq (tgt := 88) hx hb dX4_readUnit_81 (by decide) (fun c_63 => ?_) (fun c_63 => ?_)
          · refine lv_iconst (v := 0) hx hb dX4_readUnit_88 (by decide) ?_
            have hP9 := hP
            have hD9 := hD
            have hK9 := hK
            rw [hQ]
            exact W.zret (v := 0) hx hb hr rfl (fun t ht hW => ⟨⟨0, (S1_57, S2_58, Pl_59, Wr_60, Fi_61), rfl, ⟨(Or.inl rfl), by omega, by omega⟩,  by rw [ht]; exact hP9, va_K.moved hW.alike hK9, hD9⟩, hS.F ht⟩) hS.2.2 dX4_readUnit_89
          · refine lv_iconst (v := 1) hx hb dX4_readUnit_84 (by decide) ?_
            refine lv_goto (tgt := 89) hx hb dX4_readUnit_85 (by decide) ?_
            have hP9 := hP
            have hD9 := hD
            have hK9 := hK
            rw [hQ]
            exact W.zret (v := 1) hx hb hr rfl (fun t ht hW => ⟨⟨1, (S1_57, S2_58, Pl_59, Wr_60, Fi_61), rfl, ⟨(Or.inr rfl), by omega, by omega⟩,  by rw [ht]; exact hP9, va_K.moved hW.alike hK9, hD9⟩, hS.F ht⟩) hS.2.2 dX4_readUnit_89
  · refine lv_aload_n hx hb dX4_readUnit_15 rfl (lv_at hl 1 rfl) ?_
    refine lv_iload_n hx hb dX4_readUnit_16 rfl (lv_at hl 2 rfl) ?_
    obtain ⟨hPc, hDc, hFc⟩ := kCut (wc := [(jR, .inr (4, [.ref jT, .ref r1, .ref r2, .int (nI (wr)), .int (nI (fi)), .int Pl_3, .ref q6, .ref q7])), (r1, .inl (c1, 120, .inl s1)), (r2, .inl (c2, 124, .inl s2)), (jT, .inr (8, [.ref t0, .int (nI (kt))])), (t0, .inl (cC, 120, .inl gT))]) hP hD hS hA [0, 1, 2, 3, 4] rfl (by decide) rfl
    have hKc := hK.sb (tys2 := [(c1, .int), (c2, .int), (cC, .char)]) [0, 1, 2] rfl
    refine va_calli (va_runV (As := [.int 0]) (rest := []) ⟨hx, hb, hml, hown, hts⟩ (s_opens4 l dC dI jT t0 cC gT kt (by omega) (by omega) jR r1 r2 c1 c2 s1 s2 wr fi Pl_3 q6 q7 (by omega) (by omega) 0 H.size) (cwV 1 hts (kG (List.forall_mem_cons.mpr ⟨(List.mem_cons_of_mem _ (List.mem_append_left _ (List.mem_of_getElem? (i := 20) rfl))), (List.forall_mem_cons.mpr ⟨(List.mem_cons_of_mem _ (List.mem_append_left _ (List.mem_of_getElem? (i := 19) rfl))), (List.forall_mem_cons.mpr ⟨(List.mem_cons_of_mem _ (List.mem_append_left _ (List.mem_of_getElem? (i := 18) rfl))), (List.forall_mem_cons.mpr ⟨(List.mem_cons_of_mem _ (List.mem_append_left _ (List.mem_of_getElem? (i := 0) rfl))), (fun _ h => absurd h List.not_mem_nil)⟩)⟩)⟩)⟩) (kGV _ _ _ _) (fun _ h => List.mem_cons_of_mem _ (List.mem_append_right _ (List.mem_append_right _ (List.mem_append_right _ (List.mem_append_right _ (List.mem_append_right _ (List.mem_append_right _ (List.mem_append_right _ (List.mem_append_right _ (List.mem_append_right _ (List.mem_append_left _ h))))))))))) gw_s_opens4) rfl rfl rfl ⟨rfl, hd_X4_opens⟩ ⟨(Nat.le_of_ble_eq_true rfl), (Nat.le_of_ble_eq_true rfl)⟩) (kW_V kT_blind kT_give (va_recv hKc hPc (ci := 4) (q0 := 0) rfl rfl) hPc hKc hDc) rfl rfl hl.1 rfl (lv_room (Nat.le_of_ble_eq_true rfl)) dX4_readUnit_17 ⟨(Nat.le_of_ble_eq_true rfl), (Nat.le_of_ble_eq_true rfl)⟩) hS (fun q _ h => hFc q h) hFc (fun r_64 u t H1 locs ht hvm hw hB hz1 hk1 hS => ?_)
    obtain ⟨S1_65, S2_66, Pl_67, Wr_68, Fi_69⟩ := u
    obtain ⟨hP1, hK1, hD1⟩ := hB
    rw [ht] at hP1
    try dsimp only at hw
    obtain ⟨hP, hD⟩ : kPD dC dI A [(jR, .inr (4, [.ref jT, .ref r1, .ref r2, .int (nI (Wr_68)), .int (nI (Fi_69)), .int Pl_67, .ref q6, .ref q7])), (r1, .inl (c1, 120, .inl S1_65)), (r2, .inl (c2, 124, .inl S2_66)), (jT, .inr (8, [.ref t0, .int (nI (kt))])), (t0, .inl (cC, 120, .inl gT))] H1 := kJoinI hP hD [0, 1, 2, 3, 4] rfl hk1 hFc hP1 hD1 rfl [some 0, some 1, some 2, some 3, some 4] rfl rfl
    generalize H1 = H at hP hS ⊢
    have hw_70 := hw
    refine lv_if_eq (tgt := 48) hx hb dX4_readUnit_20 (by decide) (fun c_71 => ?_) (fun c_71 => ?_)
    · refine lv_iconst (v := 0) hx hb dX4_readUnit_48 (by decide) ?_
      have hP9 := hP
      have hD9 := hD
      have hK9 := hK
      rw [hQ]
      exact W.zret (v := 0) hx hb hr rfl (fun t ht hW => ⟨⟨0, (S1_65, S2_66, Pl_67, Wr_68, Fi_69), rfl, ⟨(Or.inl rfl), by omega, by omega⟩,  by rw [ht]; exact hP9, va_K.moved hW.alike hK9, hD9⟩, hS.F ht⟩) hS.2.2 dX4_readUnit_49
    · refine lv_aload_n hx hb dX4_readUnit_23 rfl (lv_at hl 1 rfl) ?_
      refine lv_iload_n hx hb dX4_readUnit_24 rfl (lv_at hl 2 rfl) ?_
      refine lv_iconst (v := 1) hx hb dX4_readUnit_25 (by decide) ?_
      refine lv_iadd hx hb dX4_readUnit_26 ?_
      refine lv_topi (fun y_72 ey_72 => ?_)
      obtain rfl : y_72 = 1 := ey_72.trans (by decide)
      refine lv_iconst (v := 0) hx hb dX4_readUnit_27 (by decide) ?_
      obtain ⟨hPc, hDc, hFc⟩ := kCut (wc := [(jR, .inr (4, [.ref jT, .ref r1, .ref r2, .int (nI (Wr_68)), .int (nI (Fi_69)), .int Pl_67, .ref q6, .ref q7])), (r1, .inl (c1, 120, .inl S1_65)), (r2, .inl (c2, 124, .inl S2_66)), (jT, .inr (8, [.ref t0, .int (nI (kt))])), (t0, .inl (cC, 120, .inl gT))]) hP hD hS hA [0, 1, 2, 3, 4] rfl (by decide) rfl
      have hKc := hK.sb (tys2 := [(c1, .int), (c2, .int), (cC, .char)]) [0, 1, 2] rfl
      refine va_calli (va_runV (As := [.int 1, .int 0]) (rest := []) ⟨hx, hb, hml, hown, hts⟩ (s_unit4_1_0 l dC dI jT t0 cC gT kt (by omega) (by omega) jR r1 r2 c1 c2 S1_65 S2_66 Wr_68 Fi_69 Pl_67 q6 q7 (by omega) (by omega) b6 n6 g6 (by omega) b7 n7 g7 (by omega) H.size) (cwV 2 hts (kG (List.forall_mem_cons.mpr ⟨(List.mem_cons_of_mem _ (List.mem_append_left _ (List.mem_of_getElem? (i := 38) rfl))), (List.forall_mem_cons.mpr ⟨(List.mem_cons_of_mem _ (List.mem_append_left _ (List.mem_of_getElem? (i := 37) rfl))), (List.forall_mem_cons.mpr ⟨(List.mem_cons_of_mem _ (List.mem_append_left _ (List.mem_of_getElem? (i := 36) rfl))), (List.forall_mem_cons.mpr ⟨(List.mem_cons_of_mem _ (List.mem_append_left _ (List.mem_of_getElem? (i := 0) rfl))), (fun _ h => absurd h List.not_mem_nil)⟩)⟩)⟩)⟩) (kGV _ _ _ _) (kFam (List.mem_cons_of_mem _ (List.mem_append_left _ (List.mem_of_getElem? (i := 35) rfl)))) gw_s_unit4_1_0) rfl rfl rfl ⟨rfl, hd_X4_readUnit⟩ ⟨(Nat.le_of_ble_eq_true rfl), (Nat.le_of_ble_eq_true rfl)⟩) (kW_V kS2_blind (kS2_give hX hS hFc) (va_recv hKc hPc (ci := 4) (q0 := 0) rfl rfl) hPc hKc hDc) rfl rfl hl.1 rfl (lv_room (Nat.le_of_ble_eq_true rfl)) dX4_readUnit_28 ⟨(Nat.le_of_ble_eq_true rfl), (Nat.le_of_ble_eq_true rfl)⟩) hS (fun q _ h => hFc q h) hFc (fun r_73 u t H1 locs ht hvm hw hB hz1 hk1 hS => ?_)
      obtain ⟨S1_74, S2_75, Pl_76, Wr_77, Fi_78⟩ := u
      obtain ⟨hP1, hK1, hD1⟩ := hB
      rw [ht] at hP1
      try dsimp only at hw
      obtain ⟨hP, hD⟩ : kPD dC dI A [(jR, .inr (4, [.ref jT, .ref r1, .ref r2, .int (nI (Wr_77)), .int (nI (Fi_78)), .int Pl_76, .ref q6, .ref q7])), (r1, .inl (c1, 120, .inl S1_74)), (r2, .inl (c2, 124, .inl S2_75)), (jT, .inr (8, [.ref t0, .int (nI (kt))])), (t0, .inl (cC, 120, .inl gT))] H1 := kJoinI hP hD [0, 1, 2, 3, 4] rfl hk1 hFc hP1 hD1 rfl [some 0, some 1, some 2, some 3, some 4] rfl rfl
      generalize H1 = H at hP hS ⊢
      have hw_79 := hw
      refine lv_if_eq (tgt := 48) hx hb dX4_readUnit_31 (by decide) (fun c_80 => ?_) (fun c_80 => ?_)
      · refine lv_iconst (v := 0) hx hb dX4_readUnit_48 (by decide) ?_
        have hP9 := hP
        have hD9 := hD
        have hK9 := hK
        rw [hQ]
        exact W.zret (v := 0) hx hb hr rfl (fun t ht hW => ⟨⟨0, (S1_74, S2_75, Pl_76, Wr_77, Fi_78), rfl, ⟨(Or.inl rfl), by omega, by omega⟩,  by rw [ht]; exact hP9, va_K.moved hW.alike hK9, hD9⟩, hS.F ht⟩) hS.2.2 dX4_readUnit_49
      · refine lv_aload_n hx hb dX4_readUnit_34 rfl (lv_at hl 1 rfl) ?_
        refine lv_sipush (v := 20033) hx hb dX4_readUnit_35 (by decide) ?_
        obtain ⟨hPc, hDc, hFc⟩ := kCut (wc := [(jR, .inr (4, [.ref jT, .ref r1, .ref r2, .int (nI (Wr_77)), .int (nI (Fi_78)), .int Pl_76, .ref q6, .ref q7])), (r1, .inl (c1, 120, .inl S1_74)), (r2, .inl (c2, 124, .inl S2_75)), (jT, .inr (8, [.ref t0, .int (nI (kt))])), (t0, .inl (cC, 120, .inl gT))]) hP hD hS hA [0, 1, 2, 3, 4] rfl (by decide) rfl
        have hKc := hK.sb (tys2 := [(c1, .int), (c2, .int), (cC, .char)]) [0, 1, 2] rfl
        refine va_calli (va_runV (As := [.int 20033]) (rest := []) ⟨hx, hb, hml, hown, hts⟩ (s_write4 l dC dI jT t0 cC gT kt (by omega) (by omega) jR r1 r2 c1 c2 S1_74 S2_75 Wr_77 Fi_78 Pl_76 q6 q7 (by omega) (by omega) 20033 H.size) (cwV 1 hts (kG (List.forall_mem_cons.mpr ⟨(List.mem_cons_of_mem _ (List.mem_append_left _ (List.mem_of_getElem? (i := 14) rfl))), (List.forall_mem_cons.mpr ⟨(List.mem_cons_of_mem _ (List.mem_append_left _ (List.mem_of_getElem? (i := 13) rfl))), (List.forall_mem_cons.mpr ⟨(List.mem_cons_of_mem _ (List.mem_append_left _ (List.mem_of_getElem? (i := 12) rfl))), (List.forall_mem_cons.mpr ⟨(List.mem_cons_of_mem _ (List.mem_append_left _ (List.mem_of_getElem? (i := 0) rfl))), (fun _ h => absurd h List.not_mem_nil)⟩)⟩)⟩)⟩) (kGV _ _ _ _) (fun _ h => List.mem_cons_of_mem _ (List.mem_append_right _ (List.mem_append_right _ (List.mem_append_right _ (List.mem_append_right _ (List.mem_append_right _ (List.mem_append_left _ h))))))) gw_s_write4) rfl rfl rfl ⟨rfl, hd_X4_write⟩ ⟨(Nat.le_of_ble_eq_true rfl), (Nat.le_of_ble_eq_true rfl)⟩) (kW_V kT_blind kT_give (va_recv hKc hPc (ci := 4) (q0 := 0) rfl rfl) hPc hKc hDc) rfl rfl hl.1 rfl (lv_room (Nat.le_of_ble_eq_true rfl)) dX4_readUnit_38 ⟨(Nat.le_of_ble_eq_true rfl), (Nat.le_of_ble_eq_true rfl)⟩) hS (fun q _ h => hFc q h) hFc (fun r_81 u t H1 locs ht hvm hw hB hz1 hk1 hS => ?_)
        obtain ⟨S1_82, S2_83, Pl_84, Wr_85, Fi_86⟩ := u
        obtain ⟨hP1, hK1, hD1⟩ := hB
        rw [ht] at hP1
        try dsimp only at hw
        obtain ⟨hP, hD⟩ : kPD dC dI A [(jR, .inr (4, [.ref jT, .ref r1, .ref r2, .int (nI (Wr_85)), .int (nI (Fi_86)), .int Pl_84, .ref q6, .ref q7])), (r1, .inl (c1, 120, .inl S1_82)), (r2, .inl (c2, 124, .inl S2_83)), (jT, .inr (8, [.ref t0, .int (nI (kt))])), (t0, .inl (cC, 120, .inl gT))] H1 := kJoinI hP hD [0, 1, 2, 3, 4] rfl hk1 hFc hP1 hD1 rfl [some 0, some 1, some 2, some 3, some 4] rfl rfl
        generalize H1 = H at hP hS ⊢
        have hw_87 := hw
        refine lv_if_eq (tgt := 48) hx hb dX4_readUnit_41 (by decide) (fun c_88 => ?_) (fun c_88 => ?_)
        · refine lv_iconst (v := 0) hx hb dX4_readUnit_48 (by decide) ?_
          have hP9 := hP
          have hD9 := hD
          have hK9 := hK
          rw [hQ]
          exact W.zret (v := 0) hx hb hr rfl (fun t ht hW => ⟨⟨0, (S1_82, S2_83, Pl_84, Wr_85, Fi_86), rfl, ⟨(Or.inl rfl), by omega, by omega⟩,  by rw [ht]; exact hP9, va_K.moved hW.alike hK9, hD9⟩, hS.F ht⟩) hS.2.2 dX4_readUnit_49
        · refine lv_iconst (v := 1) hx hb dX4_readUnit_44 (by decide) ?_
          refine lv_goto (tgt := 49) hx hb dX4_readUnit_45 (by decide) ?_
          have hP9 := hP
          have hD9 := hD
          have hK9 := hK
          rw [hQ]
          exact W.zret (v := 1) hx hb hr rfl (fun t ht hW => ⟨⟨1, (S1_82, S2_83, Pl_84, Wr_85, Fi_86), rfl, ⟨(Or.inr rfl), by omega, by omega⟩,  by rw [ht]; exact hP9, va_K.moved hW.alike hK9, hD9⟩, hS.F ht⟩) hS.2.2 dX4_readUnit_49

def w_s_unit4_0_1 : List Cond := .code yX4_readUnit cX4_readUnit 4 (some .boolean) :: wf_rd
theorem gw_s_unit4_0_1 : (w_s_unit4_0_1).all goodWord = true := kFamG rfl gf_rd
set_option maxHeartbeats 4000000 in
set_option maxRecDepth 100000 in
theorem s_unit4_0_1 (l : Launch) (dC : Nat → ClassId) (dI : Nat → Nat → Nat) (jT : Nat) (t0 : Nat) (cC : ClassId) (gT : Nat → Int32) (kt : Nat) (hkt : kt ≤ 120) (hgT : ∀ j : Nat, narrow .char (.int (gT j)) = .int (gT j)) (jR : Nat) (r1 : Nat) (r2 : Nat) (c1 : ClassId) (c2 : ClassId) (s1 : Nat → Int32) (s2 : Nat → Int32) (wr : Nat) (fi : Nat) (pl : Int32) (q6 : Nat) (q7 : Nat) (hwr : wr ≤ 120) (hfi : fi ≤ 124) (b6 : Nat) (n6 : Nat) (g6 : Nat → Int32) (hn6 : n6 ≤ 8) (b7 : Nat) (n7 : Nat) (g7 : Nat → Int32) (hn7 : n7 ≤ 8) (sz : Nat) : Met l yX4_readUnit w_s_unit4_0_1 ({ frames := 45, cells := 0, slots := 0, locals := 2700 }) (kW dC dI [.ref jR, .int 0, .int 1] [(jR, .inr (4, [.ref jT, .ref r1, .ref r2, .int (nI (wr)), .int (nI (fi)), .int pl, .ref q6, .ref q7])), (r1, .inl (c1, 120, .inl s1)), (r2, .inl (c2, 124, .inl s2)), (jT, .inr (8, [.ref t0, .int (nI (kt))])), (t0, .inl (cC, 120, .inl gT))] [(c1, .int), (c2, .int), (cC, .char)] (kS2 q6 b6 n6 g6 q7 b7 n7 g7 (va_A [(jR, .inr (4, [.ref jT, .ref r1, .ref r2, .int (nI (wr)), .int (nI (fi)), .int pl, .ref q6, .ref q7])), (r1, .inl (c1, 120, .inl s1)), (r2, .inl (c2, 124, .inl s2)), (jT, .inr (8, [.ref t0, .int (nI (kt))])), (t0, .inl (cC, 120, .inl gT))] sz)) sz) (va_Qi (fun (r : Int32) (u : (Nat → Int32) × (Nat → Int32) × Int32 × Nat × Nat) => match u with | (S1, S2, Pl, Wr, Fi) => ((r = 0 ∨ r = 1) ∧ Wr ≤ 120 ∧ Fi ≤ 124)) (fun (u : (Nat → Int32) × (Nat → Int32) × Int32 × Nat × Nat) => match u with | (S1, S2, Pl, Wr, Fi) => fun t : State => kB dC dI [(jR, .inr (4, [.ref jT, .ref r1, .ref r2, .int (nI (Wr)), .int (nI (Fi)), .int Pl, .ref q6, .ref q7])), (r1, .inl (c1, 120, .inl S1)), (r2, .inl (c2, 124, .inl S2)), (jT, .inr (8, [.ref t0, .int (nI (kt))])), (t0, .inl (cC, 120, .inl gT))] [(c1, .int), (c2, .int), (cC, .char)] (va_A [(jR, .inr (4, [.ref jT, .ref r1, .ref r2, .int (nI (wr)), .int (nI (fi)), .int pl, .ref q6, .ref q7])), (r1, .inl (c1, 120, .inl s1)), (r2, .inl (c2, 124, .inl s2)), (jT, .inr (8, [.ref t0, .int (nI (kt))])), (t0, .inl (cC, 120, .inl gT))] sz) t) (va_A [(jR, .inr (4, [.ref jT, .ref r1, .ref r2, .int (nI (wr)), .int (nI (fi)), .int pl, .ref q6, .ref q7])), (r1, .inl (c1, 120, .inl s1)), (r2, .inl (c2, 124, .inl s2)), (jT, .inr (8, [.ref t0, .int (nI (kt))])), (t0, .inl (cC, 120, .inl gT))] sz)) 0 0 (va_A [(jR, .inr (4, [.ref jT, .ref r1, .ref r2, .int (nI (wr)), .int (nI (fi)), .int pl, .ref q6, .ref q7])), (r1, .inl (c1, 120, .inl s1)), (r2, .inl (c2, 124, .inl s2)), (jT, .inr (8, [.ref t0, .int (nI (kt))])), (t0, .inl (cC, 120, .inl gT))] sz) := by
  refine Met.ofW (cc := cX4_readUnit) (maxL := 4) (ret := (some .boolean)) (by decide) rfl ?_
  intro p e s m args below meth c s₁ B hml hv
  obtain ⟨rfl, hsz, hP, hK, hD0, hX⟩ := hv
  have hx := B.exec
  have hb := B.bytes
  have hr := B.returns
  have hts := atoms_spec (ws := w_s_unit4_0_1) B.pre
  have hown : s.vm.findClass RX4 = some m.cls := findClass_of_methodNamed B.named
  have hlocks := B.notSynchronized
  subst hsz
  have hD := hD0.self (sz := s.heap.size)
  generalize hAe : va_A [(jR, .inr (4, [.ref jT, .ref r1, .ref r2, .int (nI (wr)), .int (nI (fi)), .int pl, .ref q6, .ref q7])), (r1, .inl (c1, 120, .inl s1)), (r2, .inl (c2, 124, .inl s2)), (jT, .inr (8, [.ref t0, .int (nI (kt))])), (t0, .inl (cC, 120, .inl gT))] s.heap.size = A at hD hX ⊢
  have hA : ∀ q : Nat, s.heap.size ≤ q → A q := fun q h => by rw [← hAe]; exact Or.inr h
  have hS : va_S A s.heap s.heap [] := va_S.rf
  have hP : va_P (dC, dI) vwCl [(jR, .inr (4, [.ref jT, .ref r1, .ref r2, .int (nI (wr)), .int (nI (fi)), .int pl, .ref q6, .ref q7])), (r1, .inl (c1, 120, .inl s1)), (r2, .inl (c2, 124, .inl s2)), (jT, .inr (8, [.ref t0, .int (nI (kt))])), (t0, .inl (cC, 120, .inl gT))] s.heap := hP
  have hl := lv_entry ([.ref jR, .int 0, .int 1]) (n := 4) (Nat.le_of_ble_eq_true rfl)
  rw [lg_entry_eq]
  generalize (lg_sl ([.ref jR, .int 0, .int 1]) ++ List.replicate (4 - (lg_sl ([.ref jR, .int 0, .int 1])).length) Slot.unset).toArray = ls at hl ⊢
  have hl : lv_has ls 4 [(0, .ref jR), (1, .int 0), (2, .int 1)] := hl
  refine kQ (fun Q hQ => ?_)
  refine lv_iload_n hx hb dX4_readUnit_0 rfl (lv_at hl 2 rfl) ?_
  refine lv_if_ne (tgt := 100) hx hb dX4_readUnit_1 (by decide) (fun c_1 => ?_) (fun c_1 => absurd c_1 (by decide))
  refine lv_aload_n hx hb dX4_readUnit_100 rfl (lv_at hl 0 rfl) ?_
  obtain ⟨hPc, hDc, hFc⟩ := kCut (wc := [(jR, .inr (4, [.ref jT, .ref r1, .ref r2, .int (nI (wr)), .int (nI (fi)), .int pl, .ref q6, .ref q7])), (r1, .inl (c1, 120, .inl s1)), (r2, .inl (c2, 124, .inl s2)), (jT, .inr (8, [.ref t0, .int (nI (kt))])), (t0, .inl (cC, 120, .inl gT))]) hP hD hS hA [0, 1, 2, 3, 4] rfl (by decide) rfl
  have hKc := hK.sb (tys2 := [(c1, .int), (c2, .int), (cC, .char)]) [0, 1, 2] rfl
  refine va_calli (va_runV (As := []) (rest := []) ⟨hx, hb, hml, hown, hts⟩ (s_look4 l dC dI jT t0 cC gT kt (by omega) (by omega) jR r1 r2 c1 c2 s1 s2 wr fi pl q6 q7 (by omega) (by omega) s.heap.size) (cwV 0 hts (kG (List.forall_mem_cons.mpr ⟨(List.mem_cons_of_mem _ (List.mem_append_left _ (List.mem_of_getElem? (i := 3) rfl))), (List.forall_mem_cons.mpr ⟨(List.mem_cons_of_mem _ (List.mem_append_left _ (List.mem_of_getElem? (i := 2) rfl))), (List.forall_mem_cons.mpr ⟨(List.mem_cons_of_mem _ (List.mem_append_left _ (List.mem_of_getElem? (i := 1) rfl))), (List.forall_mem_cons.mpr ⟨(List.mem_cons_of_mem _ (List.mem_append_left _ (List.mem_of_getElem? (i := 0) rfl))), (fun _ h => absurd h List.not_mem_nil)⟩)⟩)⟩)⟩) (kGV _ _ _ _) (fun _ h => List.mem_cons_of_mem _ (List.mem_append_right _ (List.mem_append_left _ h))) gw_s_look4) rfl rfl rfl ⟨rfl, hd_X4_look⟩ ⟨(Nat.le_of_ble_eq_true rfl), (Nat.le_of_ble_eq_true rfl)⟩) (kW_V kT_blind kT_give (va_recv hKc hPc (ci := 4) (q0 := 0) rfl rfl) hPc hKc hDc) rfl rfl hl.1 rfl (lv_room (Nat.le_of_ble_eq_true rfl)) dX4_readUnit_101 ⟨(Nat.le_of_ble_eq_true rfl), (Nat.le_of_ble_eq_true rfl)⟩) hS (fun q _ h => hFc q h) hFc (fun r_2 u t H1 locs ht hvm hw hB hz1 hk1 hS => ?_)
  obtain ⟨Pl_3, rfl⟩ : ∃ z, z = u := ⟨_, rfl⟩
  obtain ⟨hP1, hK1, hD1⟩ := hB
  rw [ht] at hP1
  try dsimp only at hw
  obtain ⟨hP, hD⟩ : kPD dC dI A [(jR, .inr (4, [.ref jT, .ref r1, .ref r2, .int (nI (wr)), .int (nI (fi)), .int Pl_3, .ref q6, .ref q7])), (r1, .inl (c1, 120, .inl s1)), (r2, .inl (c2, 124, .inl s2)), (jT, .inr (8, [.ref t0, .int (nI (kt))])), (t0, .inl (cC, 120, .inl gT))] H1 := kJoinI hP hD [0, 1, 2, 3, 4] rfl hk1 hFc hP1 hD1 rfl [some 0, some 1, some 2, some 3, some 4] rfl rfl
  generalize H1 = H at hP hS ⊢
  have hw_4 := hw
  refine lv_istore_n hx hb dX4_readUnit_104 rfl hl (by decide) (kTo [(3, .int r_2), (0, .ref jR), (1, .int 0), (2, .int 1)]) (fun ls hl => ?_)
  refine lv_iload_n hx hb dX4_readUnit_105 rfl (lv_at hl 0 rfl) ?_
  have hPc := hP.sb (ws2 := []) [] rfl
  have hKc := hK.sb (tys2 := []) [] rfl
  refine vp_callSi (va_runS (As := [.int r_2]) (rest := []) ⟨hx, hb, hml, hown, hts⟩ (s_comp4 l dC dI r_2) (va_cwS 1 hts (kG (List.forall_mem_cons.mpr ⟨(List.mem_cons_of_mem _ (List.mem_append_left _ (List.mem_of_getElem? (i := 34) rfl))), (List.forall_mem_cons.mpr ⟨(List.mem_cons_of_mem _ (List.mem_append_left _ (List.mem_of_getElem? (i := 33) rfl))), (List.forall_mem_cons.mpr ⟨(List.mem_cons_of_mem _ (List.mem_append_left _ (List.mem_of_getElem? (i := 0) rfl))), (fun _ h => absurd h List.not_mem_nil)⟩)⟩)⟩) (kGS _ _ _) (fun _ h => List.mem_cons_of_mem _ (List.mem_append_right _ (List.mem_append_right _ (List.mem_append_right _ (List.mem_append_right _ (List.mem_append_right _ (List.mem_append_right _ (List.mem_append_right _ (List.mem_append_right _ (List.mem_append_left _ h)))))))))) gw_s_comp4) rfl rfl rfl hd_X4_isComparison ⟨(Nat.le_of_ble_eq_true rfl), (Nat.le_of_ble_eq_true rfl)⟩) (kR_S kT_blind kT_give hPc hKc) rfl rfl hl.1 rfl (lv_room (Nat.le_of_ble_eq_true rfl)) dX4_readUnit_106 ⟨(Nat.le_of_ble_eq_true rfl), (Nat.le_of_ble_eq_true rfl)⟩).run (fun r_5 hw => ?_)
  have hw_6 := hw
  refine lv_if_ne (tgt := 114) hx hb dX4_readUnit_109 (by decide) (fun c_7 => ?_) (fun c_7 => ?_)
  · refine lv_aload_n hx hb dX4_readUnit_114 rfl (lv_at hl 1 rfl) ?_
    refine lv_dup hx hb dX4_readUnit_115 rfl ?_
    refine va_get (D := (dC, dI)) (ci := 4) (v := .int Pl_3) (C := RX4) (T := TX4) (N := 8) hx hb hts (fun _ h => List.mem_cons_of_mem _ (List.mem_append_right _ (List.mem_append_right _ (List.mem_append_right _ (List.mem_append_left _ h))))) hown hK hP 0 rfl rfl 5 (by decide) (hts (.fieldLink RX4 25 "NotEnded$Reader" "place" "I") (List.mem_cons_of_mem _ (List.mem_append_left _ (List.mem_of_getElem? (i := 11) rfl)))) (fun _ h9 => h9) rfl dX4_readUnit_116 ?_
    refine lv_iconst (v := 1) hx hb dX4_readUnit_119 (by decide) ?_
    refine lv_iadd hx hb dX4_readUnit_120 ?_
    refine lv_topi (fun x_8 ex_8 => ?_)
    refine va_put (D := (dC, dI)) (ci := 4) (v := .int x_8) (ty := tyX4 5) (C := RX4) (T := TX4) (N := 8) hx hb hts (fun _ h => List.mem_cons_of_mem _ (List.mem_append_right _ (List.mem_append_right _ (List.mem_append_right _ (List.mem_append_left _ h))))) tyX4 tyX4_ok nmX4 hown hK hP hD hS 0 rfl rfl 5 (by decide) (hts (.fieldLink RX4 25 "NotEnded$Reader" "place" "I") (List.mem_cons_of_mem _ (List.mem_append_left _ (List.mem_of_getElem? (i := 11) rfl)))) (fun _ h9 => h9) rfl (tyX4_ok 5 (by decide)) rfl rfl (Nat.le_of_ble_eq_true rfl) dX4_readUnit_121 (fun H locs hP hD hS => ?_)
    obtain ⟨hP, hD⟩ : kPD dC dI A [(jR, .inr (4, [.ref jT, .ref r1, .ref r2, .int (nI (wr)), .int (nI (fi)), .int x_8, .ref q6, .ref q7])), (r1, .inl (c1, 120, .inl s1)), (r2, .inl (c2, 124, .inl s2)), (jT, .inr (8, [.ref t0, .int (nI (kt))])), (t0, .inl (cC, 120, .inl gT))] H := ⟨hP, hD⟩
    refine lv_aload_n hx hb dX4_readUnit_124 rfl (lv_at hl 1 rfl) ?_
    refine lv_iload_n hx hb dX4_readUnit_125 rfl (lv_at hl 2 rfl) ?_
    obtain ⟨hPc, hDc, hFc⟩ := kCut (wc := [(jR, .inr (4, [.ref jT, .ref r1, .ref r2, .int (nI (wr)), .int (nI (fi)), .int x_8, .ref q6, .ref q7])), (r1, .inl (c1, 120, .inl s1)), (r2, .inl (c2, 124, .inl s2)), (jT, .inr (8, [.ref t0, .int (nI (kt))])), (t0, .inl (cC, 120, .inl gT))]) hP hD hS hA [0, 1, 2, 3, 4] rfl (by decide) rfl
    have hKc := hK.sb (tys2 := [(c1, .int), (c2, .int), (cC, .char)]) [0, 1, 2] rfl
    refine va_calli (va_runV (As := [.int 0]) (rest := []) ⟨hx, hb, hml, hown, hts⟩ (s_sum4_0 l dC dI jT t0 cC gT kt (by omega) (by omega) jR r1 r2 c1 c2 s1 s2 wr fi x_8 q6 q7 (by omega) (by omega) b6 n6 g6 (by omega) b7 n7 g7 (by omega) H.size) (cwV 1 hts (kG (List.forall_mem_cons.mpr ⟨(List.mem_cons_of_mem _ (List.mem_append_left _ (List.mem_of_getElem? (i := 32) rfl))), (List.forall_mem_cons.mpr ⟨(List.mem_cons_of_mem _ (List.mem_append_left _ (List.mem_of_getElem? (i := 31) rfl))), (List.forall_mem_cons.mpr ⟨(List.mem_cons_of_mem _ (List.mem_append_left _ (List.mem_of_getElem? (i := 30) rfl))), (List.forall_mem_cons.mpr ⟨(List.mem_cons_of_mem _ (List.mem_append_left _ (List.mem_of_getElem? (i := 0) rfl))), (fun _ h => absurd h List.not_mem_nil)⟩)⟩)⟩)⟩) (kGV _ _ _ _) (kFam (List.mem_cons_of_mem _ (List.mem_append_left _ (List.mem_of_getElem? (i := 29) rfl)))) gw_s_sum4_0) rfl rfl rfl ⟨rfl, hd_X4_readSum⟩ ⟨(Nat.le_of_ble_eq_true rfl), (Nat.le_of_ble_eq_true rfl)⟩) (kW_V kS2_blind (kS2_give hX hS hFc) (va_recv hKc hPc (ci := 4) (q0 := 0) rfl rfl) hPc hKc hDc) rfl rfl hl.1 rfl (lv_room (Nat.le_of_ble_eq_true rfl)) dX4_readUnit_126 ⟨(Nat.le_of_ble_eq_true rfl), (Nat.le_of_ble_eq_true rfl)⟩) hS (fun q _ h => hFc q h) hFc (fun r_9 u t H1 locs ht hvm hw hB hz1 hk1 hS => ?_)
    obtain ⟨S1_10, S2_11, Pl_12, Wr_13, Fi_14⟩ := u
    obtain ⟨hP1, hK1, hD1⟩ := hB
    rw [ht] at hP1
    try dsimp only at hw
    obtain ⟨hP, hD⟩ : kPD dC dI A [(jR, .inr (4, [.ref jT, .ref r1, .ref r2, .int (nI (Wr_13)), .int (nI (Fi_14)), .int Pl_12, .ref q6, .ref q7])), (r1, .inl (c1, 120, .inl S1_10)), (r2, .inl (c2, 124, .inl S2_11)), (jT, .inr (8, [.ref t0, .int (nI (kt))])), (t0, .inl (cC, 120, .inl gT))] H1 := kJoinI hP hD [0, 1, 2, 3, 4] rfl hk1 hFc hP1 hD1 rfl [some 0, some 1, some 2, some 3, some 4] rfl rfl
    generalize H1 = H at hP hS ⊢
    have hw_15 := hw
    refine lv_if_eq (tgt := 148) hx hb dX4_readUnit_129 (by decide) (fun c_16 => ?_) (fun c_16 => ?_)
    · refine lv_iconst (v := 0) hx hb dX4_readUnit_148 (by decide) ?_
      have hP9 := hP
      have hD9 := hD
      have hK9 := hK
      rw [hQ]
      exact W.zret (v := 0) hx hb hr rfl (fun t ht hW => ⟨⟨0, (S1_10, S2_11, Pl_12, Wr_13, Fi_14), rfl, ⟨(Or.inl rfl), by omega, by omega⟩,  by rw [ht]; exact hP9, va_K.moved hW.alike hK9, hD9⟩, hS.F ht⟩) hS.2.2 dX4_readUnit_149
    · refine lv_aload_n hx hb dX4_readUnit_132 rfl (lv_at hl 1 rfl) ?_
      refine lv_sipush (v := 20000) hx hb dX4_readUnit_133 (by decide) ?_
      refine lv_iload_n hx hb dX4_readUnit_136 rfl (lv_at hl 0 rfl) ?_
      refine lv_iadd hx hb dX4_readUnit_137 ?_
      refine lv_topi (fun x_17 ex_17 => ?_)
      obtain ⟨hPc, hDc, hFc⟩ := kCut (wc := [(jR, .inr (4, [.ref jT, .ref r1, .ref r2, .int (nI (Wr_13)), .int (nI (Fi_14)), .int Pl_12, .ref q6, .ref q7])), (r1, .inl (c1, 120, .inl S1_10)), (r2, .inl (c2, 124, .inl S2_11)), (jT, .inr (8, [.ref t0, .int (nI (kt))])), (t0, .inl (cC, 120, .inl gT))]) hP hD hS hA [0, 1, 2, 3, 4] rfl (by decide) rfl
      have hKc := hK.sb (tys2 := [(c1, .int), (c2, .int), (cC, .char)]) [0, 1, 2] rfl
      refine va_calli (va_runV (As := [.int x_17]) (rest := []) ⟨hx, hb, hml, hown, hts⟩ (s_write4 l dC dI jT t0 cC gT kt (by omega) (by omega) jR r1 r2 c1 c2 S1_10 S2_11 Wr_13 Fi_14 Pl_12 q6 q7 (by omega) (by omega) x_17 H.size) (cwV 1 hts (kG (List.forall_mem_cons.mpr ⟨(List.mem_cons_of_mem _ (List.mem_append_left _ (List.mem_of_getElem? (i := 14) rfl))), (List.forall_mem_cons.mpr ⟨(List.mem_cons_of_mem _ (List.mem_append_left _ (List.mem_of_getElem? (i := 13) rfl))), (List.forall_mem_cons.mpr ⟨(List.mem_cons_of_mem _ (List.mem_append_left _ (List.mem_of_getElem? (i := 12) rfl))), (List.forall_mem_cons.mpr ⟨(List.mem_cons_of_mem _ (List.mem_append_left _ (List.mem_of_getElem? (i := 0) rfl))), (fun _ h => absurd h List.not_mem_nil)⟩)⟩)⟩)⟩) (kGV _ _ _ _) (fun _ h => List.mem_cons_of_mem _ (List.mem_append_right _ (List.mem_append_right _ (List.mem_append_right _ (List.mem_append_right _ (List.mem_append_right _ (List.mem_append_left _ h))))))) gw_s_write4) rfl rfl rfl ⟨rfl, hd_X4_write⟩ ⟨(Nat.le_of_ble_eq_true rfl), (Nat.le_of_ble_eq_true rfl)⟩) (kW_V kT_blind kT_give (va_recv hKc hPc (ci := 4) (q0 := 0) rfl rfl) hPc hKc hDc) rfl rfl hl.1 rfl (lv_room (Nat.le_of_ble_eq_true rfl)) dX4_readUnit_138 ⟨(Nat.le_of_ble_eq_true rfl), (Nat.le_of_ble_eq_true rfl)⟩) hS (fun q _ h => hFc q h) hFc (fun r_18 u t H1 locs ht hvm hw hB hz1 hk1 hS => ?_)
      obtain ⟨S1_19, S2_20, Pl_21, Wr_22, Fi_23⟩ := u
      obtain ⟨hP1, hK1, hD1⟩ := hB
      rw [ht] at hP1
      try dsimp only at hw
      obtain ⟨hP, hD⟩ : kPD dC dI A [(jR, .inr (4, [.ref jT, .ref r1, .ref r2, .int (nI (Wr_22)), .int (nI (Fi_23)), .int Pl_21, .ref q6, .ref q7])), (r1, .inl (c1, 120, .inl S1_19)), (r2, .inl (c2, 124, .inl S2_20)), (jT, .inr (8, [.ref t0, .int (nI (kt))])), (t0, .inl (cC, 120, .inl gT))] H1 := kJoinI hP hD [0, 1, 2, 3, 4] rfl hk1 hFc hP1 hD1 rfl [some 0, some 1, some 2, some 3, some 4] rfl rfl
      generalize H1 = H at hP hS ⊢
      have hw_24 := hw
      refine lv_if_eq (tgt := 148) hx hb dX4_readUnit_141 (by decide) (fun c_25 => ?_) (fun c_25 => ?_)
      · refine lv_iconst (v := 0) hx hb dX4_readUnit_148 (by decide) ?_
        have hP9 := hP
        have hD9 := hD
        have hK9 := hK
        rw [hQ]
        exact W.zret (v := 0) hx hb hr rfl (fun t ht hW => ⟨⟨0, (S1_19, S2_20, Pl_21, Wr_22, Fi_23), rfl, ⟨(Or.inl rfl), by omega, by omega⟩,  by rw [ht]; exact hP9, va_K.moved hW.alike hK9, hD9⟩, hS.F ht⟩) hS.2.2 dX4_readUnit_149
      · refine lv_iconst (v := 1) hx hb dX4_readUnit_144 (by decide) ?_
        refine lv_goto (tgt := 149) hx hb dX4_readUnit_145 (by decide) ?_
        have hP9 := hP
        have hD9 := hD
        have hK9 := hK
        rw [hQ]
        exact W.zret (v := 1) hx hb hr rfl (fun t ht hW => ⟨⟨1, (S1_19, S2_20, Pl_21, Wr_22, Fi_23), rfl, ⟨(Or.inr rfl), by omega, by omega⟩,  by rw [ht]; exact hP9, va_K.moved hW.alike hK9, hD9⟩, hS.F ht⟩) hS.2.2 dX4_readUnit_149
  · refine lv_iconst (v := 0) hx hb dX4_readUnit_112 (by decide) ?_
    have hP9 := hP
    have hD9 := hD
    have hK9 := hK
    rw [hQ]
    exact W.zret (v := 0) hx hb hr rfl (fun t ht hW => ⟨⟨0, (s1, s2, Pl_3, wr, fi), rfl, ⟨(Or.inl rfl), by omega, by omega⟩,  by rw [ht]; exact hP9, va_K.moved hW.alike hK9, hD9⟩, hS.F ht⟩) hS.2.2 dX4_readUnit_113

def w_s_truth4_0_0 : List Cond := .code yX4_readTruth cX4_readTruth 4 (some .boolean) :: wf_rd
theorem gw_s_truth4_0_0 : (w_s_truth4_0_0).all goodWord = true := kFamG rfl gf_rd
set_option maxHeartbeats 4000000 in
set_option maxRecDepth 100000 in
theorem s_truth4_0_0 (l : Launch) (dC : Nat → ClassId) (dI : Nat → Nat → Nat) (jT : Nat) (t0 : Nat) (cC : ClassId) (gT : Nat → Int32) (kt : Nat) (hkt : kt ≤ 120) (hgT : ∀ j : Nat, narrow .char (.int (gT j)) = .int (gT j)) (jR : Nat) (r1 : Nat) (r2 : Nat) (c1 : ClassId) (c2 : ClassId) (s1 : Nat → Int32) (s2 : Nat → Int32) (wr : Nat) (fi : Nat) (pl : Int32) (q6 : Nat) (q7 : Nat) (hwr : wr ≤ 120) (hfi : fi ≤ 124) (b6 : Nat) (n6 : Nat) (g6 : Nat → Int32) (hn6 : n6 ≤ 8) (b7 : Nat) (n7 : Nat) (g7 : Nat → Int32) (hn7 : n7 ≤ 8) (sz : Nat) : Met l yX4_readTruth w_s_truth4_0_0 ({ frames := 46, cells := 0, slots := 0, locals := 2760 }) (kW dC dI [.ref jR, .int 0, .int 0] [(jR, .inr (4, [.ref jT, .ref r1, .ref r2, .int (nI (wr)), .int (nI (fi)), .int pl, .ref q6, .ref q7])), (r1, .inl (c1, 120, .inl s1)), (r2, .inl (c2, 124, .inl s2)), (jT, .inr (8, [.ref t0, .int (nI (kt))])), (t0, .inl (cC, 120, .inl gT))] [(c1, .int), (c2, .int), (cC, .char)] (kS2 q6 b6 n6 g6 q7 b7 n7 g7 (va_A [(jR, .inr (4, [.ref jT, .ref r1, .ref r2, .int (nI (wr)), .int (nI (fi)), .int pl, .ref q6, .ref q7])), (r1, .inl (c1, 120, .inl s1)), (r2, .inl (c2, 124, .inl s2)), (jT, .inr (8, [.ref t0, .int (nI (kt))])), (t0, .inl (cC, 120, .inl gT))] sz)) sz) (va_Qi (fun (r : Int32) (u : (Nat → Int32) × (Nat → Int32) × Int32 × Nat × Nat) => match u with | (S1, S2, Pl, Wr, Fi) => ((r = 0 ∨ r = 1) ∧ Wr ≤ 120 ∧ Fi ≤ 124)) (fun (u : (Nat → Int32) × (Nat → Int32) × Int32 × Nat × Nat) => match u with | (S1, S2, Pl, Wr, Fi) => fun t : State => kB dC dI [(jR, .inr (4, [.ref jT, .ref r1, .ref r2, .int (nI (Wr)), .int (nI (Fi)), .int Pl, .ref q6, .ref q7])), (r1, .inl (c1, 120, .inl S1)), (r2, .inl (c2, 124, .inl S2)), (jT, .inr (8, [.ref t0, .int (nI (kt))])), (t0, .inl (cC, 120, .inl gT))] [(c1, .int), (c2, .int), (cC, .char)] (va_A [(jR, .inr (4, [.ref jT, .ref r1, .ref r2, .int (nI (wr)), .int (nI (fi)), .int pl, .ref q6, .ref q7])), (r1, .inl (c1, 120, .inl s1)), (r2, .inl (c2, 124, .inl s2)), (jT, .inr (8, [.ref t0, .int (nI (kt))])), (t0, .inl (cC, 120, .inl gT))] sz) t) (va_A [(jR, .inr (4, [.ref jT, .ref r1, .ref r2, .int (nI (wr)), .int (nI (fi)), .int pl, .ref q6, .ref q7])), (r1, .inl (c1, 120, .inl s1)), (r2, .inl (c2, 124, .inl s2)), (jT, .inr (8, [.ref t0, .int (nI (kt))])), (t0, .inl (cC, 120, .inl gT))] sz)) 0 0 (va_A [(jR, .inr (4, [.ref jT, .ref r1, .ref r2, .int (nI (wr)), .int (nI (fi)), .int pl, .ref q6, .ref q7])), (r1, .inl (c1, 120, .inl s1)), (r2, .inl (c2, 124, .inl s2)), (jT, .inr (8, [.ref t0, .int (nI (kt))])), (t0, .inl (cC, 120, .inl gT))] sz) := by
  refine Met.ofW (cc := cX4_readTruth) (maxL := 4) (ret := (some .boolean)) (by decide) rfl ?_
  intro p e s m args below meth c s₁ B hml hv
  obtain ⟨rfl, hsz, hP, hK, hD0, hX⟩ := hv
  have hx := B.exec
  have hb := B.bytes
  have hr := B.returns
  have hts := atoms_spec (ws := w_s_truth4_0_0) B.pre
  have hown : s.vm.findClass RX4 = some m.cls := findClass_of_methodNamed B.named
  have hlocks := B.notSynchronized
  subst hsz
  have hD := hD0.self (sz := s.heap.size)
  generalize hAe : va_A [(jR, .inr (4, [.ref jT, .ref r1, .ref r2, .int (nI (wr)), .int (nI (fi)), .int pl, .ref q6, .ref q7])), (r1, .inl (c1, 120, .inl s1)), (r2, .inl (c2, 124, .inl s2)), (jT, .inr (8, [.ref t0, .int (nI (kt))])), (t0, .inl (cC, 120, .inl gT))] s.heap.size = A at hD hX ⊢
  have hA : ∀ q : Nat, s.heap.size ≤ q → A q := fun q h => by rw [← hAe]; exact Or.inr h
  have hS : va_S A s.heap s.heap [] := va_S.rf
  have hP : va_P (dC, dI) vwCl [(jR, .inr (4, [.ref jT, .ref r1, .ref r2, .int (nI (wr)), .int (nI (fi)), .int pl, .ref q6, .ref q7])), (r1, .inl (c1, 120, .inl s1)), (r2, .inl (c2, 124, .inl s2)), (jT, .inr (8, [.ref t0, .int (nI (kt))])), (t0, .inl (cC, 120, .inl gT))] s.heap := hP
  have hl := lv_entry ([.ref jR, .int 0, .int 0]) (n := 4) (Nat.le_of_ble_eq_true rfl)
  rw [lg_entry_eq]
  generalize (lg_sl ([.ref jR, .int 0, .int 0]) ++ List.replicate (4 - (lg_sl ([.ref jR, .int 0, .int 0])).length) Slot.unset).toArray = ls at hl ⊢
  have hl : lv_has ls 4 [(0, .ref jR), (1, .int 0), (2, .int 0)] := hl
  refine kQ (fun Q hQ => ?_)
  refine lv_aload_n hx hb dX4_readTruth_0 rfl (lv_at hl 0 rfl) ?_
  refine lv_iload_n hx hb dX4_readTruth_1 rfl (lv_at hl 1 rfl) ?_
  refine lv_iload_n hx hb dX4_readTruth_2 rfl (lv_at hl 2 rfl) ?_
  obtain ⟨hPc, hDc, hFc⟩ := kCut (wc := [(jR, .inr (4, [.ref jT, .ref r1, .ref r2, .int (nI (wr)), .int (nI (fi)), .int pl, .ref q6, .ref q7])), (r1, .inl (c1, 120, .inl s1)), (r2, .inl (c2, 124, .inl s2)), (jT, .inr (8, [.ref t0, .int (nI (kt))])), (t0, .inl (cC, 120, .inl gT))]) hP hD hS hA [0, 1, 2, 3, 4] rfl (by decide) rfl
  have hKc := hK.sb (tys2 := [(c1, .int), (c2, .int), (cC, .char)]) [0, 1, 2] rfl
  refine va_calli (va_runV (As := [.int 0, .int 0]) (rest := []) ⟨hx, hb, hml, hown, hts⟩ (s_unit4_0_0 l dC dI jT t0 cC gT kt (by omega) (by omega) jR r1 r2 c1 c2 s1 s2 wr fi pl q6 q7 (by omega) (by omega) b6 n6 g6 (by omega) b7 n7 g7 (by omega) s.heap.size) (cwV 2 hts (kG (List.forall_mem_cons.mpr ⟨(List.mem_cons_of_mem _ (List.mem_append_left _ (List.mem_of_getElem? (i := 38) rfl))), (List.forall_mem_cons.mpr ⟨(List.mem_cons_of_mem _ (List.mem_append_left _ (List.mem_of_getElem? (i := 37) rfl))), (List.forall_mem_cons.mpr ⟨(List.mem_cons_of_mem _ (List.mem_append_left _ (List.mem_of_getElem? (i := 36) rfl))), (List.forall_mem_cons.mpr ⟨(List.mem_cons_of_mem _ (List.mem_append_left _ (List.mem_of_getElem? (i := 0) rfl))), (fun _ h => absurd h List.not_mem_nil)⟩)⟩)⟩)⟩) (kGV _ _ _ _) (kFam (List.mem_cons_of_mem _ (List.mem_append_left _ (List.mem_of_getElem? (i := 35) rfl)))) gw_s_unit4_0_0) rfl rfl rfl ⟨rfl, hd_X4_readUnit⟩ ⟨(Nat.le_of_ble_eq_true rfl), (Nat.le_of_ble_eq_true rfl)⟩) (kW_V kS2_blind (kS2_give hX hS hFc) (va_recv hKc hPc (ci := 4) (q0 := 0) rfl rfl) hPc hKc hDc) rfl rfl hl.1 rfl (lv_room (Nat.le_of_ble_eq_true rfl)) dX4_readTruth_3 ⟨(Nat.le_of_ble_eq_true rfl), (Nat.le_of_ble_eq_true rfl)⟩) hS (fun q _ h => hFc q h) hFc (fun r_1 u t H1 locs ht hvm hw hB hz1 hk1 hS => ?_)
  obtain ⟨S1_2, S2_3, Pl_4, Wr_5, Fi_6⟩ := u
  obtain ⟨hP1, hK1, hD1⟩ := hB
  rw [ht] at hP1
  try dsimp only at hw
  obtain ⟨hP, hD⟩ : kPD dC dI A [(jR, .inr (4, [.ref jT, .ref r1, .ref r2, .int (nI (Wr_5)), .int (nI (Fi_6)), .int Pl_4, .ref q6, .ref q7])), (r1, .inl (c1, 120, .inl S1_2)), (r2, .inl (c2, 124, .inl S2_3)), (jT, .inr (8, [.ref t0, .int (nI (kt))])), (t0, .inl (cC, 120, .inl gT))] H1 := kJoinI hP hD [0, 1, 2, 3, 4] rfl hk1 hFc hP1 hD1 rfl [some 0, some 1, some 2, some 3, some 4] rfl rfl
  generalize H1 = H at hP hS ⊢
  have hw_7 := hw
  refine lv_if_ne (tgt := 11) hx hb dX4_readTruth_6 (by decide) (fun c_8 => ?_) (fun c_8 => ?_)
  · refine lv_iconst (v := 0) hx hb dX4_readTruth_11 (by decide) ?_
    refine lv_istore_n hx hb dX4_readTruth_12 rfl hl (by decide) (kTo [(3, .int 0), (0, .ref jR), (1, .int 0), (2, .int 0)]) (fun ls hl => ?_)
    have lp_k_9 : ∀ (n9 : Nat) (i : Nat) (xs1 : Nat → Int32) (xs2 : Nat → Int32) (xpl : Int32) (xwr : Nat) (xfi : Nat) (ivk_9_0 : i ≤ 120) (ivk_9_1 : xwr ≤ 120) (ivk_9_2 : xfi ≤ 124) (H : Heap) (locs : List Loc) (_ : va_P (dC, dI) vwCl [(jR, .inr (4, [.ref jT, .ref r1, .ref r2, .int (nI (xwr)), .int (nI (xfi)), .int xpl, .ref q6, .ref q7])), (r1, .inl (c1, 120, .inl xs1)), (r2, .inl (c2, 124, .inl xs2)), (jT, .inr (8, [.ref t0, .int (nI (kt))])), (t0, .inl (cC, 120, .inl gT))] H) (_ : va_D A [(jR, .inr (4, [.ref jT, .ref r1, .ref r2, .int (nI (xwr)), .int (nI (xfi)), .int xpl, .ref q6, .ref q7])), (r1, .inl (c1, 120, .inl xs1)), (r2, .inl (c2, 124, .inl xs2)), (jT, .inr (8, [.ref t0, .int (nI (kt))])), (t0, .inl (cC, 120, .inl gT))]) (_ : va_S A s.heap H locs) (ls : Array Slot) (_ : lv_has ls 4 [(3, .int (nI (i))), (0, .ref jR), (1, .int 0), (2, .int 0)]) (_ : 120 - i < n9), W p l e (headSpec w_s_truth4_0_0 ({ frames := 46, cells := 0, slots := 0, locals := 2760 })).room s m (#[.ref jR, .int 0, .int 0] : Array Value) below meth c H locs 0 0 Q (F0 m 13 ls []) := by
      intro n9
      induction n9 with
      | zero => intro i xs1 xs2 xpl xwr xfi ivk_9_0 ivk_9_1 ivk_9_2 H locs hP hD hS ls hl hm9; exact absurd hm9 (Nat.not_lt_zero _)
      | succ n9 ih_k_9 =>
        intro i xs1 xs2 xpl xwr xfi ivk_9_0 ivk_9_1 ivk_9_2 H locs hP hD hS ls hl hm9
        refine lv_iload_n hx hb dX4_readTruth_13 rfl (lv_at hl 0 rfl) ?_
        refine lv_bipush (v := 120) hx hb dX4_readTruth_14 (by decide) ?_
        refine lv_icmp_ge (tgt := 65) hx hb dX4_readTruth_16 (by decide) (fun c_10 => ?_) (fun c_10 => ?_)
        · have hn_11 := kle (a := 120) (b := i) (by omega) (by omega) c_10
          refine lv_iconst (v := 1) hx hb dX4_readTruth_65 (by decide) ?_
          have hP9 := hP
          have hD9 := hD
          have hK9 := hK
          rw [hQ]
          exact W.zret (v := 1) hx hb hr rfl (fun t ht hW => ⟨⟨1, (xs1, xs2, xpl, xwr, xfi), rfl, ⟨(Or.inr rfl), by omega, by omega⟩,  by rw [ht]; exact hP9, va_K.moved hW.alike hK9, hD9⟩, hS.F ht⟩) hS.2.2 dX4_readTruth_66
        · have hn_12 := knle (a := 120) (b := i) (by omega) (by omega) c_10
          refine lv_aload_n hx hb dX4_readTruth_19 rfl (lv_at hl 1 rfl) ?_
          obtain ⟨hPc, hDc, hFc⟩ := kCut (wc := [(jR, .inr (4, [.ref jT, .ref r1, .ref r2, .int (nI (xwr)), .int (nI (xfi)), .int xpl, .ref q6, .ref q7])), (r1, .inl (c1, 120, .inl xs1)), (r2, .inl (c2, 124, .inl xs2)), (jT, .inr (8, [.ref t0, .int (nI (kt))])), (t0, .inl (cC, 120, .inl gT))]) hP hD hS hA [0, 1, 2, 3, 4] rfl (by decide) rfl
          have hKc := hK.sb (tys2 := [(c1, .int), (c2, .int), (cC, .char)]) [0, 1, 2] rfl
          refine va_calli (va_runV (As := []) (rest := []) ⟨hx, hb, hml, hown, hts⟩ (s_look4 l dC dI jT t0 cC gT kt (by omega) (by omega) jR r1 r2 c1 c2 xs1 xs2 xwr xfi xpl q6 q7 (by omega) (by omega) H.size) (cwV 0 hts (kG (List.forall_mem_cons.mpr ⟨(List.mem_cons_of_mem _ (List.mem_append_left _ (List.mem_of_getElem? (i := 3) rfl))), (List.forall_mem_cons.mpr ⟨(List.mem_cons_of_mem _ (List.mem_append_left _ (List.mem_of_getElem? (i := 2) rfl))), (List.forall_mem_cons.mpr ⟨(List.mem_cons_of_mem _ (List.mem_append_left _ (List.mem_of_getElem? (i := 1) rfl))), (List.forall_mem_cons.mpr ⟨(List.mem_cons_of_mem _ (List.mem_append_left _ (List.mem_of_getElem? (i := 0) rfl))), (fun _ h => absurd h List.not_mem_nil)⟩)⟩)⟩)⟩) (kGV _ _ _ _) (fun _ h => List.mem_cons_of_mem _ (List.mem_append_right _ (List.mem_append_left _ h))) gw_s_look4) rfl rfl rfl ⟨rfl, hd_X4_look⟩ ⟨(Nat.le_of_ble_eq_true rfl), (Nat.le_of_ble_eq_true rfl)⟩) (kW_V kT_blind kT_give (va_recv hKc hPc (ci := 4) (q0 := 0) rfl rfl) hPc hKc hDc) rfl rfl hl.1 rfl (lv_room (Nat.le_of_ble_eq_true rfl)) dX4_readTruth_20 ⟨(Nat.le_of_ble_eq_true rfl), (Nat.le_of_ble_eq_true rfl)⟩) hS (fun q _ h => hFc q h) hFc (fun r_13 u t H1 locs ht hvm hw hB hz1 hk1 hS => ?_)
          obtain ⟨Pl_14, rfl⟩ : ∃ z, z = u := ⟨_, rfl⟩
          obtain ⟨hP1, hK1, hD1⟩ := hB
          rw [ht] at hP1
          try dsimp only at hw
          obtain ⟨hP, hD⟩ : kPD dC dI A [(jR, .inr (4, [.ref jT, .ref r1, .ref r2, .int (nI (xwr)), .int (nI (xfi)), .int Pl_14, .ref q6, .ref q7])), (r1, .inl (c1, 120, .inl xs1)), (r2, .inl (c2, 124, .inl xs2)), (jT, .inr (8, [.ref t0, .int (nI (kt))])), (t0, .inl (cC, 120, .inl gT))] H1 := kJoinI hP hD [0, 1, 2, 3, 4] rfl hk1 hFc hP1 hD1 rfl [some 0, some 1, some 2, some 3, some 4] rfl rfl
          generalize H1 = H at hP hS ⊢
          have hw_15 := hw
          refine lv_bipush (v := 38) hx hb dX4_readTruth_23 (by decide) ?_
          refine lv_icmp_ne (tgt := 65) hx hb dX4_readTruth_25 (by decide) (fun c_16 => ?_) (fun c_16 => ?_)
          · refine lv_iconst (v := 1) hx hb dX4_readTruth_65 (by decide) ?_
            have hP9 := hP
            have hD9 := hD
            have hK9 := hK
            rw [hQ]
            exact W.zret (v := 1) hx hb hr rfl (fun t ht hW => ⟨⟨1, (xs1, xs2, Pl_14, xwr, xfi), rfl, ⟨(Or.inr rfl), by omega, by omega⟩,  by rw [ht]; exact hP9, va_K.moved hW.alike hK9, hD9⟩, hS.F ht⟩) hS.2.2 dX4_readTruth_66
          · refine lv_aload_n hx hb dX4_readTruth_28 rfl (lv_at hl 1 rfl) ?_
            refine lv_dup hx hb dX4_readTruth_29 rfl ?_
            refine va_get (D := (dC, dI)) (ci := 4) (v := .int Pl_14) (C := RX4) (T := TX4) (N := 8) hx hb hts (fun _ h => List.mem_cons_of_mem _ (List.mem_append_right _ (List.mem_append_right _ (List.mem_append_right _ (List.mem_append_left _ h))))) hown hK hP 0 rfl rfl 5 (by decide) (hts (.fieldLink RX4 25 "NotEnded$Reader" "place" "I") (List.mem_cons_of_mem _ (List.mem_append_left _ (List.mem_of_getElem? (i := 11) rfl)))) (fun _ h9 => h9) rfl dX4_readTruth_30 ?_
            refine lv_iconst (v := 1) hx hb dX4_readTruth_33 (by decide) ?_
            refine lv_iadd hx hb dX4_readTruth_34 ?_
            refine lv_topi (fun x_17 ex_17 => ?_)
            refine va_put (D := (dC, dI)) (ci := 4) (v := .int x_17) (ty := tyX4 5) (C := RX4) (T := TX4) (N := 8) hx hb hts (fun _ h => List.mem_cons_of_mem _ (List.mem_append_right _ (List.mem_append_right _ (List.mem_append_right _ (List.mem_append_left _ h))))) tyX4 tyX4_ok nmX4 hown hK hP hD hS 0 rfl rfl 5 (by decide) (hts (.fieldLink RX4 25 "NotEnded$Reader" "place" "I") (List.mem_cons_of_mem _ (List.mem_append_left _ (List.mem_of_getElem? (i := 11) rfl)))) (fun _ h9 => h9) rfl (tyX4_ok 5 (by decide)) rfl rfl (Nat.le_of_ble_eq_true rfl) dX4_readTruth_35 (fun H locs hP hD hS => ?_)
            obtain ⟨hP, hD⟩ : kPD dC dI A [(jR, .inr (4, [.ref jT, .ref r1, .ref r2, .int (nI (xwr)), .int (nI (xfi)), .int x_17, .ref q6, .ref q7])), (r1, .inl (c1, 120, .inl xs1)), (r2, .inl (c2, 124, .inl xs2)), (jT, .inr (8, [.ref t0, .int (nI (kt))])), (t0, .inl (cC, 120, .inl gT))] H := ⟨hP, hD⟩
            refine lv_aload_n hx hb dX4_readTruth_38 rfl (lv_at hl 1 rfl) ?_
            refine lv_iload_n hx hb dX4_readTruth_39 rfl (lv_at hl 2 rfl) ?_
            refine lv_iconst (v := 0) hx hb dX4_readTruth_40 (by decide) ?_
            obtain ⟨hPc, hDc, hFc⟩ := kCut (wc := [(jR, .inr (4, [.ref jT, .ref r1, .ref r2, .int (nI (xwr)), .int (nI (xfi)), .int x_17, .ref q6, .ref q7])), (r1, .inl (c1, 120, .inl xs1)), (r2, .inl (c2, 124, .inl xs2)), (jT, .inr (8, [.ref t0, .int (nI (kt))])), (t0, .inl (cC, 120, .inl gT))]) hP hD hS hA [0, 1, 2, 3, 4] rfl (by decide) rfl
            have hKc := hK.sb (tys2 := [(c1, .int), (c2, .int), (cC, .char)]) [0, 1, 2] rfl
            refine va_calli (va_runV (As := [.int 0, .int 0]) (rest := []) ⟨hx, hb, hml, hown, hts⟩ (s_unit4_0_0 l dC dI jT t0 cC gT kt (by omega) (by omega) jR r1 r2 c1 c2 xs1 xs2 xwr xfi x_17 q6 q7 (by omega) (by omega) b6 n6 g6 (by omega) b7 n7 g7 (by omega) H.size) (cwV 2 hts (kG (List.forall_mem_cons.mpr ⟨(List.mem_cons_of_mem _ (List.mem_append_left _ (List.mem_of_getElem? (i := 38) rfl))), (List.forall_mem_cons.mpr ⟨(List.mem_cons_of_mem _ (List.mem_append_left _ (List.mem_of_getElem? (i := 37) rfl))), (List.forall_mem_cons.mpr ⟨(List.mem_cons_of_mem _ (List.mem_append_left _ (List.mem_of_getElem? (i := 36) rfl))), (List.forall_mem_cons.mpr ⟨(List.mem_cons_of_mem _ (List.mem_append_left _ (List.mem_of_getElem? (i := 0) rfl))), (fun _ h => absurd h List.not_mem_nil)⟩)⟩)⟩)⟩) (kGV _ _ _ _) (kFam (List.mem_cons_of_mem _ (List.mem_append_left _ (List.mem_of_getElem? (i := 35) rfl)))) gw_s_unit4_0_0) rfl rfl rfl ⟨rfl, hd_X4_readUnit⟩ ⟨(Nat.le_of_ble_eq_true rfl), (Nat.le_of_ble_eq_true rfl)⟩) (kW_V kS2_blind (kS2_give hX hS hFc) (va_recv hKc hPc (ci := 4) (q0 := 0) rfl rfl) hPc hKc hDc) rfl rfl hl.1 rfl (lv_room (Nat.le_of_ble_eq_true rfl)) dX4_readTruth_41 ⟨(Nat.le_of_ble_eq_true rfl), (Nat.le_of_ble_eq_true rfl)⟩) hS (fun q _ h => hFc q h) hFc (fun r_18 u t H1 locs ht hvm hw hB hz1 hk1 hS => ?_)
            obtain ⟨S1_19, S2_20, Pl_21, Wr_22, Fi_23⟩ := u
            obtain ⟨hP1, hK1, hD1⟩ := hB
            rw [ht] at hP1
            try dsimp only at hw
            obtain ⟨hP, hD⟩ : kPD dC dI A [(jR, .inr (4, [.ref jT, .ref r1, .ref r2, .int (nI (Wr_22)), .int (nI (Fi_23)), .int Pl_21, .ref q6, .ref q7])), (r1, .inl (c1, 120, .inl S1_19)), (r2, .inl (c2, 124, .inl S2_20)), (jT, .inr (8, [.ref t0, .int (nI (kt))])), (t0, .inl (cC, 120, .inl gT))] H1 := kJoinI hP hD [0, 1, 2, 3, 4] rfl hk1 hFc hP1 hD1 rfl [some 0, some 1, some 2, some 3, some 4] rfl rfl
            generalize H1 = H at hP hS ⊢
            have hw_24 := hw
            refine lv_if_eq (tgt := 57) hx hb dX4_readTruth_44 (by decide) (fun c_25 => ?_) (fun c_25 => ?_)
            · refine lv_iconst (v := 0) hx hb dX4_readTruth_57 (by decide) ?_
              have hP9 := hP
              have hD9 := hD
              have hK9 := hK
              rw [hQ]
              exact W.zret (v := 0) hx hb hr rfl (fun t ht hW => ⟨⟨0, (S1_19, S2_20, Pl_21, Wr_22, Fi_23), rfl, ⟨(Or.inl rfl), by omega, by omega⟩,  by rw [ht]; exact hP9, va_K.moved hW.alike hK9, hD9⟩, hS.F ht⟩) hS.2.2 dX4_readTruth_58
            · refine lv_aload_n hx hb dX4_readTruth_47 rfl (lv_at hl 1 rfl) ?_
              refine lv_sipush (v := 20038) hx hb dX4_readTruth_48 (by decide) ?_
              obtain ⟨hPc, hDc, hFc⟩ := kCut (wc := [(jR, .inr (4, [.ref jT, .ref r1, .ref r2, .int (nI (Wr_22)), .int (nI (Fi_23)), .int Pl_21, .ref q6, .ref q7])), (r1, .inl (c1, 120, .inl S1_19)), (r2, .inl (c2, 124, .inl S2_20)), (jT, .inr (8, [.ref t0, .int (nI (kt))])), (t0, .inl (cC, 120, .inl gT))]) hP hD hS hA [0, 1, 2, 3, 4] rfl (by decide) rfl
              have hKc := hK.sb (tys2 := [(c1, .int), (c2, .int), (cC, .char)]) [0, 1, 2] rfl
              refine va_calli (va_runV (As := [.int 20038]) (rest := []) ⟨hx, hb, hml, hown, hts⟩ (s_write4 l dC dI jT t0 cC gT kt (by omega) (by omega) jR r1 r2 c1 c2 S1_19 S2_20 Wr_22 Fi_23 Pl_21 q6 q7 (by omega) (by omega) 20038 H.size) (cwV 1 hts (kG (List.forall_mem_cons.mpr ⟨(List.mem_cons_of_mem _ (List.mem_append_left _ (List.mem_of_getElem? (i := 14) rfl))), (List.forall_mem_cons.mpr ⟨(List.mem_cons_of_mem _ (List.mem_append_left _ (List.mem_of_getElem? (i := 13) rfl))), (List.forall_mem_cons.mpr ⟨(List.mem_cons_of_mem _ (List.mem_append_left _ (List.mem_of_getElem? (i := 12) rfl))), (List.forall_mem_cons.mpr ⟨(List.mem_cons_of_mem _ (List.mem_append_left _ (List.mem_of_getElem? (i := 0) rfl))), (fun _ h => absurd h List.not_mem_nil)⟩)⟩)⟩)⟩) (kGV _ _ _ _) (fun _ h => List.mem_cons_of_mem _ (List.mem_append_right _ (List.mem_append_right _ (List.mem_append_right _ (List.mem_append_right _ (List.mem_append_right _ (List.mem_append_left _ h))))))) gw_s_write4) rfl rfl rfl ⟨rfl, hd_X4_write⟩ ⟨(Nat.le_of_ble_eq_true rfl), (Nat.le_of_ble_eq_true rfl)⟩) (kW_V kT_blind kT_give (va_recv hKc hPc (ci := 4) (q0 := 0) rfl rfl) hPc hKc hDc) rfl rfl hl.1 rfl (lv_room (Nat.le_of_ble_eq_true rfl)) dX4_readTruth_51 ⟨(Nat.le_of_ble_eq_true rfl), (Nat.le_of_ble_eq_true rfl)⟩) hS (fun q _ h => hFc q h) hFc (fun r_26 u t H1 locs ht hvm hw hB hz1 hk1 hS => ?_)
              obtain ⟨S1_27, S2_28, Pl_29, Wr_30, Fi_31⟩ := u
              obtain ⟨hP1, hK1, hD1⟩ := hB
              rw [ht] at hP1
              try dsimp only at hw
              obtain ⟨hP, hD⟩ : kPD dC dI A [(jR, .inr (4, [.ref jT, .ref r1, .ref r2, .int (nI (Wr_30)), .int (nI (Fi_31)), .int Pl_29, .ref q6, .ref q7])), (r1, .inl (c1, 120, .inl S1_27)), (r2, .inl (c2, 124, .inl S2_28)), (jT, .inr (8, [.ref t0, .int (nI (kt))])), (t0, .inl (cC, 120, .inl gT))] H1 := kJoinI hP hD [0, 1, 2, 3, 4] rfl hk1 hFc hP1 hD1 rfl [some 0, some 1, some 2, some 3, some 4] rfl rfl
              generalize H1 = H at hP hS ⊢
              have hw_32 := hw
              refine lv_if_ne (tgt := 59) hx hb dX4_readTruth_54 (by decide) (fun c_33 => ?_) (fun c_33 => ?_)
              · refine lv_iinc (v := nI (i + 1)) hx hb dX4_readTruth_59 hl (k := 0) rfl (kInc _ 1) (by decide) (kTo [(3, .int (nI (i + 1))), (0, .ref jR), (1, .int 0), (2, .int 0)]) (fun ls hl => ?_)
                refine lv_goto (tgt := 13) hx hb dX4_readTruth_62 (by decide) ?_
                exact ih_k_9 (i + 1) S1_27 S2_28 Pl_29 Wr_30 Fi_31 (by omega) (by omega) (by omega) _ _ hP hD hS ls (lv_sub hl [0, 1, 2, 3] rfl) (by omega)
              · refine lv_iconst (v := 0) hx hb dX4_readTruth_57 (by decide) ?_
                have hP9 := hP
                have hD9 := hD
                have hK9 := hK
                rw [hQ]
                exact W.zret (v := 0) hx hb hr rfl (fun t ht hW => ⟨⟨0, (S1_27, S2_28, Pl_29, Wr_30, Fi_31), rfl, ⟨(Or.inl rfl), by omega, by omega⟩,  by rw [ht]; exact hP9, va_K.moved hW.alike hK9, hD9⟩, hS.F ht⟩) hS.2.2 dX4_readTruth_58
    exact lp_k_9 (120 - 0 + 1) 0 S1_2 S2_3 Pl_4 Wr_5 Fi_6 (by omega) (by omega) (by omega) _ _ hP hD hS ls (lv_sub hl [0, 1, 2, 3] rfl) (by omega)
  · refine lv_iconst (v := 0) hx hb dX4_readTruth_9 (by decide) ?_
    have hP9 := hP
    have hD9 := hD
    have hK9 := hK
    rw [hQ]
    exact W.zret (v := 0) hx hb hr rfl (fun t ht hW => ⟨⟨0, (S1_2, S2_3, Pl_4, Wr_5, Fi_6), rfl, ⟨(Or.inl rfl), by omega, by omega⟩,  by rw [ht]; exact hP9, va_K.moved hW.alike hK9, hD9⟩, hS.F ht⟩) hS.2.2 dX4_readTruth_10

def w_s_truth4_0_1 : List Cond := .code yX4_readTruth cX4_readTruth 4 (some .boolean) :: wf_rd
theorem gw_s_truth4_0_1 : (w_s_truth4_0_1).all goodWord = true := kFamG rfl gf_rd
set_option maxHeartbeats 4000000 in
set_option maxRecDepth 100000 in
theorem s_truth4_0_1 (l : Launch) (dC : Nat → ClassId) (dI : Nat → Nat → Nat) (jT : Nat) (t0 : Nat) (cC : ClassId) (gT : Nat → Int32) (kt : Nat) (hkt : kt ≤ 120) (hgT : ∀ j : Nat, narrow .char (.int (gT j)) = .int (gT j)) (jR : Nat) (r1 : Nat) (r2 : Nat) (c1 : ClassId) (c2 : ClassId) (s1 : Nat → Int32) (s2 : Nat → Int32) (wr : Nat) (fi : Nat) (pl : Int32) (q6 : Nat) (q7 : Nat) (hwr : wr ≤ 120) (hfi : fi ≤ 124) (b6 : Nat) (n6 : Nat) (g6 : Nat → Int32) (hn6 : n6 ≤ 8) (b7 : Nat) (n7 : Nat) (g7 : Nat → Int32) (hn7 : n7 ≤ 8) (sz : Nat) : Met l yX4_readTruth w_s_truth4_0_1 ({ frames := 46, cells := 0, slots := 0, locals := 2760 }) (kW dC dI [.ref jR, .int 0, .int 1] [(jR, .inr (4, [.ref jT, .ref r1, .ref r2, .int (nI (wr)), .int (nI (fi)), .int pl, .ref q6, .ref q7])), (r1, .inl (c1, 120, .inl s1)), (r2, .inl (c2, 124, .inl s2)), (jT, .inr (8, [.ref t0, .int (nI (kt))])), (t0, .inl (cC, 120, .inl gT))] [(c1, .int), (c2, .int), (cC, .char)] (kS2 q6 b6 n6 g6 q7 b7 n7 g7 (va_A [(jR, .inr (4, [.ref jT, .ref r1, .ref r2, .int (nI (wr)), .int (nI (fi)), .int pl, .ref q6, .ref q7])), (r1, .inl (c1, 120, .inl s1)), (r2, .inl (c2, 124, .inl s2)), (jT, .inr (8, [.ref t0, .int (nI (kt))])), (t0, .inl (cC, 120, .inl gT))] sz)) sz) (va_Qi (fun (r : Int32) (u : (Nat → Int32) × (Nat → Int32) × Int32 × Nat × Nat) => match u with | (S1, S2, Pl, Wr, Fi) => ((r = 0 ∨ r = 1) ∧ Wr ≤ 120 ∧ Fi ≤ 124)) (fun (u : (Nat → Int32) × (Nat → Int32) × Int32 × Nat × Nat) => match u with | (S1, S2, Pl, Wr, Fi) => fun t : State => kB dC dI [(jR, .inr (4, [.ref jT, .ref r1, .ref r2, .int (nI (Wr)), .int (nI (Fi)), .int Pl, .ref q6, .ref q7])), (r1, .inl (c1, 120, .inl S1)), (r2, .inl (c2, 124, .inl S2)), (jT, .inr (8, [.ref t0, .int (nI (kt))])), (t0, .inl (cC, 120, .inl gT))] [(c1, .int), (c2, .int), (cC, .char)] (va_A [(jR, .inr (4, [.ref jT, .ref r1, .ref r2, .int (nI (wr)), .int (nI (fi)), .int pl, .ref q6, .ref q7])), (r1, .inl (c1, 120, .inl s1)), (r2, .inl (c2, 124, .inl s2)), (jT, .inr (8, [.ref t0, .int (nI (kt))])), (t0, .inl (cC, 120, .inl gT))] sz) t) (va_A [(jR, .inr (4, [.ref jT, .ref r1, .ref r2, .int (nI (wr)), .int (nI (fi)), .int pl, .ref q6, .ref q7])), (r1, .inl (c1, 120, .inl s1)), (r2, .inl (c2, 124, .inl s2)), (jT, .inr (8, [.ref t0, .int (nI (kt))])), (t0, .inl (cC, 120, .inl gT))] sz)) 0 0 (va_A [(jR, .inr (4, [.ref jT, .ref r1, .ref r2, .int (nI (wr)), .int (nI (fi)), .int pl, .ref q6, .ref q7])), (r1, .inl (c1, 120, .inl s1)), (r2, .inl (c2, 124, .inl s2)), (jT, .inr (8, [.ref t0, .int (nI (kt))])), (t0, .inl (cC, 120, .inl gT))] sz) := by
  refine Met.ofW (cc := cX4_readTruth) (maxL := 4) (ret := (some .boolean)) (by decide) rfl ?_
  intro p e s m args below meth c s₁ B hml hv
  obtain ⟨rfl, hsz, hP, hK, hD0, hX⟩ := hv
  have hx := B.exec
  have hb := B.bytes
  have hr := B.returns
  have hts := atoms_spec (ws := w_s_truth4_0_1) B.pre
  have hown : s.vm.findClass RX4 = some m.cls := findClass_of_methodNamed B.named
  have hlocks := B.notSynchronized
  subst hsz
  have hD := hD0.self (sz := s.heap.size)
  generalize hAe : va_A [(jR, .inr (4, [.ref jT, .ref r1, .ref r2, .int (nI (wr)), .int (nI (fi)), .int pl, .ref q6, .ref q7])), (r1, .inl (c1, 120, .inl s1)), (r2, .inl (c2, 124, .inl s2)), (jT, .inr (8, [.ref t0, .int (nI (kt))])), (t0, .inl (cC, 120, .inl gT))] s.heap.size = A at hD hX ⊢
  have hA : ∀ q : Nat, s.heap.size ≤ q → A q := fun q h => by rw [← hAe]; exact Or.inr h
  have hS : va_S A s.heap s.heap [] := va_S.rf
  have hP : va_P (dC, dI) vwCl [(jR, .inr (4, [.ref jT, .ref r1, .ref r2, .int (nI (wr)), .int (nI (fi)), .int pl, .ref q6, .ref q7])), (r1, .inl (c1, 120, .inl s1)), (r2, .inl (c2, 124, .inl s2)), (jT, .inr (8, [.ref t0, .int (nI (kt))])), (t0, .inl (cC, 120, .inl gT))] s.heap := hP
  have hl := lv_entry ([.ref jR, .int 0, .int 1]) (n := 4) (Nat.le_of_ble_eq_true rfl)
  rw [lg_entry_eq]
  generalize (lg_sl ([.ref jR, .int 0, .int 1]) ++ List.replicate (4 - (lg_sl ([.ref jR, .int 0, .int 1])).length) Slot.unset).toArray = ls at hl ⊢
  have hl : lv_has ls 4 [(0, .ref jR), (1, .int 0), (2, .int 1)] := hl
  refine kQ (fun Q hQ => ?_)
  refine lv_aload_n hx hb dX4_readTruth_0 rfl (lv_at hl 0 rfl) ?_
  refine lv_iload_n hx hb dX4_readTruth_1 rfl (lv_at hl 1 rfl) ?_
  refine lv_iload_n hx hb dX4_readTruth_2 rfl (lv_at hl 2 rfl) ?_
  obtain ⟨hPc, hDc, hFc⟩ := kCut (wc := [(jR, .inr (4, [.ref jT, .ref r1, .ref r2, .int (nI (wr)), .int (nI (fi)), .int pl, .ref q6, .ref q7])), (r1, .inl (c1, 120, .inl s1)), (r2, .inl (c2, 124, .inl s2)), (jT, .inr (8, [.ref t0, .int (nI (kt))])), (t0, .inl (cC, 120, .inl gT))]) hP hD hS hA [0, 1, 2, 3, 4] rfl (by decide) rfl
  have hKc := hK.sb (tys2 := [(c1, .int), (c2, .int), (cC, .char)]) [0, 1, 2] rfl
  refine va_calli (va_runV (As := [.int 0, .int 1]) (rest := []) ⟨hx, hb, hml, hown, hts⟩ (s_unit4_0_1 l dC dI jT t0 cC gT kt (by omega) (by omega) jR r1 r2 c1 c2 s1 s2 wr fi pl q6 q7 (by omega) (by omega) b6 n6 g6 (by omega) b7 n7 g7 (by omega) s.heap.size) (cwV 2 hts (kG (List.forall_mem_cons.mpr ⟨(List.mem_cons_of_mem _ (List.mem_append_left _ (List.mem_of_getElem? (i := 38) rfl))), (List.forall_mem_cons.mpr ⟨(List.mem_cons_of_mem _ (List.mem_append_left _ (List.mem_of_getElem? (i := 37) rfl))), (List.forall_mem_cons.mpr ⟨(List.mem_cons_of_mem _ (List.mem_append_left _ (List.mem_of_getElem? (i := 36) rfl))), (List.forall_mem_cons.mpr ⟨(List.mem_cons_of_mem _ (List.mem_append_left _ (List.mem_of_getElem? (i := 0) rfl))), (fun _ h => absurd h List.not_mem_nil)⟩)⟩)⟩)⟩) (kGV _ _ _ _) (kFam (List.mem_cons_of_mem _ (List.mem_append_left _ (List.mem_of_getElem? (i := 35) rfl)))) gw_s_unit4_0_1) rfl rfl rfl ⟨rfl, hd_X4_readUnit⟩ ⟨(Nat.le_of_ble_eq_true rfl), (Nat.le_of_ble_eq_true rfl)⟩) (kW_V kS2_blind (kS2_give hX hS hFc) (va_recv hKc hPc (ci := 4) (q0 := 0) rfl rfl) hPc hKc hDc) rfl rfl hl.1 rfl (lv_room (Nat.le_of_ble_eq_true rfl)) dX4_readTruth_3 ⟨(Nat.le_of_ble_eq_true rfl), (Nat.le_of_ble_eq_true rfl)⟩) hS (fun q _ h => hFc q h) hFc (fun r_1 u t H1 locs ht hvm hw hB hz1 hk1 hS => ?_)
  obtain ⟨S1_2, S2_3, Pl_4, Wr_5, Fi_6⟩ := u
  obtain ⟨hP1, hK1, hD1⟩ := hB
  rw [ht] at hP1
  try dsimp only at hw
  obtain ⟨hP, hD⟩ : kPD dC dI A [(jR, .inr (4, [.ref jT, .ref r1, .ref r2, .int (nI (Wr_5)), .int (nI (Fi_6)), .int Pl_4, .ref q6, .ref q7])), (r1, .inl (c1, 120, .inl S1_2)), (r2, .inl (c2, 124, .inl S2_3)), (jT, .inr (8, [.ref t0, .int (nI (kt))])), (t0, .inl (cC, 120, .inl gT))] H1 := kJoinI hP hD [0, 1, 2, 3, 4] rfl hk1 hFc hP1 hD1 rfl [some 0, some 1, some 2, some 3, some 4] rfl rfl
  generalize H1 = H at hP hS ⊢
  have hw_7 := hw
  refine lv_if_ne (tgt := 11) hx hb dX4_readTruth_6 (by decide) (fun c_8 => ?_) (fun c_8 => ?_)
  · refine lv_iconst (v := 0) hx hb dX4_readTruth_11 (by decide) ?_
    refine lv_istore_n hx hb dX4_readTruth_12 rfl hl (by decide) (kTo [(3, .int 0), (0, .ref jR), (1, .int 0), (2, .int 1)]) (fun ls hl => ?_)
    have lp_k_9 : ∀ (n9 : Nat) (i : Nat) (xs1 : Nat → Int32) (xs2 : Nat → Int32) (xpl : Int32) (xwr : Nat) (xfi : Nat) (ivk_9_0 : i ≤ 120) (ivk_9_1 : xwr ≤ 120) (ivk_9_2 : xfi ≤ 124) (H : Heap) (locs : List Loc) (_ : va_P (dC, dI) vwCl [(jR, .inr (4, [.ref jT, .ref r1, .ref r2, .int (nI (xwr)), .int (nI (xfi)), .int xpl, .ref q6, .ref q7])), (r1, .inl (c1, 120, .inl xs1)), (r2, .inl (c2, 124, .inl xs2)), (jT, .inr (8, [.ref t0, .int (nI (kt))])), (t0, .inl (cC, 120, .inl gT))] H) (_ : va_D A [(jR, .inr (4, [.ref jT, .ref r1, .ref r2, .int (nI (xwr)), .int (nI (xfi)), .int xpl, .ref q6, .ref q7])), (r1, .inl (c1, 120, .inl xs1)), (r2, .inl (c2, 124, .inl xs2)), (jT, .inr (8, [.ref t0, .int (nI (kt))])), (t0, .inl (cC, 120, .inl gT))]) (_ : va_S A s.heap H locs) (ls : Array Slot) (_ : lv_has ls 4 [(3, .int (nI (i))), (0, .ref jR), (1, .int 0), (2, .int 1)]) (_ : 120 - i < n9), W p l e (headSpec w_s_truth4_0_1 ({ frames := 46, cells := 0, slots := 0, locals := 2760 })).room s m (#[.ref jR, .int 0, .int 1] : Array Value) below meth c H locs 0 0 Q (F0 m 13 ls []) := by
      intro n9
      induction n9 with
      | zero => intro i xs1 xs2 xpl xwr xfi ivk_9_0 ivk_9_1 ivk_9_2 H locs hP hD hS ls hl hm9; exact absurd hm9 (Nat.not_lt_zero _)
      | succ n9 ih_k_9 =>
        intro i xs1 xs2 xpl xwr xfi ivk_9_0 ivk_9_1 ivk_9_2 H locs hP hD hS ls hl hm9
        refine lv_iload_n hx hb dX4_readTruth_13 rfl (lv_at hl 0 rfl) ?_
        refine lv_bipush (v := 120) hx hb dX4_readTruth_14 (by decide) ?_
        refine lv_icmp_ge (tgt := 65) hx hb dX4_readTruth_16 (by decide) (fun c_10 => ?_) (fun c_10 => ?_)
        · have hn_11 := kle (a := 120) (b := i) (by omega) (by omega) c_10
          refine lv_iconst (v := 1) hx hb dX4_readTruth_65 (by decide) ?_
          have hP9 := hP
          have hD9 := hD
          have hK9 := hK
          rw [hQ]
          exact W.zret (v := 1) hx hb hr rfl (fun t ht hW => ⟨⟨1, (xs1, xs2, xpl, xwr, xfi), rfl, ⟨(Or.inr rfl), by omega, by omega⟩,  by rw [ht]; exact hP9, va_K.moved hW.alike hK9, hD9⟩, hS.F ht⟩) hS.2.2 dX4_readTruth_66
        · have hn_12 := knle (a := 120) (b := i) (by omega) (by omega) c_10
          refine lv_aload_n hx hb dX4_readTruth_19 rfl (lv_at hl 1 rfl) ?_
          obtain ⟨hPc, hDc, hFc⟩ := kCut (wc := [(jR, .inr (4, [.ref jT, .ref r1, .ref r2, .int (nI (xwr)), .int (nI (xfi)), .int xpl, .ref q6, .ref q7])), (r1, .inl (c1, 120, .inl xs1)), (r2, .inl (c2, 124, .inl xs2)), (jT, .inr (8, [.ref t0, .int (nI (kt))])), (t0, .inl (cC, 120, .inl gT))]) hP hD hS hA [0, 1, 2, 3, 4] rfl (by decide) rfl
          have hKc := hK.sb (tys2 := [(c1, .int), (c2, .int), (cC, .char)]) [0, 1, 2] rfl
          refine va_calli (va_runV (As := []) (rest := []) ⟨hx, hb, hml, hown, hts⟩ (s_look4 l dC dI jT t0 cC gT kt (by omega) (by omega) jR r1 r2 c1 c2 xs1 xs2 xwr xfi xpl q6 q7 (by omega) (by omega) H.size) (cwV 0 hts (kG (List.forall_mem_cons.mpr ⟨(List.mem_cons_of_mem _ (List.mem_append_left _ (List.mem_of_getElem? (i := 3) rfl))), (List.forall_mem_cons.mpr ⟨(List.mem_cons_of_mem _ (List.mem_append_left _ (List.mem_of_getElem? (i := 2) rfl))), (List.forall_mem_cons.mpr ⟨(List.mem_cons_of_mem _ (List.mem_append_left _ (List.mem_of_getElem? (i := 1) rfl))), (List.forall_mem_cons.mpr ⟨(List.mem_cons_of_mem _ (List.mem_append_left _ (List.mem_of_getElem? (i := 0) rfl))), (fun _ h => absurd h List.not_mem_nil)⟩)⟩)⟩)⟩) (kGV _ _ _ _) (fun _ h => List.mem_cons_of_mem _ (List.mem_append_right _ (List.mem_append_left _ h))) gw_s_look4) rfl rfl rfl ⟨rfl, hd_X4_look⟩ ⟨(Nat.le_of_ble_eq_true rfl), (Nat.le_of_ble_eq_true rfl)⟩) (kW_V kT_blind kT_give (va_recv hKc hPc (ci := 4) (q0 := 0) rfl rfl) hPc hKc hDc) rfl rfl hl.1 rfl (lv_room (Nat.le_of_ble_eq_true rfl)) dX4_readTruth_20 ⟨(Nat.le_of_ble_eq_true rfl), (Nat.le_of_ble_eq_true rfl)⟩) hS (fun q _ h => hFc q h) hFc (fun r_13 u t H1 locs ht hvm hw hB hz1 hk1 hS => ?_)
          obtain ⟨Pl_14, rfl⟩ : ∃ z, z = u := ⟨_, rfl⟩
          obtain ⟨hP1, hK1, hD1⟩ := hB
          rw [ht] at hP1
          try dsimp only at hw
          obtain ⟨hP, hD⟩ : kPD dC dI A [(jR, .inr (4, [.ref jT, .ref r1, .ref r2, .int (nI (xwr)), .int (nI (xfi)), .int Pl_14, .ref q6, .ref q7])), (r1, .inl (c1, 120, .inl xs1)), (r2, .inl (c2, 124, .inl xs2)), (jT, .inr (8, [.ref t0, .int (nI (kt))])), (t0, .inl (cC, 120, .inl gT))] H1 := kJoinI hP hD [0, 1, 2, 3, 4] rfl hk1 hFc hP1 hD1 rfl [some 0, some 1, some 2, some 3, some 4] rfl rfl
          generalize H1 = H at hP hS ⊢
          have hw_15 := hw
          refine lv_bipush (v := 38) hx hb dX4_readTruth_23 (by decide) ?_
          refine lv_icmp_ne (tgt := 65) hx hb dX4_readTruth_25 (by decide) (fun c_16 => ?_) (fun c_16 => ?_)
          · refine lv_iconst (v := 1) hx hb dX4_readTruth_65 (by decide) ?_
            have hP9 := hP
            have hD9 := hD
            have hK9 := hK
            rw [hQ]
            exact W.zret (v := 1) hx hb hr rfl (fun t ht hW => ⟨⟨1, (xs1, xs2, Pl_14, xwr, xfi), rfl, ⟨(Or.inr rfl), by omega, by omega⟩,  by rw [ht]; exact hP9, va_K.moved hW.alike hK9, hD9⟩, hS.F ht⟩) hS.2.2 dX4_readTruth_66
          · refine lv_aload_n hx hb dX4_readTruth_28 rfl (lv_at hl 1 rfl) ?_
            refine lv_dup hx hb dX4_readTruth_29 rfl ?_
            refine va_get (D := (dC, dI)) (ci := 4) (v := .int Pl_14) (C := RX4) (T := TX4) (N := 8) hx hb hts (fun _ h => List.mem_cons_of_mem _ (List.mem_append_right _ (List.mem_append_right _ (List.mem_append_right _ (List.mem_append_left _ h))))) hown hK hP 0 rfl rfl 5 (by decide) (hts (.fieldLink RX4 25 "NotEnded$Reader" "place" "I") (List.mem_cons_of_mem _ (List.mem_append_left _ (List.mem_of_getElem? (i := 11) rfl)))) (fun _ h9 => h9) rfl dX4_readTruth_30 ?_
            refine lv_iconst (v := 1) hx hb dX4_readTruth_33 (by decide) ?_
            refine lv_iadd hx hb dX4_readTruth_34 ?_
            refine lv_topi (fun x_17 ex_17 => ?_)
            refine va_put (D := (dC, dI)) (ci := 4) (v := .int x_17) (ty := tyX4 5) (C := RX4) (T := TX4) (N := 8) hx hb hts (fun _ h => List.mem_cons_of_mem _ (List.mem_append_right _ (List.mem_append_right _ (List.mem_append_right _ (List.mem_append_left _ h))))) tyX4 tyX4_ok nmX4 hown hK hP hD hS 0 rfl rfl 5 (by decide) (hts (.fieldLink RX4 25 "NotEnded$Reader" "place" "I") (List.mem_cons_of_mem _ (List.mem_append_left _ (List.mem_of_getElem? (i := 11) rfl)))) (fun _ h9 => h9) rfl (tyX4_ok 5 (by decide)) rfl rfl (Nat.le_of_ble_eq_true rfl) dX4_readTruth_35 (fun H locs hP hD hS => ?_)
            obtain ⟨hP, hD⟩ : kPD dC dI A [(jR, .inr (4, [.ref jT, .ref r1, .ref r2, .int (nI (xwr)), .int (nI (xfi)), .int x_17, .ref q6, .ref q7])), (r1, .inl (c1, 120, .inl xs1)), (r2, .inl (c2, 124, .inl xs2)), (jT, .inr (8, [.ref t0, .int (nI (kt))])), (t0, .inl (cC, 120, .inl gT))] H := ⟨hP, hD⟩
            refine lv_aload_n hx hb dX4_readTruth_38 rfl (lv_at hl 1 rfl) ?_
            refine lv_iload_n hx hb dX4_readTruth_39 rfl (lv_at hl 2 rfl) ?_
            refine lv_iconst (v := 0) hx hb dX4_readTruth_40 (by decide) ?_
            obtain ⟨hPc, hDc, hFc⟩ := kCut (wc := [(jR, .inr (4, [.ref jT, .ref r1, .ref r2, .int (nI (xwr)), .int (nI (xfi)), .int x_17, .ref q6, .ref q7])), (r1, .inl (c1, 120, .inl xs1)), (r2, .inl (c2, 124, .inl xs2)), (jT, .inr (8, [.ref t0, .int (nI (kt))])), (t0, .inl (cC, 120, .inl gT))]) hP hD hS hA [0, 1, 2, 3, 4] rfl (by decide) rfl
            have hKc := hK.sb (tys2 := [(c1, .int), (c2, .int), (cC, .char)]) [0, 1, 2] rfl
            refine va_calli (va_runV (As := [.int 0, .int 0]) (rest := []) ⟨hx, hb, hml, hown, hts⟩ (s_unit4_0_0 l dC dI jT t0 cC gT kt (by omega) (by omega) jR r1 r2 c1 c2 xs1 xs2 xwr xfi x_17 q6 q7 (by omega) (by omega) b6 n6 g6 (by omega) b7 n7 g7 (by omega) H.size) (cwV 2 hts (kG (List.forall_mem_cons.mpr ⟨(List.mem_cons_of_mem _ (List.mem_append_left _ (List.mem_of_getElem? (i := 38) rfl))), (List.forall_mem_cons.mpr ⟨(List.mem_cons_of_mem _ (List.mem_append_left _ (List.mem_of_getElem? (i := 37) rfl))), (List.forall_mem_cons.mpr ⟨(List.mem_cons_of_mem _ (List.mem_append_left _ (List.mem_of_getElem? (i := 36) rfl))), (List.forall_mem_cons.mpr ⟨(List.mem_cons_of_mem _ (List.mem_append_left _ (List.mem_of_getElem? (i := 0) rfl))), (fun _ h => absurd h List.not_mem_nil)⟩)⟩)⟩)⟩) (kGV _ _ _ _) (kFam (List.mem_cons_of_mem _ (List.mem_append_left _ (List.mem_of_getElem? (i := 35) rfl)))) gw_s_unit4_0_0) rfl rfl rfl ⟨rfl, hd_X4_readUnit⟩ ⟨(Nat.le_of_ble_eq_true rfl), (Nat.le_of_ble_eq_true rfl)⟩) (kW_V kS2_blind (kS2_give hX hS hFc) (va_recv hKc hPc (ci := 4) (q0 := 0) rfl rfl) hPc hKc hDc) rfl rfl hl.1 rfl (lv_room (Nat.le_of_ble_eq_true rfl)) dX4_readTruth_41 ⟨(Nat.le_of_ble_eq_true rfl), (Nat.le_of_ble_eq_true rfl)⟩) hS (fun q _ h => hFc q h) hFc (fun r_18 u t H1 locs ht hvm hw hB hz1 hk1 hS => ?_)
            obtain ⟨S1_19, S2_20, Pl_21, Wr_22, Fi_23⟩ := u
            obtain ⟨hP1, hK1, hD1⟩ := hB
            rw [ht] at hP1
            try dsimp only at hw
            obtain ⟨hP, hD⟩ : kPD dC dI A [(jR, .inr (4, [.ref jT, .ref r1, .ref r2, .int (nI (Wr_22)), .int (nI (Fi_23)), .int Pl_21, .ref q6, .ref q7])), (r1, .inl (c1, 120, .inl S1_19)), (r2, .inl (c2, 124, .inl S2_20)), (jT, .inr (8, [.ref t0, .int (nI (kt))])), (t0, .inl (cC, 120, .inl gT))] H1 := kJoinI hP hD [0, 1, 2, 3, 4] rfl hk1 hFc hP1 hD1 rfl [some 0, some 1, some 2, some 3, some 4] rfl rfl
            generalize H1 = H at hP hS ⊢
            have hw_24 := hw
            refine lv_if_eq (tgt := 57) hx hb dX4_readTruth_44 (by decide) (fun c_25 => ?_) (fun c_25 => ?_)
            · refine lv_iconst (v := 0) hx hb dX4_readTruth_57 (by decide) ?_
              have hP9 := hP
              have hD9 := hD
              have hK9 := hK
              rw [hQ]
              exact W.zret (v := 0) hx hb hr rfl (fun t ht hW => ⟨⟨0, (S1_19, S2_20, Pl_21, Wr_22, Fi_23), rfl, ⟨(Or.inl rfl), by omega, by omega⟩,  by rw [ht]; exact hP9, va_K.moved hW.alike hK9, hD9⟩, hS.F ht⟩) hS.2.2 dX4_readTruth_58
            · refine lv_aload_n hx hb dX4_readTruth_47 rfl (lv_at hl 1 rfl) ?_
              refine lv_sipush (v := 20038) hx hb dX4_readTruth_48 (by decide) ?_
              obtain ⟨hPc, hDc, hFc⟩ := kCut (wc := [(jR, .inr (4, [.ref jT, .ref r1, .ref r2, .int (nI (Wr_22)), .int (nI (Fi_23)), .int Pl_21, .ref q6, .ref q7])), (r1, .inl (c1, 120, .inl S1_19)), (r2, .inl (c2, 124, .inl S2_20)), (jT, .inr (8, [.ref t0, .int (nI (kt))])), (t0, .inl (cC, 120, .inl gT))]) hP hD hS hA [0, 1, 2, 3, 4] rfl (by decide) rfl
              have hKc := hK.sb (tys2 := [(c1, .int), (c2, .int), (cC, .char)]) [0, 1, 2] rfl
              refine va_calli (va_runV (As := [.int 20038]) (rest := []) ⟨hx, hb, hml, hown, hts⟩ (s_write4 l dC dI jT t0 cC gT kt (by omega) (by omega) jR r1 r2 c1 c2 S1_19 S2_20 Wr_22 Fi_23 Pl_21 q6 q7 (by omega) (by omega) 20038 H.size) (cwV 1 hts (kG (List.forall_mem_cons.mpr ⟨(List.mem_cons_of_mem _ (List.mem_append_left _ (List.mem_of_getElem? (i := 14) rfl))), (List.forall_mem_cons.mpr ⟨(List.mem_cons_of_mem _ (List.mem_append_left _ (List.mem_of_getElem? (i := 13) rfl))), (List.forall_mem_cons.mpr ⟨(List.mem_cons_of_mem _ (List.mem_append_left _ (List.mem_of_getElem? (i := 12) rfl))), (List.forall_mem_cons.mpr ⟨(List.mem_cons_of_mem _ (List.mem_append_left _ (List.mem_of_getElem? (i := 0) rfl))), (fun _ h => absurd h List.not_mem_nil)⟩)⟩)⟩)⟩) (kGV _ _ _ _) (fun _ h => List.mem_cons_of_mem _ (List.mem_append_right _ (List.mem_append_right _ (List.mem_append_right _ (List.mem_append_right _ (List.mem_append_right _ (List.mem_append_left _ h))))))) gw_s_write4) rfl rfl rfl ⟨rfl, hd_X4_write⟩ ⟨(Nat.le_of_ble_eq_true rfl), (Nat.le_of_ble_eq_true rfl)⟩) (kW_V kT_blind kT_give (va_recv hKc hPc (ci := 4) (q0 := 0) rfl rfl) hPc hKc hDc) rfl rfl hl.1 rfl (lv_room (Nat.le_of_ble_eq_true rfl)) dX4_readTruth_51 ⟨(Nat.le_of_ble_eq_true rfl), (Nat.le_of_ble_eq_true rfl)⟩) hS (fun q _ h => hFc q h) hFc (fun r_26 u t H1 locs ht hvm hw hB hz1 hk1 hS => ?_)
              obtain ⟨S1_27, S2_28, Pl_29, Wr_30, Fi_31⟩ := u
              obtain ⟨hP1, hK1, hD1⟩ := hB
              rw [ht] at hP1
              try dsimp only at hw
              obtain ⟨hP, hD⟩ : kPD dC dI A [(jR, .inr (4, [.ref jT, .ref r1, .ref r2, .int (nI (Wr_30)), .int (nI (Fi_31)), .int Pl_29, .ref q6, .ref q7])), (r1, .inl (c1, 120, .inl S1_27)), (r2, .inl (c2, 124, .inl S2_28)), (jT, .inr (8, [.ref t0, .int (nI (kt))])), (t0, .inl (cC, 120, .inl gT))] H1 := kJoinI hP hD [0, 1, 2, 3, 4] rfl hk1 hFc hP1 hD1 rfl [some 0, some 1, some 2, some 3, some 4] rfl rfl
              generalize H1 = H at hP hS ⊢
              have hw_32 := hw
              refine lv_if_ne (tgt := 59) hx hb dX4_readTruth_54 (by decide) (fun c_33 => ?_) (fun c_33 => ?_)
              · refine lv_iinc (v := nI (i + 1)) hx hb dX4_readTruth_59 hl (k := 0) rfl (kInc _ 1) (by decide) (kTo [(3, .int (nI (i + 1))), (0, .ref jR), (1, .int 0), (2, .int 1)]) (fun ls hl => ?_)
                refine lv_goto (tgt := 13) hx hb dX4_readTruth_62 (by decide) ?_
                exact ih_k_9 (i + 1) S1_27 S2_28 Pl_29 Wr_30 Fi_31 (by omega) (by omega) (by omega) _ _ hP hD hS ls (lv_sub hl [0, 1, 2, 3] rfl) (by omega)
              · refine lv_iconst (v := 0) hx hb dX4_readTruth_57 (by decide) ?_
                have hP9 := hP
                have hD9 := hD
                have hK9 := hK
                rw [hQ]
                exact W.zret (v := 0) hx hb hr rfl (fun t ht hW => ⟨⟨0, (S1_27, S2_28, Pl_29, Wr_30, Fi_31), rfl, ⟨(Or.inl rfl), by omega, by omega⟩,  by rw [ht]; exact hP9, va_K.moved hW.alike hK9, hD9⟩, hS.F ht⟩) hS.2.2 dX4_readTruth_58
    exact lp_k_9 (120 - 0 + 1) 0 S1_2 S2_3 Pl_4 Wr_5 Fi_6 (by omega) (by omega) (by omega) _ _ hP hD hS ls (lv_sub hl [0, 1, 2, 3] rfl) (by omega)
  · refine lv_iconst (v := 0) hx hb dX4_readTruth_9 (by decide) ?_
    have hP9 := hP
    have hD9 := hD
    have hK9 := hK
    rw [hQ]
    exact W.zret (v := 0) hx hb hr rfl (fun t ht hW => ⟨⟨0, (S1_2, S2_3, Pl_4, Wr_5, Fi_6), rfl, ⟨(Or.inl rfl), by omega, by omega⟩,  by rw [ht]; exact hP9, va_K.moved hW.alike hK9, hD9⟩, hS.F ht⟩) hS.2.2 dX4_readTruth_10

def w_s_cond4_0_0 : List Cond := .code yX4_readCondition cX4_readCondition 4 (some .boolean) :: wf_rd
theorem gw_s_cond4_0_0 : (w_s_cond4_0_0).all goodWord = true := kFamG rfl gf_rd
set_option maxHeartbeats 4000000 in
set_option maxRecDepth 100000 in
theorem s_cond4_0_0 (l : Launch) (dC : Nat → ClassId) (dI : Nat → Nat → Nat) (jT : Nat) (t0 : Nat) (cC : ClassId) (gT : Nat → Int32) (kt : Nat) (hkt : kt ≤ 120) (hgT : ∀ j : Nat, narrow .char (.int (gT j)) = .int (gT j)) (jR : Nat) (r1 : Nat) (r2 : Nat) (c1 : ClassId) (c2 : ClassId) (s1 : Nat → Int32) (s2 : Nat → Int32) (wr : Nat) (fi : Nat) (pl : Int32) (q6 : Nat) (q7 : Nat) (hwr : wr ≤ 120) (hfi : fi ≤ 124) (b6 : Nat) (n6 : Nat) (g6 : Nat → Int32) (hn6 : n6 ≤ 8) (b7 : Nat) (n7 : Nat) (g7 : Nat → Int32) (hn7 : n7 ≤ 8) (sz : Nat) : Met l yX4_readCondition w_s_cond4_0_0 ({ frames := 47, cells := 0, slots := 0, locals := 2820 }) (kW dC dI [.ref jR, .int 0, .int 0] [(jR, .inr (4, [.ref jT, .ref r1, .ref r2, .int (nI (wr)), .int (nI (fi)), .int pl, .ref q6, .ref q7])), (r1, .inl (c1, 120, .inl s1)), (r2, .inl (c2, 124, .inl s2)), (jT, .inr (8, [.ref t0, .int (nI (kt))])), (t0, .inl (cC, 120, .inl gT))] [(c1, .int), (c2, .int), (cC, .char)] (kS2 q6 b6 n6 g6 q7 b7 n7 g7 (va_A [(jR, .inr (4, [.ref jT, .ref r1, .ref r2, .int (nI (wr)), .int (nI (fi)), .int pl, .ref q6, .ref q7])), (r1, .inl (c1, 120, .inl s1)), (r2, .inl (c2, 124, .inl s2)), (jT, .inr (8, [.ref t0, .int (nI (kt))])), (t0, .inl (cC, 120, .inl gT))] sz)) sz) (va_Qi (fun (r : Int32) (u : (Nat → Int32) × (Nat → Int32) × Int32 × Nat × Nat) => match u with | (S1, S2, Pl, Wr, Fi) => ((r = 0 ∨ r = 1) ∧ Wr ≤ 120 ∧ Fi ≤ 124)) (fun (u : (Nat → Int32) × (Nat → Int32) × Int32 × Nat × Nat) => match u with | (S1, S2, Pl, Wr, Fi) => fun t : State => kB dC dI [(jR, .inr (4, [.ref jT, .ref r1, .ref r2, .int (nI (Wr)), .int (nI (Fi)), .int Pl, .ref q6, .ref q7])), (r1, .inl (c1, 120, .inl S1)), (r2, .inl (c2, 124, .inl S2)), (jT, .inr (8, [.ref t0, .int (nI (kt))])), (t0, .inl (cC, 120, .inl gT))] [(c1, .int), (c2, .int), (cC, .char)] (va_A [(jR, .inr (4, [.ref jT, .ref r1, .ref r2, .int (nI (wr)), .int (nI (fi)), .int pl, .ref q6, .ref q7])), (r1, .inl (c1, 120, .inl s1)), (r2, .inl (c2, 124, .inl s2)), (jT, .inr (8, [.ref t0, .int (nI (kt))])), (t0, .inl (cC, 120, .inl gT))] sz) t) (va_A [(jR, .inr (4, [.ref jT, .ref r1, .ref r2, .int (nI (wr)), .int (nI (fi)), .int pl, .ref q6, .ref q7])), (r1, .inl (c1, 120, .inl s1)), (r2, .inl (c2, 124, .inl s2)), (jT, .inr (8, [.ref t0, .int (nI (kt))])), (t0, .inl (cC, 120, .inl gT))] sz)) 0 0 (va_A [(jR, .inr (4, [.ref jT, .ref r1, .ref r2, .int (nI (wr)), .int (nI (fi)), .int pl, .ref q6, .ref q7])), (r1, .inl (c1, 120, .inl s1)), (r2, .inl (c2, 124, .inl s2)), (jT, .inr (8, [.ref t0, .int (nI (kt))])), (t0, .inl (cC, 120, .inl gT))] sz) := by
  refine Met.ofW (cc := cX4_readCondition) (maxL := 4) (ret := (some .boolean)) (by decide) rfl ?_
  intro p e s m args below meth c s₁ B hml hv
  obtain ⟨rfl, hsz, hP, hK, hD0, hX⟩ := hv
  have hx := B.exec
  have hb := B.bytes
  have hr := B.returns
  have hts := atoms_spec (ws := w_s_cond4_0_0) B.pre
  have hown : s.vm.findClass RX4 = some m.cls := findClass_of_methodNamed B.named
  have hlocks := B.notSynchronized
  subst hsz
  have hD := hD0.self (sz := s.heap.size)
  generalize hAe : va_A [(jR, .inr (4, [.ref jT, .ref r1, .ref r2, .int (nI (wr)), .int (nI (fi)), .int pl, .ref q6, .ref q7])), (r1, .inl (c1, 120, .inl s1)), (r2, .inl (c2, 124, .inl s2)), (jT, .inr (8, [.ref t0, .int (nI (kt))])), (t0, .inl (cC, 120, .inl gT))] s.heap.size = A at hD hX ⊢
  have hA : ∀ q : Nat, s.heap.size ≤ q → A q := fun q h => by rw [← hAe]; exact Or.inr h
  have hS : va_S A s.heap s.heap [] := va_S.rf
  have hP : va_P (dC, dI) vwCl [(jR, .inr (4, [.ref jT, .ref r1, .ref r2, .int (nI (wr)), .int (nI (fi)), .int pl, .ref q6, .ref q7])), (r1, .inl (c1, 120, .inl s1)), (r2, .inl (c2, 124, .inl s2)), (jT, .inr (8, [.ref t0, .int (nI (kt))])), (t0, .inl (cC, 120, .inl gT))] s.heap := hP
  have hl := lv_entry ([.ref jR, .int 0, .int 0]) (n := 4) (Nat.le_of_ble_eq_true rfl)
  rw [lg_entry_eq]
  generalize (lg_sl ([.ref jR, .int 0, .int 0]) ++ List.replicate (4 - (lg_sl ([.ref jR, .int 0, .int 0])).length) Slot.unset).toArray = ls at hl ⊢
  have hl : lv_has ls 4 [(0, .ref jR), (1, .int 0), (2, .int 0)] := hl
  refine kQ (fun Q hQ => ?_)
  refine lv_aload_n hx hb dX4_readCondition_0 rfl (lv_at hl 0 rfl) ?_
  refine lv_iload_n hx hb dX4_readCondition_1 rfl (lv_at hl 1 rfl) ?_
  refine lv_iload_n hx hb dX4_readCondition_2 rfl (lv_at hl 2 rfl) ?_
  obtain ⟨hPc, hDc, hFc⟩ := kCut (wc := [(jR, .inr (4, [.ref jT, .ref r1, .ref r2, .int (nI (wr)), .int (nI (fi)), .int pl, .ref q6, .ref q7])), (r1, .inl (c1, 120, .inl s1)), (r2, .inl (c2, 124, .inl s2)), (jT, .inr (8, [.ref t0, .int (nI (kt))])), (t0, .inl (cC, 120, .inl gT))]) hP hD hS hA [0, 1, 2, 3, 4] rfl (by decide) rfl
  have hKc := hK.sb (tys2 := [(c1, .int), (c2, .int), (cC, .char)]) [0, 1, 2] rfl
  refine va_calli (va_runV (As := [.int 0, .int 0]) (rest := []) ⟨hx, hb, hml, hown, hts⟩ (s_truth4_0_0 l dC dI jT t0 cC gT kt (by omega) (by omega) jR r1 r2 c1 c2 s1 s2 wr fi pl q6 q7 (by omega) (by omega) b6 n6 g6 (by omega) b7 n7 g7 (by omega) s.heap.size) (cwV 2 hts (kG (List.forall_mem_cons.mpr ⟨(List.mem_cons_of_mem _ (List.mem_append_left _ (List.mem_of_getElem? (i := 42) rfl))), (List.forall_mem_cons.mpr ⟨(List.mem_cons_of_mem _ (List.mem_append_left _ (List.mem_of_getElem? (i := 41) rfl))), (List.forall_mem_cons.mpr ⟨(List.mem_cons_of_mem _ (List.mem_append_left _ (List.mem_of_getElem? (i := 40) rfl))), (List.forall_mem_cons.mpr ⟨(List.mem_cons_of_mem _ (List.mem_append_left _ (List.mem_of_getElem? (i := 0) rfl))), (fun _ h => absurd h List.not_mem_nil)⟩)⟩)⟩)⟩) (kGV _ _ _ _) (kFam (List.mem_cons_of_mem _ (List.mem_append_left _ (List.mem_of_getElem? (i := 39) rfl)))) gw_s_truth4_0_0) rfl rfl rfl ⟨rfl, hd_X4_readTruth⟩ ⟨(Nat.le_of_ble_eq_true rfl), (Nat.le_of_ble_eq_true rfl)⟩) (kW_V kS2_blind (kS2_give hX hS hFc) (va_recv hKc hPc (ci := 4) (q0 := 0) rfl rfl) hPc hKc hDc) rfl rfl hl.1 rfl (lv_room (Nat.le_of_ble_eq_true rfl)) dX4_readCondition_3 ⟨(Nat.le_of_ble_eq_true rfl), (Nat.le_of_ble_eq_true rfl)⟩) hS (fun q _ h => hFc q h) hFc (fun r_1 u t H1 locs ht hvm hw hB hz1 hk1 hS => ?_)
  obtain ⟨S1_2, S2_3, Pl_4, Wr_5, Fi_6⟩ := u
  obtain ⟨hP1, hK1, hD1⟩ := hB
  rw [ht] at hP1
  try dsimp only at hw
  obtain ⟨hP, hD⟩ : kPD dC dI A [(jR, .inr (4, [.ref jT, .ref r1, .ref r2, .int (nI (Wr_5)), .int (nI (Fi_6)), .int Pl_4, .ref q6, .ref q7])), (r1, .inl (c1, 120, .inl S1_2)), (r2, .inl (c2, 124, .inl S2_3)), (jT, .inr (8, [.ref t0, .int (nI (kt))])), (t0, .inl (cC, 120, .inl gT))] H1 := kJoinI hP hD [0, 1, 2, 3, 4] rfl hk1 hFc hP1 hD1 rfl [some 0, some 1, some 2, some 3, some 4] rfl rfl
  generalize H1 = H at hP hS ⊢
  have hw_7 := hw
  refine lv_if_ne (tgt := 11) hx hb dX4_readCondition_6 (by decide) (fun c_8 => ?_) (fun c_8 => ?_)
  · refine lv_iconst (v := 0) hx hb dX4_readCondition_11 (by decide) ?_
    refine lv_istore_n hx hb dX4_readCondition_12 rfl hl (by decide) (kTo [(3, .int 0), (0, .ref jR), (1, .int 0), (2, .int 0)]) (fun ls hl => ?_)
    have lp_k_9 : ∀ (n9 : Nat) (i : Nat) (xs1 : Nat → Int32) (xs2 : Nat → Int32) (xpl : Int32) (xwr : Nat) (xfi : Nat) (ivk_9_0 : i ≤ 120) (ivk_9_1 : xwr ≤ 120) (ivk_9_2 : xfi ≤ 124) (H : Heap) (locs : List Loc) (_ : va_P (dC, dI) vwCl [(jR, .inr (4, [.ref jT, .ref r1, .ref r2, .int (nI (xwr)), .int (nI (xfi)), .int xpl, .ref q6, .ref q7])), (r1, .inl (c1, 120, .inl xs1)), (r2, .inl (c2, 124, .inl xs2)), (jT, .inr (8, [.ref t0, .int (nI (kt))])), (t0, .inl (cC, 120, .inl gT))] H) (_ : va_D A [(jR, .inr (4, [.ref jT, .ref r1, .ref r2, .int (nI (xwr)), .int (nI (xfi)), .int xpl, .ref q6, .ref q7])), (r1, .inl (c1, 120, .inl xs1)), (r2, .inl (c2, 124, .inl xs2)), (jT, .inr (8, [.ref t0, .int (nI (kt))])), (t0, .inl (cC, 120, .inl gT))]) (_ : va_S A s.heap H locs) (ls : Array Slot) (_ : lv_has ls 4 [(3, .int (nI (i))), (0, .ref jR), (1, .int 0), (2, .int 0)]) (_ : 120 - i < n9), W p l e (headSpec w_s_cond4_0_0 ({ frames := 47, cells := 0, slots := 0, locals := 2820 })).room s m (#[.ref jR, .int 0, .int 0] : Array Value) below meth c H locs 0 0 Q (F0 m 13 ls []) := by
      intro n9
      induction n9 with
      | zero => intro i xs1 xs2 xpl xwr xfi ivk_9_0 ivk_9_1 ivk_9_2 H locs hP hD hS ls hl hm9; exact absurd hm9 (Nat.not_lt_zero _)
      | succ n9 ih_k_9 =>
        intro i xs1 xs2 xpl xwr xfi ivk_9_0 ivk_9_1 ivk_9_2 H locs hP hD hS ls hl hm9
        refine lv_iload_n hx hb dX4_readCondition_13 rfl (lv_at hl 0 rfl) ?_
        refine lv_bipush (v := 120) hx hb dX4_readCondition_14 (by decide) ?_
        refine lv_icmp_ge (tgt := 65) hx hb dX4_readCondition_16 (by decide) (fun c_10 => ?_) (fun c_10 => ?_)
        · have hn_11 := kle (a := 120) (b := i) (by omega) (by omega) c_10
          refine lv_iconst (v := 1) hx hb dX4_readCondition_65 (by decide) ?_
          have hP9 := hP
          have hD9 := hD
          have hK9 := hK
          rw [hQ]
          exact W.zret (v := 1) hx hb hr rfl (fun t ht hW => ⟨⟨1, (xs1, xs2, xpl, xwr, xfi), rfl, ⟨(Or.inr rfl), by omega, by omega⟩,  by rw [ht]; exact hP9, va_K.moved hW.alike hK9, hD9⟩, hS.F ht⟩) hS.2.2 dX4_readCondition_66
        · have hn_12 := knle (a := 120) (b := i) (by omega) (by omega) c_10
          refine lv_aload_n hx hb dX4_readCondition_19 rfl (lv_at hl 1 rfl) ?_
          obtain ⟨hPc, hDc, hFc⟩ := kCut (wc := [(jR, .inr (4, [.ref jT, .ref r1, .ref r2, .int (nI (xwr)), .int (nI (xfi)), .int xpl, .ref q6, .ref q7])), (r1, .inl (c1, 120, .inl xs1)), (r2, .inl (c2, 124, .inl xs2)), (jT, .inr (8, [.ref t0, .int (nI (kt))])), (t0, .inl (cC, 120, .inl gT))]) hP hD hS hA [0, 1, 2, 3, 4] rfl (by decide) rfl
          have hKc := hK.sb (tys2 := [(c1, .int), (c2, .int), (cC, .char)]) [0, 1, 2] rfl
          refine va_calli (va_runV (As := []) (rest := []) ⟨hx, hb, hml, hown, hts⟩ (s_look4 l dC dI jT t0 cC gT kt (by omega) (by omega) jR r1 r2 c1 c2 xs1 xs2 xwr xfi xpl q6 q7 (by omega) (by omega) H.size) (cwV 0 hts (kG (List.forall_mem_cons.mpr ⟨(List.mem_cons_of_mem _ (List.mem_append_left _ (List.mem_of_getElem? (i := 3) rfl))), (List.forall_mem_cons.mpr ⟨(List.mem_cons_of_mem _ (List.mem_append_left _ (List.mem_of_getElem? (i := 2) rfl))), (List.forall_mem_cons.mpr ⟨(List.mem_cons_of_mem _ (List.mem_append_left _ (List.mem_of_getElem? (i := 1) rfl))), (List.forall_mem_cons.mpr ⟨(List.mem_cons_of_mem _ (List.mem_append_left _ (List.mem_of_getElem? (i := 0) rfl))), (fun _ h => absurd h List.not_mem_nil)⟩)⟩)⟩)⟩) (kGV _ _ _ _) (fun _ h => List.mem_cons_of_mem _ (List.mem_append_right _ (List.mem_append_left _ h))) gw_s_look4) rfl rfl rfl ⟨rfl, hd_X4_look⟩ ⟨(Nat.le_of_ble_eq_true rfl), (Nat.le_of_ble_eq_true rfl)⟩) (kW_V kT_blind kT_give (va_recv hKc hPc (ci := 4) (q0 := 0) rfl rfl) hPc hKc hDc) rfl rfl hl.1 rfl (lv_room (Nat.le_of_ble_eq_true rfl)) dX4_readCondition_20 ⟨(Nat.le_of_ble_eq_true rfl), (Nat.le_of_ble_eq_true rfl)⟩) hS (fun q _ h => hFc q h) hFc (fun r_13 u t H1 locs ht hvm hw hB hz1 hk1 hS => ?_)
          obtain ⟨Pl_14, rfl⟩ : ∃ z, z = u := ⟨_, rfl⟩
          obtain ⟨hP1, hK1, hD1⟩ := hB
          rw [ht] at hP1
          try dsimp only at hw
          obtain ⟨hP, hD⟩ : kPD dC dI A [(jR, .inr (4, [.ref jT, .ref r1, .ref r2, .int (nI (xwr)), .int (nI (xfi)), .int Pl_14, .ref q6, .ref q7])), (r1, .inl (c1, 120, .inl xs1)), (r2, .inl (c2, 124, .inl xs2)), (jT, .inr (8, [.ref t0, .int (nI (kt))])), (t0, .inl (cC, 120, .inl gT))] H1 := kJoinI hP hD [0, 1, 2, 3, 4] rfl hk1 hFc hP1 hD1 rfl [some 0, some 1, some 2, some 3, some 4] rfl rfl
          generalize H1 = H at hP hS ⊢
          have hw_15 := hw
          refine lv_bipush (v := 124) hx hb dX4_readCondition_23 (by decide) ?_
          refine lv_icmp_ne (tgt := 65) hx hb dX4_readCondition_25 (by decide) (fun c_16 => ?_) (fun c_16 => ?_)
          · refine lv_iconst (v := 1) hx hb dX4_readCondition_65 (by decide) ?_
            have hP9 := hP
            have hD9 := hD
            have hK9 := hK
            rw [hQ]
            exact W.zret (v := 1) hx hb hr rfl (fun t ht hW => ⟨⟨1, (xs1, xs2, Pl_14, xwr, xfi), rfl, ⟨(Or.inr rfl), by omega, by omega⟩,  by rw [ht]; exact hP9, va_K.moved hW.alike hK9, hD9⟩, hS.F ht⟩) hS.2.2 dX4_readCondition_66
          · refine lv_aload_n hx hb dX4_readCondition_28 rfl (lv_at hl 1 rfl) ?_
            refine lv_dup hx hb dX4_readCondition_29 rfl ?_
            refine va_get (D := (dC, dI)) (ci := 4) (v := .int Pl_14) (C := RX4) (T := TX4) (N := 8) hx hb hts (fun _ h => List.mem_cons_of_mem _ (List.mem_append_right _ (List.mem_append_right _ (List.mem_append_right _ (List.mem_append_left _ h))))) hown hK hP 0 rfl rfl 5 (by decide) (hts (.fieldLink RX4 25 "NotEnded$Reader" "place" "I") (List.mem_cons_of_mem _ (List.mem_append_left _ (List.mem_of_getElem? (i := 11) rfl)))) (fun _ h9 => h9) rfl dX4_readCondition_30 ?_
            refine lv_iconst (v := 1) hx hb dX4_readCondition_33 (by decide) ?_
            refine lv_iadd hx hb dX4_readCondition_34 ?_
            refine lv_topi (fun x_17 ex_17 => ?_)
            refine va_put (D := (dC, dI)) (ci := 4) (v := .int x_17) (ty := tyX4 5) (C := RX4) (T := TX4) (N := 8) hx hb hts (fun _ h => List.mem_cons_of_mem _ (List.mem_append_right _ (List.mem_append_right _ (List.mem_append_right _ (List.mem_append_left _ h))))) tyX4 tyX4_ok nmX4 hown hK hP hD hS 0 rfl rfl 5 (by decide) (hts (.fieldLink RX4 25 "NotEnded$Reader" "place" "I") (List.mem_cons_of_mem _ (List.mem_append_left _ (List.mem_of_getElem? (i := 11) rfl)))) (fun _ h9 => h9) rfl (tyX4_ok 5 (by decide)) rfl rfl (Nat.le_of_ble_eq_true rfl) dX4_readCondition_35 (fun H locs hP hD hS => ?_)
            obtain ⟨hP, hD⟩ : kPD dC dI A [(jR, .inr (4, [.ref jT, .ref r1, .ref r2, .int (nI (xwr)), .int (nI (xfi)), .int x_17, .ref q6, .ref q7])), (r1, .inl (c1, 120, .inl xs1)), (r2, .inl (c2, 124, .inl xs2)), (jT, .inr (8, [.ref t0, .int (nI (kt))])), (t0, .inl (cC, 120, .inl gT))] H := ⟨hP, hD⟩
            refine lv_aload_n hx hb dX4_readCondition_38 rfl (lv_at hl 1 rfl) ?_
            refine lv_iload_n hx hb dX4_readCondition_39 rfl (lv_at hl 2 rfl) ?_
            refine lv_iconst (v := 0) hx hb dX4_readCondition_40 (by decide) ?_
            obtain ⟨hPc, hDc, hFc⟩ := kCut (wc := [(jR, .inr (4, [.ref jT, .ref r1, .ref r2, .int (nI (xwr)), .int (nI (xfi)), .int x_17, .ref q6, .ref q7])), (r1, .inl (c1, 120, .inl xs1)), (r2, .inl (c2, 124, .inl xs2)), (jT, .inr (8, [.ref t0, .int (nI (kt))])), (t0, .inl (cC, 120, .inl gT))]) hP hD hS hA [0, 1, 2, 3, 4] rfl (by decide) rfl
            have hKc := hK.sb (tys2 := [(c1, .int), (c2, .int), (cC, .char)]) [0, 1, 2] rfl
            refine va_calli (va_runV (As := [.int 0, .int 0]) (rest := []) ⟨hx, hb, hml, hown, hts⟩ (s_truth4_0_0 l dC dI jT t0 cC gT kt (by omega) (by omega) jR r1 r2 c1 c2 xs1 xs2 xwr xfi x_17 q6 q7 (by omega) (by omega) b6 n6 g6 (by omega) b7 n7 g7 (by omega) H.size) (cwV 2 hts (kG (List.forall_mem_cons.mpr ⟨(List.mem_cons_of_mem _ (List.mem_append_left _ (List.mem_of_getElem? (i := 42) rfl))), (List.forall_mem_cons.mpr ⟨(List.mem_cons_of_mem _ (List.mem_append_left _ (List.mem_of_getElem? (i := 41) rfl))), (List.forall_mem_cons.mpr ⟨(List.mem_cons_of_mem _ (List.mem_append_left _ (List.mem_of_getElem? (i := 40) rfl))), (List.forall_mem_cons.mpr ⟨(List.mem_cons_of_mem _ (List.mem_append_left _ (List.mem_of_getElem? (i := 0) rfl))), (fun _ h => absurd h List.not_mem_nil)⟩)⟩)⟩)⟩) (kGV _ _ _ _) (kFam (List.mem_cons_of_mem _ (List.mem_append_left _ (List.mem_of_getElem? (i := 39) rfl)))) gw_s_truth4_0_0) rfl rfl rfl ⟨rfl, hd_X4_readTruth⟩ ⟨(Nat.le_of_ble_eq_true rfl), (Nat.le_of_ble_eq_true rfl)⟩) (kW_V kS2_blind (kS2_give hX hS hFc) (va_recv hKc hPc (ci := 4) (q0 := 0) rfl rfl) hPc hKc hDc) rfl rfl hl.1 rfl (lv_room (Nat.le_of_ble_eq_true rfl)) dX4_readCondition_41 ⟨(Nat.le_of_ble_eq_true rfl), (Nat.le_of_ble_eq_true rfl)⟩) hS (fun q _ h => hFc q h) hFc (fun r_18 u t H1 locs ht hvm hw hB hz1 hk1 hS => ?_)
            obtain ⟨S1_19, S2_20, Pl_21, Wr_22, Fi_23⟩ := u
            obtain ⟨hP1, hK1, hD1⟩ := hB
            rw [ht] at hP1
            try dsimp only at hw
            obtain ⟨hP, hD⟩ : kPD dC dI A [(jR, .inr (4, [.ref jT, .ref r1, .ref r2, .int (nI (Wr_22)), .int (nI (Fi_23)), .int Pl_21, .ref q6, .ref q7])), (r1, .inl (c1, 120, .inl S1_19)), (r2, .inl (c2, 124, .inl S2_20)), (jT, .inr (8, [.ref t0, .int (nI (kt))])), (t0, .inl (cC, 120, .inl gT))] H1 := kJoinI hP hD [0, 1, 2, 3, 4] rfl hk1 hFc hP1 hD1 rfl [some 0, some 1, some 2, some 3, some 4] rfl rfl
            generalize H1 = H at hP hS ⊢
            have hw_24 := hw
            refine lv_if_eq (tgt := 57) hx hb dX4_readCondition_44 (by decide) (fun c_25 => ?_) (fun c_25 => ?_)
            · refine lv_iconst (v := 0) hx hb dX4_readCondition_57 (by decide) ?_
              have hP9 := hP
              have hD9 := hD
              have hK9 := hK
              rw [hQ]
              exact W.zret (v := 0) hx hb hr rfl (fun t ht hW => ⟨⟨0, (S1_19, S2_20, Pl_21, Wr_22, Fi_23), rfl, ⟨(Or.inl rfl), by omega, by omega⟩,  by rw [ht]; exact hP9, va_K.moved hW.alike hK9, hD9⟩, hS.F ht⟩) hS.2.2 dX4_readCondition_58
            · refine lv_aload_n hx hb dX4_readCondition_47 rfl (lv_at hl 1 rfl) ?_
              refine lv_sipush (v := 20124) hx hb dX4_readCondition_48 (by decide) ?_
              obtain ⟨hPc, hDc, hFc⟩ := kCut (wc := [(jR, .inr (4, [.ref jT, .ref r1, .ref r2, .int (nI (Wr_22)), .int (nI (Fi_23)), .int Pl_21, .ref q6, .ref q7])), (r1, .inl (c1, 120, .inl S1_19)), (r2, .inl (c2, 124, .inl S2_20)), (jT, .inr (8, [.ref t0, .int (nI (kt))])), (t0, .inl (cC, 120, .inl gT))]) hP hD hS hA [0, 1, 2, 3, 4] rfl (by decide) rfl
              have hKc := hK.sb (tys2 := [(c1, .int), (c2, .int), (cC, .char)]) [0, 1, 2] rfl
              refine va_calli (va_runV (As := [.int 20124]) (rest := []) ⟨hx, hb, hml, hown, hts⟩ (s_write4 l dC dI jT t0 cC gT kt (by omega) (by omega) jR r1 r2 c1 c2 S1_19 S2_20 Wr_22 Fi_23 Pl_21 q6 q7 (by omega) (by omega) 20124 H.size) (cwV 1 hts (kG (List.forall_mem_cons.mpr ⟨(List.mem_cons_of_mem _ (List.mem_append_left _ (List.mem_of_getElem? (i := 14) rfl))), (List.forall_mem_cons.mpr ⟨(List.mem_cons_of_mem _ (List.mem_append_left _ (List.mem_of_getElem? (i := 13) rfl))), (List.forall_mem_cons.mpr ⟨(List.mem_cons_of_mem _ (List.mem_append_left _ (List.mem_of_getElem? (i := 12) rfl))), (List.forall_mem_cons.mpr ⟨(List.mem_cons_of_mem _ (List.mem_append_left _ (List.mem_of_getElem? (i := 0) rfl))), (fun _ h => absurd h List.not_mem_nil)⟩)⟩)⟩)⟩) (kGV _ _ _ _) (fun _ h => List.mem_cons_of_mem _ (List.mem_append_right _ (List.mem_append_right _ (List.mem_append_right _ (List.mem_append_right _ (List.mem_append_right _ (List.mem_append_left _ h))))))) gw_s_write4) rfl rfl rfl ⟨rfl, hd_X4_write⟩ ⟨(Nat.le_of_ble_eq_true rfl), (Nat.le_of_ble_eq_true rfl)⟩) (kW_V kT_blind kT_give (va_recv hKc hPc (ci := 4) (q0 := 0) rfl rfl) hPc hKc hDc) rfl rfl hl.1 rfl (lv_room (Nat.le_of_ble_eq_true rfl)) dX4_readCondition_51 ⟨(Nat.le_of_ble_eq_true rfl), (Nat.le_of_ble_eq_true rfl)⟩) hS (fun q _ h => hFc q h) hFc (fun r_26 u t H1 locs ht hvm hw hB hz1 hk1 hS => ?_)
              obtain ⟨S1_27, S2_28, Pl_29, Wr_30, Fi_31⟩ := u
              obtain ⟨hP1, hK1, hD1⟩ := hB
              rw [ht] at hP1
              try dsimp only at hw
              obtain ⟨hP, hD⟩ : kPD dC dI A [(jR, .inr (4, [.ref jT, .ref r1, .ref r2, .int (nI (Wr_30)), .int (nI (Fi_31)), .int Pl_29, .ref q6, .ref q7])), (r1, .inl (c1, 120, .inl S1_27)), (r2, .inl (c2, 124, .inl S2_28)), (jT, .inr (8, [.ref t0, .int (nI (kt))])), (t0, .inl (cC, 120, .inl gT))] H1 := kJoinI hP hD [0, 1, 2, 3, 4] rfl hk1 hFc hP1 hD1 rfl [some 0, some 1, some 2, some 3, some 4] rfl rfl
              generalize H1 = H at hP hS ⊢
              have hw_32 := hw
              refine lv_if_ne (tgt := 59) hx hb dX4_readCondition_54 (by decide) (fun c_33 => ?_) (fun c_33 => ?_)
              · refine lv_iinc (v := nI (i + 1)) hx hb dX4_readCondition_59 hl (k := 0) rfl (kInc _ 1) (by decide) (kTo [(3, .int (nI (i + 1))), (0, .ref jR), (1, .int 0), (2, .int 0)]) (fun ls hl => ?_)
                refine lv_goto (tgt := 13) hx hb dX4_readCondition_62 (by decide) ?_
                exact ih_k_9 (i + 1) S1_27 S2_28 Pl_29 Wr_30 Fi_31 (by omega) (by omega) (by omega) _ _ hP hD hS ls (lv_sub hl [0, 1, 2, 3] rfl) (by omega)
              · refine lv_iconst (v := 0) hx hb dX4_readCondition_57 (by decide) ?_
                have hP9 := hP
                have hD9 := hD
                have hK9 := hK
                rw [hQ]
                exact W.zret (v := 0) hx hb hr rfl (fun t ht hW => ⟨⟨0, (S1_27, S2_28, Pl_29, Wr_30, Fi_31), rfl, ⟨(Or.inl rfl), by omega, by omega⟩,  by rw [ht]; exact hP9, va_K.moved hW.alike hK9, hD9⟩, hS.F ht⟩) hS.2.2 dX4_readCondition_58
    exact lp_k_9 (120 - 0 + 1) 0 S1_2 S2_3 Pl_4 Wr_5 Fi_6 (by omega) (by omega) (by omega) _ _ hP hD hS ls (lv_sub hl [0, 1, 2, 3] rfl) (by omega)
  · refine lv_iconst (v := 0) hx hb dX4_readCondition_9 (by decide) ?_
    have hP9 := hP
    have hD9 := hD
    have hK9 := hK
    rw [hQ]
    exact W.zret (v := 0) hx hb hr rfl (fun t ht hW => ⟨⟨0, (S1_2, S2_3, Pl_4, Wr_5, Fi_6), rfl, ⟨(Or.inl rfl), by omega, by omega⟩,  by rw [ht]; exact hP9, va_K.moved hW.alike hK9, hD9⟩, hS.F ht⟩) hS.2.2 dX4_readCondition_10

def w_s_cond4_0_1 : List Cond := .code yX4_readCondition cX4_readCondition 4 (some .boolean) :: wf_rd
theorem gw_s_cond4_0_1 : (w_s_cond4_0_1).all goodWord = true := kFamG rfl gf_rd
set_option maxHeartbeats 4000000 in
set_option maxRecDepth 100000 in
theorem s_cond4_0_1 (l : Launch) (dC : Nat → ClassId) (dI : Nat → Nat → Nat) (jT : Nat) (t0 : Nat) (cC : ClassId) (gT : Nat → Int32) (kt : Nat) (hkt : kt ≤ 120) (hgT : ∀ j : Nat, narrow .char (.int (gT j)) = .int (gT j)) (jR : Nat) (r1 : Nat) (r2 : Nat) (c1 : ClassId) (c2 : ClassId) (s1 : Nat → Int32) (s2 : Nat → Int32) (wr : Nat) (fi : Nat) (pl : Int32) (q6 : Nat) (q7 : Nat) (hwr : wr ≤ 120) (hfi : fi ≤ 124) (b6 : Nat) (n6 : Nat) (g6 : Nat → Int32) (hn6 : n6 ≤ 8) (b7 : Nat) (n7 : Nat) (g7 : Nat → Int32) (hn7 : n7 ≤ 8) (sz : Nat) : Met l yX4_readCondition w_s_cond4_0_1 ({ frames := 47, cells := 0, slots := 0, locals := 2820 }) (kW dC dI [.ref jR, .int 0, .int 1] [(jR, .inr (4, [.ref jT, .ref r1, .ref r2, .int (nI (wr)), .int (nI (fi)), .int pl, .ref q6, .ref q7])), (r1, .inl (c1, 120, .inl s1)), (r2, .inl (c2, 124, .inl s2)), (jT, .inr (8, [.ref t0, .int (nI (kt))])), (t0, .inl (cC, 120, .inl gT))] [(c1, .int), (c2, .int), (cC, .char)] (kS2 q6 b6 n6 g6 q7 b7 n7 g7 (va_A [(jR, .inr (4, [.ref jT, .ref r1, .ref r2, .int (nI (wr)), .int (nI (fi)), .int pl, .ref q6, .ref q7])), (r1, .inl (c1, 120, .inl s1)), (r2, .inl (c2, 124, .inl s2)), (jT, .inr (8, [.ref t0, .int (nI (kt))])), (t0, .inl (cC, 120, .inl gT))] sz)) sz) (va_Qi (fun (r : Int32) (u : (Nat → Int32) × (Nat → Int32) × Int32 × Nat × Nat) => match u with | (S1, S2, Pl, Wr, Fi) => ((r = 0 ∨ r = 1) ∧ Wr ≤ 120 ∧ Fi ≤ 124)) (fun (u : (Nat → Int32) × (Nat → Int32) × Int32 × Nat × Nat) => match u with | (S1, S2, Pl, Wr, Fi) => fun t : State => kB dC dI [(jR, .inr (4, [.ref jT, .ref r1, .ref r2, .int (nI (Wr)), .int (nI (Fi)), .int Pl, .ref q6, .ref q7])), (r1, .inl (c1, 120, .inl S1)), (r2, .inl (c2, 124, .inl S2)), (jT, .inr (8, [.ref t0, .int (nI (kt))])), (t0, .inl (cC, 120, .inl gT))] [(c1, .int), (c2, .int), (cC, .char)] (va_A [(jR, .inr (4, [.ref jT, .ref r1, .ref r2, .int (nI (wr)), .int (nI (fi)), .int pl, .ref q6, .ref q7])), (r1, .inl (c1, 120, .inl s1)), (r2, .inl (c2, 124, .inl s2)), (jT, .inr (8, [.ref t0, .int (nI (kt))])), (t0, .inl (cC, 120, .inl gT))] sz) t) (va_A [(jR, .inr (4, [.ref jT, .ref r1, .ref r2, .int (nI (wr)), .int (nI (fi)), .int pl, .ref q6, .ref q7])), (r1, .inl (c1, 120, .inl s1)), (r2, .inl (c2, 124, .inl s2)), (jT, .inr (8, [.ref t0, .int (nI (kt))])), (t0, .inl (cC, 120, .inl gT))] sz)) 0 0 (va_A [(jR, .inr (4, [.ref jT, .ref r1, .ref r2, .int (nI (wr)), .int (nI (fi)), .int pl, .ref q6, .ref q7])), (r1, .inl (c1, 120, .inl s1)), (r2, .inl (c2, 124, .inl s2)), (jT, .inr (8, [.ref t0, .int (nI (kt))])), (t0, .inl (cC, 120, .inl gT))] sz) := by
  refine Met.ofW (cc := cX4_readCondition) (maxL := 4) (ret := (some .boolean)) (by decide) rfl ?_
  intro p e s m args below meth c s₁ B hml hv
  obtain ⟨rfl, hsz, hP, hK, hD0, hX⟩ := hv
  have hx := B.exec
  have hb := B.bytes
  have hr := B.returns
  have hts := atoms_spec (ws := w_s_cond4_0_1) B.pre
  have hown : s.vm.findClass RX4 = some m.cls := findClass_of_methodNamed B.named
  have hlocks := B.notSynchronized
  subst hsz
  have hD := hD0.self (sz := s.heap.size)
  generalize hAe : va_A [(jR, .inr (4, [.ref jT, .ref r1, .ref r2, .int (nI (wr)), .int (nI (fi)), .int pl, .ref q6, .ref q7])), (r1, .inl (c1, 120, .inl s1)), (r2, .inl (c2, 124, .inl s2)), (jT, .inr (8, [.ref t0, .int (nI (kt))])), (t0, .inl (cC, 120, .inl gT))] s.heap.size = A at hD hX ⊢
  have hA : ∀ q : Nat, s.heap.size ≤ q → A q := fun q h => by rw [← hAe]; exact Or.inr h
  have hS : va_S A s.heap s.heap [] := va_S.rf
  have hP : va_P (dC, dI) vwCl [(jR, .inr (4, [.ref jT, .ref r1, .ref r2, .int (nI (wr)), .int (nI (fi)), .int pl, .ref q6, .ref q7])), (r1, .inl (c1, 120, .inl s1)), (r2, .inl (c2, 124, .inl s2)), (jT, .inr (8, [.ref t0, .int (nI (kt))])), (t0, .inl (cC, 120, .inl gT))] s.heap := hP
  have hl := lv_entry ([.ref jR, .int 0, .int 1]) (n := 4) (Nat.le_of_ble_eq_true rfl)
  rw [lg_entry_eq]
  generalize (lg_sl ([.ref jR, .int 0, .int 1]) ++ List.replicate (4 - (lg_sl ([.ref jR, .int 0, .int 1])).length) Slot.unset).toArray = ls at hl ⊢
  have hl : lv_has ls 4 [(0, .ref jR), (1, .int 0), (2, .int 1)] := hl
  refine kQ (fun Q hQ => ?_)
  refine lv_aload_n hx hb dX4_readCondition_0 rfl (lv_at hl 0 rfl) ?_
  refine lv_iload_n hx hb dX4_readCondition_1 rfl (lv_at hl 1 rfl) ?_
  refine lv_iload_n hx hb dX4_readCondition_2 rfl (lv_at hl 2 rfl) ?_
  obtain ⟨hPc, hDc, hFc⟩ := kCut (wc := [(jR, .inr (4, [.ref jT, .ref r1, .ref r2, .int (nI (wr)), .int (nI (fi)), .int pl, .ref q6, .ref q7])), (r1, .inl (c1, 120, .inl s1)), (r2, .inl (c2, 124, .inl s2)), (jT, .inr (8, [.ref t0, .int (nI (kt))])), (t0, .inl (cC, 120, .inl gT))]) hP hD hS hA [0, 1, 2, 3, 4] rfl (by decide) rfl
  have hKc := hK.sb (tys2 := [(c1, .int), (c2, .int), (cC, .char)]) [0, 1, 2] rfl
  refine va_calli (va_runV (As := [.int 0, .int 1]) (rest := []) ⟨hx, hb, hml, hown, hts⟩ (s_truth4_0_1 l dC dI jT t0 cC gT kt (by omega) (by omega) jR r1 r2 c1 c2 s1 s2 wr fi pl q6 q7 (by omega) (by omega) b6 n6 g6 (by omega) b7 n7 g7 (by omega) s.heap.size) (cwV 2 hts (kG (List.forall_mem_cons.mpr ⟨(List.mem_cons_of_mem _ (List.mem_append_left _ (List.mem_of_getElem? (i := 42) rfl))), (List.forall_mem_cons.mpr ⟨(List.mem_cons_of_mem _ (List.mem_append_left _ (List.mem_of_getElem? (i := 41) rfl))), (List.forall_mem_cons.mpr ⟨(List.mem_cons_of_mem _ (List.mem_append_left _ (List.mem_of_getElem? (i := 40) rfl))), (List.forall_mem_cons.mpr ⟨(List.mem_cons_of_mem _ (List.mem_append_left _ (List.mem_of_getElem? (i := 0) rfl))), (fun _ h => absurd h List.not_mem_nil)⟩)⟩)⟩)⟩) (kGV _ _ _ _) (kFam (List.mem_cons_of_mem _ (List.mem_append_left _ (List.mem_of_getElem? (i := 39) rfl)))) gw_s_truth4_0_1) rfl rfl rfl ⟨rfl, hd_X4_readTruth⟩ ⟨(Nat.le_of_ble_eq_true rfl), (Nat.le_of_ble_eq_true rfl)⟩) (kW_V kS2_blind (kS2_give hX hS hFc) (va_recv hKc hPc (ci := 4) (q0 := 0) rfl rfl) hPc hKc hDc) rfl rfl hl.1 rfl (lv_room (Nat.le_of_ble_eq_true rfl)) dX4_readCondition_3 ⟨(Nat.le_of_ble_eq_true rfl), (Nat.le_of_ble_eq_true rfl)⟩) hS (fun q _ h => hFc q h) hFc (fun r_1 u t H1 locs ht hvm hw hB hz1 hk1 hS => ?_)
  obtain ⟨S1_2, S2_3, Pl_4, Wr_5, Fi_6⟩ := u
  obtain ⟨hP1, hK1, hD1⟩ := hB
  rw [ht] at hP1
  try dsimp only at hw
  obtain ⟨hP, hD⟩ : kPD dC dI A [(jR, .inr (4, [.ref jT, .ref r1, .ref r2, .int (nI (Wr_5)), .int (nI (Fi_6)), .int Pl_4, .ref q6, .ref q7])), (r1, .inl (c1, 120, .inl S1_2)), (r2, .inl (c2, 124, .inl S2_3)), (jT, .inr (8, [.ref t0, .int (nI (kt))])), (t0, .inl (cC, 120, .inl gT))] H1 := kJoinI hP hD [0, 1, 2, 3, 4] rfl hk1 hFc hP1 hD1 rfl [some 0, some 1, some 2, some 3, some 4] rfl rfl
  generalize H1 = H at hP hS ⊢
  have hw_7 := hw
  refine lv_if_ne (tgt := 11) hx hb dX4_readCondition_6 (by decide) (fun c_8 => ?_) (fun c_8 => ?_)
  · refine lv_iconst (v := 0) hx hb dX4_readCondition_11 (by decide) ?_
    refine lv_istore_n hx hb dX4_readCondition_12 rfl hl (by decide) (kTo [(3, .int 0), (0, .ref jR), (1, .int 0), (2, .int 1)]) (fun ls hl => ?_)
    have lp_k_9 : ∀ (n9 : Nat) (i : Nat) (xs1 : Nat → Int32) (xs2 : Nat → Int32) (xpl : Int32) (xwr : Nat) (xfi : Nat) (ivk_9_0 : i ≤ 120) (ivk_9_1 : xwr ≤ 120) (ivk_9_2 : xfi ≤ 124) (H : Heap) (locs : List Loc) (_ : va_P (dC, dI) vwCl [(jR, .inr (4, [.ref jT, .ref r1, .ref r2, .int (nI (xwr)), .int (nI (xfi)), .int xpl, .ref q6, .ref q7])), (r1, .inl (c1, 120, .inl xs1)), (r2, .inl (c2, 124, .inl xs2)), (jT, .inr (8, [.ref t0, .int (nI (kt))])), (t0, .inl (cC, 120, .inl gT))] H) (_ : va_D A [(jR, .inr (4, [.ref jT, .ref r1, .ref r2, .int (nI (xwr)), .int (nI (xfi)), .int xpl, .ref q6, .ref q7])), (r1, .inl (c1, 120, .inl xs1)), (r2, .inl (c2, 124, .inl xs2)), (jT, .inr (8, [.ref t0, .int (nI (kt))])), (t0, .inl (cC, 120, .inl gT))]) (_ : va_S A s.heap H locs) (ls : Array Slot) (_ : lv_has ls 4 [(3, .int (nI (i))), (0, .ref jR), (1, .int 0), (2, .int 1)]) (_ : 120 - i < n9), W p l e (headSpec w_s_cond4_0_1 ({ frames := 47, cells := 0, slots := 0, locals := 2820 })).room s m (#[.ref jR, .int 0, .int 1] : Array Value) below meth c H locs 0 0 Q (F0 m 13 ls []) := by
      intro n9
      induction n9 with
      | zero => intro i xs1 xs2 xpl xwr xfi ivk_9_0 ivk_9_1 ivk_9_2 H locs hP hD hS ls hl hm9; exact absurd hm9 (Nat.not_lt_zero _)
      | succ n9 ih_k_9 =>
        intro i xs1 xs2 xpl xwr xfi ivk_9_0 ivk_9_1 ivk_9_2 H locs hP hD hS ls hl hm9
        refine lv_iload_n hx hb dX4_readCondition_13 rfl (lv_at hl 0 rfl) ?_
        refine lv_bipush (v := 120) hx hb dX4_readCondition_14 (by decide) ?_
        refine lv_icmp_ge (tgt := 65) hx hb dX4_readCondition_16 (by decide) (fun c_10 => ?_) (fun c_10 => ?_)
        · have hn_11 := kle (a := 120) (b := i) (by omega) (by omega) c_10
          refine lv_iconst (v := 1) hx hb dX4_readCondition_65 (by decide) ?_
          have hP9 := hP
          have hD9 := hD
          have hK9 := hK
          rw [hQ]
          exact W.zret (v := 1) hx hb hr rfl (fun t ht hW => ⟨⟨1, (xs1, xs2, xpl, xwr, xfi), rfl, ⟨(Or.inr rfl), by omega, by omega⟩,  by rw [ht]; exact hP9, va_K.moved hW.alike hK9, hD9⟩, hS.F ht⟩) hS.2.2 dX4_readCondition_66
        · have hn_12 := knle (a := 120) (b := i) (by omega) (by omega) c_10
          refine lv_aload_n hx hb dX4_readCondition_19 rfl (lv_at hl 1 rfl) ?_
          obtain ⟨hPc, hDc, hFc⟩ := kCut (wc := [(jR, .inr (4, [.ref jT, .ref r1, .ref r2, .int (nI (xwr)), .int (nI (xfi)), .int xpl, .ref q6, .ref q7])), (r1, .inl (c1, 120, .inl xs1)), (r2, .inl (c2, 124, .inl xs2)), (jT, .inr (8, [.ref t0, .int (nI (kt))])), (t0, .inl (cC, 120, .inl gT))]) hP hD hS hA [0, 1, 2, 3, 4] rfl (by decide) rfl
          have hKc := hK.sb (tys2 := [(c1, .int), (c2, .int), (cC, .char)]) [0, 1, 2] rfl
          refine va_calli (va_runV (As := []) (rest := []) ⟨hx, hb, hml, hown, hts⟩ (s_look4 l dC dI jT t0 cC gT kt (by omega) (by omega) jR r1 r2 c1 c2 xs1 xs2 xwr xfi xpl q6 q7 (by omega) (by omega) H.size) (cwV 0 hts (kG (List.forall_mem_cons.mpr ⟨(List.mem_cons_of_mem _ (List.mem_append_left _ (List.mem_of_getElem? (i := 3) rfl))), (List.forall_mem_cons.mpr ⟨(List.mem_cons_of_mem _ (List.mem_append_left _ (List.mem_of_getElem? (i := 2) rfl))), (List.forall_mem_cons.mpr ⟨(List.mem_cons_of_mem _ (List.mem_append_left _ (List.mem_of_getElem? (i := 1) rfl))), (List.forall_mem_cons.mpr ⟨(List.mem_cons_of_mem _ (List.mem_append_left _ (List.mem_of_getElem? (i := 0) rfl))), (fun _ h => absurd h List.not_mem_nil)⟩)⟩)⟩)⟩) (kGV _ _ _ _) (fun _ h => List.mem_cons_of_mem _ (List.mem_append_right _ (List.mem_append_left _ h))) gw_s_look4) rfl rfl rfl ⟨rfl, hd_X4_look⟩ ⟨(Nat.le_of_ble_eq_true rfl), (Nat.le_of_ble_eq_true rfl)⟩) (kW_V kT_blind kT_give (va_recv hKc hPc (ci := 4) (q0 := 0) rfl rfl) hPc hKc hDc) rfl rfl hl.1 rfl (lv_room (Nat.le_of_ble_eq_true rfl)) dX4_readCondition_20 ⟨(Nat.le_of_ble_eq_true rfl), (Nat.le_of_ble_eq_true rfl)⟩) hS (fun q _ h => hFc q h) hFc (fun r_13 u t H1 locs ht hvm hw hB hz1 hk1 hS => ?_)
          obtain ⟨Pl_14, rfl⟩ : ∃ z, z = u := ⟨_, rfl⟩
          obtain ⟨hP1, hK1, hD1⟩ := hB
          rw [ht] at hP1
          try dsimp only at hw
          obtain ⟨hP, hD⟩ : kPD dC dI A [(jR, .inr (4, [.ref jT, .ref r1, .ref r2, .int (nI (xwr)), .int (nI (xfi)), .int Pl_14, .ref q6, .ref q7])), (r1, .inl (c1, 120, .inl xs1)), (r2, .inl (c2, 124, .inl xs2)), (jT, .inr (8, [.ref t0, .int (nI (kt))])), (t0, .inl (cC, 120, .inl gT))] H1 := kJoinI hP hD [0, 1, 2, 3, 4] rfl hk1 hFc hP1 hD1 rfl [some 0, some 1, some 2, some 3, some 4] rfl rfl
          generalize H1 = H at hP hS ⊢
          have hw_15 := hw
          refine lv_bipush (v := 124) hx hb dX4_readCondition_23 (by decide) ?_
          refine lv_icmp_ne (tgt := 65) hx hb dX4_readCondition_25 (by decide) (fun c_16 => ?_) (fun c_16 => ?_)
          · refine lv_iconst (v := 1) hx hb dX4_readCondition_65 (by decide) ?_
            have hP9 := hP
            have hD9 := hD
            have hK9 := hK
            rw [hQ]
            exact W.zret (v := 1) hx hb hr rfl (fun t ht hW => ⟨⟨1, (xs1, xs2, Pl_14, xwr, xfi), rfl, ⟨(Or.inr rfl), by omega, by omega⟩,  by rw [ht]; exact hP9, va_K.moved hW.alike hK9, hD9⟩, hS.F ht⟩) hS.2.2 dX4_readCondition_66
          · refine lv_aload_n hx hb dX4_readCondition_28 rfl (lv_at hl 1 rfl) ?_
            refine lv_dup hx hb dX4_readCondition_29 rfl ?_
            refine va_get (D := (dC, dI)) (ci := 4) (v := .int Pl_14) (C := RX4) (T := TX4) (N := 8) hx hb hts (fun _ h => List.mem_cons_of_mem _ (List.mem_append_right _ (List.mem_append_right _ (List.mem_append_right _ (List.mem_append_left _ h))))) hown hK hP 0 rfl rfl 5 (by decide) (hts (.fieldLink RX4 25 "NotEnded$Reader" "place" "I") (List.mem_cons_of_mem _ (List.mem_append_left _ (List.mem_of_getElem? (i := 11) rfl)))) (fun _ h9 => h9) rfl dX4_readCondition_30 ?_
            refine lv_iconst (v := 1) hx hb dX4_readCondition_33 (by decide) ?_
            refine lv_iadd hx hb dX4_readCondition_34 ?_
            refine lv_topi (fun x_17 ex_17 => ?_)
            refine va_put (D := (dC, dI)) (ci := 4) (v := .int x_17) (ty := tyX4 5) (C := RX4) (T := TX4) (N := 8) hx hb hts (fun _ h => List.mem_cons_of_mem _ (List.mem_append_right _ (List.mem_append_right _ (List.mem_append_right _ (List.mem_append_left _ h))))) tyX4 tyX4_ok nmX4 hown hK hP hD hS 0 rfl rfl 5 (by decide) (hts (.fieldLink RX4 25 "NotEnded$Reader" "place" "I") (List.mem_cons_of_mem _ (List.mem_append_left _ (List.mem_of_getElem? (i := 11) rfl)))) (fun _ h9 => h9) rfl (tyX4_ok 5 (by decide)) rfl rfl (Nat.le_of_ble_eq_true rfl) dX4_readCondition_35 (fun H locs hP hD hS => ?_)
            obtain ⟨hP, hD⟩ : kPD dC dI A [(jR, .inr (4, [.ref jT, .ref r1, .ref r2, .int (nI (xwr)), .int (nI (xfi)), .int x_17, .ref q6, .ref q7])), (r1, .inl (c1, 120, .inl xs1)), (r2, .inl (c2, 124, .inl xs2)), (jT, .inr (8, [.ref t0, .int (nI (kt))])), (t0, .inl (cC, 120, .inl gT))] H := ⟨hP, hD⟩
            refine lv_aload_n hx hb dX4_readCondition_38 rfl (lv_at hl 1 rfl) ?_
            refine lv_iload_n hx hb dX4_readCondition_39 rfl (lv_at hl 2 rfl) ?_
            refine lv_iconst (v := 0) hx hb dX4_readCondition_40 (by decide) ?_
            obtain ⟨hPc, hDc, hFc⟩ := kCut (wc := [(jR, .inr (4, [.ref jT, .ref r1, .ref r2, .int (nI (xwr)), .int (nI (xfi)), .int x_17, .ref q6, .ref q7])), (r1, .inl (c1, 120, .inl xs1)), (r2, .inl (c2, 124, .inl xs2)), (jT, .inr (8, [.ref t0, .int (nI (kt))])), (t0, .inl (cC, 120, .inl gT))]) hP hD hS hA [0, 1, 2, 3, 4] rfl (by decide) rfl
            have hKc := hK.sb (tys2 := [(c1, .int), (c2, .int), (cC, .char)]) [0, 1, 2] rfl
            refine va_calli (va_runV (As := [.int 0, .int 0]) (rest := []) ⟨hx, hb, hml, hown, hts⟩ (s_truth4_0_0 l dC dI jT t0 cC gT kt (by omega) (by omega) jR r1 r2 c1 c2 xs1 xs2 xwr xfi x_17 q6 q7 (by omega) (by omega) b6 n6 g6 (by omega) b7 n7 g7 (by omega) H.size) (cwV 2 hts (kG (List.forall_mem_cons.mpr ⟨(List.mem_cons_of_mem _ (List.mem_append_left _ (List.mem_of_getElem? (i := 42) rfl))), (List.forall_mem_cons.mpr ⟨(List.mem_cons_of_mem _ (List.mem_append_left _ (List.mem_of_getElem? (i := 41) rfl))), (List.forall_mem_cons.mpr ⟨(List.mem_cons_of_mem _ (List.mem_append_left _ (List.mem_of_getElem? (i := 40) rfl))), (List.forall_mem_cons.mpr ⟨(List.mem_cons_of_mem _ (List.mem_append_left _ (List.mem_of_getElem? (i := 0) rfl))), (fun _ h => absurd h List.not_mem_nil)⟩)⟩)⟩)⟩) (kGV _ _ _ _) (kFam (List.mem_cons_of_mem _ (List.mem_append_left _ (List.mem_of_getElem? (i := 39) rfl)))) gw_s_truth4_0_0) rfl rfl rfl ⟨rfl, hd_X4_readTruth⟩ ⟨(Nat.le_of_ble_eq_true rfl), (Nat.le_of_ble_eq_true rfl)⟩) (kW_V kS2_blind (kS2_give hX hS hFc) (va_recv hKc hPc (ci := 4) (q0 := 0) rfl rfl) hPc hKc hDc) rfl rfl hl.1 rfl (lv_room (Nat.le_of_ble_eq_true rfl)) dX4_readCondition_41 ⟨(Nat.le_of_ble_eq_true rfl), (Nat.le_of_ble_eq_true rfl)⟩) hS (fun q _ h => hFc q h) hFc (fun r_18 u t H1 locs ht hvm hw hB hz1 hk1 hS => ?_)
            obtain ⟨S1_19, S2_20, Pl_21, Wr_22, Fi_23⟩ := u
            obtain ⟨hP1, hK1, hD1⟩ := hB
            rw [ht] at hP1
            try dsimp only at hw
            obtain ⟨hP, hD⟩ : kPD dC dI A [(jR, .inr (4, [.ref jT, .ref r1, .ref r2, .int (nI (Wr_22)), .int (nI (Fi_23)), .int Pl_21, .ref q6, .ref q7])), (r1, .inl (c1, 120, .inl S1_19)), (r2, .inl (c2, 124, .inl S2_20)), (jT, .inr (8, [.ref t0, .int (nI (kt))])), (t0, .inl (cC, 120, .inl gT))] H1 := kJoinI hP hD [0, 1, 2, 3, 4] rfl hk1 hFc hP1 hD1 rfl [some 0, some 1, some 2, some 3, some 4] rfl rfl
            generalize H1 = H at hP hS ⊢
            have hw_24 := hw
            refine lv_if_eq (tgt := 57) hx hb dX4_readCondition_44 (by decide) (fun c_25 => ?_) (fun c_25 => ?_)
            · refine lv_iconst (v := 0) hx hb dX4_readCondition_57 (by decide) ?_
              have hP9 := hP
              have hD9 := hD
              have hK9 := hK
              rw [hQ]
              exact W.zret (v := 0) hx hb hr rfl (fun t ht hW => ⟨⟨0, (S1_19, S2_20, Pl_21, Wr_22, Fi_23), rfl, ⟨(Or.inl rfl), by omega, by omega⟩,  by rw [ht]; exact hP9, va_K.moved hW.alike hK9, hD9⟩, hS.F ht⟩) hS.2.2 dX4_readCondition_58
            · refine lv_aload_n hx hb dX4_readCondition_47 rfl (lv_at hl 1 rfl) ?_
              refine lv_sipush (v := 20124) hx hb dX4_readCondition_48 (by decide) ?_
              obtain ⟨hPc, hDc, hFc⟩ := kCut (wc := [(jR, .inr (4, [.ref jT, .ref r1, .ref r2, .int (nI (Wr_22)), .int (nI (Fi_23)), .int Pl_21, .ref q6, .ref q7])), (r1, .inl (c1, 120, .inl S1_19)), (r2, .inl (c2, 124, .inl S2_20)), (jT, .inr (8, [.ref t0, .int (nI (kt))])), (t0, .inl (cC, 120, .inl gT))]) hP hD hS hA [0, 1, 2, 3, 4] rfl (by decide) rfl
              have hKc := hK.sb (tys2 := [(c1, .int), (c2, .int), (cC, .char)]) [0, 1, 2] rfl
              refine va_calli (va_runV (As := [.int 20124]) (rest := []) ⟨hx, hb, hml, hown, hts⟩ (s_write4 l dC dI jT t0 cC gT kt (by omega) (by omega) jR r1 r2 c1 c2 S1_19 S2_20 Wr_22 Fi_23 Pl_21 q6 q7 (by omega) (by omega) 20124 H.size) (cwV 1 hts (kG (List.forall_mem_cons.mpr ⟨(List.mem_cons_of_mem _ (List.mem_append_left _ (List.mem_of_getElem? (i := 14) rfl))), (List.forall_mem_cons.mpr ⟨(List.mem_cons_of_mem _ (List.mem_append_left _ (List.mem_of_getElem? (i := 13) rfl))), (List.forall_mem_cons.mpr ⟨(List.mem_cons_of_mem _ (List.mem_append_left _ (List.mem_of_getElem? (i := 12) rfl))), (List.forall_mem_cons.mpr ⟨(List.mem_cons_of_mem _ (List.mem_append_left _ (List.mem_of_getElem? (i := 0) rfl))), (fun _ h => absurd h List.not_mem_nil)⟩)⟩)⟩)⟩) (kGV _ _ _ _) (fun _ h => List.mem_cons_of_mem _ (List.mem_append_right _ (List.mem_append_right _ (List.mem_append_right _ (List.mem_append_right _ (List.mem_append_right _ (List.mem_append_left _ h))))))) gw_s_write4) rfl rfl rfl ⟨rfl, hd_X4_write⟩ ⟨(Nat.le_of_ble_eq_true rfl), (Nat.le_of_ble_eq_true rfl)⟩) (kW_V kT_blind kT_give (va_recv hKc hPc (ci := 4) (q0 := 0) rfl rfl) hPc hKc hDc) rfl rfl hl.1 rfl (lv_room (Nat.le_of_ble_eq_true rfl)) dX4_readCondition_51 ⟨(Nat.le_of_ble_eq_true rfl), (Nat.le_of_ble_eq_true rfl)⟩) hS (fun q _ h => hFc q h) hFc (fun r_26 u t H1 locs ht hvm hw hB hz1 hk1 hS => ?_)
              obtain ⟨S1_27, S2_28, Pl_29, Wr_30, Fi_31⟩ := u
              obtain ⟨hP1, hK1, hD1⟩ := hB
              rw [ht] at hP1
              try dsimp only at hw
              obtain ⟨hP, hD⟩ : kPD dC dI A [(jR, .inr (4, [.ref jT, .ref r1, .ref r2, .int (nI (Wr_30)), .int (nI (Fi_31)), .int Pl_29, .ref q6, .ref q7])), (r1, .inl (c1, 120, .inl S1_27)), (r2, .inl (c2, 124, .inl S2_28)), (jT, .inr (8, [.ref t0, .int (nI (kt))])), (t0, .inl (cC, 120, .inl gT))] H1 := kJoinI hP hD [0, 1, 2, 3, 4] rfl hk1 hFc hP1 hD1 rfl [some 0, some 1, some 2, some 3, some 4] rfl rfl
              generalize H1 = H at hP hS ⊢
              have hw_32 := hw
              refine lv_if_ne (tgt := 59) hx hb dX4_readCondition_54 (by decide) (fun c_33 => ?_) (fun c_33 => ?_)
              · refine lv_iinc (v := nI (i + 1)) hx hb dX4_readCondition_59 hl (k := 0) rfl (kInc _ 1) (by decide) (kTo [(3, .int (nI (i + 1))), (0, .ref jR), (1, .int 0), (2, .int 1)]) (fun ls hl => ?_)
                refine lv_goto (tgt := 13) hx hb dX4_readCondition_62 (by decide) ?_
                exact ih_k_9 (i + 1) S1_27 S2_28 Pl_29 Wr_30 Fi_31 (by omega) (by omega) (by omega) _ _ hP hD hS ls (lv_sub hl [0, 1, 2, 3] rfl) (by omega)
              · refine lv_iconst (v := 0) hx hb dX4_readCondition_57 (by decide) ?_
                have hP9 := hP
                have hD9 := hD
                have hK9 := hK
                rw [hQ]
                exact W.zret (v := 0) hx hb hr rfl (fun t ht hW => ⟨⟨0, (S1_27, S2_28, Pl_29, Wr_30, Fi_31), rfl, ⟨(Or.inl rfl), by omega, by omega⟩,  by rw [ht]; exact hP9, va_K.moved hW.alike hK9, hD9⟩, hS.F ht⟩) hS.2.2 dX4_readCondition_58
    exact lp_k_9 (120 - 0 + 1) 0 S1_2 S2_3 Pl_4 Wr_5 Fi_6 (by omega) (by omega) (by omega) _ _ hP hD hS ls (lv_sub hl [0, 1, 2, 3] rfl) (by omega)
  · refine lv_iconst (v := 0) hx hb dX4_readCondition_9 (by decide) ?_
    have hP9 := hP
    have hD9 := hD
    have hK9 := hK
    rw [hQ]
    exact W.zret (v := 0) hx hb hr rfl (fun t ht hW => ⟨⟨0, (S1_2, S2_3, Pl_4, Wr_5, Fi_6), rfl, ⟨(Or.inl rfl), by omega, by omega⟩,  by rw [ht]; exact hP9, va_K.moved hW.alike hK9, hD9⟩, hS.F ht⟩) hS.2.2 dX4_readCondition_10
