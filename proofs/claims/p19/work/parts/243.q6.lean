def w_s_atom4x_0 : List Cond := .code yX4_readAtom cX4_readAtom 4 (some .boolean) :: wf_rq
theorem gw_s_atom4x_0 : (w_s_atom4x_0).all goodWord = true := kFamG rfl gf_rq
set_option maxHeartbeats 4000000 in
set_option maxRecDepth 100000 in
theorem s_atom4x_0 (l : Launch) (dC : Nat → ClassId) (dI : Nat → Nat → Nat) (jT : Nat) (t0 : Nat) (cC : ClassId) (gT : Nat → Int32) (kt : Nat) (hkt : kt ≤ 120) (hgT : ∀ j : Nat, narrow .char (.int (gT j)) = .int (gT j)) (bt : Nat → Nat) (hbt : ∀ j : Nat, gT j = nI (bt j)) (hb8 : ∀ j : Nat, bt j < 256) (jR : Nat) (r1 : Nat) (r2 : Nat) (c1 : ClassId) (c2 : ClassId) (s1 : Nat → Int32) (s2 : Nat → Int32) (wr : Nat) (fi : Nat) (q6 : Nat) (q7 : Nat) (hwr : wr ≤ 120) (hfi : fi ≤ 124) (pn : Nat) (hpn : pn ≤ kt) (hwp : wr ≤ pn) (b6 : Nat) (n6 : Nat) (g6 : Nat → Int32) (hn6 : n6 ≤ 8) (b7 : Nat) (n7 : Nat) (g7 : Nat → Int32) (hn7 : n7 ≤ 8) (gn6 : ∀ k : Nat, ∃ v : Nat, v < 128 ∧ g6 k = nI v) (hz6 : kIx g6 n6 (nI 0) = n6) (gn7 : ∀ k : Nat, ∃ v : Nat, v < 128 ∧ g7 k = nI v) (hz7 : kIx g7 n7 (nI 0) = n7) (sz : Nat) : Met l yX4_readAtom w_s_atom4x_0 ({ frames := 42, cells := 0, slots := 0, locals := 2520 }) (kW dC dI [.ref jR, .int 0] [(jR, .inr (4, [.ref jT, .ref r1, .ref r2, .int (nI (wr)), .int (nI (fi)), .int (nI (pn)), .ref q6, .ref q7])), (r1, .inl (c1, 120, .inl s1)), (r2, .inl (c2, 124, .inl s2)), (jT, .inr (8, [.ref t0, .int (nI (kt))])), (t0, .inl (cC, 120, .inl gT))] [(c1, .int), (c2, .int), (cC, .char)] (kS2 q6 b6 n6 g6 q7 b7 n7 g7 (va_A [(jR, .inr (4, [.ref jT, .ref r1, .ref r2, .int (nI (wr)), .int (nI (fi)), .int (nI (pn)), .ref q6, .ref q7])), (r1, .inl (c1, 120, .inl s1)), (r2, .inl (c2, 124, .inl s2)), (jT, .inr (8, [.ref t0, .int (nI (kt))])), (t0, .inl (cC, 120, .inl gT))] sz)) sz) (va_Qi (fun (r : Int32) (u : (Nat → Int32) × Nat × Nat × Bool × (List Int32)) => match u with | (S1, Wr, Pn, xo, xl) => (r = kBo xo ∧ kPR (kAtomD bt kt g7 n7 6 pn) pn kt wr s1 xo Pn xl Wr S1 ∧ Wr ≤ 120)) (fun (u : (Nat → Int32) × Nat × Nat × Bool × (List Int32)) => match u with | (S1, Wr, Pn, xo, xl) => fun t : State => kB dC dI [(jR, .inr (4, [.ref jT, .ref r1, .ref r2, .int (nI (Wr)), .int (nI (fi)), .int (nI (Pn)), .ref q6, .ref q7])), (r1, .inl (c1, 120, .inl S1)), (r2, .inl (c2, 124, .inl s2)), (jT, .inr (8, [.ref t0, .int (nI (kt))])), (t0, .inl (cC, 120, .inl gT))] [(c1, .int), (c2, .int), (cC, .char)] (va_A [(jR, .inr (4, [.ref jT, .ref r1, .ref r2, .int (nI (wr)), .int (nI (fi)), .int (nI (pn)), .ref q6, .ref q7])), (r1, .inl (c1, 120, .inl s1)), (r2, .inl (c2, 124, .inl s2)), (jT, .inr (8, [.ref t0, .int (nI (kt))])), (t0, .inl (cC, 120, .inl gT))] sz) t) (va_A [(jR, .inr (4, [.ref jT, .ref r1, .ref r2, .int (nI (wr)), .int (nI (fi)), .int (nI (pn)), .ref q6, .ref q7])), (r1, .inl (c1, 120, .inl s1)), (r2, .inl (c2, 124, .inl s2)), (jT, .inr (8, [.ref t0, .int (nI (kt))])), (t0, .inl (cC, 120, .inl gT))] sz)) 0 0 (va_A [(jR, .inr (4, [.ref jT, .ref r1, .ref r2, .int (nI (wr)), .int (nI (fi)), .int (nI (pn)), .ref q6, .ref q7])), (r1, .inl (c1, 120, .inl s1)), (r2, .inl (c2, 124, .inl s2)), (jT, .inr (8, [.ref t0, .int (nI (kt))])), (t0, .inl (cC, 120, .inl gT))] sz) := by
  refine Met.ofW (cc := cX4_readAtom) (maxL := 4) (ret := (some .boolean)) (by decide) rfl ?_
  intro p e s m args below meth c s₁ B hml hv
  obtain ⟨rfl, hsz, hP, hK, hD0, hX⟩ := hv
  have hx := B.exec
  have hb := B.bytes
  have hr := B.returns
  have hts := atoms_spec (ws := w_s_atom4x_0) B.pre
  have hown : s.vm.findClass RX4 = some m.cls := findClass_of_methodNamed B.named
  have hlocks := B.notSynchronized
  subst hsz
  have hD := hD0.self (sz := s.heap.size)
  generalize hAe : va_A [(jR, .inr (4, [.ref jT, .ref r1, .ref r2, .int (nI (wr)), .int (nI (fi)), .int (nI (pn)), .ref q6, .ref q7])), (r1, .inl (c1, 120, .inl s1)), (r2, .inl (c2, 124, .inl s2)), (jT, .inr (8, [.ref t0, .int (nI (kt))])), (t0, .inl (cC, 120, .inl gT))] s.heap.size = A at hD hX ⊢
  have hA : ∀ q : Nat, s.heap.size ≤ q → A q := fun q h => by rw [← hAe]; exact Or.inr h
  have hS : va_S A s.heap s.heap [] := va_S.rf
  have hP : va_P (dC, dI) vwCl [(jR, .inr (4, [.ref jT, .ref r1, .ref r2, .int (nI (wr)), .int (nI (fi)), .int (nI (pn)), .ref q6, .ref q7])), (r1, .inl (c1, 120, .inl s1)), (r2, .inl (c2, 124, .inl s2)), (jT, .inr (8, [.ref t0, .int (nI (kt))])), (t0, .inl (cC, 120, .inl gT))] s.heap := hP
  have hl := lv_entry ([.ref jR, .int 0]) (n := 4) (Nat.le_of_ble_eq_true rfl)
  rw [lg_entry_eq]
  generalize (lg_sl ([.ref jR, .int 0]) ++ List.replicate (4 - (lg_sl ([.ref jR, .int 0])).length) Slot.unset).toArray = ls at hl ⊢
  have hl : lv_has ls 4 [(0, .ref jR), (1, .int 0)] := hl
  refine kQ (fun Q hQ => ?_)
  refine lv_aload_n hx hb dX4_readAtom_0 rfl (lv_at hl 0 rfl) ?_
  obtain ⟨hPc, hDc, hFc⟩ := kCut (wc := [(jR, .inr (4, [.ref jT, .ref r1, .ref r2, .int (nI (wr)), .int (nI (fi)), .int (nI (pn)), .ref q6, .ref q7])), (r1, .inl (c1, 120, .inl s1)), (r2, .inl (c2, 124, .inl s2)), (jT, .inr (8, [.ref t0, .int (nI (kt))])), (t0, .inl (cC, 120, .inl gT))]) hP hD hS hA [0, 1, 2, 3, 4] rfl (by decide) rfl
  have hKc := hK.sb (tys2 := [(c1, .int), (c2, .int), (cC, .char)]) [0, 1, 2] rfl
  refine va_calli (va_runV (As := []) (rest := []) ⟨hx, hb, hml, hown, hts⟩ (s_look4x l dC dI jT t0 cC gT kt (by omega) hgT bt hbt hb8 jR r1 r2 c1 c2 s1 s2 wr fi q6 q7 (by omega) (by omega) pn (by omega) s.heap.size) (cwV 0 hts (kG (List.forall_mem_cons.mpr ⟨(List.mem_cons_of_mem _ (List.mem_append_left _ (List.mem_of_getElem? (i := 3) rfl))), (List.forall_mem_cons.mpr ⟨(List.mem_cons_of_mem _ (List.mem_append_left _ (List.mem_of_getElem? (i := 2) rfl))), (List.forall_mem_cons.mpr ⟨(List.mem_cons_of_mem _ (List.mem_append_left _ (List.mem_of_getElem? (i := 1) rfl))), (List.forall_mem_cons.mpr ⟨(List.mem_cons_of_mem _ (List.mem_append_left _ (List.mem_of_getElem? (i := 0) rfl))), (fun _ h => absurd h List.not_mem_nil)⟩)⟩)⟩)⟩) (kGV _ _ _ _) (fun _ h => List.mem_cons_of_mem _ (List.mem_append_right _ (List.mem_append_left _ h))) gw_s_look4x) rfl rfl rfl ⟨rfl, hd_X4_look⟩ ⟨(Nat.le_of_ble_eq_true rfl), (Nat.le_of_ble_eq_true rfl)⟩) (kW_V kT_blind kT_give (va_recv hKc hPc (ci := 4) (q0 := 0) rfl rfl) hPc hKc hDc) rfl rfl hl.1 rfl (lv_room (Nat.le_of_ble_eq_true rfl)) dX4_readAtom_1 ⟨(Nat.le_of_ble_eq_true rfl), (Nat.le_of_ble_eq_true rfl)⟩) hS (fun q _ h => hFc q h) hFc (fun r_1 u t H1 locs ht hvm hw hB hz1 hk1 hS => ?_)
  obtain ⟨Pn_2, ch_3⟩ := u
  obtain ⟨hP1, hK1, hD1⟩ := hB
  rw [ht] at hP1
  try dsimp only at hw
  obtain ⟨hP, hD⟩ : kPD dC dI A [(jR, .inr (4, [.ref jT, .ref r1, .ref r2, .int (nI (wr)), .int (nI (fi)), .int (nI (Pn_2)), .ref q6, .ref q7])), (r1, .inl (c1, 120, .inl s1)), (r2, .inl (c2, 124, .inl s2)), (jT, .inr (8, [.ref t0, .int (nI (kt))])), (t0, .inl (cC, 120, .inl gT))] H1 := kJoinI hP hD [0, 1, 2, 3, 4] rfl hk1 hFc hP1 hD1 rfl [some 0, some 1, some 2, some 3, some 4] rfl rfl
  generalize H1 = H at hP hS ⊢
  obtain ⟨rfl, hw_4_0, hw_4_1, hw_4_2, hw_4_3, hw_4_4, hw_4_5, hw_4_6⟩ := hw
  refine lv_istore_n hx hb dX4_readAtom_4 rfl hl (by decide) (kTo [(2, .int (nI (ch_3))), (0, .ref jR), (1, .int 0)]) (fun ls hl => ?_)
  refine lv_iload_n hx hb dX4_readAtom_5 rfl (lv_at hl 0 rfl) ?_
  refine lv_bipush (v := 91) hx hb dX4_readAtom_6 (by decide) ?_
  refine lv_icmp_ne (tgt := 44) hx hb dX4_readAtom_8 (by decide) (fun c_5 => ?_) (fun c_5 => ?_)
  · have hn_6 := kneq (a := ch_3) (b := 91) (by omega) (by omega) c_5
    refine lv_iload_n hx hb dX4_readAtom_44 rfl (lv_at hl 0 rfl) ?_
    have hPc := hP.sb (ws2 := []) [] rfl
    have hKc := hK.sb (tys2 := []) [] rfl
    refine vp_callSi (va_runS (As := [.int (nI (ch_3))]) (rest := []) ⟨hx, hb, hml, hown, hts⟩ (s_digit4x l dC dI ch_3 (by omega)) (va_cwS 1 hts (kG (List.forall_mem_cons.mpr ⟨(List.mem_cons_of_mem _ (List.mem_append_left _ (List.mem_of_getElem? (i := 5) rfl))), (List.forall_mem_cons.mpr ⟨(List.mem_cons_of_mem _ (List.mem_append_left _ (List.mem_of_getElem? (i := 4) rfl))), (List.forall_mem_cons.mpr ⟨(List.mem_cons_of_mem _ (List.mem_append_left _ (List.mem_of_getElem? (i := 0) rfl))), (fun _ h => absurd h List.not_mem_nil)⟩)⟩)⟩) (kGS _ _ _) (fun _ h => List.mem_cons_of_mem _ (List.mem_append_right _ (List.mem_append_right _ (List.mem_append_left _ h)))) gw_s_digit4x) rfl rfl rfl hd_X4_isDigit ⟨(Nat.le_of_ble_eq_true rfl), (Nat.le_of_ble_eq_true rfl)⟩) (kR_S kT_blind kT_give hPc hKc) rfl rfl hl.1 rfl (lv_room (Nat.le_of_ble_eq_true rfl)) dX4_readAtom_45 ⟨(Nat.le_of_ble_eq_true rfl), (Nat.le_of_ble_eq_true rfl)⟩).run (fun r_7 hw => ?_)
    have hw_8 := hw
    refine lv_if_eq (tgt := 56) hx hb dX4_readAtom_48 (by decide) (fun c_9 => ?_) (fun c_9 => ?_)
    · have hdg_10 : ¬ (48 ≤ ch_3 ∧ ch_3 ≤ 57) := fun z9 => hw_8.mpr z9 c_9
      refine lv_aload_n hx hb dX4_readAtom_56 rfl (lv_at hl 1 rfl) ?_
      refine va_get (D := (dC, dI)) (ci := 4) (v := .ref q7) (C := RX4) (T := TX4) (N := 8) hx hb hts (fun _ h => List.mem_cons_of_mem _ (List.mem_append_right _ (List.mem_append_right _ (List.mem_append_right _ (List.mem_append_left _ h))))) hown hK hP 0 rfl rfl 7 (by decide) (hts (.fieldLink RX4 34 "NotEnded$Reader" "letterSigns" "Ljava/lang/String;") (List.mem_cons_of_mem _ (List.mem_append_left _ (List.mem_of_getElem? (i := 6) rfl)))) (fun _ h9 => h9) rfl dX4_readAtom_57 ?_
      refine lv_iload_n hx hb dX4_readAtom_60 rfl (lv_at hl 0 rfl) ?_
      have hPc := hP.sb (ws2 := []) [] rfl
      have hKc := hK.sb (tys2 := []) [] rfl
      refine vp_callSi (va_runV (As := [.int (nI (ch_3))]) (rest := []) ⟨hx, hb, hml, hown, hts⟩ (s_t_ixx l dC dI q7 b7 n7 g7 (by omega) A gn7 ch_3 (by omega)) (cwV 1 hts (kG (List.forall_mem_cons.mpr ⟨(List.mem_cons_of_mem _ (List.mem_append_left _ (List.mem_of_getElem? (i := 10) rfl))), (List.forall_mem_cons.mpr ⟨(List.mem_cons_of_mem _ (List.mem_append_left _ (List.mem_of_getElem? (i := 9) rfl))), (List.forall_mem_cons.mpr ⟨(List.mem_cons_of_mem _ (List.mem_append_left _ (List.mem_of_getElem? (i := 8) rfl))), (List.forall_mem_cons.mpr ⟨(List.mem_cons_of_mem _ (List.mem_append_left _ (List.mem_of_getElem? (i := 7) rfl))), (fun _ h => absurd h List.not_mem_nil)⟩)⟩)⟩)⟩) (kGV _ _ _ _) (fun _ h => List.mem_cons_of_mem _ (List.mem_append_right _ (List.mem_append_right _ (List.mem_append_right _ (List.mem_append_right _ (List.mem_append_left _ h)))))) gw_s_t_ixx) rfl rfl rfl ⟨rfl, hd_J0_indexOf_0f7a4⟩ ⟨(Nat.le_of_ble_eq_true rfl), (Nat.le_of_ble_eq_true rfl)⟩) (kR_V kSt_blind (kSt_give hX.2 hS) (kSt_recv hX.2 hS) hPc hKc) rfl rfl hl.1 rfl (lv_room (Nat.le_of_ble_eq_true rfl)) dX4_readAtom_61 ⟨(Nat.le_of_ble_eq_true rfl), (Nat.le_of_ble_eq_true rfl)⟩).run (fun r_11 hw => ?_)
      have hw_12 := hw
      rcases hw_12 with ⟨rfl, hj_14⟩ | ⟨j_13, hj_14_1, rfl, hj_14⟩
      · refine lv_istore_n hx hb dX4_readAtom_64 rfl hl (by decide) (kTo [(3, .int (-1)), (2, .int (nI (ch_3))), (0, .ref jR), (1, .int 0)]) (fun ls hl => ?_)
        refine lv_iload_n hx hb dX4_readAtom_65 rfl (lv_at hl 0 rfl) ?_
        refine lv_if_ge (tgt := 71) hx hb dX4_readAtom_66 (by decide) (fun c_15 => absurd c_15 (by decide)) (fun c_15 => ?_)
        refine lv_iconst (v := 0) hx hb dX4_readAtom_69 (by decide) ?_
        have hP9 := hP
        have hD9 := hD
        have hK9 := hK
        rw [hQ]
        exact W.zret (v := 0) hx hb hr rfl (fun t ht hW => ⟨⟨0, (s1, wr, Pn_2, false, ([])), rfl, ⟨rfl, kPR_f ((kAtomD_s 5 pn).trans (by unfold kAtomF; rw [← hw_4_0, ← hw_4_1]; rw [if_neg (by omega), if_neg (fun z9 => by have := kDg_t.mp z9; omega), if_neg (by omega)])) (by omega), by omega⟩,  by rw [ht]; exact hP9, va_K.moved hW.alike hK9, hD9⟩, hS.F ht⟩) hS.2.2 dX4_readAtom_70
      · have hlt9 : Pn_2 < kt := by rcases (show ch_3 = 0 ∨ Pn_2 < kt by assumption) with z | z; (exfalso; rw [z, hz7] at hj_14; omega); exact z
        refine lv_istore_n hx hb dX4_readAtom_64 rfl hl (by decide) (kTo [(3, .int (nI (j_13))), (2, .int (nI (ch_3))), (0, .ref jR), (1, .int 0)]) (fun ls hl => ?_)
        refine lv_iload_n hx hb dX4_readAtom_65 rfl (lv_at hl 0 rfl) ?_
        refine lv_if_ge (tgt := 71) hx hb dX4_readAtom_66 (by decide) (fun c_16 => ?_) (fun c_16 => absurd (nI_pos' (n := j_13) (by omega)) c_16)
        refine lv_aload_n hx hb dX4_readAtom_71 rfl (lv_at hl 2 rfl) ?_
        refine lv_dup hx hb dX4_readAtom_72 rfl ?_
        refine va_get (D := (dC, dI)) (ci := 4) (v := .int (nI (Pn_2))) (C := RX4) (T := TX4) (N := 8) hx hb hts (fun _ h => List.mem_cons_of_mem _ (List.mem_append_right _ (List.mem_append_right _ (List.mem_append_right _ (List.mem_append_left _ h))))) hown hK hP 0 rfl rfl 5 (by decide) (hts (.fieldLink RX4 25 "NotEnded$Reader" "place" "I") (List.mem_cons_of_mem _ (List.mem_append_left _ (List.mem_of_getElem? (i := 11) rfl)))) (fun _ h9 => h9) rfl dX4_readAtom_73 ?_
        refine lv_iconst (v := 1) hx hb dX4_readAtom_76 (by decide) ?_
        refine lv_iadd hx hb dX4_readAtom_77 ?_
        refine lv_topi (fun y_17 ey_17 => ?_)
        obtain rfl : y_17 = nI (Pn_2 + 1) := ey_17.trans (nI_add (Pn_2) (1))
        refine va_put (D := (dC, dI)) (ci := 4) (v := .int (nI (Pn_2 + 1))) (ty := tyX4 5) (C := RX4) (T := TX4) (N := 8) hx hb hts (fun _ h => List.mem_cons_of_mem _ (List.mem_append_right _ (List.mem_append_right _ (List.mem_append_right _ (List.mem_append_left _ h))))) tyX4 tyX4_ok nmX4 hown hK hP hD hS 0 rfl rfl 5 (by decide) (hts (.fieldLink RX4 25 "NotEnded$Reader" "place" "I") (List.mem_cons_of_mem _ (List.mem_append_left _ (List.mem_of_getElem? (i := 11) rfl)))) (fun _ h9 => h9) rfl (tyX4_ok 5 (by decide)) rfl rfl (Nat.le_of_ble_eq_true rfl) dX4_readAtom_78 (fun H locs hP hD hS => ?_)
        obtain ⟨hP, hD⟩ : kPD dC dI A [(jR, .inr (4, [.ref jT, .ref r1, .ref r2, .int (nI (wr)), .int (nI (fi)), .int (nI (Pn_2 + 1)), .ref q6, .ref q7])), (r1, .inl (c1, 120, .inl s1)), (r2, .inl (c2, 124, .inl s2)), (jT, .inr (8, [.ref t0, .int (nI (kt))])), (t0, .inl (cC, 120, .inl gT))] H := ⟨hP, hD⟩
        refine lv_aload_n hx hb dX4_readAtom_81 rfl (lv_at hl 2 rfl) ?_
        refine lv_sipush (v := 10000) hx hb dX4_readAtom_82 (by decide) ?_
        refine lv_iload_n hx hb dX4_readAtom_85 rfl (lv_at hl 0 rfl) ?_
        refine lv_iadd hx hb dX4_readAtom_86 ?_
        refine lv_topi (fun y_18 ey_18 => ?_)
        obtain rfl : y_18 = nI (10000 + j_13) := ey_18.trans (nI_add (10000) (j_13))
        obtain ⟨hPc, hDc, hFc⟩ := kCut (wc := [(jR, .inr (4, [.ref jT, .ref r1, .ref r2, .int (nI (wr)), .int (nI (fi)), .int (nI (Pn_2 + 1)), .ref q6, .ref q7])), (r1, .inl (c1, 120, .inl s1)), (r2, .inl (c2, 124, .inl s2)), (jT, .inr (8, [.ref t0, .int (nI (kt))])), (t0, .inl (cC, 120, .inl gT))]) hP hD hS hA [0, 1, 2, 3, 4] rfl (by decide) rfl
        have hKc := hK.sb (tys2 := [(c1, .int), (c2, .int), (cC, .char)]) [0, 1, 2] rfl
        refine va_calli (va_runV (As := [.int (nI (10000 + j_13))]) (rest := []) ⟨hx, hb, hml, hown, hts⟩ (s_write4x l dC dI jT t0 cC gT kt (by omega) hgT bt hbt hb8 jR r1 r2 c1 c2 s1 s2 wr fi q6 q7 (by omega) (by omega) (Pn_2 + 1) (by omega) (nI (10000 + j_13)) (by omega) H.size) (cwV 1 hts (kG (List.forall_mem_cons.mpr ⟨(List.mem_cons_of_mem _ (List.mem_append_left _ (List.mem_of_getElem? (i := 14) rfl))), (List.forall_mem_cons.mpr ⟨(List.mem_cons_of_mem _ (List.mem_append_left _ (List.mem_of_getElem? (i := 13) rfl))), (List.forall_mem_cons.mpr ⟨(List.mem_cons_of_mem _ (List.mem_append_left _ (List.mem_of_getElem? (i := 12) rfl))), (List.forall_mem_cons.mpr ⟨(List.mem_cons_of_mem _ (List.mem_append_left _ (List.mem_of_getElem? (i := 0) rfl))), (fun _ h => absurd h List.not_mem_nil)⟩)⟩)⟩)⟩) (kGV _ _ _ _) (fun _ h => List.mem_cons_of_mem _ (List.mem_append_right _ (List.mem_append_right _ (List.mem_append_right _ (List.mem_append_right _ (List.mem_append_right _ (List.mem_append_left _ h))))))) gw_s_write4x) rfl rfl rfl ⟨rfl, hd_X4_write⟩ ⟨(Nat.le_of_ble_eq_true rfl), (Nat.le_of_ble_eq_true rfl)⟩) (kW_V kT_blind kT_give (va_recv hKc hPc (ci := 4) (q0 := 0) rfl rfl) hPc hKc hDc) rfl rfl hl.1 rfl (lv_room (Nat.le_of_ble_eq_true rfl)) dX4_readAtom_87 ⟨(Nat.le_of_ble_eq_true rfl), (Nat.le_of_ble_eq_true rfl)⟩) hS (fun q _ h => hFc q h) hFc (fun r_19 u t H1 locs ht hvm hw hB hz1 hk1 hS => ?_)
        obtain ⟨S1_20, Wr_21⟩ := u
        obtain ⟨hP1, hK1, hD1⟩ := hB
        rw [ht] at hP1
        try dsimp only at hw
        obtain ⟨hP, hD⟩ : kPD dC dI A [(jR, .inr (4, [.ref jT, .ref r1, .ref r2, .int (nI (Wr_21)), .int (nI (fi)), .int (nI (Pn_2 + 1)), .ref q6, .ref q7])), (r1, .inl (c1, 120, .inl S1_20)), (r2, .inl (c2, 124, .inl s2)), (jT, .inr (8, [.ref t0, .int (nI (kt))])), (t0, .inl (cC, 120, .inl gT))] H1 := kJoinI hP hD [0, 1, 2, 3, 4] rfl hk1 hFc hP1 hD1 rfl [some 0, some 1, some 2, some 3, some 4] rfl rfl
        generalize H1 = H at hP hS ⊢
        obtain ⟨rfl, hw_22⟩ := hw
        have hP9 := hP
        have hD9 := hD
        have hK9 := hK
        rw [hQ]
        exact W.zret (v := 1) hx hb hr rfl (fun t ht hW => ⟨⟨1, (S1_20, Wr_21, (Pn_2 + 1), true, ([nI (10000 + j_13)])), rfl, ⟨rfl, kPR_t (a := kAtomD bt kt g7 n7 6) rfl (kAtomD_good hz7 6) (by omega) ((kAtomD_s 5 pn).trans (by unfold kAtomF; rw [← hw_4_0, ← hw_4_1]; rw [if_neg (by omega), if_neg (fun z9 => by have := kDg_t.mp z9; omega), if_pos (by omega), hj_14])) (by rw [hw_22.1]; rfl) (by rw [hw_22.2]; rfl), by omega⟩,  by rw [ht]; exact hP9, va_K.moved hW.alike hK9, hD9⟩, hS.F ht⟩) hS.2.2 dX4_readAtom_90
    · have hdg_23 := hw_8.mp c_9
      refine lv_aload_n hx hb dX4_readAtom_51 rfl (lv_at hl 1 rfl) ?_
      obtain ⟨hPc, hDc, hFc⟩ := kCut (wc := [(jR, .inr (4, [.ref jT, .ref r1, .ref r2, .int (nI (wr)), .int (nI (fi)), .int (nI (Pn_2)), .ref q6, .ref q7])), (r1, .inl (c1, 120, .inl s1)), (r2, .inl (c2, 124, .inl s2)), (jT, .inr (8, [.ref t0, .int (nI (kt))])), (t0, .inl (cC, 120, .inl gT))]) hP hD hS hA [0, 1, 2, 3, 4] rfl (by decide) rfl
      have hKc := hK.sb (tys2 := [(c1, .int), (c2, .int), (cC, .char)]) [0, 1, 2] rfl
      refine va_calli (va_runV (As := []) (rest := []) ⟨hx, hb, hml, hown, hts⟩ (s_number4x l dC dI jT t0 cC gT kt (by omega) hgT bt hbt hb8 jR r1 r2 c1 c2 s1 s2 wr fi q6 q7 (by omega) (by omega) Pn_2 (by omega) (by omega) (by omega) H.size) (cwV 0 hts (kG (List.forall_mem_cons.mpr ⟨(List.mem_cons_of_mem _ (List.mem_append_left _ (List.mem_of_getElem? (i := 17) rfl))), (List.forall_mem_cons.mpr ⟨(List.mem_cons_of_mem _ (List.mem_append_left _ (List.mem_of_getElem? (i := 16) rfl))), (List.forall_mem_cons.mpr ⟨(List.mem_cons_of_mem _ (List.mem_append_left _ (List.mem_of_getElem? (i := 15) rfl))), (List.forall_mem_cons.mpr ⟨(List.mem_cons_of_mem _ (List.mem_append_left _ (List.mem_of_getElem? (i := 0) rfl))), (fun _ h => absurd h List.not_mem_nil)⟩)⟩)⟩)⟩) (kGV _ _ _ _) (fun _ h => List.mem_cons_of_mem _ (List.mem_append_right _ (List.mem_append_right _ (List.mem_append_right _ (List.mem_append_right _ (List.mem_append_right _ (List.mem_append_right _ (List.mem_append_left _ h)))))))) gw_s_number4x) rfl rfl rfl ⟨rfl, hd_X4_readNumber⟩ ⟨(Nat.le_of_ble_eq_true rfl), (Nat.le_of_ble_eq_true rfl)⟩) (kW_V kT_blind kT_give (va_recv hKc hPc (ci := 4) (q0 := 0) rfl rfl) hPc hKc hDc) rfl rfl hl.1 rfl (lv_room (Nat.le_of_ble_eq_true rfl)) dX4_readAtom_52 ⟨(Nat.le_of_ble_eq_true rfl), (Nat.le_of_ble_eq_true rfl)⟩) hS (fun q _ h => hFc q h) hFc (fun r_24 u t H1 locs ht hvm hw hB hz1 hk1 hS => ?_)
      obtain ⟨S1_25, Wr_26, Pn_27, xo_28, xl_29⟩ := u
      obtain ⟨hP1, hK1, hD1⟩ := hB
      rw [ht] at hP1
      try dsimp only at hw
      obtain ⟨hP, hD⟩ : kPD dC dI A [(jR, .inr (4, [.ref jT, .ref r1, .ref r2, .int (nI (Wr_26)), .int (nI (fi)), .int (nI (Pn_27)), .ref q6, .ref q7])), (r1, .inl (c1, 120, .inl S1_25)), (r2, .inl (c2, 124, .inl s2)), (jT, .inr (8, [.ref t0, .int (nI (kt))])), (t0, .inl (cC, 120, .inl gT))] H1 := kJoinI hP hD [0, 1, 2, 3, 4] rfl hk1 hFc hP1 hD1 rfl [some 0, some 1, some 2, some 3, some 4] rfl rfl
      generalize H1 = H at hP hS ⊢
      have hw_30 := hw
      have hP9 := hP
      have hD9 := hD
      have hK9 := hK
      rw [hQ]
      exact W.zret (v := r_24) hx hb hr (by rw [hw_30.1]; exact kBo_nar _) (fun t ht hW => ⟨⟨r_24, (S1_25, Wr_26, Pn_27, xo_28, xl_29), rfl, ⟨hw_30.1, kPR_up ((kAtomD_s 5 pn).trans (by unfold kAtomF; rw [← hw_4_0, ← hw_4_1]; rw [if_neg (by omega), if_pos (kDg_t.mpr (by omega))])) hw_30.2.1 (by omega), hw_30.2.2⟩,  by rw [ht]; exact hP9, va_K.moved hW.alike hK9, hD9⟩, hS.F ht⟩) hS.2.2 dX4_readAtom_55
  · have hn_31 := keq (a := ch_3) (b := 91) (by omega) (by omega) c_5
    refine lv_aload_n hx hb dX4_readAtom_11 rfl (lv_at hl 1 rfl) ?_
    refine lv_iload_n hx hb dX4_readAtom_12 rfl (lv_at hl 2 rfl) ?_
    obtain ⟨hPc, hDc, hFc⟩ := kCut (wc := [(jR, .inr (4, [.ref jT, .ref r1, .ref r2, .int (nI (wr)), .int (nI (fi)), .int (nI (Pn_2)), .ref q6, .ref q7])), (r1, .inl (c1, 120, .inl s1)), (r2, .inl (c2, 124, .inl s2)), (jT, .inr (8, [.ref t0, .int (nI (kt))])), (t0, .inl (cC, 120, .inl gT))]) hP hD hS hA [0, 1, 2, 3, 4] rfl (by decide) rfl
    have hKc := hK.sb (tys2 := [(c1, .int), (c2, .int), (cC, .char)]) [0, 1, 2] rfl
    refine va_calli (va_runV (As := [.int 0]) (rest := []) ⟨hx, hb, hml, hown, hts⟩ (s_opens4_0 l dC dI jT t0 cC gT kt (by omega) hgT bt hbt hb8 jR r1 r2 c1 c2 s1 s2 wr fi q6 q7 (by omega) (by omega) Pn_2 (by omega) (by omega) H.size) (cwV 1 hts (kG (List.forall_mem_cons.mpr ⟨(List.mem_cons_of_mem _ (List.mem_append_left _ (List.mem_of_getElem? (i := 20) rfl))), (List.forall_mem_cons.mpr ⟨(List.mem_cons_of_mem _ (List.mem_append_left _ (List.mem_of_getElem? (i := 19) rfl))), (List.forall_mem_cons.mpr ⟨(List.mem_cons_of_mem _ (List.mem_append_left _ (List.mem_of_getElem? (i := 18) rfl))), (List.forall_mem_cons.mpr ⟨(List.mem_cons_of_mem _ (List.mem_append_left _ (List.mem_of_getElem? (i := 0) rfl))), (fun _ h => absurd h List.not_mem_nil)⟩)⟩)⟩)⟩) (kGV _ _ _ _) (fun _ h => List.mem_cons_of_mem _ (List.mem_append_right _ (List.mem_append_right _ (List.mem_append_right _ (List.mem_append_right _ (List.mem_append_right _ (List.mem_append_right _ (List.mem_append_right _ (List.mem_append_right _ (List.mem_append_right _ (List.mem_append_right _ (List.mem_append_right _ (List.mem_append_right _ (List.mem_append_right _ (List.mem_append_right _ (List.mem_append_right _ (List.mem_append_right _ (List.mem_append_left _ h)))))))))))))))))) gw_s_opens4_0) rfl rfl rfl ⟨rfl, hd_X4_opens⟩ ⟨(Nat.le_of_ble_eq_true rfl), (Nat.le_of_ble_eq_true rfl)⟩) (kW_V kT_blind kT_give (va_recv hKc hPc (ci := 4) (q0 := 0) rfl rfl) hPc hKc hDc) rfl rfl hl.1 rfl (lv_room (Nat.le_of_ble_eq_true rfl)) dX4_readAtom_13 ⟨(Nat.le_of_ble_eq_true rfl), (Nat.le_of_ble_eq_true rfl)⟩) hS (fun q _ h => hFc q h) hFc (fun r_32 u t H1 locs ht hvm hw hB hz1 hk1 hS => ?_)
    obtain ⟨Pn_33, rfl⟩ : ∃ z, z = u := ⟨_, rfl⟩
    obtain ⟨hP1, hK1, hD1⟩ := hB
    rw [ht] at hP1
    try dsimp only at hw
    obtain ⟨hP, hD⟩ : kPD dC dI A [(jR, .inr (4, [.ref jT, .ref r1, .ref r2, .int (nI (wr)), .int (nI (fi)), .int (nI (Pn_33)), .ref q6, .ref q7])), (r1, .inl (c1, 120, .inl s1)), (r2, .inl (c2, 124, .inl s2)), (jT, .inr (8, [.ref t0, .int (nI (kt))])), (t0, .inl (cC, 120, .inl gT))] H1 := kJoinI hP hD [0, 1, 2, 3, 4] rfl hk1 hFc hP1 hD1 rfl [some 0, some 1, some 2, some 3, some 4] rfl rfl
    generalize H1 = H at hP hS ⊢
    obtain ⟨rfl, hw_34⟩ := hw
    subst hw_34
    refine lv_if_eq (tgt := 42) hx hb dX4_readAtom_16 (by decide) (fun c_35 => absurd c_35 (by decide)) (fun c_35 => ?_)
    refine lv_aload_n hx hb dX4_readAtom_19 rfl (lv_at hl 1 rfl) ?_
    refine lv_iload_n hx hb dX4_readAtom_20 rfl (lv_at hl 2 rfl) ?_
    refine lv_iconst (v := 1) hx hb dX4_readAtom_21 (by decide) ?_
    refine lv_iadd hx hb dX4_readAtom_22 ?_
    refine lv_topi (fun y_36 ey_36 => ?_)
    obtain rfl : y_36 = 1 := ey_36.trans (by decide)
    obtain ⟨hPc, hDc, hFc⟩ := kCut (wc := [(jR, .inr (4, [.ref jT, .ref r1, .ref r2, .int (nI (wr)), .int (nI (fi)), .int (nI ((Pn_2 + 1))), .ref q6, .ref q7])), (r1, .inl (c1, 120, .inl s1)), (r2, .inl (c2, 124, .inl s2)), (jT, .inr (8, [.ref t0, .int (nI (kt))])), (t0, .inl (cC, 120, .inl gT))]) hP hD hS hA [0, 1, 2, 3, 4] rfl (by decide) rfl
    have hKc := hK.sb (tys2 := [(c1, .int), (c2, .int), (cC, .char)]) [0, 1, 2] rfl
    refine va_calli (va_runV (As := [.int 1]) (rest := []) ⟨hx, hb, hml, hown, hts⟩ (s_sum4x_1 l dC dI jT t0 cC gT kt (by omega) hgT bt hbt hb8 jR r1 r2 c1 c2 s1 s2 wr fi q6 q7 (by omega) (by omega) (Pn_2 + 1) (by omega) (by omega) b6 n6 g6 (by omega) b7 n7 g7 (by omega) gn6 hz6 gn7 hz7 H.size) (cwV 1 hts (kG (List.forall_mem_cons.mpr ⟨(List.mem_cons_of_mem _ (List.mem_append_left _ (List.mem_of_getElem? (i := 32) rfl))), (List.forall_mem_cons.mpr ⟨(List.mem_cons_of_mem _ (List.mem_append_left _ (List.mem_of_getElem? (i := 31) rfl))), (List.forall_mem_cons.mpr ⟨(List.mem_cons_of_mem _ (List.mem_append_left _ (List.mem_of_getElem? (i := 30) rfl))), (List.forall_mem_cons.mpr ⟨(List.mem_cons_of_mem _ (List.mem_append_left _ (List.mem_of_getElem? (i := 0) rfl))), (fun _ h => absurd h List.not_mem_nil)⟩)⟩)⟩)⟩) (kGV _ _ _ _) (kFam (List.mem_cons_of_mem _ (List.mem_append_left _ (List.mem_of_getElem? (i := 29) rfl)))) gw_s_sum4x_1) rfl rfl rfl ⟨rfl, hd_X4_readSum⟩ ⟨(Nat.le_of_ble_eq_true rfl), (Nat.le_of_ble_eq_true rfl)⟩) (kW_V kS2_blind (kS2_give hX hS hFc) (va_recv hKc hPc (ci := 4) (q0 := 0) rfl rfl) hPc hKc hDc) rfl rfl hl.1 rfl (lv_room (Nat.le_of_ble_eq_true rfl)) dX4_readAtom_23 ⟨(Nat.le_of_ble_eq_true rfl), (Nat.le_of_ble_eq_true rfl)⟩) hS (fun q _ h => hFc q h) hFc (fun r_37 u t H1 locs ht hvm hw hB hz1 hk1 hS => ?_)
    obtain ⟨S1_38, Wr_39, Pn_40, xo_41, xl_42⟩ := u
    obtain ⟨hP1, hK1, hD1⟩ := hB
    rw [ht] at hP1
    try dsimp only at hw
    obtain ⟨hP, hD⟩ : kPD dC dI A [(jR, .inr (4, [.ref jT, .ref r1, .ref r2, .int (nI (Wr_39)), .int (nI (fi)), .int (nI (Pn_40)), .ref q6, .ref q7])), (r1, .inl (c1, 120, .inl S1_38)), (r2, .inl (c2, 124, .inl s2)), (jT, .inr (8, [.ref t0, .int (nI (kt))])), (t0, .inl (cC, 120, .inl gT))] H1 := kJoinI hP hD [0, 1, 2, 3, 4] rfl hk1 hFc hP1 hD1 rfl [some 0, some 1, some 2, some 3, some 4] rfl rfl
    generalize H1 = H at hP hS ⊢
    have hw_43 := hw
    refine lv_if_eq (tgt := 42) hx hb dX4_readAtom_26 (by decide) (fun c_44 => ?_) (fun c_44 => ?_)
    · obtain rfl : xo_41 = false := kBo_f (kZr9 hw_43.1 c_44)
      have hw_43_k := hw_43.2.1.2.1
      refine lv_iconst (v := 0) hx hb dX4_readAtom_42 (by decide) ?_
      have hP9 := hP
      have hD9 := hD
      have hK9 := hK
      rw [hQ]
      exact W.zret (v := 0) hx hb hr rfl (fun t ht hW => ⟨⟨0, (S1_38, Wr_39, Pn_40, false, ([])), rfl, ⟨rfl, kPR_f ((kAtomD_s 5 pn).trans (by unfold kAtomF; rw [← hw_4_0, ← hw_4_1]; rw [if_pos (by omega), if_pos rfl, hw_43.2.1.1]; rfl)) (by omega), by omega⟩,  by rw [ht]; exact hP9, va_K.moved hW.alike hK9, hD9⟩, hS.F ht⟩) hS.2.2 dX4_readAtom_43
    · obtain rfl : xo_41 = true := kBo_t (kNz9 hw_43.1 c_44)
      obtain ⟨hw_43_W, hw_43_S, hw_43_l, hw_43_p⟩ := hw_43.2.1.2.2 rfl
      have hw_43_k := hw_43.2.1.2.1
      refine lv_aload_n hx hb dX4_readAtom_29 rfl (lv_at hl 1 rfl) ?_
      refine lv_bipush (v := 93) hx hb dX4_readAtom_30 (by decide) ?_
      obtain ⟨hPc, hDc, hFc⟩ := kCut (wc := [(jR, .inr (4, [.ref jT, .ref r1, .ref r2, .int (nI (Wr_39)), .int (nI (fi)), .int (nI (Pn_40)), .ref q6, .ref q7])), (r1, .inl (c1, 120, .inl S1_38)), (r2, .inl (c2, 124, .inl s2)), (jT, .inr (8, [.ref t0, .int (nI (kt))])), (t0, .inl (cC, 120, .inl gT))]) hP hD hS hA [0, 1, 2, 3, 4] rfl (by decide) rfl
      have hKc := hK.sb (tys2 := [(c1, .int), (c2, .int), (cC, .char)]) [0, 1, 2] rfl
      refine va_calli (va_runV (As := [.int 93]) (rest := []) ⟨hx, hb, hml, hown, hts⟩ (s_take4_93 l dC dI jT t0 cC gT kt (by omega) hgT bt hbt hb8 jR r1 r2 c1 c2 S1_38 s2 Wr_39 fi q6 q7 (by omega) (by omega) Pn_40 (by omega) H.size) (cwV 1 hts (kG (List.forall_mem_cons.mpr ⟨(List.mem_cons_of_mem _ (List.mem_append_left _ (List.mem_of_getElem? (i := 45) rfl))), (List.forall_mem_cons.mpr ⟨(List.mem_cons_of_mem _ (List.mem_append_left _ (List.mem_of_getElem? (i := 44) rfl))), (List.forall_mem_cons.mpr ⟨(List.mem_cons_of_mem _ (List.mem_append_left _ (List.mem_of_getElem? (i := 43) rfl))), (List.forall_mem_cons.mpr ⟨(List.mem_cons_of_mem _ (List.mem_append_left _ (List.mem_of_getElem? (i := 0) rfl))), (fun _ h => absurd h List.not_mem_nil)⟩)⟩)⟩)⟩) (kGV _ _ _ _) (fun _ h => List.mem_cons_of_mem _ (List.mem_append_right _ (List.mem_append_right _ (List.mem_append_right _ (List.mem_append_right _ (List.mem_append_right _ (List.mem_append_right _ (List.mem_append_right _ (List.mem_append_right _ (List.mem_append_right _ (List.mem_append_right _ (List.mem_append_left _ h)))))))))))) gw_s_take4_93) rfl rfl rfl ⟨rfl, hd_X4_take⟩ ⟨(Nat.le_of_ble_eq_true rfl), (Nat.le_of_ble_eq_true rfl)⟩) (kW_V kT_blind kT_give (va_recv hKc hPc (ci := 4) (q0 := 0) rfl rfl) hPc hKc hDc) rfl rfl hl.1 rfl (lv_room (Nat.le_of_ble_eq_true rfl)) dX4_readAtom_32 ⟨(Nat.le_of_ble_eq_true rfl), (Nat.le_of_ble_eq_true rfl)⟩) hS (fun q _ h => hFc q h) hFc (fun r_45 u t H1 locs ht hvm hw hB hz1 hk1 hS => ?_)
      obtain ⟨Pn_46, xo_47⟩ := u
      obtain ⟨hP1, hK1, hD1⟩ := hB
      rw [ht] at hP1
      try dsimp only at hw
      obtain ⟨hP, hD⟩ : kPD dC dI A [(jR, .inr (4, [.ref jT, .ref r1, .ref r2, .int (nI (Wr_39)), .int (nI (fi)), .int (nI (Pn_46)), .ref q6, .ref q7])), (r1, .inl (c1, 120, .inl S1_38)), (r2, .inl (c2, 124, .inl s2)), (jT, .inr (8, [.ref t0, .int (nI (kt))])), (t0, .inl (cC, 120, .inl gT))] H1 := kJoinI hP hD [0, 1, 2, 3, 4] rfl hk1 hFc hP1 hD1 rfl [some 0, some 1, some 2, some 3, some 4] rfl rfl
      generalize H1 = H at hP hS ⊢
      have hw_48 := hw
      refine lv_if_eq (tgt := 42) hx hb dX4_readAtom_35 (by decide) (fun c_49 => ?_) (fun c_49 => ?_)
      · obtain rfl : xo_47 = false := kBo_f (kZr9 hw_48.1 c_49)
        have hw_48_k := hw_48.2.2.2.1
        refine lv_iconst (v := 0) hx hb dX4_readAtom_42 (by decide) ?_
        have hP9 := hP
        have hD9 := hD
        have hK9 := hK
        rw [hQ]
        exact W.zret (v := 0) hx hb hr rfl (fun t ht hW => ⟨⟨0, (S1_38, Wr_39, Pn_46, false, ([])), rfl, ⟨rfl, kPR_f ((kAtomD_s 5 pn).trans (by unfold kAtomF; rw [← hw_4_0, ← hw_4_1]; rw [if_pos (by omega), if_pos rfl, hw_43.2.1.1, kTh_t]; exact kTk_n _ hw_48.2.1)) (by omega), by omega⟩,  by rw [ht]; exact hP9, va_K.moved hW.alike hK9, hD9⟩, hS.F ht⟩) hS.2.2 dX4_readAtom_43
      · obtain rfl : xo_47 = true := kBo_t (kNz9 hw_48.1 c_49)
        have hw_48_p := hw_48.2.2.2.2 rfl
        have hw_48_k := hw_48.2.2.2.1
        refine lv_iconst (v := 1) hx hb dX4_readAtom_38 (by decide) ?_
        refine lv_goto (tgt := 43) hx hb dX4_readAtom_39 (by decide) ?_
        have hP9 := hP
        have hD9 := hD
        have hK9 := hK
        rw [hQ]
        exact W.zret (v := 1) hx hb hr rfl (fun t ht hW => ⟨⟨1, (S1_38, Wr_39, Pn_46, true, xl_42), rfl, ⟨rfl, kPR_t (a := kAtomD bt kt g7 n7 6) rfl (kAtomD_good hz7 6) (by omega) ((kAtomD_s 5 pn).trans (by unfold kAtomF; rw [← hw_4_0, ← hw_4_1]; rw [if_pos (by omega), if_pos rfl, hw_43.2.1.1, kTh_t]; exact kTk_l _ hw_48.2.1)) hw_43_W hw_43_S, by omega⟩,  by rw [ht]; exact hP9, va_K.moved hW.alike hK9, hD9⟩, hS.F ht⟩) hS.2.2 dX4_readAtom_43

def w_s_term4x_0 : List Cond := .code yX4_readTerm cX4_readTerm 4 (some .boolean) :: wf_rq
theorem gw_s_term4x_0 : (w_s_term4x_0).all goodWord = true := kFamG rfl gf_rq
set_option maxHeartbeats 4000000 in
set_option maxRecDepth 100000 in
theorem s_term4x_0 (l : Launch) (dC : Nat → ClassId) (dI : Nat → Nat → Nat) (jT : Nat) (t0 : Nat) (cC : ClassId) (gT : Nat → Int32) (kt : Nat) (hkt : kt ≤ 120) (hgT : ∀ j : Nat, narrow .char (.int (gT j)) = .int (gT j)) (bt : Nat → Nat) (hbt : ∀ j : Nat, gT j = nI (bt j)) (hb8 : ∀ j : Nat, bt j < 256) (jR : Nat) (r1 : Nat) (r2 : Nat) (c1 : ClassId) (c2 : ClassId) (s1 : Nat → Int32) (s2 : Nat → Int32) (wr : Nat) (fi : Nat) (q6 : Nat) (q7 : Nat) (hwr : wr ≤ 120) (hfi : fi ≤ 124) (pn : Nat) (hpn : pn ≤ kt) (hwp : wr ≤ pn) (b6 : Nat) (n6 : Nat) (g6 : Nat → Int32) (hn6 : n6 ≤ 8) (b7 : Nat) (n7 : Nat) (g7 : Nat → Int32) (hn7 : n7 ≤ 8) (gn6 : ∀ k : Nat, ∃ v : Nat, v < 128 ∧ g6 k = nI v) (hz6 : kIx g6 n6 (nI 0) = n6) (gn7 : ∀ k : Nat, ∃ v : Nat, v < 128 ∧ g7 k = nI v) (hz7 : kIx g7 n7 (nI 0) = n7) (sz : Nat) : Met l yX4_readTerm w_s_term4x_0 ({ frames := 43, cells := 0, slots := 0, locals := 2580 }) (kW dC dI [.ref jR, .int 0] [(jR, .inr (4, [.ref jT, .ref r1, .ref r2, .int (nI (wr)), .int (nI (fi)), .int (nI (pn)), .ref q6, .ref q7])), (r1, .inl (c1, 120, .inl s1)), (r2, .inl (c2, 124, .inl s2)), (jT, .inr (8, [.ref t0, .int (nI (kt))])), (t0, .inl (cC, 120, .inl gT))] [(c1, .int), (c2, .int), (cC, .char)] (kS2 q6 b6 n6 g6 q7 b7 n7 g7 (va_A [(jR, .inr (4, [.ref jT, .ref r1, .ref r2, .int (nI (wr)), .int (nI (fi)), .int (nI (pn)), .ref q6, .ref q7])), (r1, .inl (c1, 120, .inl s1)), (r2, .inl (c2, 124, .inl s2)), (jT, .inr (8, [.ref t0, .int (nI (kt))])), (t0, .inl (cC, 120, .inl gT))] sz)) sz) (va_Qi (fun (r : Int32) (u : (Nat → Int32) × Nat × Nat × Bool × (List Int32)) => match u with | (S1, Wr, Pn, xo, xl) => (r = kBo xo ∧ kPR (kTermD bt kt g7 n7 6 pn) pn kt wr s1 xo Pn xl Wr S1 ∧ Wr ≤ 120)) (fun (u : (Nat → Int32) × Nat × Nat × Bool × (List Int32)) => match u with | (S1, Wr, Pn, xo, xl) => fun t : State => kB dC dI [(jR, .inr (4, [.ref jT, .ref r1, .ref r2, .int (nI (Wr)), .int (nI (fi)), .int (nI (Pn)), .ref q6, .ref q7])), (r1, .inl (c1, 120, .inl S1)), (r2, .inl (c2, 124, .inl s2)), (jT, .inr (8, [.ref t0, .int (nI (kt))])), (t0, .inl (cC, 120, .inl gT))] [(c1, .int), (c2, .int), (cC, .char)] (va_A [(jR, .inr (4, [.ref jT, .ref r1, .ref r2, .int (nI (wr)), .int (nI (fi)), .int (nI (pn)), .ref q6, .ref q7])), (r1, .inl (c1, 120, .inl s1)), (r2, .inl (c2, 124, .inl s2)), (jT, .inr (8, [.ref t0, .int (nI (kt))])), (t0, .inl (cC, 120, .inl gT))] sz) t) (va_A [(jR, .inr (4, [.ref jT, .ref r1, .ref r2, .int (nI (wr)), .int (nI (fi)), .int (nI (pn)), .ref q6, .ref q7])), (r1, .inl (c1, 120, .inl s1)), (r2, .inl (c2, 124, .inl s2)), (jT, .inr (8, [.ref t0, .int (nI (kt))])), (t0, .inl (cC, 120, .inl gT))] sz)) 0 0 (va_A [(jR, .inr (4, [.ref jT, .ref r1, .ref r2, .int (nI (wr)), .int (nI (fi)), .int (nI (pn)), .ref q6, .ref q7])), (r1, .inl (c1, 120, .inl s1)), (r2, .inl (c2, 124, .inl s2)), (jT, .inr (8, [.ref t0, .int (nI (kt))])), (t0, .inl (cC, 120, .inl gT))] sz) := by
  refine Met.ofW (cc := cX4_readTerm) (maxL := 4) (ret := (some .boolean)) (by decide) rfl ?_
  intro p e s m args below meth c s₁ B hml hv
  obtain ⟨rfl, hsz, hP, hK, hD0, hX⟩ := hv
  have hx := B.exec
  have hb := B.bytes
  have hr := B.returns
  have hts := atoms_spec (ws := w_s_term4x_0) B.pre
  have hown : s.vm.findClass RX4 = some m.cls := findClass_of_methodNamed B.named
  have hlocks := B.notSynchronized
  subst hsz
  have hD := hD0.self (sz := s.heap.size)
  generalize hAe : va_A [(jR, .inr (4, [.ref jT, .ref r1, .ref r2, .int (nI (wr)), .int (nI (fi)), .int (nI (pn)), .ref q6, .ref q7])), (r1, .inl (c1, 120, .inl s1)), (r2, .inl (c2, 124, .inl s2)), (jT, .inr (8, [.ref t0, .int (nI (kt))])), (t0, .inl (cC, 120, .inl gT))] s.heap.size = A at hD hX ⊢
  have hA : ∀ q : Nat, s.heap.size ≤ q → A q := fun q h => by rw [← hAe]; exact Or.inr h
  have hS : va_S A s.heap s.heap [] := va_S.rf
  have hP : va_P (dC, dI) vwCl [(jR, .inr (4, [.ref jT, .ref r1, .ref r2, .int (nI (wr)), .int (nI (fi)), .int (nI (pn)), .ref q6, .ref q7])), (r1, .inl (c1, 120, .inl s1)), (r2, .inl (c2, 124, .inl s2)), (jT, .inr (8, [.ref t0, .int (nI (kt))])), (t0, .inl (cC, 120, .inl gT))] s.heap := hP
  have hl := lv_entry ([.ref jR, .int 0]) (n := 4) (Nat.le_of_ble_eq_true rfl)
  rw [lg_entry_eq]
  generalize (lg_sl ([.ref jR, .int 0]) ++ List.replicate (4 - (lg_sl ([.ref jR, .int 0])).length) Slot.unset).toArray = ls at hl ⊢
  have hl : lv_has ls 4 [(0, .ref jR), (1, .int 0)] := hl
  refine kQ (fun Q hQ => ?_)
  refine lv_aload_n hx hb dX4_readTerm_0 rfl (lv_at hl 0 rfl) ?_
  refine lv_iload_n hx hb dX4_readTerm_1 rfl (lv_at hl 1 rfl) ?_
  obtain ⟨hPc, hDc, hFc⟩ := kCut (wc := [(jR, .inr (4, [.ref jT, .ref r1, .ref r2, .int (nI (wr)), .int (nI (fi)), .int (nI (pn)), .ref q6, .ref q7])), (r1, .inl (c1, 120, .inl s1)), (r2, .inl (c2, 124, .inl s2)), (jT, .inr (8, [.ref t0, .int (nI (kt))])), (t0, .inl (cC, 120, .inl gT))]) hP hD hS hA [0, 1, 2, 3, 4] rfl (by decide) rfl
  have hKc := hK.sb (tys2 := [(c1, .int), (c2, .int), (cC, .char)]) [0, 1, 2] rfl
  refine va_calli (va_runV (As := [.int 0]) (rest := []) ⟨hx, hb, hml, hown, hts⟩ (s_atom4x_0 l dC dI jT t0 cC gT kt (by omega) hgT bt hbt hb8 jR r1 r2 c1 c2 s1 s2 wr fi q6 q7 (by omega) (by omega) pn (by omega) (by omega) b6 n6 g6 (by omega) b7 n7 g7 (by omega) gn6 hz6 gn7 hz7 s.heap.size) (cwV 1 hts (kG (List.forall_mem_cons.mpr ⟨(List.mem_cons_of_mem _ (List.mem_append_left _ (List.mem_of_getElem? (i := 24) rfl))), (List.forall_mem_cons.mpr ⟨(List.mem_cons_of_mem _ (List.mem_append_left _ (List.mem_of_getElem? (i := 23) rfl))), (List.forall_mem_cons.mpr ⟨(List.mem_cons_of_mem _ (List.mem_append_left _ (List.mem_of_getElem? (i := 22) rfl))), (List.forall_mem_cons.mpr ⟨(List.mem_cons_of_mem _ (List.mem_append_left _ (List.mem_of_getElem? (i := 0) rfl))), (fun _ h => absurd h List.not_mem_nil)⟩)⟩)⟩)⟩) (kGV _ _ _ _) (kFam (List.mem_cons_of_mem _ (List.mem_append_left _ (List.mem_of_getElem? (i := 21) rfl)))) gw_s_atom4x_0) rfl rfl rfl ⟨rfl, hd_X4_readAtom⟩ ⟨(Nat.le_of_ble_eq_true rfl), (Nat.le_of_ble_eq_true rfl)⟩) (kW_V kS2_blind (kS2_give hX hS hFc) (va_recv hKc hPc (ci := 4) (q0 := 0) rfl rfl) hPc hKc hDc) rfl rfl hl.1 rfl (lv_room (Nat.le_of_ble_eq_true rfl)) dX4_readTerm_2 ⟨(Nat.le_of_ble_eq_true rfl), (Nat.le_of_ble_eq_true rfl)⟩) hS (fun q _ h => hFc q h) hFc (fun r_1 u t H1 locs ht hvm hw hB hz1 hk1 hS => ?_)
  obtain ⟨S1_2, Wr_3, Pn_4, xo_5, xl_6⟩ := u
  obtain ⟨hP1, hK1, hD1⟩ := hB
  rw [ht] at hP1
  try dsimp only at hw
  obtain ⟨hP, hD⟩ : kPD dC dI A [(jR, .inr (4, [.ref jT, .ref r1, .ref r2, .int (nI (Wr_3)), .int (nI (fi)), .int (nI (Pn_4)), .ref q6, .ref q7])), (r1, .inl (c1, 120, .inl S1_2)), (r2, .inl (c2, 124, .inl s2)), (jT, .inr (8, [.ref t0, .int (nI (kt))])), (t0, .inl (cC, 120, .inl gT))] H1 := kJoinI hP hD [0, 1, 2, 3, 4] rfl hk1 hFc hP1 hD1 rfl [some 0, some 1, some 2, some 3, some 4] rfl rfl
  generalize H1 = H at hP hS ⊢
  have hw_7 := hw
  refine lv_if_ne (tgt := 10) hx hb dX4_readTerm_5 (by decide) (fun c_8 => ?_) (fun c_8 => ?_)
  · obtain rfl : xo_5 = true := kBo_t (kNz9 hw_7.1 c_8)
    obtain ⟨hw_7_W, hw_7_S, hw_7_l, hw_7_p⟩ := hw_7.2.1.2.2 rfl
    have hw_7_k := hw_7.2.1.2.1
    refine lv_iconst (v := 0) hx hb dX4_readTerm_10 (by decide) ?_
    refine lv_istore_n hx hb dX4_readTerm_11 rfl hl (by decide) (kTo [(2, .int 0), (0, .ref jR), (1, .int 0)]) (fun ls hl => ?_)
    have lp_k_9 : ∀ (n9 : Nat) (i : Nat) (xs1 : Nat → Int32) (xpn : Nat) (xwr : Nat) (xl : List Int32) (ivk_9_0 : i ≤ 120) (ivk_9_1 : xwr ≤ 120) (ivk_9_2 : xpn ≤ kt) (ivk_9_3 : kLoop bt kt 42 47 (kAtomD bt kt g7 n7 6) (120 - i) xpn xl = kTermD bt kt g7 n7 6 pn) (ivk_9_4 : xwr = wr + xl.length) (ivk_9_5 : xs1 = kWrt s1 wr xl) (ivk_9_6 : pn + xl.length ≤ xpn) (ivk_9_7 : pn < xpn) (H : Heap) (locs : List Loc) (_ : va_P (dC, dI) vwCl [(jR, .inr (4, [.ref jT, .ref r1, .ref r2, .int (nI (xwr)), .int (nI (fi)), .int (nI (xpn)), .ref q6, .ref q7])), (r1, .inl (c1, 120, .inl xs1)), (r2, .inl (c2, 124, .inl s2)), (jT, .inr (8, [.ref t0, .int (nI (kt))])), (t0, .inl (cC, 120, .inl gT))] H) (_ : va_D A [(jR, .inr (4, [.ref jT, .ref r1, .ref r2, .int (nI (xwr)), .int (nI (fi)), .int (nI (xpn)), .ref q6, .ref q7])), (r1, .inl (c1, 120, .inl xs1)), (r2, .inl (c2, 124, .inl s2)), (jT, .inr (8, [.ref t0, .int (nI (kt))])), (t0, .inl (cC, 120, .inl gT))]) (_ : va_S A s.heap H locs) (ls : Array Slot) (_ : lv_has ls 4 [(2, .int (nI (i))), (0, .ref jR), (1, .int 0)]) (_ : 120 - i < n9), W p l e (headSpec w_s_term4x_0 ({ frames := 43, cells := 0, slots := 0, locals := 2580 })).room s m (#[.ref jR, .int 0] : Array Value) below meth c H locs 0 0 Q (F0 m 12 ls []) := by
      intro n9
      induction n9 with
      | zero => intro i xs1 xpn xwr xl ivk_9_0 ivk_9_1 ivk_9_2 ivk_9_3 ivk_9_4 ivk_9_5 ivk_9_6 ivk_9_7 H locs hP hD hS ls hl hm9; exact absurd hm9 (Nat.not_lt_zero _)
      | succ n9 ih_k_9 =>
        intro i xs1 xpn xwr xl ivk_9_0 ivk_9_1 ivk_9_2 ivk_9_3 ivk_9_4 ivk_9_5 ivk_9_6 ivk_9_7 H locs hP hD hS ls hl hm9
        refine lv_iload_n hx hb dX4_readTerm_12 rfl (lv_at hl 0 rfl) ?_
        refine lv_bipush (v := 120) hx hb dX4_readTerm_13 (by decide) ?_
        refine lv_icmp_ge (tgt := 79) hx hb dX4_readTerm_15 (by decide) (fun c_10 => ?_) (fun c_10 => ?_)
        · have hn_11 := kle (a := 120) (b := i) (by omega) (by omega) c_10
          refine lv_iconst (v := 1) hx hb dX4_readTerm_79 (by decide) ?_
          have hP9 := hP
          have hD9 := hD
          have hK9 := hK
          rw [hQ]
          exact W.zret (v := 1) hx hb hr rfl (fun t ht hW => ⟨⟨1, (xs1, xwr, xpn, true, xl), rfl, ⟨rfl, kPR_t (a := kTermD bt kt g7 n7 6) rfl (kTermD_good hz7 6) (by omega) (by rw [← ivk_9_3, show 120 - i = 0 by omega]; rfl) ivk_9_4 ivk_9_5, by omega⟩,  by rw [ht]; exact hP9, va_K.moved hW.alike hK9, hD9⟩, hS.F ht⟩) hS.2.2 dX4_readTerm_80
        · have hn_12 := knle (a := 120) (b := i) (by omega) (by omega) c_10
          refine lv_aload_n hx hb dX4_readTerm_18 rfl (lv_at hl 1 rfl) ?_
          obtain ⟨hPc, hDc, hFc⟩ := kCut (wc := [(jR, .inr (4, [.ref jT, .ref r1, .ref r2, .int (nI (xwr)), .int (nI (fi)), .int (nI (xpn)), .ref q6, .ref q7])), (r1, .inl (c1, 120, .inl xs1)), (r2, .inl (c2, 124, .inl s2)), (jT, .inr (8, [.ref t0, .int (nI (kt))])), (t0, .inl (cC, 120, .inl gT))]) hP hD hS hA [0, 1, 2, 3, 4] rfl (by decide) rfl
          have hKc := hK.sb (tys2 := [(c1, .int), (c2, .int), (cC, .char)]) [0, 1, 2] rfl
          refine va_calli (va_runV (As := []) (rest := []) ⟨hx, hb, hml, hown, hts⟩ (s_look4x l dC dI jT t0 cC gT kt (by omega) hgT bt hbt hb8 jR r1 r2 c1 c2 xs1 s2 xwr fi q6 q7 (by omega) (by omega) xpn (by omega) H.size) (cwV 0 hts (kG (List.forall_mem_cons.mpr ⟨(List.mem_cons_of_mem _ (List.mem_append_left _ (List.mem_of_getElem? (i := 3) rfl))), (List.forall_mem_cons.mpr ⟨(List.mem_cons_of_mem _ (List.mem_append_left _ (List.mem_of_getElem? (i := 2) rfl))), (List.forall_mem_cons.mpr ⟨(List.mem_cons_of_mem _ (List.mem_append_left _ (List.mem_of_getElem? (i := 1) rfl))), (List.forall_mem_cons.mpr ⟨(List.mem_cons_of_mem _ (List.mem_append_left _ (List.mem_of_getElem? (i := 0) rfl))), (fun _ h => absurd h List.not_mem_nil)⟩)⟩)⟩)⟩) (kGV _ _ _ _) (fun _ h => List.mem_cons_of_mem _ (List.mem_append_right _ (List.mem_append_left _ h))) gw_s_look4x) rfl rfl rfl ⟨rfl, hd_X4_look⟩ ⟨(Nat.le_of_ble_eq_true rfl), (Nat.le_of_ble_eq_true rfl)⟩) (kW_V kT_blind kT_give (va_recv hKc hPc (ci := 4) (q0 := 0) rfl rfl) hPc hKc hDc) rfl rfl hl.1 rfl (lv_room (Nat.le_of_ble_eq_true rfl)) dX4_readTerm_19 ⟨(Nat.le_of_ble_eq_true rfl), (Nat.le_of_ble_eq_true rfl)⟩) hS (fun q _ h => hFc q h) hFc (fun r_13 u t H1 locs ht hvm hw hB hz1 hk1 hS => ?_)
          obtain ⟨Pn_14, ch_15⟩ := u
          obtain ⟨hP1, hK1, hD1⟩ := hB
          rw [ht] at hP1
          try dsimp only at hw
          obtain ⟨hP, hD⟩ : kPD dC dI A [(jR, .inr (4, [.ref jT, .ref r1, .ref r2, .int (nI (xwr)), .int (nI (fi)), .int (nI (Pn_14)), .ref q6, .ref q7])), (r1, .inl (c1, 120, .inl xs1)), (r2, .inl (c2, 124, .inl s2)), (jT, .inr (8, [.ref t0, .int (nI (kt))])), (t0, .inl (cC, 120, .inl gT))] H1 := kJoinI hP hD [0, 1, 2, 3, 4] rfl hk1 hFc hP1 hD1 rfl [some 0, some 1, some 2, some 3, some 4] rfl rfl
          generalize H1 = H at hP hS ⊢
          obtain ⟨rfl, hw_16_0, hw_16_1, hw_16_2, hw_16_3, hw_16_4, hw_16_5, hw_16_6⟩ := hw
          refine lv_bipush (v := 42) hx hb dX4_readTerm_22 (by decide) ?_
          refine lv_icmp_eq (tgt := 36) hx hb dX4_readTerm_24 (by decide) (fun c_17 => ?_) (fun c_17 => ?_)
          · have hn_18 := keq (a := ch_15) (b := 42) (by omega) (by omega) c_17
            refine lv_aload_n hx hb dX4_readTerm_36 rfl (lv_at hl 1 rfl) ?_
            obtain ⟨hPc, hDc, hFc⟩ := kCut (wc := [(jR, .inr (4, [.ref jT, .ref r1, .ref r2, .int (nI (xwr)), .int (nI (fi)), .int (nI (Pn_14)), .ref q6, .ref q7])), (r1, .inl (c1, 120, .inl xs1)), (r2, .inl (c2, 124, .inl s2)), (jT, .inr (8, [.ref t0, .int (nI (kt))])), (t0, .inl (cC, 120, .inl gT))]) hP hD hS hA [0, 1, 2, 3, 4] rfl (by decide) rfl
            have hKc := hK.sb (tys2 := [(c1, .int), (c2, .int), (cC, .char)]) [0, 1, 2] rfl
            refine va_calli (va_runV (As := []) (rest := []) ⟨hx, hb, hml, hown, hts⟩ (s_look4x l dC dI jT t0 cC gT kt (by omega) hgT bt hbt hb8 jR r1 r2 c1 c2 xs1 s2 xwr fi q6 q7 (by omega) (by omega) Pn_14 (by omega) H.size) (cwV 0 hts (kG (List.forall_mem_cons.mpr ⟨(List.mem_cons_of_mem _ (List.mem_append_left _ (List.mem_of_getElem? (i := 3) rfl))), (List.forall_mem_cons.mpr ⟨(List.mem_cons_of_mem _ (List.mem_append_left _ (List.mem_of_getElem? (i := 2) rfl))), (List.forall_mem_cons.mpr ⟨(List.mem_cons_of_mem _ (List.mem_append_left _ (List.mem_of_getElem? (i := 1) rfl))), (List.forall_mem_cons.mpr ⟨(List.mem_cons_of_mem _ (List.mem_append_left _ (List.mem_of_getElem? (i := 0) rfl))), (fun _ h => absurd h List.not_mem_nil)⟩)⟩)⟩)⟩) (kGV _ _ _ _) (fun _ h => List.mem_cons_of_mem _ (List.mem_append_right _ (List.mem_append_left _ h))) gw_s_look4x) rfl rfl rfl ⟨rfl, hd_X4_look⟩ ⟨(Nat.le_of_ble_eq_true rfl), (Nat.le_of_ble_eq_true rfl)⟩) (kW_V kT_blind kT_give (va_recv hKc hPc (ci := 4) (q0 := 0) rfl rfl) hPc hKc hDc) rfl rfl hl.1 rfl (lv_room (Nat.le_of_ble_eq_true rfl)) dX4_readTerm_37 ⟨(Nat.le_of_ble_eq_true rfl), (Nat.le_of_ble_eq_true rfl)⟩) hS (fun q _ h => hFc q h) hFc (fun r_19 u t H1 locs ht hvm hw hB hz1 hk1 hS => ?_)
            obtain ⟨Pn_20, ch_21⟩ := u
            obtain ⟨hP1, hK1, hD1⟩ := hB
            rw [ht] at hP1
            try dsimp only at hw
            obtain ⟨hP, hD⟩ : kPD dC dI A [(jR, .inr (4, [.ref jT, .ref r1, .ref r2, .int (nI (xwr)), .int (nI (fi)), .int (nI (Pn_20)), .ref q6, .ref q7])), (r1, .inl (c1, 120, .inl xs1)), (r2, .inl (c2, 124, .inl s2)), (jT, .inr (8, [.ref t0, .int (nI (kt))])), (t0, .inl (cC, 120, .inl gT))] H1 := kJoinI hP hD [0, 1, 2, 3, 4] rfl hk1 hFc hP1 hD1 rfl [some 0, some 1, some 2, some 3, some 4] rfl rfl
            generalize H1 = H at hP hS ⊢
            obtain ⟨rfl, hw_22_0, hw_22_1, hw_22_2, hw_22_3, hw_22_4, hw_22_5, hw_22_6⟩ := hw
            have e9 : Pn_14 = Pn_20 := by rw [hw_22_1, hw_16_1]; exact (kSp_sp (by omega)).symm
            have e8 : ch_15 = ch_21 := by rw [hw_22_0, hw_16_0, hw_16_1]; exact (kLk_sp (by omega)).symm
            subst e9
            subst e8
            refine lv_istore_n hx hb dX4_readTerm_40 rfl hl (by decide) (kTo [(3, .int (nI (ch_15))), (2, .int (nI (i))), (0, .ref jR), (1, .int 0)]) (fun ls hl => ?_)
            refine lv_aload_n hx hb dX4_readTerm_41 rfl (lv_at hl 2 rfl) ?_
            refine lv_dup hx hb dX4_readTerm_42 rfl ?_
            refine va_get (D := (dC, dI)) (ci := 4) (v := .int (nI (Pn_14))) (C := RX4) (T := TX4) (N := 8) hx hb hts (fun _ h => List.mem_cons_of_mem _ (List.mem_append_right _ (List.mem_append_right _ (List.mem_append_right _ (List.mem_append_left _ h))))) hown hK hP 0 rfl rfl 5 (by decide) (hts (.fieldLink RX4 25 "NotEnded$Reader" "place" "I") (List.mem_cons_of_mem _ (List.mem_append_left _ (List.mem_of_getElem? (i := 11) rfl)))) (fun _ h9 => h9) rfl dX4_readTerm_43 ?_
            refine lv_iconst (v := 1) hx hb dX4_readTerm_46 (by decide) ?_
            refine lv_iadd hx hb dX4_readTerm_47 ?_
            refine lv_topi (fun y_23 ey_23 => ?_)
            obtain rfl : y_23 = nI (Pn_14 + 1) := ey_23.trans (nI_add (Pn_14) (1))
            refine va_put (D := (dC, dI)) (ci := 4) (v := .int (nI (Pn_14 + 1))) (ty := tyX4 5) (C := RX4) (T := TX4) (N := 8) hx hb hts (fun _ h => List.mem_cons_of_mem _ (List.mem_append_right _ (List.mem_append_right _ (List.mem_append_right _ (List.mem_append_left _ h))))) tyX4 tyX4_ok nmX4 hown hK hP hD hS 0 rfl rfl 5 (by decide) (hts (.fieldLink RX4 25 "NotEnded$Reader" "place" "I") (List.mem_cons_of_mem _ (List.mem_append_left _ (List.mem_of_getElem? (i := 11) rfl)))) (fun _ h9 => h9) rfl (tyX4_ok 5 (by decide)) rfl rfl (Nat.le_of_ble_eq_true rfl) dX4_readTerm_48 (fun H locs hP hD hS => ?_)
            obtain ⟨hP, hD⟩ : kPD dC dI A [(jR, .inr (4, [.ref jT, .ref r1, .ref r2, .int (nI (xwr)), .int (nI (fi)), .int (nI (Pn_14 + 1)), .ref q6, .ref q7])), (r1, .inl (c1, 120, .inl xs1)), (r2, .inl (c2, 124, .inl s2)), (jT, .inr (8, [.ref t0, .int (nI (kt))])), (t0, .inl (cC, 120, .inl gT))] H := ⟨hP, hD⟩
            refine lv_aload_n hx hb dX4_readTerm_51 rfl (lv_at hl 2 rfl) ?_
            refine lv_iload_n hx hb dX4_readTerm_52 rfl (lv_at hl 3 rfl) ?_
            obtain ⟨hPc, hDc, hFc⟩ := kCut (wc := [(jR, .inr (4, [.ref jT, .ref r1, .ref r2, .int (nI (xwr)), .int (nI (fi)), .int (nI (Pn_14 + 1)), .ref q6, .ref q7])), (r1, .inl (c1, 120, .inl xs1)), (r2, .inl (c2, 124, .inl s2)), (jT, .inr (8, [.ref t0, .int (nI (kt))])), (t0, .inl (cC, 120, .inl gT))]) hP hD hS hA [0, 1, 2, 3, 4] rfl (by decide) rfl
            have hKc := hK.sb (tys2 := [(c1, .int), (c2, .int), (cC, .char)]) [0, 1, 2] rfl
            refine va_calli (va_runV (As := [.int 0]) (rest := []) ⟨hx, hb, hml, hown, hts⟩ (s_atom4x_0 l dC dI jT t0 cC gT kt (by omega) hgT bt hbt hb8 jR r1 r2 c1 c2 xs1 s2 xwr fi q6 q7 (by omega) (by omega) (Pn_14 + 1) (by omega) (by omega) b6 n6 g6 (by omega) b7 n7 g7 (by omega) gn6 hz6 gn7 hz7 H.size) (cwV 1 hts (kG (List.forall_mem_cons.mpr ⟨(List.mem_cons_of_mem _ (List.mem_append_left _ (List.mem_of_getElem? (i := 24) rfl))), (List.forall_mem_cons.mpr ⟨(List.mem_cons_of_mem _ (List.mem_append_left _ (List.mem_of_getElem? (i := 23) rfl))), (List.forall_mem_cons.mpr ⟨(List.mem_cons_of_mem _ (List.mem_append_left _ (List.mem_of_getElem? (i := 22) rfl))), (List.forall_mem_cons.mpr ⟨(List.mem_cons_of_mem _ (List.mem_append_left _ (List.mem_of_getElem? (i := 0) rfl))), (fun _ h => absurd h List.not_mem_nil)⟩)⟩)⟩)⟩) (kGV _ _ _ _) (kFam (List.mem_cons_of_mem _ (List.mem_append_left _ (List.mem_of_getElem? (i := 21) rfl)))) gw_s_atom4x_0) rfl rfl rfl ⟨rfl, hd_X4_readAtom⟩ ⟨(Nat.le_of_ble_eq_true rfl), (Nat.le_of_ble_eq_true rfl)⟩) (kW_V kS2_blind (kS2_give hX hS hFc) (va_recv hKc hPc (ci := 4) (q0 := 0) rfl rfl) hPc hKc hDc) rfl rfl hl.1 rfl (lv_room (Nat.le_of_ble_eq_true rfl)) dX4_readTerm_53 ⟨(Nat.le_of_ble_eq_true rfl), (Nat.le_of_ble_eq_true rfl)⟩) hS (fun q _ h => hFc q h) hFc (fun r_24 u t H1 locs ht hvm hw hB hz1 hk1 hS => ?_)
            obtain ⟨S1_25, Wr_26, Pn_27, xo_28, xl_29⟩ := u
            obtain ⟨hP1, hK1, hD1⟩ := hB
            rw [ht] at hP1
            try dsimp only at hw
            obtain ⟨hP, hD⟩ : kPD dC dI A [(jR, .inr (4, [.ref jT, .ref r1, .ref r2, .int (nI (Wr_26)), .int (nI (fi)), .int (nI (Pn_27)), .ref q6, .ref q7])), (r1, .inl (c1, 120, .inl S1_25)), (r2, .inl (c2, 124, .inl s2)), (jT, .inr (8, [.ref t0, .int (nI (kt))])), (t0, .inl (cC, 120, .inl gT))] H1 := kJoinI hP hD [0, 1, 2, 3, 4] rfl hk1 hFc hP1 hD1 rfl [some 0, some 1, some 2, some 3, some 4] rfl rfl
            generalize H1 = H at hP hS ⊢
            have hw_30 := hw
            refine lv_if_eq (tgt := 71) hx hb dX4_readTerm_56 (by decide) (fun c_31 => ?_) (fun c_31 => ?_)
            · obtain rfl : xo_28 = false := kBo_f (kZr9 hw_30.1 c_31)
              have hw_30_k := hw_30.2.1.2.1
              refine lv_iconst (v := 0) hx hb dX4_readTerm_71 (by decide) ?_
              have hP9 := hP
              have hD9 := hD
              have hK9 := hK
              rw [hQ]
              exact W.zret (v := 0) hx hb hr rfl (fun t ht hW => ⟨⟨0, (S1_25, Wr_26, Pn_27, false, ([])), rfl, ⟨rfl, kPR_f (by rw [← ivk_9_3, show 120 - i = (119 - i) + 1 by omega]; exact kLoop_f (by rw [← hw_16_0]; omega) (by rw [← hw_16_1]; exact hw_30.2.1.1)) (by omega), by omega⟩,  by rw [ht]; exact hP9, va_K.moved hW.alike hK9, hD9⟩, hS.F ht⟩) hS.2.2 dX4_readTerm_72
            · obtain rfl : xo_28 = true := kBo_t (kNz9 hw_30.1 c_31)
              obtain ⟨hw_30_W, hw_30_S, hw_30_l, hw_30_p⟩ := hw_30.2.1.2.2 rfl
              have hw_30_k := hw_30.2.1.2.1
              refine lv_aload_n hx hb dX4_readTerm_59 rfl (lv_at hl 2 rfl) ?_
              refine lv_sipush (v := 20000) hx hb dX4_readTerm_60 (by decide) ?_
              refine lv_iload_n hx hb dX4_readTerm_63 rfl (lv_at hl 0 rfl) ?_
              refine lv_iadd hx hb dX4_readTerm_64 ?_
              refine lv_topi (fun y_32 ey_32 => ?_)
              obtain rfl : y_32 = nI (20000 + ch_15) := ey_32.trans (nI_add (20000) (ch_15))
              obtain ⟨hPc, hDc, hFc⟩ := kCut (wc := [(jR, .inr (4, [.ref jT, .ref r1, .ref r2, .int (nI (Wr_26)), .int (nI (fi)), .int (nI (Pn_27)), .ref q6, .ref q7])), (r1, .inl (c1, 120, .inl S1_25)), (r2, .inl (c2, 124, .inl s2)), (jT, .inr (8, [.ref t0, .int (nI (kt))])), (t0, .inl (cC, 120, .inl gT))]) hP hD hS hA [0, 1, 2, 3, 4] rfl (by decide) rfl
              have hKc := hK.sb (tys2 := [(c1, .int), (c2, .int), (cC, .char)]) [0, 1, 2] rfl
              refine va_calli (va_runV (As := [.int (nI (20000 + ch_15))]) (rest := []) ⟨hx, hb, hml, hown, hts⟩ (s_write4x l dC dI jT t0 cC gT kt (by omega) hgT bt hbt hb8 jR r1 r2 c1 c2 S1_25 s2 Wr_26 fi q6 q7 (by omega) (by omega) Pn_27 (by omega) (nI (20000 + ch_15)) (by omega) H.size) (cwV 1 hts (kG (List.forall_mem_cons.mpr ⟨(List.mem_cons_of_mem _ (List.mem_append_left _ (List.mem_of_getElem? (i := 14) rfl))), (List.forall_mem_cons.mpr ⟨(List.mem_cons_of_mem _ (List.mem_append_left _ (List.mem_of_getElem? (i := 13) rfl))), (List.forall_mem_cons.mpr ⟨(List.mem_cons_of_mem _ (List.mem_append_left _ (List.mem_of_getElem? (i := 12) rfl))), (List.forall_mem_cons.mpr ⟨(List.mem_cons_of_mem _ (List.mem_append_left _ (List.mem_of_getElem? (i := 0) rfl))), (fun _ h => absurd h List.not_mem_nil)⟩)⟩)⟩)⟩) (kGV _ _ _ _) (fun _ h => List.mem_cons_of_mem _ (List.mem_append_right _ (List.mem_append_right _ (List.mem_append_right _ (List.mem_append_right _ (List.mem_append_right _ (List.mem_append_left _ h))))))) gw_s_write4x) rfl rfl rfl ⟨rfl, hd_X4_write⟩ ⟨(Nat.le_of_ble_eq_true rfl), (Nat.le_of_ble_eq_true rfl)⟩) (kW_V kT_blind kT_give (va_recv hKc hPc (ci := 4) (q0 := 0) rfl rfl) hPc hKc hDc) rfl rfl hl.1 rfl (lv_room (Nat.le_of_ble_eq_true rfl)) dX4_readTerm_65 ⟨(Nat.le_of_ble_eq_true rfl), (Nat.le_of_ble_eq_true rfl)⟩) hS (fun q _ h => hFc q h) hFc (fun r_33 u t H1 locs ht hvm hw hB hz1 hk1 hS => ?_)
              obtain ⟨S1_34, Wr_35⟩ := u
              obtain ⟨hP1, hK1, hD1⟩ := hB
              rw [ht] at hP1
              try dsimp only at hw
              obtain ⟨hP, hD⟩ : kPD dC dI A [(jR, .inr (4, [.ref jT, .ref r1, .ref r2, .int (nI (Wr_35)), .int (nI (fi)), .int (nI (Pn_27)), .ref q6, .ref q7])), (r1, .inl (c1, 120, .inl S1_34)), (r2, .inl (c2, 124, .inl s2)), (jT, .inr (8, [.ref t0, .int (nI (kt))])), (t0, .inl (cC, 120, .inl gT))] H1 := kJoinI hP hD [0, 1, 2, 3, 4] rfl hk1 hFc hP1 hD1 rfl [some 0, some 1, some 2, some 3, some 4] rfl rfl
              generalize H1 = H at hP hS ⊢
              obtain ⟨rfl, hw_36⟩ := hw
              refine lv_if_ne (tgt := 73) hx hb dX4_readTerm_68 (by decide) (fun c_37 => ?_) (fun c_37 => absurd c_37 (by decide))
              refine lv_iinc (v := nI (i + 1)) hx hb dX4_readTerm_73 hl (k := 1) rfl (kInc _ 1) (by decide) (kTo [(2, .int (nI (i + 1))), (3, .int (nI (ch_15))), (0, .ref jR), (1, .int 0)]) (fun ls hl => ?_)
              refine lv_goto (tgt := 12) hx hb dX4_readTerm_76 (by decide) ?_
              exact ih_k_9 (i + 1) S1_34 Pn_27 Wr_35 (xl ++ xl_29 ++ [nI (20000 + ch_15)]) (by omega) (by omega) (by omega) (by have e9 := kLoop_t (b := bt) (n := kt) (c1 := 42) (c2 := 47) (a := kAtomD bt kt g7 n7 6) (f := 120 - (i + 1)) (p := xpn) (l := xl) (by rw [← hw_16_0]; omega) (by rw [← hw_16_1]; exact hw_30.2.1.1); rw [← hw_16_0] at e9; rw [← e9, show (120 - (i + 1)) + 1 = 120 - i by omega]; exact ivk_9_3) (by simp only [List.length_append, List.length_cons, List.length_nil]; omega) (kWrt3 ivk_9_5 ivk_9_4 hw_30_S hw_30_W hw_36.2) (by simp only [List.length_append, List.length_cons, List.length_nil]; omega) (by omega) _ _ hP hD hS ls (lv_sub hl [0, 2, 3] rfl) (by omega)
          · have hn_38 := kneq (a := ch_15) (b := 42) (by omega) (by omega) c_17
            refine lv_aload_n hx hb dX4_readTerm_27 rfl (lv_at hl 1 rfl) ?_
            obtain ⟨hPc, hDc, hFc⟩ := kCut (wc := [(jR, .inr (4, [.ref jT, .ref r1, .ref r2, .int (nI (xwr)), .int (nI (fi)), .int (nI (Pn_14)), .ref q6, .ref q7])), (r1, .inl (c1, 120, .inl xs1)), (r2, .inl (c2, 124, .inl s2)), (jT, .inr (8, [.ref t0, .int (nI (kt))])), (t0, .inl (cC, 120, .inl gT))]) hP hD hS hA [0, 1, 2, 3, 4] rfl (by decide) rfl
            have hKc := hK.sb (tys2 := [(c1, .int), (c2, .int), (cC, .char)]) [0, 1, 2] rfl
            refine va_calli (va_runV (As := []) (rest := []) ⟨hx, hb, hml, hown, hts⟩ (s_look4x l dC dI jT t0 cC gT kt (by omega) hgT bt hbt hb8 jR r1 r2 c1 c2 xs1 s2 xwr fi q6 q7 (by omega) (by omega) Pn_14 (by omega) H.size) (cwV 0 hts (kG (List.forall_mem_cons.mpr ⟨(List.mem_cons_of_mem _ (List.mem_append_left _ (List.mem_of_getElem? (i := 3) rfl))), (List.forall_mem_cons.mpr ⟨(List.mem_cons_of_mem _ (List.mem_append_left _ (List.mem_of_getElem? (i := 2) rfl))), (List.forall_mem_cons.mpr ⟨(List.mem_cons_of_mem _ (List.mem_append_left _ (List.mem_of_getElem? (i := 1) rfl))), (List.forall_mem_cons.mpr ⟨(List.mem_cons_of_mem _ (List.mem_append_left _ (List.mem_of_getElem? (i := 0) rfl))), (fun _ h => absurd h List.not_mem_nil)⟩)⟩)⟩)⟩) (kGV _ _ _ _) (fun _ h => List.mem_cons_of_mem _ (List.mem_append_right _ (List.mem_append_left _ h))) gw_s_look4x) rfl rfl rfl ⟨rfl, hd_X4_look⟩ ⟨(Nat.le_of_ble_eq_true rfl), (Nat.le_of_ble_eq_true rfl)⟩) (kW_V kT_blind kT_give (va_recv hKc hPc (ci := 4) (q0 := 0) rfl rfl) hPc hKc hDc) rfl rfl hl.1 rfl (lv_room (Nat.le_of_ble_eq_true rfl)) dX4_readTerm_28 ⟨(Nat.le_of_ble_eq_true rfl), (Nat.le_of_ble_eq_true rfl)⟩) hS (fun q _ h => hFc q h) hFc (fun r_39 u t H1 locs ht hvm hw hB hz1 hk1 hS => ?_)
            obtain ⟨Pn_40, ch_41⟩ := u
            obtain ⟨hP1, hK1, hD1⟩ := hB
            rw [ht] at hP1
            try dsimp only at hw
            obtain ⟨hP, hD⟩ : kPD dC dI A [(jR, .inr (4, [.ref jT, .ref r1, .ref r2, .int (nI (xwr)), .int (nI (fi)), .int (nI (Pn_40)), .ref q6, .ref q7])), (r1, .inl (c1, 120, .inl xs1)), (r2, .inl (c2, 124, .inl s2)), (jT, .inr (8, [.ref t0, .int (nI (kt))])), (t0, .inl (cC, 120, .inl gT))] H1 := kJoinI hP hD [0, 1, 2, 3, 4] rfl hk1 hFc hP1 hD1 rfl [some 0, some 1, some 2, some 3, some 4] rfl rfl
            generalize H1 = H at hP hS ⊢
            obtain ⟨rfl, hw_42_0, hw_42_1, hw_42_2, hw_42_3, hw_42_4, hw_42_5, hw_42_6⟩ := hw
            have e9 : Pn_14 = Pn_40 := by rw [hw_42_1, hw_16_1]; exact (kSp_sp (by omega)).symm
            have e8 : ch_15 = ch_41 := by rw [hw_42_0, hw_16_0, hw_16_1]; exact (kLk_sp (by omega)).symm
            subst e9
            subst e8
            refine lv_bipush (v := 47) hx hb dX4_readTerm_31 (by decide) ?_
            refine lv_icmp_ne (tgt := 79) hx hb dX4_readTerm_33 (by decide) (fun c_43 => ?_) (fun c_43 => ?_)
            · have hn_44 := kneq (a := ch_15) (b := 47) (by omega) (by omega) c_43
              refine lv_iconst (v := 1) hx hb dX4_readTerm_79 (by decide) ?_
              have hP9 := hP
              have hD9 := hD
              have hK9 := hK
              rw [hQ]
              exact W.zret (v := 1) hx hb hr rfl (fun t ht hW => ⟨⟨1, (xs1, xwr, Pn_14, true, xl), rfl, ⟨rfl, kPR_t (a := kTermD bt kt g7 n7 6) rfl (kTermD_good hz7 6) (by omega) (by rw [← ivk_9_3, show 120 - i = (119 - i) + 1 by omega, kLoop_e (by rw [← hw_16_0]; omega), ← hw_16_1]) ivk_9_4 ivk_9_5, by omega⟩,  by rw [ht]; exact hP9, va_K.moved hW.alike hK9, hD9⟩, hS.F ht⟩) hS.2.2 dX4_readTerm_80
            · have hn_45 := keq (a := ch_15) (b := 47) (by omega) (by omega) c_43
              refine lv_aload_n hx hb dX4_readTerm_36 rfl (lv_at hl 1 rfl) ?_
              obtain ⟨hPc, hDc, hFc⟩ := kCut (wc := [(jR, .inr (4, [.ref jT, .ref r1, .ref r2, .int (nI (xwr)), .int (nI (fi)), .int (nI (Pn_14)), .ref q6, .ref q7])), (r1, .inl (c1, 120, .inl xs1)), (r2, .inl (c2, 124, .inl s2)), (jT, .inr (8, [.ref t0, .int (nI (kt))])), (t0, .inl (cC, 120, .inl gT))]) hP hD hS hA [0, 1, 2, 3, 4] rfl (by decide) rfl
              have hKc := hK.sb (tys2 := [(c1, .int), (c2, .int), (cC, .char)]) [0, 1, 2] rfl
              refine va_calli (va_runV (As := []) (rest := []) ⟨hx, hb, hml, hown, hts⟩ (s_look4x l dC dI jT t0 cC gT kt (by omega) hgT bt hbt hb8 jR r1 r2 c1 c2 xs1 s2 xwr fi q6 q7 (by omega) (by omega) Pn_14 (by omega) H.size) (cwV 0 hts (kG (List.forall_mem_cons.mpr ⟨(List.mem_cons_of_mem _ (List.mem_append_left _ (List.mem_of_getElem? (i := 3) rfl))), (List.forall_mem_cons.mpr ⟨(List.mem_cons_of_mem _ (List.mem_append_left _ (List.mem_of_getElem? (i := 2) rfl))), (List.forall_mem_cons.mpr ⟨(List.mem_cons_of_mem _ (List.mem_append_left _ (List.mem_of_getElem? (i := 1) rfl))), (List.forall_mem_cons.mpr ⟨(List.mem_cons_of_mem _ (List.mem_append_left _ (List.mem_of_getElem? (i := 0) rfl))), (fun _ h => absurd h List.not_mem_nil)⟩)⟩)⟩)⟩) (kGV _ _ _ _) (fun _ h => List.mem_cons_of_mem _ (List.mem_append_right _ (List.mem_append_left _ h))) gw_s_look4x) rfl rfl rfl ⟨rfl, hd_X4_look⟩ ⟨(Nat.le_of_ble_eq_true rfl), (Nat.le_of_ble_eq_true rfl)⟩) (kW_V kT_blind kT_give (va_recv hKc hPc (ci := 4) (q0 := 0) rfl rfl) hPc hKc hDc) rfl rfl hl.1 rfl (lv_room (Nat.le_of_ble_eq_true rfl)) dX4_readTerm_37 ⟨(Nat.le_of_ble_eq_true rfl), (Nat.le_of_ble_eq_true rfl)⟩) hS (fun q _ h => hFc q h) hFc (fun r_46 u t H1 locs ht hvm hw hB hz1 hk1 hS => ?_)
              obtain ⟨Pn_47, ch_48⟩ := u
              obtain ⟨hP1, hK1, hD1⟩ := hB
              rw [ht] at hP1
              try dsimp only at hw
              obtain ⟨hP, hD⟩ : kPD dC dI A [(jR, .inr (4, [.ref jT, .ref r1, .ref r2, .int (nI (xwr)), .int (nI (fi)), .int (nI (Pn_47)), .ref q6, .ref q7])), (r1, .inl (c1, 120, .inl xs1)), (r2, .inl (c2, 124, .inl s2)), (jT, .inr (8, [.ref t0, .int (nI (kt))])), (t0, .inl (cC, 120, .inl gT))] H1 := kJoinI hP hD [0, 1, 2, 3, 4] rfl hk1 hFc hP1 hD1 rfl [some 0, some 1, some 2, some 3, some 4] rfl rfl
              generalize H1 = H at hP hS ⊢
              obtain ⟨rfl, hw_49_0, hw_49_1, hw_49_2, hw_49_3, hw_49_4, hw_49_5, hw_49_6⟩ := hw
              have e9 : Pn_14 = Pn_47 := by rw [hw_49_1, hw_16_1]; exact (kSp_sp (by omega)).symm
              have e8 : ch_15 = ch_48 := by rw [hw_49_0, hw_16_0, hw_16_1]; exact (kLk_sp (by omega)).symm
              subst e9
              subst e8
              refine lv_istore_n hx hb dX4_readTerm_40 rfl hl (by decide) (kTo [(3, .int (nI (ch_15))), (2, .int (nI (i))), (0, .ref jR), (1, .int 0)]) (fun ls hl => ?_)
              refine lv_aload_n hx hb dX4_readTerm_41 rfl (lv_at hl 2 rfl) ?_
              refine lv_dup hx hb dX4_readTerm_42 rfl ?_
              refine va_get (D := (dC, dI)) (ci := 4) (v := .int (nI (Pn_14))) (C := RX4) (T := TX4) (N := 8) hx hb hts (fun _ h => List.mem_cons_of_mem _ (List.mem_append_right _ (List.mem_append_right _ (List.mem_append_right _ (List.mem_append_left _ h))))) hown hK hP 0 rfl rfl 5 (by decide) (hts (.fieldLink RX4 25 "NotEnded$Reader" "place" "I") (List.mem_cons_of_mem _ (List.mem_append_left _ (List.mem_of_getElem? (i := 11) rfl)))) (fun _ h9 => h9) rfl dX4_readTerm_43 ?_
              refine lv_iconst (v := 1) hx hb dX4_readTerm_46 (by decide) ?_
              refine lv_iadd hx hb dX4_readTerm_47 ?_
              refine lv_topi (fun y_50 ey_50 => ?_)
              obtain rfl : y_50 = nI (Pn_14 + 1) := ey_50.trans (nI_add (Pn_14) (1))
              refine va_put (D := (dC, dI)) (ci := 4) (v := .int (nI (Pn_14 + 1))) (ty := tyX4 5) (C := RX4) (T := TX4) (N := 8) hx hb hts (fun _ h => List.mem_cons_of_mem _ (List.mem_append_right _ (List.mem_append_right _ (List.mem_append_right _ (List.mem_append_left _ h))))) tyX4 tyX4_ok nmX4 hown hK hP hD hS 0 rfl rfl 5 (by decide) (hts (.fieldLink RX4 25 "NotEnded$Reader" "place" "I") (List.mem_cons_of_mem _ (List.mem_append_left _ (List.mem_of_getElem? (i := 11) rfl)))) (fun _ h9 => h9) rfl (tyX4_ok 5 (by decide)) rfl rfl (Nat.le_of_ble_eq_true rfl) dX4_readTerm_48 (fun H locs hP hD hS => ?_)
              obtain ⟨hP, hD⟩ : kPD dC dI A [(jR, .inr (4, [.ref jT, .ref r1, .ref r2, .int (nI (xwr)), .int (nI (fi)), .int (nI (Pn_14 + 1)), .ref q6, .ref q7])), (r1, .inl (c1, 120, .inl xs1)), (r2, .inl (c2, 124, .inl s2)), (jT, .inr (8, [.ref t0, .int (nI (kt))])), (t0, .inl (cC, 120, .inl gT))] H := ⟨hP, hD⟩
              refine lv_aload_n hx hb dX4_readTerm_51 rfl (lv_at hl 2 rfl) ?_
              refine lv_iload_n hx hb dX4_readTerm_52 rfl (lv_at hl 3 rfl) ?_
              obtain ⟨hPc, hDc, hFc⟩ := kCut (wc := [(jR, .inr (4, [.ref jT, .ref r1, .ref r2, .int (nI (xwr)), .int (nI (fi)), .int (nI (Pn_14 + 1)), .ref q6, .ref q7])), (r1, .inl (c1, 120, .inl xs1)), (r2, .inl (c2, 124, .inl s2)), (jT, .inr (8, [.ref t0, .int (nI (kt))])), (t0, .inl (cC, 120, .inl gT))]) hP hD hS hA [0, 1, 2, 3, 4] rfl (by decide) rfl
              have hKc := hK.sb (tys2 := [(c1, .int), (c2, .int), (cC, .char)]) [0, 1, 2] rfl
              refine va_calli (va_runV (As := [.int 0]) (rest := []) ⟨hx, hb, hml, hown, hts⟩ (s_atom4x_0 l dC dI jT t0 cC gT kt (by omega) hgT bt hbt hb8 jR r1 r2 c1 c2 xs1 s2 xwr fi q6 q7 (by omega) (by omega) (Pn_14 + 1) (by omega) (by omega) b6 n6 g6 (by omega) b7 n7 g7 (by omega) gn6 hz6 gn7 hz7 H.size) (cwV 1 hts (kG (List.forall_mem_cons.mpr ⟨(List.mem_cons_of_mem _ (List.mem_append_left _ (List.mem_of_getElem? (i := 24) rfl))), (List.forall_mem_cons.mpr ⟨(List.mem_cons_of_mem _ (List.mem_append_left _ (List.mem_of_getElem? (i := 23) rfl))), (List.forall_mem_cons.mpr ⟨(List.mem_cons_of_mem _ (List.mem_append_left _ (List.mem_of_getElem? (i := 22) rfl))), (List.forall_mem_cons.mpr ⟨(List.mem_cons_of_mem _ (List.mem_append_left _ (List.mem_of_getElem? (i := 0) rfl))), (fun _ h => absurd h List.not_mem_nil)⟩)⟩)⟩)⟩) (kGV _ _ _ _) (kFam (List.mem_cons_of_mem _ (List.mem_append_left _ (List.mem_of_getElem? (i := 21) rfl)))) gw_s_atom4x_0) rfl rfl rfl ⟨rfl, hd_X4_readAtom⟩ ⟨(Nat.le_of_ble_eq_true rfl), (Nat.le_of_ble_eq_true rfl)⟩) (kW_V kS2_blind (kS2_give hX hS hFc) (va_recv hKc hPc (ci := 4) (q0 := 0) rfl rfl) hPc hKc hDc) rfl rfl hl.1 rfl (lv_room (Nat.le_of_ble_eq_true rfl)) dX4_readTerm_53 ⟨(Nat.le_of_ble_eq_true rfl), (Nat.le_of_ble_eq_true rfl)⟩) hS (fun q _ h => hFc q h) hFc (fun r_51 u t H1 locs ht hvm hw hB hz1 hk1 hS => ?_)
              obtain ⟨S1_52, Wr_53, Pn_54, xo_55, xl_56⟩ := u
              obtain ⟨hP1, hK1, hD1⟩ := hB
              rw [ht] at hP1
              try dsimp only at hw
              obtain ⟨hP, hD⟩ : kPD dC dI A [(jR, .inr (4, [.ref jT, .ref r1, .ref r2, .int (nI (Wr_53)), .int (nI (fi)), .int (nI (Pn_54)), .ref q6, .ref q7])), (r1, .inl (c1, 120, .inl S1_52)), (r2, .inl (c2, 124, .inl s2)), (jT, .inr (8, [.ref t0, .int (nI (kt))])), (t0, .inl (cC, 120, .inl gT))] H1 := kJoinI hP hD [0, 1, 2, 3, 4] rfl hk1 hFc hP1 hD1 rfl [some 0, some 1, some 2, some 3, some 4] rfl rfl
              generalize H1 = H at hP hS ⊢
              have hw_57 := hw
              refine lv_if_eq (tgt := 71) hx hb dX4_readTerm_56 (by decide) (fun c_58 => ?_) (fun c_58 => ?_)
              · obtain rfl : xo_55 = false := kBo_f (kZr9 hw_57.1 c_58)
                have hw_57_k := hw_57.2.1.2.1
                refine lv_iconst (v := 0) hx hb dX4_readTerm_71 (by decide) ?_
                have hP9 := hP
                have hD9 := hD
                have hK9 := hK
                rw [hQ]
                exact W.zret (v := 0) hx hb hr rfl (fun t ht hW => ⟨⟨0, (S1_52, Wr_53, Pn_54, false, ([])), rfl, ⟨rfl, kPR_f (by rw [← ivk_9_3, show 120 - i = (119 - i) + 1 by omega]; exact kLoop_f (by rw [← hw_16_0]; omega) (by rw [← hw_16_1]; exact hw_57.2.1.1)) (by omega), by omega⟩,  by rw [ht]; exact hP9, va_K.moved hW.alike hK9, hD9⟩, hS.F ht⟩) hS.2.2 dX4_readTerm_72
              · obtain rfl : xo_55 = true := kBo_t (kNz9 hw_57.1 c_58)
                obtain ⟨hw_57_W, hw_57_S, hw_57_l, hw_57_p⟩ := hw_57.2.1.2.2 rfl
                have hw_57_k := hw_57.2.1.2.1
                refine lv_aload_n hx hb dX4_readTerm_59 rfl (lv_at hl 2 rfl) ?_
                refine lv_sipush (v := 20000) hx hb dX4_readTerm_60 (by decide) ?_
                refine lv_iload_n hx hb dX4_readTerm_63 rfl (lv_at hl 0 rfl) ?_
                refine lv_iadd hx hb dX4_readTerm_64 ?_
                refine lv_topi (fun y_59 ey_59 => ?_)
                obtain rfl : y_59 = nI (20000 + ch_15) := ey_59.trans (nI_add (20000) (ch_15))
                obtain ⟨hPc, hDc, hFc⟩ := kCut (wc := [(jR, .inr (4, [.ref jT, .ref r1, .ref r2, .int (nI (Wr_53)), .int (nI (fi)), .int (nI (Pn_54)), .ref q6, .ref q7])), (r1, .inl (c1, 120, .inl S1_52)), (r2, .inl (c2, 124, .inl s2)), (jT, .inr (8, [.ref t0, .int (nI (kt))])), (t0, .inl (cC, 120, .inl gT))]) hP hD hS hA [0, 1, 2, 3, 4] rfl (by decide) rfl
                have hKc := hK.sb (tys2 := [(c1, .int), (c2, .int), (cC, .char)]) [0, 1, 2] rfl
                refine va_calli (va_runV (As := [.int (nI (20000 + ch_15))]) (rest := []) ⟨hx, hb, hml, hown, hts⟩ (s_write4x l dC dI jT t0 cC gT kt (by omega) hgT bt hbt hb8 jR r1 r2 c1 c2 S1_52 s2 Wr_53 fi q6 q7 (by omega) (by omega) Pn_54 (by omega) (nI (20000 + ch_15)) (by omega) H.size) (cwV 1 hts (kG (List.forall_mem_cons.mpr ⟨(List.mem_cons_of_mem _ (List.mem_append_left _ (List.mem_of_getElem? (i := 14) rfl))), (List.forall_mem_cons.mpr ⟨(List.mem_cons_of_mem _ (List.mem_append_left _ (List.mem_of_getElem? (i := 13) rfl))), (List.forall_mem_cons.mpr ⟨(List.mem_cons_of_mem _ (List.mem_append_left _ (List.mem_of_getElem? (i := 12) rfl))), (List.forall_mem_cons.mpr ⟨(List.mem_cons_of_mem _ (List.mem_append_left _ (List.mem_of_getElem? (i := 0) rfl))), (fun _ h => absurd h List.not_mem_nil)⟩)⟩)⟩)⟩) (kGV _ _ _ _) (fun _ h => List.mem_cons_of_mem _ (List.mem_append_right _ (List.mem_append_right _ (List.mem_append_right _ (List.mem_append_right _ (List.mem_append_right _ (List.mem_append_left _ h))))))) gw_s_write4x) rfl rfl rfl ⟨rfl, hd_X4_write⟩ ⟨(Nat.le_of_ble_eq_true rfl), (Nat.le_of_ble_eq_true rfl)⟩) (kW_V kT_blind kT_give (va_recv hKc hPc (ci := 4) (q0 := 0) rfl rfl) hPc hKc hDc) rfl rfl hl.1 rfl (lv_room (Nat.le_of_ble_eq_true rfl)) dX4_readTerm_65 ⟨(Nat.le_of_ble_eq_true rfl), (Nat.le_of_ble_eq_true rfl)⟩) hS (fun q _ h => hFc q h) hFc (fun r_60 u t H1 locs ht hvm hw hB hz1 hk1 hS => ?_)
                obtain ⟨S1_61, Wr_62⟩ := u
                obtain ⟨hP1, hK1, hD1⟩ := hB
                rw [ht] at hP1
                try dsimp only at hw
                obtain ⟨hP, hD⟩ : kPD dC dI A [(jR, .inr (4, [.ref jT, .ref r1, .ref r2, .int (nI (Wr_62)), .int (nI (fi)), .int (nI (Pn_54)), .ref q6, .ref q7])), (r1, .inl (c1, 120, .inl S1_61)), (r2, .inl (c2, 124, .inl s2)), (jT, .inr (8, [.ref t0, .int (nI (kt))])), (t0, .inl (cC, 120, .inl gT))] H1 := kJoinI hP hD [0, 1, 2, 3, 4] rfl hk1 hFc hP1 hD1 rfl [some 0, some 1, some 2, some 3, some 4] rfl rfl
                generalize H1 = H at hP hS ⊢
                obtain ⟨rfl, hw_63⟩ := hw
                refine lv_if_ne (tgt := 73) hx hb dX4_readTerm_68 (by decide) (fun c_64 => ?_) (fun c_64 => absurd c_64 (by decide))
                refine lv_iinc (v := nI (i + 1)) hx hb dX4_readTerm_73 hl (k := 1) rfl (kInc _ 1) (by decide) (kTo [(2, .int (nI (i + 1))), (3, .int (nI (ch_15))), (0, .ref jR), (1, .int 0)]) (fun ls hl => ?_)
                refine lv_goto (tgt := 12) hx hb dX4_readTerm_76 (by decide) ?_
                exact ih_k_9 (i + 1) S1_61 Pn_54 Wr_62 (xl ++ xl_56 ++ [nI (20000 + ch_15)]) (by omega) (by omega) (by omega) (by have e9 := kLoop_t (b := bt) (n := kt) (c1 := 42) (c2 := 47) (a := kAtomD bt kt g7 n7 6) (f := 120 - (i + 1)) (p := xpn) (l := xl) (by rw [← hw_16_0]; omega) (by rw [← hw_16_1]; exact hw_57.2.1.1); rw [← hw_16_0] at e9; rw [← e9, show (120 - (i + 1)) + 1 = 120 - i by omega]; exact ivk_9_3) (by simp only [List.length_append, List.length_cons, List.length_nil]; omega) (kWrt3 ivk_9_5 ivk_9_4 hw_57_S hw_57_W hw_63.2) (by simp only [List.length_append, List.length_cons, List.length_nil]; omega) (by omega) _ _ hP hD hS ls (lv_sub hl [0, 2, 3] rfl) (by omega)
    exact lp_k_9 (120 - 0 + 1) 0 S1_2 Pn_4 Wr_3 xl_6 (by omega) (by omega) (by omega) (kMany_t hw_7.2.1.1).symm hw_7_W hw_7_S hw_7_l hw_7_p _ _ hP hD hS ls (lv_sub hl [0, 1, 2] rfl) (by omega)
  · obtain rfl : xo_5 = false := kBo_f (kZr9 hw_7.1 c_8)
    have hw_7_k := hw_7.2.1.2.1
    refine lv_iconst (v := 0) hx hb dX4_readTerm_8 (by decide) ?_
    have hP9 := hP
    have hD9 := hD
    have hK9 := hK
    rw [hQ]
    exact W.zret (v := 0) hx hb hr rfl (fun t ht hW => ⟨⟨0, (S1_2, Wr_3, Pn_4, false, ([])), rfl, ⟨rfl, kPR_f (kMany_f hw_7.2.1.1) (by omega), by omega⟩,  by rw [ht]; exact hP9, va_K.moved hW.alike hK9, hD9⟩, hS.F ht⟩) hS.2.2 dX4_readTerm_9

def w_s_sum4x_0 : List Cond := .code yX4_readSum cX4_readSum 4 (some .boolean) :: wf_rq
theorem gw_s_sum4x_0 : (w_s_sum4x_0).all goodWord = true := kFamG rfl gf_rq
set_option maxHeartbeats 4000000 in
set_option maxRecDepth 100000 in
theorem s_sum4x_0 (l : Launch) (dC : Nat → ClassId) (dI : Nat → Nat → Nat) (jT : Nat) (t0 : Nat) (cC : ClassId) (gT : Nat → Int32) (kt : Nat) (hkt : kt ≤ 120) (hgT : ∀ j : Nat, narrow .char (.int (gT j)) = .int (gT j)) (bt : Nat → Nat) (hbt : ∀ j : Nat, gT j = nI (bt j)) (hb8 : ∀ j : Nat, bt j < 256) (jR : Nat) (r1 : Nat) (r2 : Nat) (c1 : ClassId) (c2 : ClassId) (s1 : Nat → Int32) (s2 : Nat → Int32) (wr : Nat) (fi : Nat) (q6 : Nat) (q7 : Nat) (hwr : wr ≤ 120) (hfi : fi ≤ 124) (pn : Nat) (hpn : pn ≤ kt) (hwp : wr ≤ pn) (b6 : Nat) (n6 : Nat) (g6 : Nat → Int32) (hn6 : n6 ≤ 8) (b7 : Nat) (n7 : Nat) (g7 : Nat → Int32) (hn7 : n7 ≤ 8) (gn6 : ∀ k : Nat, ∃ v : Nat, v < 128 ∧ g6 k = nI v) (hz6 : kIx g6 n6 (nI 0) = n6) (gn7 : ∀ k : Nat, ∃ v : Nat, v < 128 ∧ g7 k = nI v) (hz7 : kIx g7 n7 (nI 0) = n7) (sz : Nat) : Met l yX4_readSum w_s_sum4x_0 ({ frames := 44, cells := 0, slots := 0, locals := 2640 }) (kW dC dI [.ref jR, .int 0] [(jR, .inr (4, [.ref jT, .ref r1, .ref r2, .int (nI (wr)), .int (nI (fi)), .int (nI (pn)), .ref q6, .ref q7])), (r1, .inl (c1, 120, .inl s1)), (r2, .inl (c2, 124, .inl s2)), (jT, .inr (8, [.ref t0, .int (nI (kt))])), (t0, .inl (cC, 120, .inl gT))] [(c1, .int), (c2, .int), (cC, .char)] (kS2 q6 b6 n6 g6 q7 b7 n7 g7 (va_A [(jR, .inr (4, [.ref jT, .ref r1, .ref r2, .int (nI (wr)), .int (nI (fi)), .int (nI (pn)), .ref q6, .ref q7])), (r1, .inl (c1, 120, .inl s1)), (r2, .inl (c2, 124, .inl s2)), (jT, .inr (8, [.ref t0, .int (nI (kt))])), (t0, .inl (cC, 120, .inl gT))] sz)) sz) (va_Qi (fun (r : Int32) (u : (Nat → Int32) × Nat × Nat × Bool × (List Int32)) => match u with | (S1, Wr, Pn, xo, xl) => (r = kBo xo ∧ kPR (kSumD bt kt g7 n7 6 pn) pn kt wr s1 xo Pn xl Wr S1 ∧ Wr ≤ 120)) (fun (u : (Nat → Int32) × Nat × Nat × Bool × (List Int32)) => match u with | (S1, Wr, Pn, xo, xl) => fun t : State => kB dC dI [(jR, .inr (4, [.ref jT, .ref r1, .ref r2, .int (nI (Wr)), .int (nI (fi)), .int (nI (Pn)), .ref q6, .ref q7])), (r1, .inl (c1, 120, .inl S1)), (r2, .inl (c2, 124, .inl s2)), (jT, .inr (8, [.ref t0, .int (nI (kt))])), (t0, .inl (cC, 120, .inl gT))] [(c1, .int), (c2, .int), (cC, .char)] (va_A [(jR, .inr (4, [.ref jT, .ref r1, .ref r2, .int (nI (wr)), .int (nI (fi)), .int (nI (pn)), .ref q6, .ref q7])), (r1, .inl (c1, 120, .inl s1)), (r2, .inl (c2, 124, .inl s2)), (jT, .inr (8, [.ref t0, .int (nI (kt))])), (t0, .inl (cC, 120, .inl gT))] sz) t) (va_A [(jR, .inr (4, [.ref jT, .ref r1, .ref r2, .int (nI (wr)), .int (nI (fi)), .int (nI (pn)), .ref q6, .ref q7])), (r1, .inl (c1, 120, .inl s1)), (r2, .inl (c2, 124, .inl s2)), (jT, .inr (8, [.ref t0, .int (nI (kt))])), (t0, .inl (cC, 120, .inl gT))] sz)) 0 0 (va_A [(jR, .inr (4, [.ref jT, .ref r1, .ref r2, .int (nI (wr)), .int (nI (fi)), .int (nI (pn)), .ref q6, .ref q7])), (r1, .inl (c1, 120, .inl s1)), (r2, .inl (c2, 124, .inl s2)), (jT, .inr (8, [.ref t0, .int (nI (kt))])), (t0, .inl (cC, 120, .inl gT))] sz) := by
  refine Met.ofW (cc := cX4_readSum) (maxL := 4) (ret := (some .boolean)) (by decide) rfl ?_
  intro p e s m args below meth c s₁ B hml hv
  obtain ⟨rfl, hsz, hP, hK, hD0, hX⟩ := hv
  have hx := B.exec
  have hb := B.bytes
  have hr := B.returns
  have hts := atoms_spec (ws := w_s_sum4x_0) B.pre
  have hown : s.vm.findClass RX4 = some m.cls := findClass_of_methodNamed B.named
  have hlocks := B.notSynchronized
  subst hsz
  have hD := hD0.self (sz := s.heap.size)
  generalize hAe : va_A [(jR, .inr (4, [.ref jT, .ref r1, .ref r2, .int (nI (wr)), .int (nI (fi)), .int (nI (pn)), .ref q6, .ref q7])), (r1, .inl (c1, 120, .inl s1)), (r2, .inl (c2, 124, .inl s2)), (jT, .inr (8, [.ref t0, .int (nI (kt))])), (t0, .inl (cC, 120, .inl gT))] s.heap.size = A at hD hX ⊢
  have hA : ∀ q : Nat, s.heap.size ≤ q → A q := fun q h => by rw [← hAe]; exact Or.inr h
  have hS : va_S A s.heap s.heap [] := va_S.rf
  have hP : va_P (dC, dI) vwCl [(jR, .inr (4, [.ref jT, .ref r1, .ref r2, .int (nI (wr)), .int (nI (fi)), .int (nI (pn)), .ref q6, .ref q7])), (r1, .inl (c1, 120, .inl s1)), (r2, .inl (c2, 124, .inl s2)), (jT, .inr (8, [.ref t0, .int (nI (kt))])), (t0, .inl (cC, 120, .inl gT))] s.heap := hP
  have hl := lv_entry ([.ref jR, .int 0]) (n := 4) (Nat.le_of_ble_eq_true rfl)
  rw [lg_entry_eq]
  generalize (lg_sl ([.ref jR, .int 0]) ++ List.replicate (4 - (lg_sl ([.ref jR, .int 0])).length) Slot.unset).toArray = ls at hl ⊢
  have hl : lv_has ls 4 [(0, .ref jR), (1, .int 0)] := hl
  refine kQ (fun Q hQ => ?_)
  refine lv_aload_n hx hb dX4_readSum_0 rfl (lv_at hl 0 rfl) ?_
  refine lv_iload_n hx hb dX4_readSum_1 rfl (lv_at hl 1 rfl) ?_
  obtain ⟨hPc, hDc, hFc⟩ := kCut (wc := [(jR, .inr (4, [.ref jT, .ref r1, .ref r2, .int (nI (wr)), .int (nI (fi)), .int (nI (pn)), .ref q6, .ref q7])), (r1, .inl (c1, 120, .inl s1)), (r2, .inl (c2, 124, .inl s2)), (jT, .inr (8, [.ref t0, .int (nI (kt))])), (t0, .inl (cC, 120, .inl gT))]) hP hD hS hA [0, 1, 2, 3, 4] rfl (by decide) rfl
  have hKc := hK.sb (tys2 := [(c1, .int), (c2, .int), (cC, .char)]) [0, 1, 2] rfl
  refine va_calli (va_runV (As := [.int 0]) (rest := []) ⟨hx, hb, hml, hown, hts⟩ (s_term4x_0 l dC dI jT t0 cC gT kt (by omega) hgT bt hbt hb8 jR r1 r2 c1 c2 s1 s2 wr fi q6 q7 (by omega) (by omega) pn (by omega) (by omega) b6 n6 g6 (by omega) b7 n7 g7 (by omega) gn6 hz6 gn7 hz7 s.heap.size) (cwV 1 hts (kG (List.forall_mem_cons.mpr ⟨(List.mem_cons_of_mem _ (List.mem_append_left _ (List.mem_of_getElem? (i := 28) rfl))), (List.forall_mem_cons.mpr ⟨(List.mem_cons_of_mem _ (List.mem_append_left _ (List.mem_of_getElem? (i := 27) rfl))), (List.forall_mem_cons.mpr ⟨(List.mem_cons_of_mem _ (List.mem_append_left _ (List.mem_of_getElem? (i := 26) rfl))), (List.forall_mem_cons.mpr ⟨(List.mem_cons_of_mem _ (List.mem_append_left _ (List.mem_of_getElem? (i := 0) rfl))), (fun _ h => absurd h List.not_mem_nil)⟩)⟩)⟩)⟩) (kGV _ _ _ _) (kFam (List.mem_cons_of_mem _ (List.mem_append_left _ (List.mem_of_getElem? (i := 25) rfl)))) gw_s_term4x_0) rfl rfl rfl ⟨rfl, hd_X4_readTerm⟩ ⟨(Nat.le_of_ble_eq_true rfl), (Nat.le_of_ble_eq_true rfl)⟩) (kW_V kS2_blind (kS2_give hX hS hFc) (va_recv hKc hPc (ci := 4) (q0 := 0) rfl rfl) hPc hKc hDc) rfl rfl hl.1 rfl (lv_room (Nat.le_of_ble_eq_true rfl)) dX4_readSum_2 ⟨(Nat.le_of_ble_eq_true rfl), (Nat.le_of_ble_eq_true rfl)⟩) hS (fun q _ h => hFc q h) hFc (fun r_1 u t H1 locs ht hvm hw hB hz1 hk1 hS => ?_)
  obtain ⟨S1_2, Wr_3, Pn_4, xo_5, xl_6⟩ := u
  obtain ⟨hP1, hK1, hD1⟩ := hB
  rw [ht] at hP1
  try dsimp only at hw
  obtain ⟨hP, hD⟩ : kPD dC dI A [(jR, .inr (4, [.ref jT, .ref r1, .ref r2, .int (nI (Wr_3)), .int (nI (fi)), .int (nI (Pn_4)), .ref q6, .ref q7])), (r1, .inl (c1, 120, .inl S1_2)), (r2, .inl (c2, 124, .inl s2)), (jT, .inr (8, [.ref t0, .int (nI (kt))])), (t0, .inl (cC, 120, .inl gT))] H1 := kJoinI hP hD [0, 1, 2, 3, 4] rfl hk1 hFc hP1 hD1 rfl [some 0, some 1, some 2, some 3, some 4] rfl rfl
  generalize H1 = H at hP hS ⊢
  have hw_7 := hw
  refine lv_if_ne (tgt := 10) hx hb dX4_readSum_5 (by decide) (fun c_8 => ?_) (fun c_8 => ?_)
  · obtain rfl : xo_5 = true := kBo_t (kNz9 hw_7.1 c_8)
    obtain ⟨hw_7_W, hw_7_S, hw_7_l, hw_7_p⟩ := hw_7.2.1.2.2 rfl
    have hw_7_k := hw_7.2.1.2.1
    refine lv_iconst (v := 0) hx hb dX4_readSum_10 (by decide) ?_
    refine lv_istore_n hx hb dX4_readSum_11 rfl hl (by decide) (kTo [(2, .int 0), (0, .ref jR), (1, .int 0)]) (fun ls hl => ?_)
    have lp_k_9 : ∀ (n9 : Nat) (i : Nat) (xs1 : Nat → Int32) (xpn : Nat) (xwr : Nat) (xl : List Int32) (ivk_9_0 : i ≤ 120) (ivk_9_1 : xwr ≤ 120) (ivk_9_2 : xpn ≤ kt) (ivk_9_3 : kLoop bt kt 43 45 (kTermD bt kt g7 n7 6) (120 - i) xpn xl = kSumD bt kt g7 n7 6 pn) (ivk_9_4 : xwr = wr + xl.length) (ivk_9_5 : xs1 = kWrt s1 wr xl) (ivk_9_6 : pn + xl.length ≤ xpn) (ivk_9_7 : pn < xpn) (H : Heap) (locs : List Loc) (_ : va_P (dC, dI) vwCl [(jR, .inr (4, [.ref jT, .ref r1, .ref r2, .int (nI (xwr)), .int (nI (fi)), .int (nI (xpn)), .ref q6, .ref q7])), (r1, .inl (c1, 120, .inl xs1)), (r2, .inl (c2, 124, .inl s2)), (jT, .inr (8, [.ref t0, .int (nI (kt))])), (t0, .inl (cC, 120, .inl gT))] H) (_ : va_D A [(jR, .inr (4, [.ref jT, .ref r1, .ref r2, .int (nI (xwr)), .int (nI (fi)), .int (nI (xpn)), .ref q6, .ref q7])), (r1, .inl (c1, 120, .inl xs1)), (r2, .inl (c2, 124, .inl s2)), (jT, .inr (8, [.ref t0, .int (nI (kt))])), (t0, .inl (cC, 120, .inl gT))]) (_ : va_S A s.heap H locs) (ls : Array Slot) (_ : lv_has ls 4 [(2, .int (nI (i))), (0, .ref jR), (1, .int 0)]) (_ : 120 - i < n9), W p l e (headSpec w_s_sum4x_0 ({ frames := 44, cells := 0, slots := 0, locals := 2640 })).room s m (#[.ref jR, .int 0] : Array Value) below meth c H locs 0 0 Q (F0 m 12 ls []) := by
      intro n9
      induction n9 with
      | zero => intro i xs1 xpn xwr xl ivk_9_0 ivk_9_1 ivk_9_2 ivk_9_3 ivk_9_4 ivk_9_5 ivk_9_6 ivk_9_7 H locs hP hD hS ls hl hm9; exact absurd hm9 (Nat.not_lt_zero _)
      | succ n9 ih_k_9 =>
        intro i xs1 xpn xwr xl ivk_9_0 ivk_9_1 ivk_9_2 ivk_9_3 ivk_9_4 ivk_9_5 ivk_9_6 ivk_9_7 H locs hP hD hS ls hl hm9
        refine lv_iload_n hx hb dX4_readSum_12 rfl (lv_at hl 0 rfl) ?_
        refine lv_bipush (v := 120) hx hb dX4_readSum_13 (by decide) ?_
        refine lv_icmp_ge (tgt := 79) hx hb dX4_readSum_15 (by decide) (fun c_10 => ?_) (fun c_10 => ?_)
        · have hn_11 := kle (a := 120) (b := i) (by omega) (by omega) c_10
          refine lv_iconst (v := 1) hx hb dX4_readSum_79 (by decide) ?_
          have hP9 := hP
          have hD9 := hD
          have hK9 := hK
          rw [hQ]
          exact W.zret (v := 1) hx hb hr rfl (fun t ht hW => ⟨⟨1, (xs1, xwr, xpn, true, xl), rfl, ⟨rfl, kPR_t (a := kSumD bt kt g7 n7 6) rfl (kSumD_good hz7 6) (by omega) (by rw [← ivk_9_3, show 120 - i = 0 by omega]; rfl) ivk_9_4 ivk_9_5, by omega⟩,  by rw [ht]; exact hP9, va_K.moved hW.alike hK9, hD9⟩, hS.F ht⟩) hS.2.2 dX4_readSum_80
        · have hn_12 := knle (a := 120) (b := i) (by omega) (by omega) c_10
          refine lv_aload_n hx hb dX4_readSum_18 rfl (lv_at hl 1 rfl) ?_
          obtain ⟨hPc, hDc, hFc⟩ := kCut (wc := [(jR, .inr (4, [.ref jT, .ref r1, .ref r2, .int (nI (xwr)), .int (nI (fi)), .int (nI (xpn)), .ref q6, .ref q7])), (r1, .inl (c1, 120, .inl xs1)), (r2, .inl (c2, 124, .inl s2)), (jT, .inr (8, [.ref t0, .int (nI (kt))])), (t0, .inl (cC, 120, .inl gT))]) hP hD hS hA [0, 1, 2, 3, 4] rfl (by decide) rfl
          have hKc := hK.sb (tys2 := [(c1, .int), (c2, .int), (cC, .char)]) [0, 1, 2] rfl
          refine va_calli (va_runV (As := []) (rest := []) ⟨hx, hb, hml, hown, hts⟩ (s_look4x l dC dI jT t0 cC gT kt (by omega) hgT bt hbt hb8 jR r1 r2 c1 c2 xs1 s2 xwr fi q6 q7 (by omega) (by omega) xpn (by omega) H.size) (cwV 0 hts (kG (List.forall_mem_cons.mpr ⟨(List.mem_cons_of_mem _ (List.mem_append_left _ (List.mem_of_getElem? (i := 3) rfl))), (List.forall_mem_cons.mpr ⟨(List.mem_cons_of_mem _ (List.mem_append_left _ (List.mem_of_getElem? (i := 2) rfl))), (List.forall_mem_cons.mpr ⟨(List.mem_cons_of_mem _ (List.mem_append_left _ (List.mem_of_getElem? (i := 1) rfl))), (List.forall_mem_cons.mpr ⟨(List.mem_cons_of_mem _ (List.mem_append_left _ (List.mem_of_getElem? (i := 0) rfl))), (fun _ h => absurd h List.not_mem_nil)⟩)⟩)⟩)⟩) (kGV _ _ _ _) (fun _ h => List.mem_cons_of_mem _ (List.mem_append_right _ (List.mem_append_left _ h))) gw_s_look4x) rfl rfl rfl ⟨rfl, hd_X4_look⟩ ⟨(Nat.le_of_ble_eq_true rfl), (Nat.le_of_ble_eq_true rfl)⟩) (kW_V kT_blind kT_give (va_recv hKc hPc (ci := 4) (q0 := 0) rfl rfl) hPc hKc hDc) rfl rfl hl.1 rfl (lv_room (Nat.le_of_ble_eq_true rfl)) dX4_readSum_19 ⟨(Nat.le_of_ble_eq_true rfl), (Nat.le_of_ble_eq_true rfl)⟩) hS (fun q _ h => hFc q h) hFc (fun r_13 u t H1 locs ht hvm hw hB hz1 hk1 hS => ?_)
          obtain ⟨Pn_14, ch_15⟩ := u
          obtain ⟨hP1, hK1, hD1⟩ := hB
          rw [ht] at hP1
          try dsimp only at hw
          obtain ⟨hP, hD⟩ : kPD dC dI A [(jR, .inr (4, [.ref jT, .ref r1, .ref r2, .int (nI (xwr)), .int (nI (fi)), .int (nI (Pn_14)), .ref q6, .ref q7])), (r1, .inl (c1, 120, .inl xs1)), (r2, .inl (c2, 124, .inl s2)), (jT, .inr (8, [.ref t0, .int (nI (kt))])), (t0, .inl (cC, 120, .inl gT))] H1 := kJoinI hP hD [0, 1, 2, 3, 4] rfl hk1 hFc hP1 hD1 rfl [some 0, some 1, some 2, some 3, some 4] rfl rfl
          generalize H1 = H at hP hS ⊢
          obtain ⟨rfl, hw_16_0, hw_16_1, hw_16_2, hw_16_3, hw_16_4, hw_16_5, hw_16_6⟩ := hw
          refine lv_bipush (v := 43) hx hb dX4_readSum_22 (by decide) ?_
          refine lv_icmp_eq (tgt := 36) hx hb dX4_readSum_24 (by decide) (fun c_17 => ?_) (fun c_17 => ?_)
          · have hn_18 := keq (a := ch_15) (b := 43) (by omega) (by omega) c_17
            refine lv_aload_n hx hb dX4_readSum_36 rfl (lv_at hl 1 rfl) ?_
            obtain ⟨hPc, hDc, hFc⟩ := kCut (wc := [(jR, .inr (4, [.ref jT, .ref r1, .ref r2, .int (nI (xwr)), .int (nI (fi)), .int (nI (Pn_14)), .ref q6, .ref q7])), (r1, .inl (c1, 120, .inl xs1)), (r2, .inl (c2, 124, .inl s2)), (jT, .inr (8, [.ref t0, .int (nI (kt))])), (t0, .inl (cC, 120, .inl gT))]) hP hD hS hA [0, 1, 2, 3, 4] rfl (by decide) rfl
            have hKc := hK.sb (tys2 := [(c1, .int), (c2, .int), (cC, .char)]) [0, 1, 2] rfl
            refine va_calli (va_runV (As := []) (rest := []) ⟨hx, hb, hml, hown, hts⟩ (s_look4x l dC dI jT t0 cC gT kt (by omega) hgT bt hbt hb8 jR r1 r2 c1 c2 xs1 s2 xwr fi q6 q7 (by omega) (by omega) Pn_14 (by omega) H.size) (cwV 0 hts (kG (List.forall_mem_cons.mpr ⟨(List.mem_cons_of_mem _ (List.mem_append_left _ (List.mem_of_getElem? (i := 3) rfl))), (List.forall_mem_cons.mpr ⟨(List.mem_cons_of_mem _ (List.mem_append_left _ (List.mem_of_getElem? (i := 2) rfl))), (List.forall_mem_cons.mpr ⟨(List.mem_cons_of_mem _ (List.mem_append_left _ (List.mem_of_getElem? (i := 1) rfl))), (List.forall_mem_cons.mpr ⟨(List.mem_cons_of_mem _ (List.mem_append_left _ (List.mem_of_getElem? (i := 0) rfl))), (fun _ h => absurd h List.not_mem_nil)⟩)⟩)⟩)⟩) (kGV _ _ _ _) (fun _ h => List.mem_cons_of_mem _ (List.mem_append_right _ (List.mem_append_left _ h))) gw_s_look4x) rfl rfl rfl ⟨rfl, hd_X4_look⟩ ⟨(Nat.le_of_ble_eq_true rfl), (Nat.le_of_ble_eq_true rfl)⟩) (kW_V kT_blind kT_give (va_recv hKc hPc (ci := 4) (q0 := 0) rfl rfl) hPc hKc hDc) rfl rfl hl.1 rfl (lv_room (Nat.le_of_ble_eq_true rfl)) dX4_readSum_37 ⟨(Nat.le_of_ble_eq_true rfl), (Nat.le_of_ble_eq_true rfl)⟩) hS (fun q _ h => hFc q h) hFc (fun r_19 u t H1 locs ht hvm hw hB hz1 hk1 hS => ?_)
            obtain ⟨Pn_20, ch_21⟩ := u
            obtain ⟨hP1, hK1, hD1⟩ := hB
            rw [ht] at hP1
            try dsimp only at hw
            obtain ⟨hP, hD⟩ : kPD dC dI A [(jR, .inr (4, [.ref jT, .ref r1, .ref r2, .int (nI (xwr)), .int (nI (fi)), .int (nI (Pn_20)), .ref q6, .ref q7])), (r1, .inl (c1, 120, .inl xs1)), (r2, .inl (c2, 124, .inl s2)), (jT, .inr (8, [.ref t0, .int (nI (kt))])), (t0, .inl (cC, 120, .inl gT))] H1 := kJoinI hP hD [0, 1, 2, 3, 4] rfl hk1 hFc hP1 hD1 rfl [some 0, some 1, some 2, some 3, some 4] rfl rfl
            generalize H1 = H at hP hS ⊢
            obtain ⟨rfl, hw_22_0, hw_22_1, hw_22_2, hw_22_3, hw_22_4, hw_22_5, hw_22_6⟩ := hw
            have e9 : Pn_14 = Pn_20 := by rw [hw_22_1, hw_16_1]; exact (kSp_sp (by omega)).symm
            have e8 : ch_15 = ch_21 := by rw [hw_22_0, hw_16_0, hw_16_1]; exact (kLk_sp (by omega)).symm
            subst e9
            subst e8
            refine lv_istore_n hx hb dX4_readSum_40 rfl hl (by decide) (kTo [(3, .int (nI (ch_15))), (2, .int (nI (i))), (0, .ref jR), (1, .int 0)]) (fun ls hl => ?_)
            refine lv_aload_n hx hb dX4_readSum_41 rfl (lv_at hl 2 rfl) ?_
            refine lv_dup hx hb dX4_readSum_42 rfl ?_
            refine va_get (D := (dC, dI)) (ci := 4) (v := .int (nI (Pn_14))) (C := RX4) (T := TX4) (N := 8) hx hb hts (fun _ h => List.mem_cons_of_mem _ (List.mem_append_right _ (List.mem_append_right _ (List.mem_append_right _ (List.mem_append_left _ h))))) hown hK hP 0 rfl rfl 5 (by decide) (hts (.fieldLink RX4 25 "NotEnded$Reader" "place" "I") (List.mem_cons_of_mem _ (List.mem_append_left _ (List.mem_of_getElem? (i := 11) rfl)))) (fun _ h9 => h9) rfl dX4_readSum_43 ?_
            refine lv_iconst (v := 1) hx hb dX4_readSum_46 (by decide) ?_
            refine lv_iadd hx hb dX4_readSum_47 ?_
            refine lv_topi (fun y_23 ey_23 => ?_)
            obtain rfl : y_23 = nI (Pn_14 + 1) := ey_23.trans (nI_add (Pn_14) (1))
            refine va_put (D := (dC, dI)) (ci := 4) (v := .int (nI (Pn_14 + 1))) (ty := tyX4 5) (C := RX4) (T := TX4) (N := 8) hx hb hts (fun _ h => List.mem_cons_of_mem _ (List.mem_append_right _ (List.mem_append_right _ (List.mem_append_right _ (List.mem_append_left _ h))))) tyX4 tyX4_ok nmX4 hown hK hP hD hS 0 rfl rfl 5 (by decide) (hts (.fieldLink RX4 25 "NotEnded$Reader" "place" "I") (List.mem_cons_of_mem _ (List.mem_append_left _ (List.mem_of_getElem? (i := 11) rfl)))) (fun _ h9 => h9) rfl (tyX4_ok 5 (by decide)) rfl rfl (Nat.le_of_ble_eq_true rfl) dX4_readSum_48 (fun H locs hP hD hS => ?_)
            obtain ⟨hP, hD⟩ : kPD dC dI A [(jR, .inr (4, [.ref jT, .ref r1, .ref r2, .int (nI (xwr)), .int (nI (fi)), .int (nI (Pn_14 + 1)), .ref q6, .ref q7])), (r1, .inl (c1, 120, .inl xs1)), (r2, .inl (c2, 124, .inl s2)), (jT, .inr (8, [.ref t0, .int (nI (kt))])), (t0, .inl (cC, 120, .inl gT))] H := ⟨hP, hD⟩
            refine lv_aload_n hx hb dX4_readSum_51 rfl (lv_at hl 2 rfl) ?_
            refine lv_iload_n hx hb dX4_readSum_52 rfl (lv_at hl 3 rfl) ?_
            obtain ⟨hPc, hDc, hFc⟩ := kCut (wc := [(jR, .inr (4, [.ref jT, .ref r1, .ref r2, .int (nI (xwr)), .int (nI (fi)), .int (nI (Pn_14 + 1)), .ref q6, .ref q7])), (r1, .inl (c1, 120, .inl xs1)), (r2, .inl (c2, 124, .inl s2)), (jT, .inr (8, [.ref t0, .int (nI (kt))])), (t0, .inl (cC, 120, .inl gT))]) hP hD hS hA [0, 1, 2, 3, 4] rfl (by decide) rfl
            have hKc := hK.sb (tys2 := [(c1, .int), (c2, .int), (cC, .char)]) [0, 1, 2] rfl
            refine va_calli (va_runV (As := [.int 0]) (rest := []) ⟨hx, hb, hml, hown, hts⟩ (s_term4x_0 l dC dI jT t0 cC gT kt (by omega) hgT bt hbt hb8 jR r1 r2 c1 c2 xs1 s2 xwr fi q6 q7 (by omega) (by omega) (Pn_14 + 1) (by omega) (by omega) b6 n6 g6 (by omega) b7 n7 g7 (by omega) gn6 hz6 gn7 hz7 H.size) (cwV 1 hts (kG (List.forall_mem_cons.mpr ⟨(List.mem_cons_of_mem _ (List.mem_append_left _ (List.mem_of_getElem? (i := 28) rfl))), (List.forall_mem_cons.mpr ⟨(List.mem_cons_of_mem _ (List.mem_append_left _ (List.mem_of_getElem? (i := 27) rfl))), (List.forall_mem_cons.mpr ⟨(List.mem_cons_of_mem _ (List.mem_append_left _ (List.mem_of_getElem? (i := 26) rfl))), (List.forall_mem_cons.mpr ⟨(List.mem_cons_of_mem _ (List.mem_append_left _ (List.mem_of_getElem? (i := 0) rfl))), (fun _ h => absurd h List.not_mem_nil)⟩)⟩)⟩)⟩) (kGV _ _ _ _) (kFam (List.mem_cons_of_mem _ (List.mem_append_left _ (List.mem_of_getElem? (i := 25) rfl)))) gw_s_term4x_0) rfl rfl rfl ⟨rfl, hd_X4_readTerm⟩ ⟨(Nat.le_of_ble_eq_true rfl), (Nat.le_of_ble_eq_true rfl)⟩) (kW_V kS2_blind (kS2_give hX hS hFc) (va_recv hKc hPc (ci := 4) (q0 := 0) rfl rfl) hPc hKc hDc) rfl rfl hl.1 rfl (lv_room (Nat.le_of_ble_eq_true rfl)) dX4_readSum_53 ⟨(Nat.le_of_ble_eq_true rfl), (Nat.le_of_ble_eq_true rfl)⟩) hS (fun q _ h => hFc q h) hFc (fun r_24 u t H1 locs ht hvm hw hB hz1 hk1 hS => ?_)
            obtain ⟨S1_25, Wr_26, Pn_27, xo_28, xl_29⟩ := u
            obtain ⟨hP1, hK1, hD1⟩ := hB
            rw [ht] at hP1
            try dsimp only at hw
            obtain ⟨hP, hD⟩ : kPD dC dI A [(jR, .inr (4, [.ref jT, .ref r1, .ref r2, .int (nI (Wr_26)), .int (nI (fi)), .int (nI (Pn_27)), .ref q6, .ref q7])), (r1, .inl (c1, 120, .inl S1_25)), (r2, .inl (c2, 124, .inl s2)), (jT, .inr (8, [.ref t0, .int (nI (kt))])), (t0, .inl (cC, 120, .inl gT))] H1 := kJoinI hP hD [0, 1, 2, 3, 4] rfl hk1 hFc hP1 hD1 rfl [some 0, some 1, some 2, some 3, some 4] rfl rfl
            generalize H1 = H at hP hS ⊢
            have hw_30 := hw
            refine lv_if_eq (tgt := 71) hx hb dX4_readSum_56 (by decide) (fun c_31 => ?_) (fun c_31 => ?_)
            · obtain rfl : xo_28 = false := kBo_f (kZr9 hw_30.1 c_31)
              have hw_30_k := hw_30.2.1.2.1
              refine lv_iconst (v := 0) hx hb dX4_readSum_71 (by decide) ?_
              have hP9 := hP
              have hD9 := hD
              have hK9 := hK
              rw [hQ]
              exact W.zret (v := 0) hx hb hr rfl (fun t ht hW => ⟨⟨0, (S1_25, Wr_26, Pn_27, false, ([])), rfl, ⟨rfl, kPR_f (by rw [← ivk_9_3, show 120 - i = (119 - i) + 1 by omega]; exact kLoop_f (by rw [← hw_16_0]; omega) (by rw [← hw_16_1]; exact hw_30.2.1.1)) (by omega), by omega⟩,  by rw [ht]; exact hP9, va_K.moved hW.alike hK9, hD9⟩, hS.F ht⟩) hS.2.2 dX4_readSum_72
            · obtain rfl : xo_28 = true := kBo_t (kNz9 hw_30.1 c_31)
              obtain ⟨hw_30_W, hw_30_S, hw_30_l, hw_30_p⟩ := hw_30.2.1.2.2 rfl
              have hw_30_k := hw_30.2.1.2.1
              refine lv_aload_n hx hb dX4_readSum_59 rfl (lv_at hl 2 rfl) ?_
              refine lv_sipush (v := 20000) hx hb dX4_readSum_60 (by decide) ?_
              refine lv_iload_n hx hb dX4_readSum_63 rfl (lv_at hl 0 rfl) ?_
              refine lv_iadd hx hb dX4_readSum_64 ?_
              refine lv_topi (fun y_32 ey_32 => ?_)
              obtain rfl : y_32 = nI (20000 + ch_15) := ey_32.trans (nI_add (20000) (ch_15))
              obtain ⟨hPc, hDc, hFc⟩ := kCut (wc := [(jR, .inr (4, [.ref jT, .ref r1, .ref r2, .int (nI (Wr_26)), .int (nI (fi)), .int (nI (Pn_27)), .ref q6, .ref q7])), (r1, .inl (c1, 120, .inl S1_25)), (r2, .inl (c2, 124, .inl s2)), (jT, .inr (8, [.ref t0, .int (nI (kt))])), (t0, .inl (cC, 120, .inl gT))]) hP hD hS hA [0, 1, 2, 3, 4] rfl (by decide) rfl
              have hKc := hK.sb (tys2 := [(c1, .int), (c2, .int), (cC, .char)]) [0, 1, 2] rfl
              refine va_calli (va_runV (As := [.int (nI (20000 + ch_15))]) (rest := []) ⟨hx, hb, hml, hown, hts⟩ (s_write4x l dC dI jT t0 cC gT kt (by omega) hgT bt hbt hb8 jR r1 r2 c1 c2 S1_25 s2 Wr_26 fi q6 q7 (by omega) (by omega) Pn_27 (by omega) (nI (20000 + ch_15)) (by omega) H.size) (cwV 1 hts (kG (List.forall_mem_cons.mpr ⟨(List.mem_cons_of_mem _ (List.mem_append_left _ (List.mem_of_getElem? (i := 14) rfl))), (List.forall_mem_cons.mpr ⟨(List.mem_cons_of_mem _ (List.mem_append_left _ (List.mem_of_getElem? (i := 13) rfl))), (List.forall_mem_cons.mpr ⟨(List.mem_cons_of_mem _ (List.mem_append_left _ (List.mem_of_getElem? (i := 12) rfl))), (List.forall_mem_cons.mpr ⟨(List.mem_cons_of_mem _ (List.mem_append_left _ (List.mem_of_getElem? (i := 0) rfl))), (fun _ h => absurd h List.not_mem_nil)⟩)⟩)⟩)⟩) (kGV _ _ _ _) (fun _ h => List.mem_cons_of_mem _ (List.mem_append_right _ (List.mem_append_right _ (List.mem_append_right _ (List.mem_append_right _ (List.mem_append_right _ (List.mem_append_left _ h))))))) gw_s_write4x) rfl rfl rfl ⟨rfl, hd_X4_write⟩ ⟨(Nat.le_of_ble_eq_true rfl), (Nat.le_of_ble_eq_true rfl)⟩) (kW_V kT_blind kT_give (va_recv hKc hPc (ci := 4) (q0 := 0) rfl rfl) hPc hKc hDc) rfl rfl hl.1 rfl (lv_room (Nat.le_of_ble_eq_true rfl)) dX4_readSum_65 ⟨(Nat.le_of_ble_eq_true rfl), (Nat.le_of_ble_eq_true rfl)⟩) hS (fun q _ h => hFc q h) hFc (fun r_33 u t H1 locs ht hvm hw hB hz1 hk1 hS => ?_)
              obtain ⟨S1_34, Wr_35⟩ := u
              obtain ⟨hP1, hK1, hD1⟩ := hB
              rw [ht] at hP1
              try dsimp only at hw
              obtain ⟨hP, hD⟩ : kPD dC dI A [(jR, .inr (4, [.ref jT, .ref r1, .ref r2, .int (nI (Wr_35)), .int (nI (fi)), .int (nI (Pn_27)), .ref q6, .ref q7])), (r1, .inl (c1, 120, .inl S1_34)), (r2, .inl (c2, 124, .inl s2)), (jT, .inr (8, [.ref t0, .int (nI (kt))])), (t0, .inl (cC, 120, .inl gT))] H1 := kJoinI hP hD [0, 1, 2, 3, 4] rfl hk1 hFc hP1 hD1 rfl [some 0, some 1, some 2, some 3, some 4] rfl rfl
              generalize H1 = H at hP hS ⊢
              obtain ⟨rfl, hw_36⟩ := hw
              refine lv_if_ne (tgt := 73) hx hb dX4_readSum_68 (by decide) (fun c_37 => ?_) (fun c_37 => absurd c_37 (by decide))
              refine lv_iinc (v := nI (i + 1)) hx hb dX4_readSum_73 hl (k := 1) rfl (kInc _ 1) (by decide) (kTo [(2, .int (nI (i + 1))), (3, .int (nI (ch_15))), (0, .ref jR), (1, .int 0)]) (fun ls hl => ?_)
              refine lv_goto (tgt := 12) hx hb dX4_readSum_76 (by decide) ?_
              exact ih_k_9 (i + 1) S1_34 Pn_27 Wr_35 (xl ++ xl_29 ++ [nI (20000 + ch_15)]) (by omega) (by omega) (by omega) (by have e9 := kLoop_t (b := bt) (n := kt) (c1 := 43) (c2 := 45) (a := kTermD bt kt g7 n7 6) (f := 120 - (i + 1)) (p := xpn) (l := xl) (by rw [← hw_16_0]; omega) (by rw [← hw_16_1]; exact hw_30.2.1.1); rw [← hw_16_0] at e9; rw [← e9, show (120 - (i + 1)) + 1 = 120 - i by omega]; exact ivk_9_3) (by simp only [List.length_append, List.length_cons, List.length_nil]; omega) (kWrt3 ivk_9_5 ivk_9_4 hw_30_S hw_30_W hw_36.2) (by simp only [List.length_append, List.length_cons, List.length_nil]; omega) (by omega) _ _ hP hD hS ls (lv_sub hl [0, 2, 3] rfl) (by omega)
          · have hn_38 := kneq (a := ch_15) (b := 43) (by omega) (by omega) c_17
            refine lv_aload_n hx hb dX4_readSum_27 rfl (lv_at hl 1 rfl) ?_
            obtain ⟨hPc, hDc, hFc⟩ := kCut (wc := [(jR, .inr (4, [.ref jT, .ref r1, .ref r2, .int (nI (xwr)), .int (nI (fi)), .int (nI (Pn_14)), .ref q6, .ref q7])), (r1, .inl (c1, 120, .inl xs1)), (r2, .inl (c2, 124, .inl s2)), (jT, .inr (8, [.ref t0, .int (nI (kt))])), (t0, .inl (cC, 120, .inl gT))]) hP hD hS hA [0, 1, 2, 3, 4] rfl (by decide) rfl
            have hKc := hK.sb (tys2 := [(c1, .int), (c2, .int), (cC, .char)]) [0, 1, 2] rfl
            refine va_calli (va_runV (As := []) (rest := []) ⟨hx, hb, hml, hown, hts⟩ (s_look4x l dC dI jT t0 cC gT kt (by omega) hgT bt hbt hb8 jR r1 r2 c1 c2 xs1 s2 xwr fi q6 q7 (by omega) (by omega) Pn_14 (by omega) H.size) (cwV 0 hts (kG (List.forall_mem_cons.mpr ⟨(List.mem_cons_of_mem _ (List.mem_append_left _ (List.mem_of_getElem? (i := 3) rfl))), (List.forall_mem_cons.mpr ⟨(List.mem_cons_of_mem _ (List.mem_append_left _ (List.mem_of_getElem? (i := 2) rfl))), (List.forall_mem_cons.mpr ⟨(List.mem_cons_of_mem _ (List.mem_append_left _ (List.mem_of_getElem? (i := 1) rfl))), (List.forall_mem_cons.mpr ⟨(List.mem_cons_of_mem _ (List.mem_append_left _ (List.mem_of_getElem? (i := 0) rfl))), (fun _ h => absurd h List.not_mem_nil)⟩)⟩)⟩)⟩) (kGV _ _ _ _) (fun _ h => List.mem_cons_of_mem _ (List.mem_append_right _ (List.mem_append_left _ h))) gw_s_look4x) rfl rfl rfl ⟨rfl, hd_X4_look⟩ ⟨(Nat.le_of_ble_eq_true rfl), (Nat.le_of_ble_eq_true rfl)⟩) (kW_V kT_blind kT_give (va_recv hKc hPc (ci := 4) (q0 := 0) rfl rfl) hPc hKc hDc) rfl rfl hl.1 rfl (lv_room (Nat.le_of_ble_eq_true rfl)) dX4_readSum_28 ⟨(Nat.le_of_ble_eq_true rfl), (Nat.le_of_ble_eq_true rfl)⟩) hS (fun q _ h => hFc q h) hFc (fun r_39 u t H1 locs ht hvm hw hB hz1 hk1 hS => ?_)
            obtain ⟨Pn_40, ch_41⟩ := u
            obtain ⟨hP1, hK1, hD1⟩ := hB
            rw [ht] at hP1
            try dsimp only at hw
            obtain ⟨hP, hD⟩ : kPD dC dI A [(jR, .inr (4, [.ref jT, .ref r1, .ref r2, .int (nI (xwr)), .int (nI (fi)), .int (nI (Pn_40)), .ref q6, .ref q7])), (r1, .inl (c1, 120, .inl xs1)), (r2, .inl (c2, 124, .inl s2)), (jT, .inr (8, [.ref t0, .int (nI (kt))])), (t0, .inl (cC, 120, .inl gT))] H1 := kJoinI hP hD [0, 1, 2, 3, 4] rfl hk1 hFc hP1 hD1 rfl [some 0, some 1, some 2, some 3, some 4] rfl rfl
            generalize H1 = H at hP hS ⊢
            obtain ⟨rfl, hw_42_0, hw_42_1, hw_42_2, hw_42_3, hw_42_4, hw_42_5, hw_42_6⟩ := hw
            have e9 : Pn_14 = Pn_40 := by rw [hw_42_1, hw_16_1]; exact (kSp_sp (by omega)).symm
            have e8 : ch_15 = ch_41 := by rw [hw_42_0, hw_16_0, hw_16_1]; exact (kLk_sp (by omega)).symm
            subst e9
            subst e8
            refine lv_bipush (v := 45) hx hb dX4_readSum_31 (by decide) ?_
            refine lv_icmp_ne (tgt := 79) hx hb dX4_readSum_33 (by decide) (fun c_43 => ?_) (fun c_43 => ?_)
            · have hn_44 := kneq (a := ch_15) (b := 45) (by omega) (by omega) c_43
              refine lv_iconst (v := 1) hx hb dX4_readSum_79 (by decide) ?_
              have hP9 := hP
              have hD9 := hD
              have hK9 := hK
              rw [hQ]
              exact W.zret (v := 1) hx hb hr rfl (fun t ht hW => ⟨⟨1, (xs1, xwr, Pn_14, true, xl), rfl, ⟨rfl, kPR_t (a := kSumD bt kt g7 n7 6) rfl (kSumD_good hz7 6) (by omega) (by rw [← ivk_9_3, show 120 - i = (119 - i) + 1 by omega, kLoop_e (by rw [← hw_16_0]; omega), ← hw_16_1]) ivk_9_4 ivk_9_5, by omega⟩,  by rw [ht]; exact hP9, va_K.moved hW.alike hK9, hD9⟩, hS.F ht⟩) hS.2.2 dX4_readSum_80
            · have hn_45 := keq (a := ch_15) (b := 45) (by omega) (by omega) c_43
              refine lv_aload_n hx hb dX4_readSum_36 rfl (lv_at hl 1 rfl) ?_
              obtain ⟨hPc, hDc, hFc⟩ := kCut (wc := [(jR, .inr (4, [.ref jT, .ref r1, .ref r2, .int (nI (xwr)), .int (nI (fi)), .int (nI (Pn_14)), .ref q6, .ref q7])), (r1, .inl (c1, 120, .inl xs1)), (r2, .inl (c2, 124, .inl s2)), (jT, .inr (8, [.ref t0, .int (nI (kt))])), (t0, .inl (cC, 120, .inl gT))]) hP hD hS hA [0, 1, 2, 3, 4] rfl (by decide) rfl
              have hKc := hK.sb (tys2 := [(c1, .int), (c2, .int), (cC, .char)]) [0, 1, 2] rfl
              refine va_calli (va_runV (As := []) (rest := []) ⟨hx, hb, hml, hown, hts⟩ (s_look4x l dC dI jT t0 cC gT kt (by omega) hgT bt hbt hb8 jR r1 r2 c1 c2 xs1 s2 xwr fi q6 q7 (by omega) (by omega) Pn_14 (by omega) H.size) (cwV 0 hts (kG (List.forall_mem_cons.mpr ⟨(List.mem_cons_of_mem _ (List.mem_append_left _ (List.mem_of_getElem? (i := 3) rfl))), (List.forall_mem_cons.mpr ⟨(List.mem_cons_of_mem _ (List.mem_append_left _ (List.mem_of_getElem? (i := 2) rfl))), (List.forall_mem_cons.mpr ⟨(List.mem_cons_of_mem _ (List.mem_append_left _ (List.mem_of_getElem? (i := 1) rfl))), (List.forall_mem_cons.mpr ⟨(List.mem_cons_of_mem _ (List.mem_append_left _ (List.mem_of_getElem? (i := 0) rfl))), (fun _ h => absurd h List.not_mem_nil)⟩)⟩)⟩)⟩) (kGV _ _ _ _) (fun _ h => List.mem_cons_of_mem _ (List.mem_append_right _ (List.mem_append_left _ h))) gw_s_look4x) rfl rfl rfl ⟨rfl, hd_X4_look⟩ ⟨(Nat.le_of_ble_eq_true rfl), (Nat.le_of_ble_eq_true rfl)⟩) (kW_V kT_blind kT_give (va_recv hKc hPc (ci := 4) (q0 := 0) rfl rfl) hPc hKc hDc) rfl rfl hl.1 rfl (lv_room (Nat.le_of_ble_eq_true rfl)) dX4_readSum_37 ⟨(Nat.le_of_ble_eq_true rfl), (Nat.le_of_ble_eq_true rfl)⟩) hS (fun q _ h => hFc q h) hFc (fun r_46 u t H1 locs ht hvm hw hB hz1 hk1 hS => ?_)
              obtain ⟨Pn_47, ch_48⟩ := u
              obtain ⟨hP1, hK1, hD1⟩ := hB
              rw [ht] at hP1
              try dsimp only at hw
              obtain ⟨hP, hD⟩ : kPD dC dI A [(jR, .inr (4, [.ref jT, .ref r1, .ref r2, .int (nI (xwr)), .int (nI (fi)), .int (nI (Pn_47)), .ref q6, .ref q7])), (r1, .inl (c1, 120, .inl xs1)), (r2, .inl (c2, 124, .inl s2)), (jT, .inr (8, [.ref t0, .int (nI (kt))])), (t0, .inl (cC, 120, .inl gT))] H1 := kJoinI hP hD [0, 1, 2, 3, 4] rfl hk1 hFc hP1 hD1 rfl [some 0, some 1, some 2, some 3, some 4] rfl rfl
              generalize H1 = H at hP hS ⊢
              obtain ⟨rfl, hw_49_0, hw_49_1, hw_49_2, hw_49_3, hw_49_4, hw_49_5, hw_49_6⟩ := hw
              have e9 : Pn_14 = Pn_47 := by rw [hw_49_1, hw_16_1]; exact (kSp_sp (by omega)).symm
              have e8 : ch_15 = ch_48 := by rw [hw_49_0, hw_16_0, hw_16_1]; exact (kLk_sp (by omega)).symm
              subst e9
              subst e8
              refine lv_istore_n hx hb dX4_readSum_40 rfl hl (by decide) (kTo [(3, .int (nI (ch_15))), (2, .int (nI (i))), (0, .ref jR), (1, .int 0)]) (fun ls hl => ?_)
              refine lv_aload_n hx hb dX4_readSum_41 rfl (lv_at hl 2 rfl) ?_
              refine lv_dup hx hb dX4_readSum_42 rfl ?_
              refine va_get (D := (dC, dI)) (ci := 4) (v := .int (nI (Pn_14))) (C := RX4) (T := TX4) (N := 8) hx hb hts (fun _ h => List.mem_cons_of_mem _ (List.mem_append_right _ (List.mem_append_right _ (List.mem_append_right _ (List.mem_append_left _ h))))) hown hK hP 0 rfl rfl 5 (by decide) (hts (.fieldLink RX4 25 "NotEnded$Reader" "place" "I") (List.mem_cons_of_mem _ (List.mem_append_left _ (List.mem_of_getElem? (i := 11) rfl)))) (fun _ h9 => h9) rfl dX4_readSum_43 ?_
              refine lv_iconst (v := 1) hx hb dX4_readSum_46 (by decide) ?_
              refine lv_iadd hx hb dX4_readSum_47 ?_
              refine lv_topi (fun y_50 ey_50 => ?_)
              obtain rfl : y_50 = nI (Pn_14 + 1) := ey_50.trans (nI_add (Pn_14) (1))
              refine va_put (D := (dC, dI)) (ci := 4) (v := .int (nI (Pn_14 + 1))) (ty := tyX4 5) (C := RX4) (T := TX4) (N := 8) hx hb hts (fun _ h => List.mem_cons_of_mem _ (List.mem_append_right _ (List.mem_append_right _ (List.mem_append_right _ (List.mem_append_left _ h))))) tyX4 tyX4_ok nmX4 hown hK hP hD hS 0 rfl rfl 5 (by decide) (hts (.fieldLink RX4 25 "NotEnded$Reader" "place" "I") (List.mem_cons_of_mem _ (List.mem_append_left _ (List.mem_of_getElem? (i := 11) rfl)))) (fun _ h9 => h9) rfl (tyX4_ok 5 (by decide)) rfl rfl (Nat.le_of_ble_eq_true rfl) dX4_readSum_48 (fun H locs hP hD hS => ?_)
              obtain ⟨hP, hD⟩ : kPD dC dI A [(jR, .inr (4, [.ref jT, .ref r1, .ref r2, .int (nI (xwr)), .int (nI (fi)), .int (nI (Pn_14 + 1)), .ref q6, .ref q7])), (r1, .inl (c1, 120, .inl xs1)), (r2, .inl (c2, 124, .inl s2)), (jT, .inr (8, [.ref t0, .int (nI (kt))])), (t0, .inl (cC, 120, .inl gT))] H := ⟨hP, hD⟩
              refine lv_aload_n hx hb dX4_readSum_51 rfl (lv_at hl 2 rfl) ?_
              refine lv_iload_n hx hb dX4_readSum_52 rfl (lv_at hl 3 rfl) ?_
              obtain ⟨hPc, hDc, hFc⟩ := kCut (wc := [(jR, .inr (4, [.ref jT, .ref r1, .ref r2, .int (nI (xwr)), .int (nI (fi)), .int (nI (Pn_14 + 1)), .ref q6, .ref q7])), (r1, .inl (c1, 120, .inl xs1)), (r2, .inl (c2, 124, .inl s2)), (jT, .inr (8, [.ref t0, .int (nI (kt))])), (t0, .inl (cC, 120, .inl gT))]) hP hD hS hA [0, 1, 2, 3, 4] rfl (by decide) rfl
              have hKc := hK.sb (tys2 := [(c1, .int), (c2, .int), (cC, .char)]) [0, 1, 2] rfl
              refine va_calli (va_runV (As := [.int 0]) (rest := []) ⟨hx, hb, hml, hown, hts⟩ (s_term4x_0 l dC dI jT t0 cC gT kt (by omega) hgT bt hbt hb8 jR r1 r2 c1 c2 xs1 s2 xwr fi q6 q7 (by omega) (by omega) (Pn_14 + 1) (by omega) (by omega) b6 n6 g6 (by omega) b7 n7 g7 (by omega) gn6 hz6 gn7 hz7 H.size) (cwV 1 hts (kG (List.forall_mem_cons.mpr ⟨(List.mem_cons_of_mem _ (List.mem_append_left _ (List.mem_of_getElem? (i := 28) rfl))), (List.forall_mem_cons.mpr ⟨(List.mem_cons_of_mem _ (List.mem_append_left _ (List.mem_of_getElem? (i := 27) rfl))), (List.forall_mem_cons.mpr ⟨(List.mem_cons_of_mem _ (List.mem_append_left _ (List.mem_of_getElem? (i := 26) rfl))), (List.forall_mem_cons.mpr ⟨(List.mem_cons_of_mem _ (List.mem_append_left _ (List.mem_of_getElem? (i := 0) rfl))), (fun _ h => absurd h List.not_mem_nil)⟩)⟩)⟩)⟩) (kGV _ _ _ _) (kFam (List.mem_cons_of_mem _ (List.mem_append_left _ (List.mem_of_getElem? (i := 25) rfl)))) gw_s_term4x_0) rfl rfl rfl ⟨rfl, hd_X4_readTerm⟩ ⟨(Nat.le_of_ble_eq_true rfl), (Nat.le_of_ble_eq_true rfl)⟩) (kW_V kS2_blind (kS2_give hX hS hFc) (va_recv hKc hPc (ci := 4) (q0 := 0) rfl rfl) hPc hKc hDc) rfl rfl hl.1 rfl (lv_room (Nat.le_of_ble_eq_true rfl)) dX4_readSum_53 ⟨(Nat.le_of_ble_eq_true rfl), (Nat.le_of_ble_eq_true rfl)⟩) hS (fun q _ h => hFc q h) hFc (fun r_51 u t H1 locs ht hvm hw hB hz1 hk1 hS => ?_)
              obtain ⟨S1_52, Wr_53, Pn_54, xo_55, xl_56⟩ := u
              obtain ⟨hP1, hK1, hD1⟩ := hB
              rw [ht] at hP1
              try dsimp only at hw
              obtain ⟨hP, hD⟩ : kPD dC dI A [(jR, .inr (4, [.ref jT, .ref r1, .ref r2, .int (nI (Wr_53)), .int (nI (fi)), .int (nI (Pn_54)), .ref q6, .ref q7])), (r1, .inl (c1, 120, .inl S1_52)), (r2, .inl (c2, 124, .inl s2)), (jT, .inr (8, [.ref t0, .int (nI (kt))])), (t0, .inl (cC, 120, .inl gT))] H1 := kJoinI hP hD [0, 1, 2, 3, 4] rfl hk1 hFc hP1 hD1 rfl [some 0, some 1, some 2, some 3, some 4] rfl rfl
              generalize H1 = H at hP hS ⊢
              have hw_57 := hw
              refine lv_if_eq (tgt := 71) hx hb dX4_readSum_56 (by decide) (fun c_58 => ?_) (fun c_58 => ?_)
              · obtain rfl : xo_55 = false := kBo_f (kZr9 hw_57.1 c_58)
                have hw_57_k := hw_57.2.1.2.1
                refine lv_iconst (v := 0) hx hb dX4_readSum_71 (by decide) ?_
                have hP9 := hP
                have hD9 := hD
                have hK9 := hK
                rw [hQ]
                exact W.zret (v := 0) hx hb hr rfl (fun t ht hW => ⟨⟨0, (S1_52, Wr_53, Pn_54, false, ([])), rfl, ⟨rfl, kPR_f (by rw [← ivk_9_3, show 120 - i = (119 - i) + 1 by omega]; exact kLoop_f (by rw [← hw_16_0]; omega) (by rw [← hw_16_1]; exact hw_57.2.1.1)) (by omega), by omega⟩,  by rw [ht]; exact hP9, va_K.moved hW.alike hK9, hD9⟩, hS.F ht⟩) hS.2.2 dX4_readSum_72
              · obtain rfl : xo_55 = true := kBo_t (kNz9 hw_57.1 c_58)
                obtain ⟨hw_57_W, hw_57_S, hw_57_l, hw_57_p⟩ := hw_57.2.1.2.2 rfl
                have hw_57_k := hw_57.2.1.2.1
                refine lv_aload_n hx hb dX4_readSum_59 rfl (lv_at hl 2 rfl) ?_
                refine lv_sipush (v := 20000) hx hb dX4_readSum_60 (by decide) ?_
                refine lv_iload_n hx hb dX4_readSum_63 rfl (lv_at hl 0 rfl) ?_
                refine lv_iadd hx hb dX4_readSum_64 ?_
                refine lv_topi (fun y_59 ey_59 => ?_)
                obtain rfl : y_59 = nI (20000 + ch_15) := ey_59.trans (nI_add (20000) (ch_15))
                obtain ⟨hPc, hDc, hFc⟩ := kCut (wc := [(jR, .inr (4, [.ref jT, .ref r1, .ref r2, .int (nI (Wr_53)), .int (nI (fi)), .int (nI (Pn_54)), .ref q6, .ref q7])), (r1, .inl (c1, 120, .inl S1_52)), (r2, .inl (c2, 124, .inl s2)), (jT, .inr (8, [.ref t0, .int (nI (kt))])), (t0, .inl (cC, 120, .inl gT))]) hP hD hS hA [0, 1, 2, 3, 4] rfl (by decide) rfl
                have hKc := hK.sb (tys2 := [(c1, .int), (c2, .int), (cC, .char)]) [0, 1, 2] rfl
                refine va_calli (va_runV (As := [.int (nI (20000 + ch_15))]) (rest := []) ⟨hx, hb, hml, hown, hts⟩ (s_write4x l dC dI jT t0 cC gT kt (by omega) hgT bt hbt hb8 jR r1 r2 c1 c2 S1_52 s2 Wr_53 fi q6 q7 (by omega) (by omega) Pn_54 (by omega) (nI (20000 + ch_15)) (by omega) H.size) (cwV 1 hts (kG (List.forall_mem_cons.mpr ⟨(List.mem_cons_of_mem _ (List.mem_append_left _ (List.mem_of_getElem? (i := 14) rfl))), (List.forall_mem_cons.mpr ⟨(List.mem_cons_of_mem _ (List.mem_append_left _ (List.mem_of_getElem? (i := 13) rfl))), (List.forall_mem_cons.mpr ⟨(List.mem_cons_of_mem _ (List.mem_append_left _ (List.mem_of_getElem? (i := 12) rfl))), (List.forall_mem_cons.mpr ⟨(List.mem_cons_of_mem _ (List.mem_append_left _ (List.mem_of_getElem? (i := 0) rfl))), (fun _ h => absurd h List.not_mem_nil)⟩)⟩)⟩)⟩) (kGV _ _ _ _) (fun _ h => List.mem_cons_of_mem _ (List.mem_append_right _ (List.mem_append_right _ (List.mem_append_right _ (List.mem_append_right _ (List.mem_append_right _ (List.mem_append_left _ h))))))) gw_s_write4x) rfl rfl rfl ⟨rfl, hd_X4_write⟩ ⟨(Nat.le_of_ble_eq_true rfl), (Nat.le_of_ble_eq_true rfl)⟩) (kW_V kT_blind kT_give (va_recv hKc hPc (ci := 4) (q0 := 0) rfl rfl) hPc hKc hDc) rfl rfl hl.1 rfl (lv_room (Nat.le_of_ble_eq_true rfl)) dX4_readSum_65 ⟨(Nat.le_of_ble_eq_true rfl), (Nat.le_of_ble_eq_true rfl)⟩) hS (fun q _ h => hFc q h) hFc (fun r_60 u t H1 locs ht hvm hw hB hz1 hk1 hS => ?_)
                obtain ⟨S1_61, Wr_62⟩ := u
                obtain ⟨hP1, hK1, hD1⟩ := hB
                rw [ht] at hP1
                try dsimp only at hw
                obtain ⟨hP, hD⟩ : kPD dC dI A [(jR, .inr (4, [.ref jT, .ref r1, .ref r2, .int (nI (Wr_62)), .int (nI (fi)), .int (nI (Pn_54)), .ref q6, .ref q7])), (r1, .inl (c1, 120, .inl S1_61)), (r2, .inl (c2, 124, .inl s2)), (jT, .inr (8, [.ref t0, .int (nI (kt))])), (t0, .inl (cC, 120, .inl gT))] H1 := kJoinI hP hD [0, 1, 2, 3, 4] rfl hk1 hFc hP1 hD1 rfl [some 0, some 1, some 2, some 3, some 4] rfl rfl
                generalize H1 = H at hP hS ⊢
                obtain ⟨rfl, hw_63⟩ := hw
                refine lv_if_ne (tgt := 73) hx hb dX4_readSum_68 (by decide) (fun c_64 => ?_) (fun c_64 => absurd c_64 (by decide))
                refine lv_iinc (v := nI (i + 1)) hx hb dX4_readSum_73 hl (k := 1) rfl (kInc _ 1) (by decide) (kTo [(2, .int (nI (i + 1))), (3, .int (nI (ch_15))), (0, .ref jR), (1, .int 0)]) (fun ls hl => ?_)
                refine lv_goto (tgt := 12) hx hb dX4_readSum_76 (by decide) ?_
                exact ih_k_9 (i + 1) S1_61 Pn_54 Wr_62 (xl ++ xl_56 ++ [nI (20000 + ch_15)]) (by omega) (by omega) (by omega) (by have e9 := kLoop_t (b := bt) (n := kt) (c1 := 43) (c2 := 45) (a := kTermD bt kt g7 n7 6) (f := 120 - (i + 1)) (p := xpn) (l := xl) (by rw [← hw_16_0]; omega) (by rw [← hw_16_1]; exact hw_57.2.1.1); rw [← hw_16_0] at e9; rw [← e9, show (120 - (i + 1)) + 1 = 120 - i by omega]; exact ivk_9_3) (by simp only [List.length_append, List.length_cons, List.length_nil]; omega) (kWrt3 ivk_9_5 ivk_9_4 hw_57_S hw_57_W hw_63.2) (by simp only [List.length_append, List.length_cons, List.length_nil]; omega) (by omega) _ _ hP hD hS ls (lv_sub hl [0, 2, 3] rfl) (by omega)
    exact lp_k_9 (120 - 0 + 1) 0 S1_2 Pn_4 Wr_3 xl_6 (by omega) (by omega) (by omega) (kMany_t hw_7.2.1.1).symm hw_7_W hw_7_S hw_7_l hw_7_p _ _ hP hD hS ls (lv_sub hl [0, 1, 2] rfl) (by omega)
  · obtain rfl : xo_5 = false := kBo_f (kZr9 hw_7.1 c_8)
    have hw_7_k := hw_7.2.1.2.1
    refine lv_iconst (v := 0) hx hb dX4_readSum_8 (by decide) ?_
    have hP9 := hP
    have hD9 := hD
    have hK9 := hK
    rw [hQ]
    exact W.zret (v := 0) hx hb hr rfl (fun t ht hW => ⟨⟨0, (S1_2, Wr_3, Pn_4, false, ([])), rfl, ⟨rfl, kPR_f (kMany_f hw_7.2.1.1) (by omega), by omega⟩,  by rw [ht]; exact hP9, va_K.moved hW.alike hK9, hD9⟩, hS.F ht⟩) hS.2.2 dX4_readSum_9

def w_s_unit4x_0_0 : List Cond := .code yX4_readUnit cX4_readUnit 4 (some .boolean) :: wf_rq
theorem gw_s_unit4x_0_0 : (w_s_unit4x_0_0).all goodWord = true := kFamG rfl gf_rq
set_option maxHeartbeats 4000000 in
set_option maxRecDepth 100000 in
theorem s_unit4x_0_0 (l : Launch) (dC : Nat → ClassId) (dI : Nat → Nat → Nat) (jT : Nat) (t0 : Nat) (cC : ClassId) (gT : Nat → Int32) (kt : Nat) (hkt : kt ≤ 120) (hgT : ∀ j : Nat, narrow .char (.int (gT j)) = .int (gT j)) (bt : Nat → Nat) (hbt : ∀ j : Nat, gT j = nI (bt j)) (hb8 : ∀ j : Nat, bt j < 256) (jR : Nat) (r1 : Nat) (r2 : Nat) (c1 : ClassId) (c2 : ClassId) (s1 : Nat → Int32) (s2 : Nat → Int32) (wr : Nat) (fi : Nat) (q6 : Nat) (q7 : Nat) (hwr : wr ≤ 120) (hfi : fi ≤ 124) (pn : Nat) (hpn : pn ≤ kt) (hwp : wr ≤ pn) (b6 : Nat) (n6 : Nat) (g6 : Nat → Int32) (hn6 : n6 ≤ 8) (b7 : Nat) (n7 : Nat) (g7 : Nat → Int32) (hn7 : n7 ≤ 8) (gn6 : ∀ k : Nat, ∃ v : Nat, v < 128 ∧ g6 k = nI v) (hz6 : kIx g6 n6 (nI 0) = n6) (gn7 : ∀ k : Nat, ∃ v : Nat, v < 128 ∧ g7 k = nI v) (hz7 : kIx g7 n7 (nI 0) = n7) (sz : Nat) : Met l yX4_readUnit w_s_unit4x_0_0 ({ frames := 45, cells := 0, slots := 0, locals := 2700 }) (kW dC dI [.ref jR, .int 0, .int 0] [(jR, .inr (4, [.ref jT, .ref r1, .ref r2, .int (nI (wr)), .int (nI (fi)), .int (nI (pn)), .ref q6, .ref q7])), (r1, .inl (c1, 120, .inl s1)), (r2, .inl (c2, 124, .inl s2)), (jT, .inr (8, [.ref t0, .int (nI (kt))])), (t0, .inl (cC, 120, .inl gT))] [(c1, .int), (c2, .int), (cC, .char)] (kS2 q6 b6 n6 g6 q7 b7 n7 g7 (va_A [(jR, .inr (4, [.ref jT, .ref r1, .ref r2, .int (nI (wr)), .int (nI (fi)), .int (nI (pn)), .ref q6, .ref q7])), (r1, .inl (c1, 120, .inl s1)), (r2, .inl (c2, 124, .inl s2)), (jT, .inr (8, [.ref t0, .int (nI (kt))])), (t0, .inl (cC, 120, .inl gT))] sz)) sz) (va_Qi (fun (r : Int32) (u : (Nat → Int32) × Nat × Nat × Bool × (List Int32)) => match u with | (S1, Wr, Pn, xo, xl) => (r = kBo xo ∧ kPR (kUnitD bt kt g7 n7 6 pn) pn kt wr s1 xo Pn xl Wr S1 ∧ Wr ≤ 120)) (fun (u : (Nat → Int32) × Nat × Nat × Bool × (List Int32)) => match u with | (S1, Wr, Pn, xo, xl) => fun t : State => kB dC dI [(jR, .inr (4, [.ref jT, .ref r1, .ref r2, .int (nI (Wr)), .int (nI (fi)), .int (nI (Pn)), .ref q6, .ref q7])), (r1, .inl (c1, 120, .inl S1)), (r2, .inl (c2, 124, .inl s2)), (jT, .inr (8, [.ref t0, .int (nI (kt))])), (t0, .inl (cC, 120, .inl gT))] [(c1, .int), (c2, .int), (cC, .char)] (va_A [(jR, .inr (4, [.ref jT, .ref r1, .ref r2, .int (nI (wr)), .int (nI (fi)), .int (nI (pn)), .ref q6, .ref q7])), (r1, .inl (c1, 120, .inl s1)), (r2, .inl (c2, 124, .inl s2)), (jT, .inr (8, [.ref t0, .int (nI (kt))])), (t0, .inl (cC, 120, .inl gT))] sz) t) (va_A [(jR, .inr (4, [.ref jT, .ref r1, .ref r2, .int (nI (wr)), .int (nI (fi)), .int (nI (pn)), .ref q6, .ref q7])), (r1, .inl (c1, 120, .inl s1)), (r2, .inl (c2, 124, .inl s2)), (jT, .inr (8, [.ref t0, .int (nI (kt))])), (t0, .inl (cC, 120, .inl gT))] sz)) 0 0 (va_A [(jR, .inr (4, [.ref jT, .ref r1, .ref r2, .int (nI (wr)), .int (nI (fi)), .int (nI (pn)), .ref q6, .ref q7])), (r1, .inl (c1, 120, .inl s1)), (r2, .inl (c2, 124, .inl s2)), (jT, .inr (8, [.ref t0, .int (nI (kt))])), (t0, .inl (cC, 120, .inl gT))] sz) := by
  refine Met.ofW (cc := cX4_readUnit) (maxL := 4) (ret := (some .boolean)) (by decide) rfl ?_
  intro p e s m args below meth c s₁ B hml hv
  obtain ⟨rfl, hsz, hP, hK, hD0, hX⟩ := hv
  have hx := B.exec
  have hb := B.bytes
  have hr := B.returns
  have hts := atoms_spec (ws := w_s_unit4x_0_0) B.pre
  have hown : s.vm.findClass RX4 = some m.cls := findClass_of_methodNamed B.named
  have hlocks := B.notSynchronized
  subst hsz
  have hD := hD0.self (sz := s.heap.size)
  generalize hAe : va_A [(jR, .inr (4, [.ref jT, .ref r1, .ref r2, .int (nI (wr)), .int (nI (fi)), .int (nI (pn)), .ref q6, .ref q7])), (r1, .inl (c1, 120, .inl s1)), (r2, .inl (c2, 124, .inl s2)), (jT, .inr (8, [.ref t0, .int (nI (kt))])), (t0, .inl (cC, 120, .inl gT))] s.heap.size = A at hD hX ⊢
  have hA : ∀ q : Nat, s.heap.size ≤ q → A q := fun q h => by rw [← hAe]; exact Or.inr h
  have hS : va_S A s.heap s.heap [] := va_S.rf
  have hP : va_P (dC, dI) vwCl [(jR, .inr (4, [.ref jT, .ref r1, .ref r2, .int (nI (wr)), .int (nI (fi)), .int (nI (pn)), .ref q6, .ref q7])), (r1, .inl (c1, 120, .inl s1)), (r2, .inl (c2, 124, .inl s2)), (jT, .inr (8, [.ref t0, .int (nI (kt))])), (t0, .inl (cC, 120, .inl gT))] s.heap := hP
  have hl := lv_entry ([.ref jR, .int 0, .int 0]) (n := 4) (Nat.le_of_ble_eq_true rfl)
  rw [lg_entry_eq]
  generalize (lg_sl ([.ref jR, .int 0, .int 0]) ++ List.replicate (4 - (lg_sl ([.ref jR, .int 0, .int 0])).length) Slot.unset).toArray = ls at hl ⊢
  have hl : lv_has ls 4 [(0, .ref jR), (1, .int 0), (2, .int 0)] := hl
  refine kQ (fun Q hQ => ?_)
  refine lv_iload_n hx hb dX4_readUnit_0 rfl (lv_at hl 2 rfl) ?_
  refine lv_if_ne (tgt := 100) hx hb dX4_readUnit_1 (by decide) (fun c_1 => absurd (by decide) c_1) (fun c_1 => ?_)
  refine lv_aload_n hx hb dX4_readUnit_4 rfl (lv_at hl 0 rfl) ?_
  obtain ⟨hPc, hDc, hFc⟩ := kCut (wc := [(jR, .inr (4, [.ref jT, .ref r1, .ref r2, .int (nI (wr)), .int (nI (fi)), .int (nI (pn)), .ref q6, .ref q7])), (r1, .inl (c1, 120, .inl s1)), (r2, .inl (c2, 124, .inl s2)), (jT, .inr (8, [.ref t0, .int (nI (kt))])), (t0, .inl (cC, 120, .inl gT))]) hP hD hS hA [0, 1, 2, 3, 4] rfl (by decide) rfl
  have hKc := hK.sb (tys2 := [(c1, .int), (c2, .int), (cC, .char)]) [0, 1, 2] rfl
  refine va_calli (va_runV (As := []) (rest := []) ⟨hx, hb, hml, hown, hts⟩ (s_look4x l dC dI jT t0 cC gT kt (by omega) hgT bt hbt hb8 jR r1 r2 c1 c2 s1 s2 wr fi q6 q7 (by omega) (by omega) pn (by omega) s.heap.size) (cwV 0 hts (kG (List.forall_mem_cons.mpr ⟨(List.mem_cons_of_mem _ (List.mem_append_left _ (List.mem_of_getElem? (i := 3) rfl))), (List.forall_mem_cons.mpr ⟨(List.mem_cons_of_mem _ (List.mem_append_left _ (List.mem_of_getElem? (i := 2) rfl))), (List.forall_mem_cons.mpr ⟨(List.mem_cons_of_mem _ (List.mem_append_left _ (List.mem_of_getElem? (i := 1) rfl))), (List.forall_mem_cons.mpr ⟨(List.mem_cons_of_mem _ (List.mem_append_left _ (List.mem_of_getElem? (i := 0) rfl))), (fun _ h => absurd h List.not_mem_nil)⟩)⟩)⟩)⟩) (kGV _ _ _ _) (fun _ h => List.mem_cons_of_mem _ (List.mem_append_right _ (List.mem_append_left _ h))) gw_s_look4x) rfl rfl rfl ⟨rfl, hd_X4_look⟩ ⟨(Nat.le_of_ble_eq_true rfl), (Nat.le_of_ble_eq_true rfl)⟩) (kW_V kT_blind kT_give (va_recv hKc hPc (ci := 4) (q0 := 0) rfl rfl) hPc hKc hDc) rfl rfl hl.1 rfl (lv_room (Nat.le_of_ble_eq_true rfl)) dX4_readUnit_5 ⟨(Nat.le_of_ble_eq_true rfl), (Nat.le_of_ble_eq_true rfl)⟩) hS (fun q _ h => hFc q h) hFc (fun r_2 u t H1 locs ht hvm hw hB hz1 hk1 hS => ?_)
  obtain ⟨Pn_3, ch_4⟩ := u
  obtain ⟨hP1, hK1, hD1⟩ := hB
  rw [ht] at hP1
  try dsimp only at hw
  obtain ⟨hP, hD⟩ : kPD dC dI A [(jR, .inr (4, [.ref jT, .ref r1, .ref r2, .int (nI (wr)), .int (nI (fi)), .int (nI (Pn_3)), .ref q6, .ref q7])), (r1, .inl (c1, 120, .inl s1)), (r2, .inl (c2, 124, .inl s2)), (jT, .inr (8, [.ref t0, .int (nI (kt))])), (t0, .inl (cC, 120, .inl gT))] H1 := kJoinI hP hD [0, 1, 2, 3, 4] rfl hk1 hFc hP1 hD1 rfl [some 0, some 1, some 2, some 3, some 4] rfl rfl
  generalize H1 = H at hP hS ⊢
  obtain ⟨rfl, hw_5_0, hw_5_1, hw_5_2, hw_5_3, hw_5_4, hw_5_5, hw_5_6⟩ := hw
  refine lv_istore_n hx hb dX4_readUnit_8 rfl hl (by decide) (kTo [(3, .int (nI (ch_4))), (0, .ref jR), (1, .int 0), (2, .int 0)]) (fun ls hl => ?_)
  refine lv_iload_n hx hb dX4_readUnit_9 rfl (lv_at hl 0 rfl) ?_
  refine lv_bipush (v := 33) hx hb dX4_readUnit_10 (by decide) ?_
  refine lv_icmp_ne (tgt := 50) hx hb dX4_readUnit_12 (by decide) (fun c_6 => ?_) (fun c_6 => ?_)
  · have hn_7 := kneq (a := ch_4) (b := 33) (by omega) (by omega) c_6
    refine lv_iload_n hx hb dX4_readUnit_50 rfl (lv_at hl 0 rfl) ?_
    refine lv_bipush (v := 40) hx hb dX4_readUnit_51 (by decide) ?_
    refine lv_icmp_ne (tgt := 90) hx hb dX4_readUnit_53 (by decide) (fun c_8 => ?_) (fun c_8 => ?_)
    · have hn_9 := kneq (a := ch_4) (b := 40) (by omega) (by omega) c_8
      refine lv_aload_n hx hb dX4_readUnit_90 rfl (lv_at hl 1 rfl) ?_
      refine lv_iload_n hx hb dX4_readUnit_91 rfl (lv_at hl 2 rfl) ?_
      obtain ⟨hPc, hDc, hFc⟩ := kCut (wc := [(jR, .inr (4, [.ref jT, .ref r1, .ref r2, .int (nI (wr)), .int (nI (fi)), .int (nI (Pn_3)), .ref q6, .ref q7])), (r1, .inl (c1, 120, .inl s1)), (r2, .inl (c2, 124, .inl s2)), (jT, .inr (8, [.ref t0, .int (nI (kt))])), (t0, .inl (cC, 120, .inl gT))]) hP hD hS hA [0, 1, 2, 3, 4] rfl (by decide) rfl
      have hKc := hK.sb (tys2 := [(c1, .int), (c2, .int), (cC, .char)]) [0, 1, 2] rfl
      refine va_calli (va_runV (As := [.int 0]) (rest := []) ⟨hx, hb, hml, hown, hts⟩ (s_sum4x_0 l dC dI jT t0 cC gT kt (by omega) hgT bt hbt hb8 jR r1 r2 c1 c2 s1 s2 wr fi q6 q7 (by omega) (by omega) Pn_3 (by omega) (by omega) b6 n6 g6 (by omega) b7 n7 g7 (by omega) gn6 hz6 gn7 hz7 H.size) (cwV 1 hts (kG (List.forall_mem_cons.mpr ⟨(List.mem_cons_of_mem _ (List.mem_append_left _ (List.mem_of_getElem? (i := 32) rfl))), (List.forall_mem_cons.mpr ⟨(List.mem_cons_of_mem _ (List.mem_append_left _ (List.mem_of_getElem? (i := 31) rfl))), (List.forall_mem_cons.mpr ⟨(List.mem_cons_of_mem _ (List.mem_append_left _ (List.mem_of_getElem? (i := 30) rfl))), (List.forall_mem_cons.mpr ⟨(List.mem_cons_of_mem _ (List.mem_append_left _ (List.mem_of_getElem? (i := 0) rfl))), (fun _ h => absurd h List.not_mem_nil)⟩)⟩)⟩)⟩) (kGV _ _ _ _) (kFam (List.mem_cons_of_mem _ (List.mem_append_left _ (List.mem_of_getElem? (i := 29) rfl)))) gw_s_sum4x_0) rfl rfl rfl ⟨rfl, hd_X4_readSum⟩ ⟨(Nat.le_of_ble_eq_true rfl), (Nat.le_of_ble_eq_true rfl)⟩) (kW_V kS2_blind (kS2_give hX hS hFc) (va_recv hKc hPc (ci := 4) (q0 := 0) rfl rfl) hPc hKc hDc) rfl rfl hl.1 rfl (lv_room (Nat.le_of_ble_eq_true rfl)) dX4_readUnit_92 ⟨(Nat.le_of_ble_eq_true rfl), (Nat.le_of_ble_eq_true rfl)⟩) hS (fun q _ h => hFc q h) hFc (fun r_10 u t H1 locs ht hvm hw hB hz1 hk1 hS => ?_)
      obtain ⟨S1_11, Wr_12, Pn_13, xo_14, xl_15⟩ := u
      obtain ⟨hP1, hK1, hD1⟩ := hB
      rw [ht] at hP1
      try dsimp only at hw
      obtain ⟨hP, hD⟩ : kPD dC dI A [(jR, .inr (4, [.ref jT, .ref r1, .ref r2, .int (nI (Wr_12)), .int (nI (fi)), .int (nI (Pn_13)), .ref q6, .ref q7])), (r1, .inl (c1, 120, .inl S1_11)), (r2, .inl (c2, 124, .inl s2)), (jT, .inr (8, [.ref t0, .int (nI (kt))])), (t0, .inl (cC, 120, .inl gT))] H1 := kJoinI hP hD [0, 1, 2, 3, 4] rfl hk1 hFc hP1 hD1 rfl [some 0, some 1, some 2, some 3, some 4] rfl rfl
      generalize H1 = H at hP hS ⊢
      have hw_16 := hw
      refine lv_if_ne (tgt := 100) hx hb dX4_readUnit_95 (by decide) (fun c_17 => ?_) (fun c_17 => ?_)
      · obtain rfl : xo_14 = true := kBo_t (kNz9 hw_16.1 c_17)
        obtain ⟨hw_16_W, hw_16_S, hw_16_l, hw_16_p⟩ := hw_16.2.1.2.2 rfl
        have hw_16_k := hw_16.2.1.2.1
        refine lv_aload_n hx hb dX4_readUnit_100 rfl (lv_at hl 1 rfl) ?_
        obtain ⟨hPc, hDc, hFc⟩ := kCut (wc := [(jR, .inr (4, [.ref jT, .ref r1, .ref r2, .int (nI (Wr_12)), .int (nI (fi)), .int (nI (Pn_13)), .ref q6, .ref q7])), (r1, .inl (c1, 120, .inl S1_11)), (r2, .inl (c2, 124, .inl s2)), (jT, .inr (8, [.ref t0, .int (nI (kt))])), (t0, .inl (cC, 120, .inl gT))]) hP hD hS hA [0, 1, 2, 3, 4] rfl (by decide) rfl
        have hKc := hK.sb (tys2 := [(c1, .int), (c2, .int), (cC, .char)]) [0, 1, 2] rfl
        refine va_calli (va_runV (As := []) (rest := []) ⟨hx, hb, hml, hown, hts⟩ (s_look4x l dC dI jT t0 cC gT kt (by omega) hgT bt hbt hb8 jR r1 r2 c1 c2 S1_11 s2 Wr_12 fi q6 q7 (by omega) (by omega) Pn_13 (by omega) H.size) (cwV 0 hts (kG (List.forall_mem_cons.mpr ⟨(List.mem_cons_of_mem _ (List.mem_append_left _ (List.mem_of_getElem? (i := 3) rfl))), (List.forall_mem_cons.mpr ⟨(List.mem_cons_of_mem _ (List.mem_append_left _ (List.mem_of_getElem? (i := 2) rfl))), (List.forall_mem_cons.mpr ⟨(List.mem_cons_of_mem _ (List.mem_append_left _ (List.mem_of_getElem? (i := 1) rfl))), (List.forall_mem_cons.mpr ⟨(List.mem_cons_of_mem _ (List.mem_append_left _ (List.mem_of_getElem? (i := 0) rfl))), (fun _ h => absurd h List.not_mem_nil)⟩)⟩)⟩)⟩) (kGV _ _ _ _) (fun _ h => List.mem_cons_of_mem _ (List.mem_append_right _ (List.mem_append_left _ h))) gw_s_look4x) rfl rfl rfl ⟨rfl, hd_X4_look⟩ ⟨(Nat.le_of_ble_eq_true rfl), (Nat.le_of_ble_eq_true rfl)⟩) (kW_V kT_blind kT_give (va_recv hKc hPc (ci := 4) (q0 := 0) rfl rfl) hPc hKc hDc) rfl rfl hl.1 rfl (lv_room (Nat.le_of_ble_eq_true rfl)) dX4_readUnit_101 ⟨(Nat.le_of_ble_eq_true rfl), (Nat.le_of_ble_eq_true rfl)⟩) hS (fun q _ h => hFc q h) hFc (fun r_18 u t H1 locs ht hvm hw hB hz1 hk1 hS => ?_)
        obtain ⟨Pn_19, ch_20⟩ := u
        obtain ⟨hP1, hK1, hD1⟩ := hB
        rw [ht] at hP1
        try dsimp only at hw
        obtain ⟨hP, hD⟩ : kPD dC dI A [(jR, .inr (4, [.ref jT, .ref r1, .ref r2, .int (nI (Wr_12)), .int (nI (fi)), .int (nI (Pn_19)), .ref q6, .ref q7])), (r1, .inl (c1, 120, .inl S1_11)), (r2, .inl (c2, 124, .inl s2)), (jT, .inr (8, [.ref t0, .int (nI (kt))])), (t0, .inl (cC, 120, .inl gT))] H1 := kJoinI hP hD [0, 1, 2, 3, 4] rfl hk1 hFc hP1 hD1 rfl [some 0, some 1, some 2, some 3, some 4] rfl rfl
        generalize H1 = H at hP hS ⊢
        obtain ⟨rfl, hw_21_0, hw_21_1, hw_21_2, hw_21_3, hw_21_4, hw_21_5, hw_21_6⟩ := hw
        refine lv_istore_n hx hb dX4_readUnit_104 rfl hl (by decide) (kTo [(3, .int (nI (ch_20))), (0, .ref jR), (1, .int 0), (2, .int 0)]) (fun ls hl => ?_)
        refine lv_iload_n hx hb dX4_readUnit_105 rfl (lv_at hl 0 rfl) ?_
        have hPc := hP.sb (ws2 := []) [] rfl
        have hKc := hK.sb (tys2 := []) [] rfl
        refine vp_callSi (va_runS (As := [.int (nI (ch_20))]) (rest := []) ⟨hx, hb, hml, hown, hts⟩ (s_comp4x l dC dI ch_20 (by omega)) (va_cwS 1 hts (kG (List.forall_mem_cons.mpr ⟨(List.mem_cons_of_mem _ (List.mem_append_left _ (List.mem_of_getElem? (i := 34) rfl))), (List.forall_mem_cons.mpr ⟨(List.mem_cons_of_mem _ (List.mem_append_left _ (List.mem_of_getElem? (i := 33) rfl))), (List.forall_mem_cons.mpr ⟨(List.mem_cons_of_mem _ (List.mem_append_left _ (List.mem_of_getElem? (i := 0) rfl))), (fun _ h => absurd h List.not_mem_nil)⟩)⟩)⟩) (kGS _ _ _) (fun _ h => List.mem_cons_of_mem _ (List.mem_append_right _ (List.mem_append_right _ (List.mem_append_right _ (List.mem_append_right _ (List.mem_append_right _ (List.mem_append_right _ (List.mem_append_right _ (List.mem_append_right _ (List.mem_append_left _ h)))))))))) gw_s_comp4x) rfl rfl rfl hd_X4_isComparison ⟨(Nat.le_of_ble_eq_true rfl), (Nat.le_of_ble_eq_true rfl)⟩) (kR_S kT_blind kT_give hPc hKc) rfl rfl hl.1 rfl (lv_room (Nat.le_of_ble_eq_true rfl)) dX4_readUnit_106 ⟨(Nat.le_of_ble_eq_true rfl), (Nat.le_of_ble_eq_true rfl)⟩).run (fun r_22 hw => ?_)
        have hw_23 := hw
        refine lv_if_ne (tgt := 114) hx hb dX4_readUnit_109 (by decide) (fun c_24 => ?_) (fun c_24 => ?_)
        · have hcp := hw_23.mp c_24
          refine lv_aload_n hx hb dX4_readUnit_114 rfl (lv_at hl 1 rfl) ?_
          refine lv_dup hx hb dX4_readUnit_115 rfl ?_
          refine va_get (D := (dC, dI)) (ci := 4) (v := .int (nI (Pn_19))) (C := RX4) (T := TX4) (N := 8) hx hb hts (fun _ h => List.mem_cons_of_mem _ (List.mem_append_right _ (List.mem_append_right _ (List.mem_append_right _ (List.mem_append_left _ h))))) hown hK hP 0 rfl rfl 5 (by decide) (hts (.fieldLink RX4 25 "NotEnded$Reader" "place" "I") (List.mem_cons_of_mem _ (List.mem_append_left _ (List.mem_of_getElem? (i := 11) rfl)))) (fun _ h9 => h9) rfl dX4_readUnit_116 ?_
          refine lv_iconst (v := 1) hx hb dX4_readUnit_119 (by decide) ?_
          refine lv_iadd hx hb dX4_readUnit_120 ?_
          refine lv_topi (fun y_25 ey_25 => ?_)
          obtain rfl : y_25 = nI (Pn_19 + 1) := ey_25.trans (nI_add (Pn_19) (1))
          refine va_put (D := (dC, dI)) (ci := 4) (v := .int (nI (Pn_19 + 1))) (ty := tyX4 5) (C := RX4) (T := TX4) (N := 8) hx hb hts (fun _ h => List.mem_cons_of_mem _ (List.mem_append_right _ (List.mem_append_right _ (List.mem_append_right _ (List.mem_append_left _ h))))) tyX4 tyX4_ok nmX4 hown hK hP hD hS 0 rfl rfl 5 (by decide) (hts (.fieldLink RX4 25 "NotEnded$Reader" "place" "I") (List.mem_cons_of_mem _ (List.mem_append_left _ (List.mem_of_getElem? (i := 11) rfl)))) (fun _ h9 => h9) rfl (tyX4_ok 5 (by decide)) rfl rfl (Nat.le_of_ble_eq_true rfl) dX4_readUnit_121 (fun H locs hP hD hS => ?_)
          obtain ⟨hP, hD⟩ : kPD dC dI A [(jR, .inr (4, [.ref jT, .ref r1, .ref r2, .int (nI (Wr_12)), .int (nI (fi)), .int (nI (Pn_19 + 1)), .ref q6, .ref q7])), (r1, .inl (c1, 120, .inl S1_11)), (r2, .inl (c2, 124, .inl s2)), (jT, .inr (8, [.ref t0, .int (nI (kt))])), (t0, .inl (cC, 120, .inl gT))] H := ⟨hP, hD⟩
          refine lv_aload_n hx hb dX4_readUnit_124 rfl (lv_at hl 1 rfl) ?_
          refine lv_iload_n hx hb dX4_readUnit_125 rfl (lv_at hl 2 rfl) ?_
          obtain ⟨hPc, hDc, hFc⟩ := kCut (wc := [(jR, .inr (4, [.ref jT, .ref r1, .ref r2, .int (nI (Wr_12)), .int (nI (fi)), .int (nI (Pn_19 + 1)), .ref q6, .ref q7])), (r1, .inl (c1, 120, .inl S1_11)), (r2, .inl (c2, 124, .inl s2)), (jT, .inr (8, [.ref t0, .int (nI (kt))])), (t0, .inl (cC, 120, .inl gT))]) hP hD hS hA [0, 1, 2, 3, 4] rfl (by decide) rfl
          have hKc := hK.sb (tys2 := [(c1, .int), (c2, .int), (cC, .char)]) [0, 1, 2] rfl
          refine va_calli (va_runV (As := [.int 0]) (rest := []) ⟨hx, hb, hml, hown, hts⟩ (s_sum4x_0 l dC dI jT t0 cC gT kt (by omega) hgT bt hbt hb8 jR r1 r2 c1 c2 S1_11 s2 Wr_12 fi q6 q7 (by omega) (by omega) (Pn_19 + 1) (by omega) (by omega) b6 n6 g6 (by omega) b7 n7 g7 (by omega) gn6 hz6 gn7 hz7 H.size) (cwV 1 hts (kG (List.forall_mem_cons.mpr ⟨(List.mem_cons_of_mem _ (List.mem_append_left _ (List.mem_of_getElem? (i := 32) rfl))), (List.forall_mem_cons.mpr ⟨(List.mem_cons_of_mem _ (List.mem_append_left _ (List.mem_of_getElem? (i := 31) rfl))), (List.forall_mem_cons.mpr ⟨(List.mem_cons_of_mem _ (List.mem_append_left _ (List.mem_of_getElem? (i := 30) rfl))), (List.forall_mem_cons.mpr ⟨(List.mem_cons_of_mem _ (List.mem_append_left _ (List.mem_of_getElem? (i := 0) rfl))), (fun _ h => absurd h List.not_mem_nil)⟩)⟩)⟩)⟩) (kGV _ _ _ _) (kFam (List.mem_cons_of_mem _ (List.mem_append_left _ (List.mem_of_getElem? (i := 29) rfl)))) gw_s_sum4x_0) rfl rfl rfl ⟨rfl, hd_X4_readSum⟩ ⟨(Nat.le_of_ble_eq_true rfl), (Nat.le_of_ble_eq_true rfl)⟩) (kW_V kS2_blind (kS2_give hX hS hFc) (va_recv hKc hPc (ci := 4) (q0 := 0) rfl rfl) hPc hKc hDc) rfl rfl hl.1 rfl (lv_room (Nat.le_of_ble_eq_true rfl)) dX4_readUnit_126 ⟨(Nat.le_of_ble_eq_true rfl), (Nat.le_of_ble_eq_true rfl)⟩) hS (fun q _ h => hFc q h) hFc (fun r_26 u t H1 locs ht hvm hw hB hz1 hk1 hS => ?_)
          obtain ⟨S1_27, Wr_28, Pn_29, xo_30, xl_31⟩ := u
          obtain ⟨hP1, hK1, hD1⟩ := hB
          rw [ht] at hP1
          try dsimp only at hw
          obtain ⟨hP, hD⟩ : kPD dC dI A [(jR, .inr (4, [.ref jT, .ref r1, .ref r2, .int (nI (Wr_28)), .int (nI (fi)), .int (nI (Pn_29)), .ref q6, .ref q7])), (r1, .inl (c1, 120, .inl S1_27)), (r2, .inl (c2, 124, .inl s2)), (jT, .inr (8, [.ref t0, .int (nI (kt))])), (t0, .inl (cC, 120, .inl gT))] H1 := kJoinI hP hD [0, 1, 2, 3, 4] rfl hk1 hFc hP1 hD1 rfl [some 0, some 1, some 2, some 3, some 4] rfl rfl
          generalize H1 = H at hP hS ⊢
          have hw_32 := hw
          refine lv_if_eq (tgt := 148) hx hb dX4_readUnit_129 (by decide) (fun c_33 => ?_) (fun c_33 => ?_)
          · obtain rfl : xo_30 = false := kBo_f (kZr9 hw_32.1 c_33)
            have hw_32_k := hw_32.2.1.2.1
            refine lv_iconst (v := 0) hx hb dX4_readUnit_148 (by decide) ?_
            have hP9 := hP
            have hD9 := hD
            have hK9 := hK
            rw [hQ]
            exact W.zret (v := 0) hx hb hr rfl (fun t ht hW => ⟨⟨0, (S1_27, Wr_28, Pn_29, false, ([])), rfl, ⟨rfl, kPR_f ((kUnitD_s 5 pn).trans (by unfold kUnitF; rw [← hw_5_0, ← hw_5_1]; rw [if_neg (by omega), if_neg (by omega), hw_16.2.1.1, kTh_t]; unfold kCmp; rw [← hw_21_0, ← hw_21_1, if_pos (by omega), hw_32.2.1.1]; rfl)) (by omega), by omega⟩,  by rw [ht]; exact hP9, va_K.moved hW.alike hK9, hD9⟩, hS.F ht⟩) hS.2.2 dX4_readUnit_149
          · obtain rfl : xo_30 = true := kBo_t (kNz9 hw_32.1 c_33)
            obtain ⟨hw_32_W, hw_32_S, hw_32_l, hw_32_p⟩ := hw_32.2.1.2.2 rfl
            have hw_32_k := hw_32.2.1.2.1
            refine lv_aload_n hx hb dX4_readUnit_132 rfl (lv_at hl 1 rfl) ?_
            refine lv_sipush (v := 20000) hx hb dX4_readUnit_133 (by decide) ?_
            refine lv_iload_n hx hb dX4_readUnit_136 rfl (lv_at hl 0 rfl) ?_
            refine lv_iadd hx hb dX4_readUnit_137 ?_
            refine lv_topi (fun y_34 ey_34 => ?_)
            obtain rfl : y_34 = nI (20000 + ch_20) := ey_34.trans (nI_add (20000) (ch_20))
            obtain ⟨hPc, hDc, hFc⟩ := kCut (wc := [(jR, .inr (4, [.ref jT, .ref r1, .ref r2, .int (nI (Wr_28)), .int (nI (fi)), .int (nI (Pn_29)), .ref q6, .ref q7])), (r1, .inl (c1, 120, .inl S1_27)), (r2, .inl (c2, 124, .inl s2)), (jT, .inr (8, [.ref t0, .int (nI (kt))])), (t0, .inl (cC, 120, .inl gT))]) hP hD hS hA [0, 1, 2, 3, 4] rfl (by decide) rfl
            have hKc := hK.sb (tys2 := [(c1, .int), (c2, .int), (cC, .char)]) [0, 1, 2] rfl
            refine va_calli (va_runV (As := [.int (nI (20000 + ch_20))]) (rest := []) ⟨hx, hb, hml, hown, hts⟩ (s_write4x l dC dI jT t0 cC gT kt (by omega) hgT bt hbt hb8 jR r1 r2 c1 c2 S1_27 s2 Wr_28 fi q6 q7 (by omega) (by omega) Pn_29 (by omega) (nI (20000 + ch_20)) (by omega) H.size) (cwV 1 hts (kG (List.forall_mem_cons.mpr ⟨(List.mem_cons_of_mem _ (List.mem_append_left _ (List.mem_of_getElem? (i := 14) rfl))), (List.forall_mem_cons.mpr ⟨(List.mem_cons_of_mem _ (List.mem_append_left _ (List.mem_of_getElem? (i := 13) rfl))), (List.forall_mem_cons.mpr ⟨(List.mem_cons_of_mem _ (List.mem_append_left _ (List.mem_of_getElem? (i := 12) rfl))), (List.forall_mem_cons.mpr ⟨(List.mem_cons_of_mem _ (List.mem_append_left _ (List.mem_of_getElem? (i := 0) rfl))), (fun _ h => absurd h List.not_mem_nil)⟩)⟩)⟩)⟩) (kGV _ _ _ _) (fun _ h => List.mem_cons_of_mem _ (List.mem_append_right _ (List.mem_append_right _ (List.mem_append_right _ (List.mem_append_right _ (List.mem_append_right _ (List.mem_append_left _ h))))))) gw_s_write4x) rfl rfl rfl ⟨rfl, hd_X4_write⟩ ⟨(Nat.le_of_ble_eq_true rfl), (Nat.le_of_ble_eq_true rfl)⟩) (kW_V kT_blind kT_give (va_recv hKc hPc (ci := 4) (q0 := 0) rfl rfl) hPc hKc hDc) rfl rfl hl.1 rfl (lv_room (Nat.le_of_ble_eq_true rfl)) dX4_readUnit_138 ⟨(Nat.le_of_ble_eq_true rfl), (Nat.le_of_ble_eq_true rfl)⟩) hS (fun q _ h => hFc q h) hFc (fun r_35 u t H1 locs ht hvm hw hB hz1 hk1 hS => ?_)
            obtain ⟨S1_36, Wr_37⟩ := u
            obtain ⟨hP1, hK1, hD1⟩ := hB
            rw [ht] at hP1
            try dsimp only at hw
            obtain ⟨hP, hD⟩ : kPD dC dI A [(jR, .inr (4, [.ref jT, .ref r1, .ref r2, .int (nI (Wr_37)), .int (nI (fi)), .int (nI (Pn_29)), .ref q6, .ref q7])), (r1, .inl (c1, 120, .inl S1_36)), (r2, .inl (c2, 124, .inl s2)), (jT, .inr (8, [.ref t0, .int (nI (kt))])), (t0, .inl (cC, 120, .inl gT))] H1 := kJoinI hP hD [0, 1, 2, 3, 4] rfl hk1 hFc hP1 hD1 rfl [some 0, some 1, some 2, some 3, some 4] rfl rfl
            generalize H1 = H at hP hS ⊢
            obtain ⟨rfl, hw_38⟩ := hw
            refine lv_if_eq (tgt := 148) hx hb dX4_readUnit_141 (by decide) (fun c_39 => absurd c_39 (by decide)) (fun c_39 => ?_)
            refine lv_iconst (v := 1) hx hb dX4_readUnit_144 (by decide) ?_
            refine lv_goto (tgt := 149) hx hb dX4_readUnit_145 (by decide) ?_
            have hP9 := hP
            have hD9 := hD
            have hK9 := hK
            rw [hQ]
            exact W.zret (v := 1) hx hb hr rfl (fun t ht hW => ⟨⟨1, (S1_36, Wr_37, Pn_29, true, (xl_15 ++ xl_31 ++ [nI (20000 + ch_20)])), rfl, ⟨rfl, kPR_t (a := kUnitD bt kt g7 n7 6) rfl (kUnitD_good hz7 6) (by omega) ((kUnitD_s 5 pn).trans (by unfold kUnitF; rw [← hw_5_0, ← hw_5_1]; rw [if_neg (by omega), if_neg (by omega), hw_16.2.1.1, kTh_t]; unfold kCmp; rw [← hw_21_0, ← hw_21_1, if_pos (by omega), hw_32.2.1.1, kTh_t])) (by simp only [List.length_append, List.length_cons, List.length_nil]; omega) (kWrt3 hw_16_S hw_16_W hw_32_S hw_32_W hw_38.2), by omega⟩,  by rw [ht]; exact hP9, va_K.moved hW.alike hK9, hD9⟩, hS.F ht⟩) hS.2.2 dX4_readUnit_149
        · have hcp : ¬ (ch_20 = 61 ∨ ch_20 = 60 ∨ ch_20 = 62) := fun z9 => hw_23.mpr z9 c_24
          refine lv_iconst (v := 0) hx hb dX4_readUnit_112 (by decide) ?_
          have hP9 := hP
          have hD9 := hD
          have hK9 := hK
          rw [hQ]
          exact W.zret (v := 0) hx hb hr rfl (fun t ht hW => ⟨⟨0, (S1_11, Wr_12, Pn_19, false, ([])), rfl, ⟨rfl, kPR_f ((kUnitD_s 5 pn).trans (by unfold kUnitF; rw [← hw_5_0, ← hw_5_1]; rw [if_neg (by omega), if_neg (by omega), hw_16.2.1.1, kTh_t]; unfold kCmp; rw [← hw_21_0, ← hw_21_1, if_neg (by omega)])) (by omega), by omega⟩,  by rw [ht]; exact hP9, va_K.moved hW.alike hK9, hD9⟩, hS.F ht⟩) hS.2.2 dX4_readUnit_113
      · obtain rfl : xo_14 = false := kBo_f (kZr9 hw_16.1 c_17)
        have hw_16_k := hw_16.2.1.2.1
        refine lv_iconst (v := 0) hx hb dX4_readUnit_98 (by decide) ?_
        have hP9 := hP
        have hD9 := hD
        have hK9 := hK
        rw [hQ]
        exact W.zret (v := 0) hx hb hr rfl (fun t ht hW => ⟨⟨0, (S1_11, Wr_12, Pn_13, false, ([])), rfl, ⟨rfl, kPR_f ((kUnitD_s 5 pn).trans (by unfold kUnitF; rw [← hw_5_0, ← hw_5_1]; rw [if_neg (by omega), if_neg (by omega), hw_16.2.1.1]; rfl)) (by omega), by omega⟩,  by rw [ht]; exact hP9, va_K.moved hW.alike hK9, hD9⟩, hS.F ht⟩) hS.2.2 dX4_readUnit_99
    · have hn_40 := keq (a := ch_4) (b := 40) (by omega) (by omega) c_8
      refine lv_aload_n hx hb dX4_readUnit_56 rfl (lv_at hl 1 rfl) ?_
      refine lv_iload_n hx hb dX4_readUnit_57 rfl (lv_at hl 2 rfl) ?_
      obtain ⟨hPc, hDc, hFc⟩ := kCut (wc := [(jR, .inr (4, [.ref jT, .ref r1, .ref r2, .int (nI (wr)), .int (nI (fi)), .int (nI (Pn_3)), .ref q6, .ref q7])), (r1, .inl (c1, 120, .inl s1)), (r2, .inl (c2, 124, .inl s2)), (jT, .inr (8, [.ref t0, .int (nI (kt))])), (t0, .inl (cC, 120, .inl gT))]) hP hD hS hA [0, 1, 2, 3, 4] rfl (by decide) rfl
      have hKc := hK.sb (tys2 := [(c1, .int), (c2, .int), (cC, .char)]) [0, 1, 2] rfl
      refine va_calli (va_runV (As := [.int 0]) (rest := []) ⟨hx, hb, hml, hown, hts⟩ (s_opens4_0 l dC dI jT t0 cC gT kt (by omega) hgT bt hbt hb8 jR r1 r2 c1 c2 s1 s2 wr fi q6 q7 (by omega) (by omega) Pn_3 (by omega) (by omega) H.size) (cwV 1 hts (kG (List.forall_mem_cons.mpr ⟨(List.mem_cons_of_mem _ (List.mem_append_left _ (List.mem_of_getElem? (i := 20) rfl))), (List.forall_mem_cons.mpr ⟨(List.mem_cons_of_mem _ (List.mem_append_left _ (List.mem_of_getElem? (i := 19) rfl))), (List.forall_mem_cons.mpr ⟨(List.mem_cons_of_mem _ (List.mem_append_left _ (List.mem_of_getElem? (i := 18) rfl))), (List.forall_mem_cons.mpr ⟨(List.mem_cons_of_mem _ (List.mem_append_left _ (List.mem_of_getElem? (i := 0) rfl))), (fun _ h => absurd h List.not_mem_nil)⟩)⟩)⟩)⟩) (kGV _ _ _ _) (fun _ h => List.mem_cons_of_mem _ (List.mem_append_right _ (List.mem_append_right _ (List.mem_append_right _ (List.mem_append_right _ (List.mem_append_right _ (List.mem_append_right _ (List.mem_append_right _ (List.mem_append_right _ (List.mem_append_right _ (List.mem_append_right _ (List.mem_append_right _ (List.mem_append_right _ (List.mem_append_right _ (List.mem_append_right _ (List.mem_append_right _ (List.mem_append_right _ (List.mem_append_left _ h)))))))))))))))))) gw_s_opens4_0) rfl rfl rfl ⟨rfl, hd_X4_opens⟩ ⟨(Nat.le_of_ble_eq_true rfl), (Nat.le_of_ble_eq_true rfl)⟩) (kW_V kT_blind kT_give (va_recv hKc hPc (ci := 4) (q0 := 0) rfl rfl) hPc hKc hDc) rfl rfl hl.1 rfl (lv_room (Nat.le_of_ble_eq_true rfl)) dX4_readUnit_58 ⟨(Nat.le_of_ble_eq_true rfl), (Nat.le_of_ble_eq_true rfl)⟩) hS (fun q _ h => hFc q h) hFc (fun r_41 u t H1 locs ht hvm hw hB hz1 hk1 hS => ?_)
      obtain ⟨Pn_42, rfl⟩ : ∃ z, z = u := ⟨_, rfl⟩
      obtain ⟨hP1, hK1, hD1⟩ := hB
      rw [ht] at hP1
      try dsimp only at hw
      obtain ⟨hP, hD⟩ : kPD dC dI A [(jR, .inr (4, [.ref jT, .ref r1, .ref r2, .int (nI (wr)), .int (nI (fi)), .int (nI (Pn_42)), .ref q6, .ref q7])), (r1, .inl (c1, 120, .inl s1)), (r2, .inl (c2, 124, .inl s2)), (jT, .inr (8, [.ref t0, .int (nI (kt))])), (t0, .inl (cC, 120, .inl gT))] H1 := kJoinI hP hD [0, 1, 2, 3, 4] rfl hk1 hFc hP1 hD1 rfl [some 0, some 1, some 2, some 3, some 4] rfl rfl
      generalize H1 = H at hP hS ⊢
      obtain ⟨rfl, hw_43⟩ := hw
      subst hw_43
      refine lv_if_eq (tgt := 88) hx hb dX4_readUnit_61 (by decide) (fun c_44 => absurd c_44 (by decide)) (fun c_44 => ?_)
      refine lv_aload_n hx hb dX4_readUnit_64 rfl (lv_at hl 1 rfl) ?_
      refine lv_iload_n hx hb dX4_readUnit_65 rfl (lv_at hl 2 rfl) ?_
      refine lv_iconst (v := 1) hx hb dX4_readUnit_66 (by decide) ?_
      refine lv_iadd hx hb dX4_readUnit_67 ?_
      refine lv_topi (fun y_45 ey_45 => ?_)
      obtain rfl : y_45 = 1 := ey_45.trans (by decide)
      refine lv_iconst (v := 0) hx hb dX4_readUnit_68 (by decide) ?_
      obtain ⟨hPc, hDc, hFc⟩ := kCut (wc := [(jR, .inr (4, [.ref jT, .ref r1, .ref r2, .int (nI (wr)), .int (nI (fi)), .int (nI ((Pn_3 + 1))), .ref q6, .ref q7])), (r1, .inl (c1, 120, .inl s1)), (r2, .inl (c2, 124, .inl s2)), (jT, .inr (8, [.ref t0, .int (nI (kt))])), (t0, .inl (cC, 120, .inl gT))]) hP hD hS hA [0, 1, 2, 3, 4] rfl (by decide) rfl
      have hKc := hK.sb (tys2 := [(c1, .int), (c2, .int), (cC, .char)]) [0, 1, 2] rfl
      refine va_calli (va_runV (As := [.int 1, .int 0]) (rest := []) ⟨hx, hb, hml, hown, hts⟩ (s_cond4x_1_0 l dC dI jT t0 cC gT kt (by omega) hgT bt hbt hb8 jR r1 r2 c1 c2 s1 s2 wr fi q6 q7 (by omega) (by omega) (Pn_3 + 1) (by omega) (by omega) b6 n6 g6 (by omega) b7 n7 g7 (by omega) gn6 hz6 gn7 hz7 H.size) (cwV 2 hts (kG (List.forall_mem_cons.mpr ⟨(List.mem_cons_of_mem _ (List.mem_append_left _ (List.mem_of_getElem? (i := 49) rfl))), (List.forall_mem_cons.mpr ⟨(List.mem_cons_of_mem _ (List.mem_append_left _ (List.mem_of_getElem? (i := 48) rfl))), (List.forall_mem_cons.mpr ⟨(List.mem_cons_of_mem _ (List.mem_append_left _ (List.mem_of_getElem? (i := 47) rfl))), (List.forall_mem_cons.mpr ⟨(List.mem_cons_of_mem _ (List.mem_append_left _ (List.mem_of_getElem? (i := 0) rfl))), (fun _ h => absurd h List.not_mem_nil)⟩)⟩)⟩)⟩) (kGV _ _ _ _) (kFam (List.mem_cons_of_mem _ (List.mem_append_left _ (List.mem_of_getElem? (i := 46) rfl)))) gw_s_cond4x_1_0) rfl rfl rfl ⟨rfl, hd_X4_readCondition⟩ ⟨(Nat.le_of_ble_eq_true rfl), (Nat.le_of_ble_eq_true rfl)⟩) (kW_V kS2_blind (kS2_give hX hS hFc) (va_recv hKc hPc (ci := 4) (q0 := 0) rfl rfl) hPc hKc hDc) rfl rfl hl.1 rfl (lv_room (Nat.le_of_ble_eq_true rfl)) dX4_readUnit_69 ⟨(Nat.le_of_ble_eq_true rfl), (Nat.le_of_ble_eq_true rfl)⟩) hS (fun q _ h => hFc q h) hFc (fun r_46 u t H1 locs ht hvm hw hB hz1 hk1 hS => ?_)
      obtain ⟨S1_47, Wr_48, Pn_49, xo_50, xl_51⟩ := u
      obtain ⟨hP1, hK1, hD1⟩ := hB
      rw [ht] at hP1
      try dsimp only at hw
      obtain ⟨hP, hD⟩ : kPD dC dI A [(jR, .inr (4, [.ref jT, .ref r1, .ref r2, .int (nI (Wr_48)), .int (nI (fi)), .int (nI (Pn_49)), .ref q6, .ref q7])), (r1, .inl (c1, 120, .inl S1_47)), (r2, .inl (c2, 124, .inl s2)), (jT, .inr (8, [.ref t0, .int (nI (kt))])), (t0, .inl (cC, 120, .inl gT))] H1 := kJoinI hP hD [0, 1, 2, 3, 4] rfl hk1 hFc hP1 hD1 rfl [some 0, some 1, some 2, some 3, some 4] rfl rfl
      generalize H1 = H at hP hS ⊢
      have hw_52 := hw
      refine lv_if_eq (tgt := 88) hx hb dX4_readUnit_72 (by decide) (fun c_53 => ?_) (fun c_53 => ?_)
      · obtain rfl : xo_50 = false := kBo_f (kZr9 hw_52.1 c_53)
        have hw_52_k := hw_52.2.1.2.1
        refine lv_iconst (v := 0) hx hb dX4_readUnit_88 (by decide) ?_
        have hP9 := hP
        have hD9 := hD
        have hK9 := hK
        rw [hQ]
        exact W.zret (v := 0) hx hb hr rfl (fun t ht hW => ⟨⟨0, (S1_47, Wr_48, Pn_49, false, ([])), rfl, ⟨rfl, kPR_f ((kUnitD_s 5 pn).trans (by unfold kUnitF; rw [← hw_5_0, ← hw_5_1]; rw [if_neg (by omega), if_pos (by omega), if_pos rfl, hw_52.2.1.1]; rfl)) (by omega), by omega⟩,  by rw [ht]; exact hP9, va_K.moved hW.alike hK9, hD9⟩, hS.F ht⟩) hS.2.2 dX4_readUnit_89
      · obtain rfl : xo_50 = true := kBo_t (kNz9 hw_52.1 c_53)
        obtain ⟨hw_52_W, hw_52_S, hw_52_l, hw_52_p⟩ := hw_52.2.1.2.2 rfl
        have hw_52_k := hw_52.2.1.2.1
        refine lv_aload_n hx hb dX4_readUnit_75 rfl (lv_at hl 1 rfl) ?_
        refine lv_bipush (v := 41) hx hb dX4_readUnit_76 (by decide) ?_
        obtain ⟨hPc, hDc, hFc⟩ := kCut (wc := [(jR, .inr (4, [.ref jT, .ref r1, .ref r2, .int (nI (Wr_48)), .int (nI (fi)), .int (nI (Pn_49)), .ref q6, .ref q7])), (r1, .inl (c1, 120, .inl S1_47)), (r2, .inl (c2, 124, .inl s2)), (jT, .inr (8, [.ref t0, .int (nI (kt))])), (t0, .inl (cC, 120, .inl gT))]) hP hD hS hA [0, 1, 2, 3, 4] rfl (by decide) rfl
        have hKc := hK.sb (tys2 := [(c1, .int), (c2, .int), (cC, .char)]) [0, 1, 2] rfl
        refine va_calli (va_runV (As := [.int 41]) (rest := []) ⟨hx, hb, hml, hown, hts⟩ (s_take4_41 l dC dI jT t0 cC gT kt (by omega) hgT bt hbt hb8 jR r1 r2 c1 c2 S1_47 s2 Wr_48 fi q6 q7 (by omega) (by omega) Pn_49 (by omega) H.size) (cwV 1 hts (kG (List.forall_mem_cons.mpr ⟨(List.mem_cons_of_mem _ (List.mem_append_left _ (List.mem_of_getElem? (i := 45) rfl))), (List.forall_mem_cons.mpr ⟨(List.mem_cons_of_mem _ (List.mem_append_left _ (List.mem_of_getElem? (i := 44) rfl))), (List.forall_mem_cons.mpr ⟨(List.mem_cons_of_mem _ (List.mem_append_left _ (List.mem_of_getElem? (i := 43) rfl))), (List.forall_mem_cons.mpr ⟨(List.mem_cons_of_mem _ (List.mem_append_left _ (List.mem_of_getElem? (i := 0) rfl))), (fun _ h => absurd h List.not_mem_nil)⟩)⟩)⟩)⟩) (kGV _ _ _ _) (fun _ h => List.mem_cons_of_mem _ (List.mem_append_right _ (List.mem_append_right _ (List.mem_append_right _ (List.mem_append_right _ (List.mem_append_right _ (List.mem_append_right _ (List.mem_append_right _ (List.mem_append_right _ (List.mem_append_right _ (List.mem_append_right _ (List.mem_append_right _ (List.mem_append_left _ h))))))))))))) gw_s_take4_41) rfl rfl rfl ⟨rfl, hd_X4_take⟩ ⟨(Nat.le_of_ble_eq_true rfl), (Nat.le_of_ble_eq_true rfl)⟩) (kW_V kT_blind kT_give (va_recv hKc hPc (ci := 4) (q0 := 0) rfl rfl) hPc hKc hDc) rfl rfl hl.1 rfl (lv_room (Nat.le_of_ble_eq_true rfl)) dX4_readUnit_78 ⟨(Nat.le_of_ble_eq_true rfl), (Nat.le_of_ble_eq_true rfl)⟩) hS (fun q _ h => hFc q h) hFc (fun r_54 u t H1 locs ht hvm hw hB hz1 hk1 hS => ?_)
        obtain ⟨Pn_55, xo_56⟩ := u
        obtain ⟨hP1, hK1, hD1⟩ := hB
        rw [ht] at hP1
        try dsimp only at hw
        obtain ⟨hP, hD⟩ : kPD dC dI A [(jR, .inr (4, [.ref jT, .ref r1, .ref r2, .int (nI (Wr_48)), .int (nI (fi)), .int (nI (Pn_55)), .ref q6, .ref q7])), (r1, .inl (c1, 120, .inl S1_47)), (r2, .inl (c2, 124, .inl s2)), (jT, .inr (8, [.ref t0, .int (nI (kt))])), (t0, .inl (cC, 120, .inl gT))] H1 := kJoinI hP hD [0, 1, 2, 3, 4] rfl hk1 hFc hP1 hD1 rfl [some 0, some 1, some 2, some 3, some 4] rfl rfl
        generalize H1 = H at hP hS ⊢
        have hw_57 := hw
        refine lv_if_eq (tgt := 88) hx hb dX4_readUnit_81 (by decide) (fun c_58 => ?_) (fun c_58 => ?_)
        · obtain rfl : xo_56 = false := kBo_f (kZr9 hw_57.1 c_58)
          have hw_57_k := hw_57.2.2.2.1
          refine lv_iconst (v := 0) hx hb dX4_readUnit_88 (by decide) ?_
          have hP9 := hP
          have hD9 := hD
          have hK9 := hK
          rw [hQ]
          exact W.zret (v := 0) hx hb hr rfl (fun t ht hW => ⟨⟨0, (S1_47, Wr_48, Pn_55, false, ([])), rfl, ⟨rfl, kPR_f ((kUnitD_s 5 pn).trans (by unfold kUnitF; rw [← hw_5_0, ← hw_5_1]; rw [if_neg (by omega), if_pos (by omega), if_pos rfl, hw_52.2.1.1, kTh_t]; exact kTk_n _ hw_57.2.1)) (by omega), by omega⟩,  by rw [ht]; exact hP9, va_K.moved hW.alike hK9, hD9⟩, hS.F ht⟩) hS.2.2 dX4_readUnit_89
        · obtain rfl : xo_56 = true := kBo_t (kNz9 hw_57.1 c_58)
          have hw_57_p := hw_57.2.2.2.2 rfl
          have hw_57_k := hw_57.2.2.2.1
          refine lv_iconst (v := 1) hx hb dX4_readUnit_84 (by decide) ?_
          refine lv_goto (tgt := 89) hx hb dX4_readUnit_85 (by decide) ?_
          have hP9 := hP
          have hD9 := hD
          have hK9 := hK
          rw [hQ]
          exact W.zret (v := 1) hx hb hr rfl (fun t ht hW => ⟨⟨1, (S1_47, Wr_48, Pn_55, true, xl_51), rfl, ⟨rfl, kPR_t (a := kUnitD bt kt g7 n7 6) rfl (kUnitD_good hz7 6) (by omega) ((kUnitD_s 5 pn).trans (by unfold kUnitF; rw [← hw_5_0, ← hw_5_1]; rw [if_neg (by omega), if_pos (by omega), if_pos rfl, hw_52.2.1.1, kTh_t]; exact kTk_l _ hw_57.2.1)) hw_52_W hw_52_S, by omega⟩,  by rw [ht]; exact hP9, va_K.moved hW.alike hK9, hD9⟩, hS.F ht⟩) hS.2.2 dX4_readUnit_89
  · have hn_59 := keq (a := ch_4) (b := 33) (by omega) (by omega) c_6
    refine lv_aload_n hx hb dX4_readUnit_15 rfl (lv_at hl 1 rfl) ?_
    refine lv_iload_n hx hb dX4_readUnit_16 rfl (lv_at hl 2 rfl) ?_
    obtain ⟨hPc, hDc, hFc⟩ := kCut (wc := [(jR, .inr (4, [.ref jT, .ref r1, .ref r2, .int (nI (wr)), .int (nI (fi)), .int (nI (Pn_3)), .ref q6, .ref q7])), (r1, .inl (c1, 120, .inl s1)), (r2, .inl (c2, 124, .inl s2)), (jT, .inr (8, [.ref t0, .int (nI (kt))])), (t0, .inl (cC, 120, .inl gT))]) hP hD hS hA [0, 1, 2, 3, 4] rfl (by decide) rfl
    have hKc := hK.sb (tys2 := [(c1, .int), (c2, .int), (cC, .char)]) [0, 1, 2] rfl
    refine va_calli (va_runV (As := [.int 0]) (rest := []) ⟨hx, hb, hml, hown, hts⟩ (s_opens4_0 l dC dI jT t0 cC gT kt (by omega) hgT bt hbt hb8 jR r1 r2 c1 c2 s1 s2 wr fi q6 q7 (by omega) (by omega) Pn_3 (by omega) (by omega) H.size) (cwV 1 hts (kG (List.forall_mem_cons.mpr ⟨(List.mem_cons_of_mem _ (List.mem_append_left _ (List.mem_of_getElem? (i := 20) rfl))), (List.forall_mem_cons.mpr ⟨(List.mem_cons_of_mem _ (List.mem_append_left _ (List.mem_of_getElem? (i := 19) rfl))), (List.forall_mem_cons.mpr ⟨(List.mem_cons_of_mem _ (List.mem_append_left _ (List.mem_of_getElem? (i := 18) rfl))), (List.forall_mem_cons.mpr ⟨(List.mem_cons_of_mem _ (List.mem_append_left _ (List.mem_of_getElem? (i := 0) rfl))), (fun _ h => absurd h List.not_mem_nil)⟩)⟩)⟩)⟩) (kGV _ _ _ _) (fun _ h => List.mem_cons_of_mem _ (List.mem_append_right _ (List.mem_append_right _ (List.mem_append_right _ (List.mem_append_right _ (List.mem_append_right _ (List.mem_append_right _ (List.mem_append_right _ (List.mem_append_right _ (List.mem_append_right _ (List.mem_append_right _ (List.mem_append_right _ (List.mem_append_right _ (List.mem_append_right _ (List.mem_append_right _ (List.mem_append_right _ (List.mem_append_right _ (List.mem_append_left _ h)))))))))))))))))) gw_s_opens4_0) rfl rfl rfl ⟨rfl, hd_X4_opens⟩ ⟨(Nat.le_of_ble_eq_true rfl), (Nat.le_of_ble_eq_true rfl)⟩) (kW_V kT_blind kT_give (va_recv hKc hPc (ci := 4) (q0 := 0) rfl rfl) hPc hKc hDc) rfl rfl hl.1 rfl (lv_room (Nat.le_of_ble_eq_true rfl)) dX4_readUnit_17 ⟨(Nat.le_of_ble_eq_true rfl), (Nat.le_of_ble_eq_true rfl)⟩) hS (fun q _ h => hFc q h) hFc (fun r_60 u t H1 locs ht hvm hw hB hz1 hk1 hS => ?_)
    obtain ⟨Pn_61, rfl⟩ : ∃ z, z = u := ⟨_, rfl⟩
    obtain ⟨hP1, hK1, hD1⟩ := hB
    rw [ht] at hP1
    try dsimp only at hw
    obtain ⟨hP, hD⟩ : kPD dC dI A [(jR, .inr (4, [.ref jT, .ref r1, .ref r2, .int (nI (wr)), .int (nI (fi)), .int (nI (Pn_61)), .ref q6, .ref q7])), (r1, .inl (c1, 120, .inl s1)), (r2, .inl (c2, 124, .inl s2)), (jT, .inr (8, [.ref t0, .int (nI (kt))])), (t0, .inl (cC, 120, .inl gT))] H1 := kJoinI hP hD [0, 1, 2, 3, 4] rfl hk1 hFc hP1 hD1 rfl [some 0, some 1, some 2, some 3, some 4] rfl rfl
    generalize H1 = H at hP hS ⊢
    obtain ⟨rfl, hw_62⟩ := hw
    subst hw_62
    refine lv_if_eq (tgt := 48) hx hb dX4_readUnit_20 (by decide) (fun c_63 => absurd c_63 (by decide)) (fun c_63 => ?_)
    refine lv_aload_n hx hb dX4_readUnit_23 rfl (lv_at hl 1 rfl) ?_
    refine lv_iload_n hx hb dX4_readUnit_24 rfl (lv_at hl 2 rfl) ?_
    refine lv_iconst (v := 1) hx hb dX4_readUnit_25 (by decide) ?_
    refine lv_iadd hx hb dX4_readUnit_26 ?_
    refine lv_topi (fun y_64 ey_64 => ?_)
    obtain rfl : y_64 = 1 := ey_64.trans (by decide)
    refine lv_iconst (v := 0) hx hb dX4_readUnit_27 (by decide) ?_
    obtain ⟨hPc, hDc, hFc⟩ := kCut (wc := [(jR, .inr (4, [.ref jT, .ref r1, .ref r2, .int (nI (wr)), .int (nI (fi)), .int (nI ((Pn_3 + 1))), .ref q6, .ref q7])), (r1, .inl (c1, 120, .inl s1)), (r2, .inl (c2, 124, .inl s2)), (jT, .inr (8, [.ref t0, .int (nI (kt))])), (t0, .inl (cC, 120, .inl gT))]) hP hD hS hA [0, 1, 2, 3, 4] rfl (by decide) rfl
    have hKc := hK.sb (tys2 := [(c1, .int), (c2, .int), (cC, .char)]) [0, 1, 2] rfl
    refine va_calli (va_runV (As := [.int 1, .int 0]) (rest := []) ⟨hx, hb, hml, hown, hts⟩ (s_unit4x_1_0 l dC dI jT t0 cC gT kt (by omega) hgT bt hbt hb8 jR r1 r2 c1 c2 s1 s2 wr fi q6 q7 (by omega) (by omega) (Pn_3 + 1) (by omega) (by omega) b6 n6 g6 (by omega) b7 n7 g7 (by omega) gn6 hz6 gn7 hz7 H.size) (cwV 2 hts (kG (List.forall_mem_cons.mpr ⟨(List.mem_cons_of_mem _ (List.mem_append_left _ (List.mem_of_getElem? (i := 38) rfl))), (List.forall_mem_cons.mpr ⟨(List.mem_cons_of_mem _ (List.mem_append_left _ (List.mem_of_getElem? (i := 37) rfl))), (List.forall_mem_cons.mpr ⟨(List.mem_cons_of_mem _ (List.mem_append_left _ (List.mem_of_getElem? (i := 36) rfl))), (List.forall_mem_cons.mpr ⟨(List.mem_cons_of_mem _ (List.mem_append_left _ (List.mem_of_getElem? (i := 0) rfl))), (fun _ h => absurd h List.not_mem_nil)⟩)⟩)⟩)⟩) (kGV _ _ _ _) (kFam (List.mem_cons_of_mem _ (List.mem_append_left _ (List.mem_of_getElem? (i := 35) rfl)))) gw_s_unit4x_1_0) rfl rfl rfl ⟨rfl, hd_X4_readUnit⟩ ⟨(Nat.le_of_ble_eq_true rfl), (Nat.le_of_ble_eq_true rfl)⟩) (kW_V kS2_blind (kS2_give hX hS hFc) (va_recv hKc hPc (ci := 4) (q0 := 0) rfl rfl) hPc hKc hDc) rfl rfl hl.1 rfl (lv_room (Nat.le_of_ble_eq_true rfl)) dX4_readUnit_28 ⟨(Nat.le_of_ble_eq_true rfl), (Nat.le_of_ble_eq_true rfl)⟩) hS (fun q _ h => hFc q h) hFc (fun r_65 u t H1 locs ht hvm hw hB hz1 hk1 hS => ?_)
    obtain ⟨S1_66, Wr_67, Pn_68, xo_69, xl_70⟩ := u
    obtain ⟨hP1, hK1, hD1⟩ := hB
    rw [ht] at hP1
    try dsimp only at hw
    obtain ⟨hP, hD⟩ : kPD dC dI A [(jR, .inr (4, [.ref jT, .ref r1, .ref r2, .int (nI (Wr_67)), .int (nI (fi)), .int (nI (Pn_68)), .ref q6, .ref q7])), (r1, .inl (c1, 120, .inl S1_66)), (r2, .inl (c2, 124, .inl s2)), (jT, .inr (8, [.ref t0, .int (nI (kt))])), (t0, .inl (cC, 120, .inl gT))] H1 := kJoinI hP hD [0, 1, 2, 3, 4] rfl hk1 hFc hP1 hD1 rfl [some 0, some 1, some 2, some 3, some 4] rfl rfl
    generalize H1 = H at hP hS ⊢
    have hw_71 := hw
    refine lv_if_eq (tgt := 48) hx hb dX4_readUnit_31 (by decide) (fun c_72 => ?_) (fun c_72 => ?_)
    · obtain rfl : xo_69 = false := kBo_f (kZr9 hw_71.1 c_72)
      have hw_71_k := hw_71.2.1.2.1
      refine lv_iconst (v := 0) hx hb dX4_readUnit_48 (by decide) ?_
      have hP9 := hP
      have hD9 := hD
      have hK9 := hK
      rw [hQ]
      exact W.zret (v := 0) hx hb hr rfl (fun t ht hW => ⟨⟨0, (S1_66, Wr_67, Pn_68, false, ([])), rfl, ⟨rfl, kPR_f ((kUnitD_s 5 pn).trans (by unfold kUnitF; rw [← hw_5_0, ← hw_5_1]; rw [if_pos (by omega), if_pos rfl, hw_71.2.1.1]; rfl)) (by omega), by omega⟩,  by rw [ht]; exact hP9, va_K.moved hW.alike hK9, hD9⟩, hS.F ht⟩) hS.2.2 dX4_readUnit_49
    · obtain rfl : xo_69 = true := kBo_t (kNz9 hw_71.1 c_72)
      obtain ⟨hw_71_W, hw_71_S, hw_71_l, hw_71_p⟩ := hw_71.2.1.2.2 rfl
      have hw_71_k := hw_71.2.1.2.1
      refine lv_aload_n hx hb dX4_readUnit_34 rfl (lv_at hl 1 rfl) ?_
      refine lv_sipush (v := 20033) hx hb dX4_readUnit_35 (by decide) ?_
      obtain ⟨hPc, hDc, hFc⟩ := kCut (wc := [(jR, .inr (4, [.ref jT, .ref r1, .ref r2, .int (nI (Wr_67)), .int (nI (fi)), .int (nI (Pn_68)), .ref q6, .ref q7])), (r1, .inl (c1, 120, .inl S1_66)), (r2, .inl (c2, 124, .inl s2)), (jT, .inr (8, [.ref t0, .int (nI (kt))])), (t0, .inl (cC, 120, .inl gT))]) hP hD hS hA [0, 1, 2, 3, 4] rfl (by decide) rfl
      have hKc := hK.sb (tys2 := [(c1, .int), (c2, .int), (cC, .char)]) [0, 1, 2] rfl
      refine va_calli (va_runV (As := [.int 20033]) (rest := []) ⟨hx, hb, hml, hown, hts⟩ (s_write4x l dC dI jT t0 cC gT kt (by omega) hgT bt hbt hb8 jR r1 r2 c1 c2 S1_66 s2 Wr_67 fi q6 q7 (by omega) (by omega) Pn_68 (by omega) 20033 (by omega) H.size) (cwV 1 hts (kG (List.forall_mem_cons.mpr ⟨(List.mem_cons_of_mem _ (List.mem_append_left _ (List.mem_of_getElem? (i := 14) rfl))), (List.forall_mem_cons.mpr ⟨(List.mem_cons_of_mem _ (List.mem_append_left _ (List.mem_of_getElem? (i := 13) rfl))), (List.forall_mem_cons.mpr ⟨(List.mem_cons_of_mem _ (List.mem_append_left _ (List.mem_of_getElem? (i := 12) rfl))), (List.forall_mem_cons.mpr ⟨(List.mem_cons_of_mem _ (List.mem_append_left _ (List.mem_of_getElem? (i := 0) rfl))), (fun _ h => absurd h List.not_mem_nil)⟩)⟩)⟩)⟩) (kGV _ _ _ _) (fun _ h => List.mem_cons_of_mem _ (List.mem_append_right _ (List.mem_append_right _ (List.mem_append_right _ (List.mem_append_right _ (List.mem_append_right _ (List.mem_append_left _ h))))))) gw_s_write4x) rfl rfl rfl ⟨rfl, hd_X4_write⟩ ⟨(Nat.le_of_ble_eq_true rfl), (Nat.le_of_ble_eq_true rfl)⟩) (kW_V kT_blind kT_give (va_recv hKc hPc (ci := 4) (q0 := 0) rfl rfl) hPc hKc hDc) rfl rfl hl.1 rfl (lv_room (Nat.le_of_ble_eq_true rfl)) dX4_readUnit_38 ⟨(Nat.le_of_ble_eq_true rfl), (Nat.le_of_ble_eq_true rfl)⟩) hS (fun q _ h => hFc q h) hFc (fun r_73 u t H1 locs ht hvm hw hB hz1 hk1 hS => ?_)
      obtain ⟨S1_74, Wr_75⟩ := u
      obtain ⟨hP1, hK1, hD1⟩ := hB
      rw [ht] at hP1
      try dsimp only at hw
      obtain ⟨hP, hD⟩ : kPD dC dI A [(jR, .inr (4, [.ref jT, .ref r1, .ref r2, .int (nI (Wr_75)), .int (nI (fi)), .int (nI (Pn_68)), .ref q6, .ref q7])), (r1, .inl (c1, 120, .inl S1_74)), (r2, .inl (c2, 124, .inl s2)), (jT, .inr (8, [.ref t0, .int (nI (kt))])), (t0, .inl (cC, 120, .inl gT))] H1 := kJoinI hP hD [0, 1, 2, 3, 4] rfl hk1 hFc hP1 hD1 rfl [some 0, some 1, some 2, some 3, some 4] rfl rfl
      generalize H1 = H at hP hS ⊢
      obtain ⟨rfl, hw_76⟩ := hw
      refine lv_if_eq (tgt := 48) hx hb dX4_readUnit_41 (by decide) (fun c_77 => absurd c_77 (by decide)) (fun c_77 => ?_)
      refine lv_iconst (v := 1) hx hb dX4_readUnit_44 (by decide) ?_
      refine lv_goto (tgt := 49) hx hb dX4_readUnit_45 (by decide) ?_
      have hP9 := hP
      have hD9 := hD
      have hK9 := hK
      rw [hQ]
      exact W.zret (v := 1) hx hb hr rfl (fun t ht hW => ⟨⟨1, (S1_74, Wr_75, Pn_68, true, (xl_70 ++ [20033])), rfl, ⟨rfl, kPR_t (a := kUnitD bt kt g7 n7 6) rfl (kUnitD_good hz7 6) (by omega) ((kUnitD_s 5 pn).trans (by unfold kUnitF; rw [← hw_5_0, ← hw_5_1]; rw [if_pos (by omega), if_pos rfl, hw_71.2.1.1, kTh_t])) (by simp only [List.length_append, List.length_cons, List.length_nil]; omega) (kWrt2 hw_71_S hw_71_W hw_76.2), by omega⟩,  by rw [ht]; exact hP9, va_K.moved hW.alike hK9, hD9⟩, hS.F ht⟩) hS.2.2 dX4_readUnit_49

def w_s_unit4x_0_1 : List Cond := .code yX4_readUnit cX4_readUnit 4 (some .boolean) :: wf_rq
theorem gw_s_unit4x_0_1 : (w_s_unit4x_0_1).all goodWord = true := kFamG rfl gf_rq
set_option maxHeartbeats 4000000 in
set_option maxRecDepth 100000 in
theorem s_unit4x_0_1 (l : Launch) (dC : Nat → ClassId) (dI : Nat → Nat → Nat) (jT : Nat) (t0 : Nat) (cC : ClassId) (gT : Nat → Int32) (kt : Nat) (hkt : kt ≤ 120) (hgT : ∀ j : Nat, narrow .char (.int (gT j)) = .int (gT j)) (bt : Nat → Nat) (hbt : ∀ j : Nat, gT j = nI (bt j)) (hb8 : ∀ j : Nat, bt j < 256) (jR : Nat) (r1 : Nat) (r2 : Nat) (c1 : ClassId) (c2 : ClassId) (s1 : Nat → Int32) (s2 : Nat → Int32) (wr : Nat) (fi : Nat) (q6 : Nat) (q7 : Nat) (hwr : wr ≤ 120) (hfi : fi ≤ 124) (pn : Nat) (hpn : pn ≤ kt) (hwp : wr ≤ pn) (b6 : Nat) (n6 : Nat) (g6 : Nat → Int32) (hn6 : n6 ≤ 8) (b7 : Nat) (n7 : Nat) (g7 : Nat → Int32) (hn7 : n7 ≤ 8) (gn6 : ∀ k : Nat, ∃ v : Nat, v < 128 ∧ g6 k = nI v) (hz6 : kIx g6 n6 (nI 0) = n6) (gn7 : ∀ k : Nat, ∃ v : Nat, v < 128 ∧ g7 k = nI v) (hz7 : kIx g7 n7 (nI 0) = n7) (sz : Nat) : Met l yX4_readUnit w_s_unit4x_0_1 ({ frames := 45, cells := 0, slots := 0, locals := 2700 }) (kW dC dI [.ref jR, .int 0, .int 1] [(jR, .inr (4, [.ref jT, .ref r1, .ref r2, .int (nI (wr)), .int (nI (fi)), .int (nI (pn)), .ref q6, .ref q7])), (r1, .inl (c1, 120, .inl s1)), (r2, .inl (c2, 124, .inl s2)), (jT, .inr (8, [.ref t0, .int (nI (kt))])), (t0, .inl (cC, 120, .inl gT))] [(c1, .int), (c2, .int), (cC, .char)] (kS2 q6 b6 n6 g6 q7 b7 n7 g7 (va_A [(jR, .inr (4, [.ref jT, .ref r1, .ref r2, .int (nI (wr)), .int (nI (fi)), .int (nI (pn)), .ref q6, .ref q7])), (r1, .inl (c1, 120, .inl s1)), (r2, .inl (c2, 124, .inl s2)), (jT, .inr (8, [.ref t0, .int (nI (kt))])), (t0, .inl (cC, 120, .inl gT))] sz)) sz) (va_Qi (fun (r : Int32) (u : (Nat → Int32) × Nat × Nat × Bool × (List Int32)) => match u with | (S1, Wr, Pn, xo, xl) => (r = kBo xo ∧ kPR (kUnitZ bt kt g7 n7 6 pn) pn kt wr s1 xo Pn xl Wr S1 ∧ Wr ≤ 120)) (fun (u : (Nat → Int32) × Nat × Nat × Bool × (List Int32)) => match u with | (S1, Wr, Pn, xo, xl) => fun t : State => kB dC dI [(jR, .inr (4, [.ref jT, .ref r1, .ref r2, .int (nI (Wr)), .int (nI (fi)), .int (nI (Pn)), .ref q6, .ref q7])), (r1, .inl (c1, 120, .inl S1)), (r2, .inl (c2, 124, .inl s2)), (jT, .inr (8, [.ref t0, .int (nI (kt))])), (t0, .inl (cC, 120, .inl gT))] [(c1, .int), (c2, .int), (cC, .char)] (va_A [(jR, .inr (4, [.ref jT, .ref r1, .ref r2, .int (nI (wr)), .int (nI (fi)), .int (nI (pn)), .ref q6, .ref q7])), (r1, .inl (c1, 120, .inl s1)), (r2, .inl (c2, 124, .inl s2)), (jT, .inr (8, [.ref t0, .int (nI (kt))])), (t0, .inl (cC, 120, .inl gT))] sz) t) (va_A [(jR, .inr (4, [.ref jT, .ref r1, .ref r2, .int (nI (wr)), .int (nI (fi)), .int (nI (pn)), .ref q6, .ref q7])), (r1, .inl (c1, 120, .inl s1)), (r2, .inl (c2, 124, .inl s2)), (jT, .inr (8, [.ref t0, .int (nI (kt))])), (t0, .inl (cC, 120, .inl gT))] sz)) 0 0 (va_A [(jR, .inr (4, [.ref jT, .ref r1, .ref r2, .int (nI (wr)), .int (nI (fi)), .int (nI (pn)), .ref q6, .ref q7])), (r1, .inl (c1, 120, .inl s1)), (r2, .inl (c2, 124, .inl s2)), (jT, .inr (8, [.ref t0, .int (nI (kt))])), (t0, .inl (cC, 120, .inl gT))] sz) := by
  refine Met.ofW (cc := cX4_readUnit) (maxL := 4) (ret := (some .boolean)) (by decide) rfl ?_
  intro p e s m args below meth c s₁ B hml hv
  obtain ⟨rfl, hsz, hP, hK, hD0, hX⟩ := hv
  have hx := B.exec
  have hb := B.bytes
  have hr := B.returns
  have hts := atoms_spec (ws := w_s_unit4x_0_1) B.pre
  have hown : s.vm.findClass RX4 = some m.cls := findClass_of_methodNamed B.named
  have hlocks := B.notSynchronized
  subst hsz
  have hD := hD0.self (sz := s.heap.size)
  generalize hAe : va_A [(jR, .inr (4, [.ref jT, .ref r1, .ref r2, .int (nI (wr)), .int (nI (fi)), .int (nI (pn)), .ref q6, .ref q7])), (r1, .inl (c1, 120, .inl s1)), (r2, .inl (c2, 124, .inl s2)), (jT, .inr (8, [.ref t0, .int (nI (kt))])), (t0, .inl (cC, 120, .inl gT))] s.heap.size = A at hD hX ⊢
  have hA : ∀ q : Nat, s.heap.size ≤ q → A q := fun q h => by rw [← hAe]; exact Or.inr h
  have hS : va_S A s.heap s.heap [] := va_S.rf
  have hP : va_P (dC, dI) vwCl [(jR, .inr (4, [.ref jT, .ref r1, .ref r2, .int (nI (wr)), .int (nI (fi)), .int (nI (pn)), .ref q6, .ref q7])), (r1, .inl (c1, 120, .inl s1)), (r2, .inl (c2, 124, .inl s2)), (jT, .inr (8, [.ref t0, .int (nI (kt))])), (t0, .inl (cC, 120, .inl gT))] s.heap := hP
  have hl := lv_entry ([.ref jR, .int 0, .int 1]) (n := 4) (Nat.le_of_ble_eq_true rfl)
  rw [lg_entry_eq]
  generalize (lg_sl ([.ref jR, .int 0, .int 1]) ++ List.replicate (4 - (lg_sl ([.ref jR, .int 0, .int 1])).length) Slot.unset).toArray = ls at hl ⊢
  have hl : lv_has ls 4 [(0, .ref jR), (1, .int 0), (2, .int 1)] := hl
  refine kQ (fun Q hQ => ?_)
  refine lv_iload_n hx hb dX4_readUnit_0 rfl (lv_at hl 2 rfl) ?_
  refine lv_if_ne (tgt := 100) hx hb dX4_readUnit_1 (by decide) (fun c_1 => ?_) (fun c_1 => absurd c_1 (by decide))
  refine lv_aload_n hx hb dX4_readUnit_100 rfl (lv_at hl 0 rfl) ?_
  obtain ⟨hPc, hDc, hFc⟩ := kCut (wc := [(jR, .inr (4, [.ref jT, .ref r1, .ref r2, .int (nI (wr)), .int (nI (fi)), .int (nI (pn)), .ref q6, .ref q7])), (r1, .inl (c1, 120, .inl s1)), (r2, .inl (c2, 124, .inl s2)), (jT, .inr (8, [.ref t0, .int (nI (kt))])), (t0, .inl (cC, 120, .inl gT))]) hP hD hS hA [0, 1, 2, 3, 4] rfl (by decide) rfl
  have hKc := hK.sb (tys2 := [(c1, .int), (c2, .int), (cC, .char)]) [0, 1, 2] rfl
  refine va_calli (va_runV (As := []) (rest := []) ⟨hx, hb, hml, hown, hts⟩ (s_look4x l dC dI jT t0 cC gT kt (by omega) hgT bt hbt hb8 jR r1 r2 c1 c2 s1 s2 wr fi q6 q7 (by omega) (by omega) pn (by omega) s.heap.size) (cwV 0 hts (kG (List.forall_mem_cons.mpr ⟨(List.mem_cons_of_mem _ (List.mem_append_left _ (List.mem_of_getElem? (i := 3) rfl))), (List.forall_mem_cons.mpr ⟨(List.mem_cons_of_mem _ (List.mem_append_left _ (List.mem_of_getElem? (i := 2) rfl))), (List.forall_mem_cons.mpr ⟨(List.mem_cons_of_mem _ (List.mem_append_left _ (List.mem_of_getElem? (i := 1) rfl))), (List.forall_mem_cons.mpr ⟨(List.mem_cons_of_mem _ (List.mem_append_left _ (List.mem_of_getElem? (i := 0) rfl))), (fun _ h => absurd h List.not_mem_nil)⟩)⟩)⟩)⟩) (kGV _ _ _ _) (fun _ h => List.mem_cons_of_mem _ (List.mem_append_right _ (List.mem_append_left _ h))) gw_s_look4x) rfl rfl rfl ⟨rfl, hd_X4_look⟩ ⟨(Nat.le_of_ble_eq_true rfl), (Nat.le_of_ble_eq_true rfl)⟩) (kW_V kT_blind kT_give (va_recv hKc hPc (ci := 4) (q0 := 0) rfl rfl) hPc hKc hDc) rfl rfl hl.1 rfl (lv_room (Nat.le_of_ble_eq_true rfl)) dX4_readUnit_101 ⟨(Nat.le_of_ble_eq_true rfl), (Nat.le_of_ble_eq_true rfl)⟩) hS (fun q _ h => hFc q h) hFc (fun r_2 u t H1 locs ht hvm hw hB hz1 hk1 hS => ?_)
  obtain ⟨Pn_3, ch_4⟩ := u
  obtain ⟨hP1, hK1, hD1⟩ := hB
  rw [ht] at hP1
  try dsimp only at hw
  obtain ⟨hP, hD⟩ : kPD dC dI A [(jR, .inr (4, [.ref jT, .ref r1, .ref r2, .int (nI (wr)), .int (nI (fi)), .int (nI (Pn_3)), .ref q6, .ref q7])), (r1, .inl (c1, 120, .inl s1)), (r2, .inl (c2, 124, .inl s2)), (jT, .inr (8, [.ref t0, .int (nI (kt))])), (t0, .inl (cC, 120, .inl gT))] H1 := kJoinI hP hD [0, 1, 2, 3, 4] rfl hk1 hFc hP1 hD1 rfl [some 0, some 1, some 2, some 3, some 4] rfl rfl
  generalize H1 = H at hP hS ⊢
  obtain ⟨rfl, hw_5_0, hw_5_1, hw_5_2, hw_5_3, hw_5_4, hw_5_5, hw_5_6⟩ := hw
  refine lv_istore_n hx hb dX4_readUnit_104 rfl hl (by decide) (kTo [(3, .int (nI (ch_4))), (0, .ref jR), (1, .int 0), (2, .int 1)]) (fun ls hl => ?_)
  refine lv_iload_n hx hb dX4_readUnit_105 rfl (lv_at hl 0 rfl) ?_
  have hPc := hP.sb (ws2 := []) [] rfl
  have hKc := hK.sb (tys2 := []) [] rfl
  refine vp_callSi (va_runS (As := [.int (nI (ch_4))]) (rest := []) ⟨hx, hb, hml, hown, hts⟩ (s_comp4x l dC dI ch_4 (by omega)) (va_cwS 1 hts (kG (List.forall_mem_cons.mpr ⟨(List.mem_cons_of_mem _ (List.mem_append_left _ (List.mem_of_getElem? (i := 34) rfl))), (List.forall_mem_cons.mpr ⟨(List.mem_cons_of_mem _ (List.mem_append_left _ (List.mem_of_getElem? (i := 33) rfl))), (List.forall_mem_cons.mpr ⟨(List.mem_cons_of_mem _ (List.mem_append_left _ (List.mem_of_getElem? (i := 0) rfl))), (fun _ h => absurd h List.not_mem_nil)⟩)⟩)⟩) (kGS _ _ _) (fun _ h => List.mem_cons_of_mem _ (List.mem_append_right _ (List.mem_append_right _ (List.mem_append_right _ (List.mem_append_right _ (List.mem_append_right _ (List.mem_append_right _ (List.mem_append_right _ (List.mem_append_right _ (List.mem_append_left _ h)))))))))) gw_s_comp4x) rfl rfl rfl hd_X4_isComparison ⟨(Nat.le_of_ble_eq_true rfl), (Nat.le_of_ble_eq_true rfl)⟩) (kR_S kT_blind kT_give hPc hKc) rfl rfl hl.1 rfl (lv_room (Nat.le_of_ble_eq_true rfl)) dX4_readUnit_106 ⟨(Nat.le_of_ble_eq_true rfl), (Nat.le_of_ble_eq_true rfl)⟩).run (fun r_6 hw => ?_)
  have hw_7 := hw
  refine lv_if_ne (tgt := 114) hx hb dX4_readUnit_109 (by decide) (fun c_8 => ?_) (fun c_8 => ?_)
  · have hcp := hw_7.mp c_8
    refine lv_aload_n hx hb dX4_readUnit_114 rfl (lv_at hl 1 rfl) ?_
    refine lv_dup hx hb dX4_readUnit_115 rfl ?_
    refine va_get (D := (dC, dI)) (ci := 4) (v := .int (nI (Pn_3))) (C := RX4) (T := TX4) (N := 8) hx hb hts (fun _ h => List.mem_cons_of_mem _ (List.mem_append_right _ (List.mem_append_right _ (List.mem_append_right _ (List.mem_append_left _ h))))) hown hK hP 0 rfl rfl 5 (by decide) (hts (.fieldLink RX4 25 "NotEnded$Reader" "place" "I") (List.mem_cons_of_mem _ (List.mem_append_left _ (List.mem_of_getElem? (i := 11) rfl)))) (fun _ h9 => h9) rfl dX4_readUnit_116 ?_
    refine lv_iconst (v := 1) hx hb dX4_readUnit_119 (by decide) ?_
    refine lv_iadd hx hb dX4_readUnit_120 ?_
    refine lv_topi (fun y_9 ey_9 => ?_)
    obtain rfl : y_9 = nI (Pn_3 + 1) := ey_9.trans (nI_add (Pn_3) (1))
    refine va_put (D := (dC, dI)) (ci := 4) (v := .int (nI (Pn_3 + 1))) (ty := tyX4 5) (C := RX4) (T := TX4) (N := 8) hx hb hts (fun _ h => List.mem_cons_of_mem _ (List.mem_append_right _ (List.mem_append_right _ (List.mem_append_right _ (List.mem_append_left _ h))))) tyX4 tyX4_ok nmX4 hown hK hP hD hS 0 rfl rfl 5 (by decide) (hts (.fieldLink RX4 25 "NotEnded$Reader" "place" "I") (List.mem_cons_of_mem _ (List.mem_append_left _ (List.mem_of_getElem? (i := 11) rfl)))) (fun _ h9 => h9) rfl (tyX4_ok 5 (by decide)) rfl rfl (Nat.le_of_ble_eq_true rfl) dX4_readUnit_121 (fun H locs hP hD hS => ?_)
    obtain ⟨hP, hD⟩ : kPD dC dI A [(jR, .inr (4, [.ref jT, .ref r1, .ref r2, .int (nI (wr)), .int (nI (fi)), .int (nI (Pn_3 + 1)), .ref q6, .ref q7])), (r1, .inl (c1, 120, .inl s1)), (r2, .inl (c2, 124, .inl s2)), (jT, .inr (8, [.ref t0, .int (nI (kt))])), (t0, .inl (cC, 120, .inl gT))] H := ⟨hP, hD⟩
    refine lv_aload_n hx hb dX4_readUnit_124 rfl (lv_at hl 1 rfl) ?_
    refine lv_iload_n hx hb dX4_readUnit_125 rfl (lv_at hl 2 rfl) ?_
    obtain ⟨hPc, hDc, hFc⟩ := kCut (wc := [(jR, .inr (4, [.ref jT, .ref r1, .ref r2, .int (nI (wr)), .int (nI (fi)), .int (nI (Pn_3 + 1)), .ref q6, .ref q7])), (r1, .inl (c1, 120, .inl s1)), (r2, .inl (c2, 124, .inl s2)), (jT, .inr (8, [.ref t0, .int (nI (kt))])), (t0, .inl (cC, 120, .inl gT))]) hP hD hS hA [0, 1, 2, 3, 4] rfl (by decide) rfl
    have hKc := hK.sb (tys2 := [(c1, .int), (c2, .int), (cC, .char)]) [0, 1, 2] rfl
    refine va_calli (va_runV (As := [.int 0]) (rest := []) ⟨hx, hb, hml, hown, hts⟩ (s_sum4x_0 l dC dI jT t0 cC gT kt (by omega) hgT bt hbt hb8 jR r1 r2 c1 c2 s1 s2 wr fi q6 q7 (by omega) (by omega) (Pn_3 + 1) (by omega) (by omega) b6 n6 g6 (by omega) b7 n7 g7 (by omega) gn6 hz6 gn7 hz7 H.size) (cwV 1 hts (kG (List.forall_mem_cons.mpr ⟨(List.mem_cons_of_mem _ (List.mem_append_left _ (List.mem_of_getElem? (i := 32) rfl))), (List.forall_mem_cons.mpr ⟨(List.mem_cons_of_mem _ (List.mem_append_left _ (List.mem_of_getElem? (i := 31) rfl))), (List.forall_mem_cons.mpr ⟨(List.mem_cons_of_mem _ (List.mem_append_left _ (List.mem_of_getElem? (i := 30) rfl))), (List.forall_mem_cons.mpr ⟨(List.mem_cons_of_mem _ (List.mem_append_left _ (List.mem_of_getElem? (i := 0) rfl))), (fun _ h => absurd h List.not_mem_nil)⟩)⟩)⟩)⟩) (kGV _ _ _ _) (kFam (List.mem_cons_of_mem _ (List.mem_append_left _ (List.mem_of_getElem? (i := 29) rfl)))) gw_s_sum4x_0) rfl rfl rfl ⟨rfl, hd_X4_readSum⟩ ⟨(Nat.le_of_ble_eq_true rfl), (Nat.le_of_ble_eq_true rfl)⟩) (kW_V kS2_blind (kS2_give hX hS hFc) (va_recv hKc hPc (ci := 4) (q0 := 0) rfl rfl) hPc hKc hDc) rfl rfl hl.1 rfl (lv_room (Nat.le_of_ble_eq_true rfl)) dX4_readUnit_126 ⟨(Nat.le_of_ble_eq_true rfl), (Nat.le_of_ble_eq_true rfl)⟩) hS (fun q _ h => hFc q h) hFc (fun r_10 u t H1 locs ht hvm hw hB hz1 hk1 hS => ?_)
    obtain ⟨S1_11, Wr_12, Pn_13, xo_14, xl_15⟩ := u
    obtain ⟨hP1, hK1, hD1⟩ := hB
    rw [ht] at hP1
    try dsimp only at hw
    obtain ⟨hP, hD⟩ : kPD dC dI A [(jR, .inr (4, [.ref jT, .ref r1, .ref r2, .int (nI (Wr_12)), .int (nI (fi)), .int (nI (Pn_13)), .ref q6, .ref q7])), (r1, .inl (c1, 120, .inl S1_11)), (r2, .inl (c2, 124, .inl s2)), (jT, .inr (8, [.ref t0, .int (nI (kt))])), (t0, .inl (cC, 120, .inl gT))] H1 := kJoinI hP hD [0, 1, 2, 3, 4] rfl hk1 hFc hP1 hD1 rfl [some 0, some 1, some 2, some 3, some 4] rfl rfl
    generalize H1 = H at hP hS ⊢
    have hw_16 := hw
    refine lv_if_eq (tgt := 148) hx hb dX4_readUnit_129 (by decide) (fun c_17 => ?_) (fun c_17 => ?_)
    · obtain rfl : xo_14 = false := kBo_f (kZr9 hw_16.1 c_17)
      have hw_16_k := hw_16.2.1.2.1
      refine lv_iconst (v := 0) hx hb dX4_readUnit_148 (by decide) ?_
      have hP9 := hP
      have hD9 := hD
      have hK9 := hK
      rw [hQ]
      exact W.zret (v := 0) hx hb hr rfl (fun t ht hW => ⟨⟨0, (S1_11, Wr_12, Pn_13, false, ([])), rfl, ⟨rfl, kPR_f (by show kCmp bt kt g7 n7 6 pn [] = _; unfold kCmp; rw [← hw_5_0, ← hw_5_1, if_pos (by omega), hw_16.2.1.1]; rfl) (by omega), by omega⟩,  by rw [ht]; exact hP9, va_K.moved hW.alike hK9, hD9⟩, hS.F ht⟩) hS.2.2 dX4_readUnit_149
    · obtain rfl : xo_14 = true := kBo_t (kNz9 hw_16.1 c_17)
      obtain ⟨hw_16_W, hw_16_S, hw_16_l, hw_16_p⟩ := hw_16.2.1.2.2 rfl
      have hw_16_k := hw_16.2.1.2.1
      refine lv_aload_n hx hb dX4_readUnit_132 rfl (lv_at hl 1 rfl) ?_
      refine lv_sipush (v := 20000) hx hb dX4_readUnit_133 (by decide) ?_
      refine lv_iload_n hx hb dX4_readUnit_136 rfl (lv_at hl 0 rfl) ?_
      refine lv_iadd hx hb dX4_readUnit_137 ?_
      refine lv_topi (fun y_18 ey_18 => ?_)
      obtain rfl : y_18 = nI (20000 + ch_4) := ey_18.trans (nI_add (20000) (ch_4))
      obtain ⟨hPc, hDc, hFc⟩ := kCut (wc := [(jR, .inr (4, [.ref jT, .ref r1, .ref r2, .int (nI (Wr_12)), .int (nI (fi)), .int (nI (Pn_13)), .ref q6, .ref q7])), (r1, .inl (c1, 120, .inl S1_11)), (r2, .inl (c2, 124, .inl s2)), (jT, .inr (8, [.ref t0, .int (nI (kt))])), (t0, .inl (cC, 120, .inl gT))]) hP hD hS hA [0, 1, 2, 3, 4] rfl (by decide) rfl
      have hKc := hK.sb (tys2 := [(c1, .int), (c2, .int), (cC, .char)]) [0, 1, 2] rfl
      refine va_calli (va_runV (As := [.int (nI (20000 + ch_4))]) (rest := []) ⟨hx, hb, hml, hown, hts⟩ (s_write4x l dC dI jT t0 cC gT kt (by omega) hgT bt hbt hb8 jR r1 r2 c1 c2 S1_11 s2 Wr_12 fi q6 q7 (by omega) (by omega) Pn_13 (by omega) (nI (20000 + ch_4)) (by omega) H.size) (cwV 1 hts (kG (List.forall_mem_cons.mpr ⟨(List.mem_cons_of_mem _ (List.mem_append_left _ (List.mem_of_getElem? (i := 14) rfl))), (List.forall_mem_cons.mpr ⟨(List.mem_cons_of_mem _ (List.mem_append_left _ (List.mem_of_getElem? (i := 13) rfl))), (List.forall_mem_cons.mpr ⟨(List.mem_cons_of_mem _ (List.mem_append_left _ (List.mem_of_getElem? (i := 12) rfl))), (List.forall_mem_cons.mpr ⟨(List.mem_cons_of_mem _ (List.mem_append_left _ (List.mem_of_getElem? (i := 0) rfl))), (fun _ h => absurd h List.not_mem_nil)⟩)⟩)⟩)⟩) (kGV _ _ _ _) (fun _ h => List.mem_cons_of_mem _ (List.mem_append_right _ (List.mem_append_right _ (List.mem_append_right _ (List.mem_append_right _ (List.mem_append_right _ (List.mem_append_left _ h))))))) gw_s_write4x) rfl rfl rfl ⟨rfl, hd_X4_write⟩ ⟨(Nat.le_of_ble_eq_true rfl), (Nat.le_of_ble_eq_true rfl)⟩) (kW_V kT_blind kT_give (va_recv hKc hPc (ci := 4) (q0 := 0) rfl rfl) hPc hKc hDc) rfl rfl hl.1 rfl (lv_room (Nat.le_of_ble_eq_true rfl)) dX4_readUnit_138 ⟨(Nat.le_of_ble_eq_true rfl), (Nat.le_of_ble_eq_true rfl)⟩) hS (fun q _ h => hFc q h) hFc (fun r_19 u t H1 locs ht hvm hw hB hz1 hk1 hS => ?_)
      obtain ⟨S1_20, Wr_21⟩ := u
      obtain ⟨hP1, hK1, hD1⟩ := hB
      rw [ht] at hP1
      try dsimp only at hw
      obtain ⟨hP, hD⟩ : kPD dC dI A [(jR, .inr (4, [.ref jT, .ref r1, .ref r2, .int (nI (Wr_21)), .int (nI (fi)), .int (nI (Pn_13)), .ref q6, .ref q7])), (r1, .inl (c1, 120, .inl S1_20)), (r2, .inl (c2, 124, .inl s2)), (jT, .inr (8, [.ref t0, .int (nI (kt))])), (t0, .inl (cC, 120, .inl gT))] H1 := kJoinI hP hD [0, 1, 2, 3, 4] rfl hk1 hFc hP1 hD1 rfl [some 0, some 1, some 2, some 3, some 4] rfl rfl
      generalize H1 = H at hP hS ⊢
      obtain ⟨rfl, hw_22⟩ := hw
      refine lv_if_eq (tgt := 148) hx hb dX4_readUnit_141 (by decide) (fun c_23 => absurd c_23 (by decide)) (fun c_23 => ?_)
      refine lv_iconst (v := 1) hx hb dX4_readUnit_144 (by decide) ?_
      refine lv_goto (tgt := 149) hx hb dX4_readUnit_145 (by decide) ?_
      have hP9 := hP
      have hD9 := hD
      have hK9 := hK
      rw [hQ]
      exact W.zret (v := 1) hx hb hr rfl (fun t ht hW => ⟨⟨1, (S1_20, Wr_21, Pn_13, true, ([] ++ xl_15 ++ [nI (20000 + ch_4)])), rfl, ⟨rfl, kPR_t (a := kUnitZ bt kt g7 n7 6) rfl (kUnitZ_good hz7 6) (by omega) (by show kCmp bt kt g7 n7 6 pn [] = _; unfold kCmp; rw [← hw_5_0, ← hw_5_1, if_pos (by omega), hw_16.2.1.1, kTh_t]) (by simp only [List.length_append, List.length_cons, List.length_nil]; omega) (kWrt2 hw_16_S hw_16_W hw_22.2), by omega⟩,  by rw [ht]; exact hP9, va_K.moved hW.alike hK9, hD9⟩, hS.F ht⟩) hS.2.2 dX4_readUnit_149
  · have hcp : ¬ (ch_4 = 61 ∨ ch_4 = 60 ∨ ch_4 = 62) := fun z9 => hw_7.mpr z9 c_8
    refine lv_iconst (v := 0) hx hb dX4_readUnit_112 (by decide) ?_
    have hP9 := hP
    have hD9 := hD
    have hK9 := hK
    rw [hQ]
    exact W.zret (v := 0) hx hb hr rfl (fun t ht hW => ⟨⟨0, (s1, wr, Pn_3, false, ([])), rfl, ⟨rfl, kPR_f (by show kCmp bt kt g7 n7 6 pn [] = _; unfold kCmp; rw [← hw_5_0, ← hw_5_1, if_neg (by omega)]) (by omega), by omega⟩,  by rw [ht]; exact hP9, va_K.moved hW.alike hK9, hD9⟩, hS.F ht⟩) hS.2.2 dX4_readUnit_113

def w_s_truth4x_0_0 : List Cond := .code yX4_readTruth cX4_readTruth 4 (some .boolean) :: wf_rq
theorem gw_s_truth4x_0_0 : (w_s_truth4x_0_0).all goodWord = true := kFamG rfl gf_rq
set_option maxHeartbeats 4000000 in
set_option maxRecDepth 100000 in
theorem s_truth4x_0_0 (l : Launch) (dC : Nat → ClassId) (dI : Nat → Nat → Nat) (jT : Nat) (t0 : Nat) (cC : ClassId) (gT : Nat → Int32) (kt : Nat) (hkt : kt ≤ 120) (hgT : ∀ j : Nat, narrow .char (.int (gT j)) = .int (gT j)) (bt : Nat → Nat) (hbt : ∀ j : Nat, gT j = nI (bt j)) (hb8 : ∀ j : Nat, bt j < 256) (jR : Nat) (r1 : Nat) (r2 : Nat) (c1 : ClassId) (c2 : ClassId) (s1 : Nat → Int32) (s2 : Nat → Int32) (wr : Nat) (fi : Nat) (q6 : Nat) (q7 : Nat) (hwr : wr ≤ 120) (hfi : fi ≤ 124) (pn : Nat) (hpn : pn ≤ kt) (hwp : wr ≤ pn) (b6 : Nat) (n6 : Nat) (g6 : Nat → Int32) (hn6 : n6 ≤ 8) (b7 : Nat) (n7 : Nat) (g7 : Nat → Int32) (hn7 : n7 ≤ 8) (gn6 : ∀ k : Nat, ∃ v : Nat, v < 128 ∧ g6 k = nI v) (hz6 : kIx g6 n6 (nI 0) = n6) (gn7 : ∀ k : Nat, ∃ v : Nat, v < 128 ∧ g7 k = nI v) (hz7 : kIx g7 n7 (nI 0) = n7) (sz : Nat) : Met l yX4_readTruth w_s_truth4x_0_0 ({ frames := 46, cells := 0, slots := 0, locals := 2760 }) (kW dC dI [.ref jR, .int 0, .int 0] [(jR, .inr (4, [.ref jT, .ref r1, .ref r2, .int (nI (wr)), .int (nI (fi)), .int (nI (pn)), .ref q6, .ref q7])), (r1, .inl (c1, 120, .inl s1)), (r2, .inl (c2, 124, .inl s2)), (jT, .inr (8, [.ref t0, .int (nI (kt))])), (t0, .inl (cC, 120, .inl gT))] [(c1, .int), (c2, .int), (cC, .char)] (kS2 q6 b6 n6 g6 q7 b7 n7 g7 (va_A [(jR, .inr (4, [.ref jT, .ref r1, .ref r2, .int (nI (wr)), .int (nI (fi)), .int (nI (pn)), .ref q6, .ref q7])), (r1, .inl (c1, 120, .inl s1)), (r2, .inl (c2, 124, .inl s2)), (jT, .inr (8, [.ref t0, .int (nI (kt))])), (t0, .inl (cC, 120, .inl gT))] sz)) sz) (va_Qi (fun (r : Int32) (u : (Nat → Int32) × Nat × Nat × Bool × (List Int32)) => match u with | (S1, Wr, Pn, xo, xl) => (r = kBo xo ∧ kPR (kTruD bt kt g7 n7 6 pn) pn kt wr s1 xo Pn xl Wr S1 ∧ Wr ≤ 120)) (fun (u : (Nat → Int32) × Nat × Nat × Bool × (List Int32)) => match u with | (S1, Wr, Pn, xo, xl) => fun t : State => kB dC dI [(jR, .inr (4, [.ref jT, .ref r1, .ref r2, .int (nI (Wr)), .int (nI (fi)), .int (nI (Pn)), .ref q6, .ref q7])), (r1, .inl (c1, 120, .inl S1)), (r2, .inl (c2, 124, .inl s2)), (jT, .inr (8, [.ref t0, .int (nI (kt))])), (t0, .inl (cC, 120, .inl gT))] [(c1, .int), (c2, .int), (cC, .char)] (va_A [(jR, .inr (4, [.ref jT, .ref r1, .ref r2, .int (nI (wr)), .int (nI (fi)), .int (nI (pn)), .ref q6, .ref q7])), (r1, .inl (c1, 120, .inl s1)), (r2, .inl (c2, 124, .inl s2)), (jT, .inr (8, [.ref t0, .int (nI (kt))])), (t0, .inl (cC, 120, .inl gT))] sz) t) (va_A [(jR, .inr (4, [.ref jT, .ref r1, .ref r2, .int (nI (wr)), .int (nI (fi)), .int (nI (pn)), .ref q6, .ref q7])), (r1, .inl (c1, 120, .inl s1)), (r2, .inl (c2, 124, .inl s2)), (jT, .inr (8, [.ref t0, .int (nI (kt))])), (t0, .inl (cC, 120, .inl gT))] sz)) 0 0 (va_A [(jR, .inr (4, [.ref jT, .ref r1, .ref r2, .int (nI (wr)), .int (nI (fi)), .int (nI (pn)), .ref q6, .ref q7])), (r1, .inl (c1, 120, .inl s1)), (r2, .inl (c2, 124, .inl s2)), (jT, .inr (8, [.ref t0, .int (nI (kt))])), (t0, .inl (cC, 120, .inl gT))] sz) := by
  refine Met.ofW (cc := cX4_readTruth) (maxL := 4) (ret := (some .boolean)) (by decide) rfl ?_
  intro p e s m args below meth c s₁ B hml hv
  obtain ⟨rfl, hsz, hP, hK, hD0, hX⟩ := hv
  have hx := B.exec
  have hb := B.bytes
  have hr := B.returns
  have hts := atoms_spec (ws := w_s_truth4x_0_0) B.pre
  have hown : s.vm.findClass RX4 = some m.cls := findClass_of_methodNamed B.named
  have hlocks := B.notSynchronized
  subst hsz
  have hD := hD0.self (sz := s.heap.size)
  generalize hAe : va_A [(jR, .inr (4, [.ref jT, .ref r1, .ref r2, .int (nI (wr)), .int (nI (fi)), .int (nI (pn)), .ref q6, .ref q7])), (r1, .inl (c1, 120, .inl s1)), (r2, .inl (c2, 124, .inl s2)), (jT, .inr (8, [.ref t0, .int (nI (kt))])), (t0, .inl (cC, 120, .inl gT))] s.heap.size = A at hD hX ⊢
  have hA : ∀ q : Nat, s.heap.size ≤ q → A q := fun q h => by rw [← hAe]; exact Or.inr h
  have hS : va_S A s.heap s.heap [] := va_S.rf
  have hP : va_P (dC, dI) vwCl [(jR, .inr (4, [.ref jT, .ref r1, .ref r2, .int (nI (wr)), .int (nI (fi)), .int (nI (pn)), .ref q6, .ref q7])), (r1, .inl (c1, 120, .inl s1)), (r2, .inl (c2, 124, .inl s2)), (jT, .inr (8, [.ref t0, .int (nI (kt))])), (t0, .inl (cC, 120, .inl gT))] s.heap := hP
  have hl := lv_entry ([.ref jR, .int 0, .int 0]) (n := 4) (Nat.le_of_ble_eq_true rfl)
  rw [lg_entry_eq]
  generalize (lg_sl ([.ref jR, .int 0, .int 0]) ++ List.replicate (4 - (lg_sl ([.ref jR, .int 0, .int 0])).length) Slot.unset).toArray = ls at hl ⊢
  have hl : lv_has ls 4 [(0, .ref jR), (1, .int 0), (2, .int 0)] := hl
  refine kQ (fun Q hQ => ?_)
  refine lv_aload_n hx hb dX4_readTruth_0 rfl (lv_at hl 0 rfl) ?_
  refine lv_iload_n hx hb dX4_readTruth_1 rfl (lv_at hl 1 rfl) ?_
  refine lv_iload_n hx hb dX4_readTruth_2 rfl (lv_at hl 2 rfl) ?_
  obtain ⟨hPc, hDc, hFc⟩ := kCut (wc := [(jR, .inr (4, [.ref jT, .ref r1, .ref r2, .int (nI (wr)), .int (nI (fi)), .int (nI (pn)), .ref q6, .ref q7])), (r1, .inl (c1, 120, .inl s1)), (r2, .inl (c2, 124, .inl s2)), (jT, .inr (8, [.ref t0, .int (nI (kt))])), (t0, .inl (cC, 120, .inl gT))]) hP hD hS hA [0, 1, 2, 3, 4] rfl (by decide) rfl
  have hKc := hK.sb (tys2 := [(c1, .int), (c2, .int), (cC, .char)]) [0, 1, 2] rfl
  refine va_calli (va_runV (As := [.int 0, .int 0]) (rest := []) ⟨hx, hb, hml, hown, hts⟩ (s_unit4x_0_0 l dC dI jT t0 cC gT kt (by omega) hgT bt hbt hb8 jR r1 r2 c1 c2 s1 s2 wr fi q6 q7 (by omega) (by omega) pn (by omega) (by omega) b6 n6 g6 (by omega) b7 n7 g7 (by omega) gn6 hz6 gn7 hz7 s.heap.size) (cwV 2 hts (kG (List.forall_mem_cons.mpr ⟨(List.mem_cons_of_mem _ (List.mem_append_left _ (List.mem_of_getElem? (i := 38) rfl))), (List.forall_mem_cons.mpr ⟨(List.mem_cons_of_mem _ (List.mem_append_left _ (List.mem_of_getElem? (i := 37) rfl))), (List.forall_mem_cons.mpr ⟨(List.mem_cons_of_mem _ (List.mem_append_left _ (List.mem_of_getElem? (i := 36) rfl))), (List.forall_mem_cons.mpr ⟨(List.mem_cons_of_mem _ (List.mem_append_left _ (List.mem_of_getElem? (i := 0) rfl))), (fun _ h => absurd h List.not_mem_nil)⟩)⟩)⟩)⟩) (kGV _ _ _ _) (kFam (List.mem_cons_of_mem _ (List.mem_append_left _ (List.mem_of_getElem? (i := 35) rfl)))) gw_s_unit4x_0_0) rfl rfl rfl ⟨rfl, hd_X4_readUnit⟩ ⟨(Nat.le_of_ble_eq_true rfl), (Nat.le_of_ble_eq_true rfl)⟩) (kW_V kS2_blind (kS2_give hX hS hFc) (va_recv hKc hPc (ci := 4) (q0 := 0) rfl rfl) hPc hKc hDc) rfl rfl hl.1 rfl (lv_room (Nat.le_of_ble_eq_true rfl)) dX4_readTruth_3 ⟨(Nat.le_of_ble_eq_true rfl), (Nat.le_of_ble_eq_true rfl)⟩) hS (fun q _ h => hFc q h) hFc (fun r_1 u t H1 locs ht hvm hw hB hz1 hk1 hS => ?_)
  obtain ⟨S1_2, Wr_3, Pn_4, xo_5, xl_6⟩ := u
  obtain ⟨hP1, hK1, hD1⟩ := hB
  rw [ht] at hP1
  try dsimp only at hw
  obtain ⟨hP, hD⟩ : kPD dC dI A [(jR, .inr (4, [.ref jT, .ref r1, .ref r2, .int (nI (Wr_3)), .int (nI (fi)), .int (nI (Pn_4)), .ref q6, .ref q7])), (r1, .inl (c1, 120, .inl S1_2)), (r2, .inl (c2, 124, .inl s2)), (jT, .inr (8, [.ref t0, .int (nI (kt))])), (t0, .inl (cC, 120, .inl gT))] H1 := kJoinI hP hD [0, 1, 2, 3, 4] rfl hk1 hFc hP1 hD1 rfl [some 0, some 1, some 2, some 3, some 4] rfl rfl
  generalize H1 = H at hP hS ⊢
  have hw_7 := hw
  refine lv_if_ne (tgt := 11) hx hb dX4_readTruth_6 (by decide) (fun c_8 => ?_) (fun c_8 => ?_)
  · obtain rfl : xo_5 = true := kBo_t (kNz9 hw_7.1 c_8)
    obtain ⟨hw_7_W, hw_7_S, hw_7_l, hw_7_p⟩ := hw_7.2.1.2.2 rfl
    have hw_7_k := hw_7.2.1.2.1
    refine lv_iconst (v := 0) hx hb dX4_readTruth_11 (by decide) ?_
    refine lv_istore_n hx hb dX4_readTruth_12 rfl hl (by decide) (kTo [(3, .int 0), (0, .ref jR), (1, .int 0), (2, .int 0)]) (fun ls hl => ?_)
    have lp_k_9 : ∀ (n9 : Nat) (i : Nat) (xs1 : Nat → Int32) (xpn : Nat) (xwr : Nat) (xl : List Int32) (ivk_9_0 : i ≤ 120) (ivk_9_1 : xwr ≤ 120) (ivk_9_2 : xpn ≤ kt) (ivk_9_3 : kLoop bt kt 38 38 (kUnitD bt kt g7 n7 6) (120 - i) xpn xl = kTruD bt kt g7 n7 6 pn) (ivk_9_4 : xwr = wr + xl.length) (ivk_9_5 : xs1 = kWrt s1 wr xl) (ivk_9_6 : pn + xl.length ≤ xpn) (ivk_9_7 : pn < xpn) (H : Heap) (locs : List Loc) (_ : va_P (dC, dI) vwCl [(jR, .inr (4, [.ref jT, .ref r1, .ref r2, .int (nI (xwr)), .int (nI (fi)), .int (nI (xpn)), .ref q6, .ref q7])), (r1, .inl (c1, 120, .inl xs1)), (r2, .inl (c2, 124, .inl s2)), (jT, .inr (8, [.ref t0, .int (nI (kt))])), (t0, .inl (cC, 120, .inl gT))] H) (_ : va_D A [(jR, .inr (4, [.ref jT, .ref r1, .ref r2, .int (nI (xwr)), .int (nI (fi)), .int (nI (xpn)), .ref q6, .ref q7])), (r1, .inl (c1, 120, .inl xs1)), (r2, .inl (c2, 124, .inl s2)), (jT, .inr (8, [.ref t0, .int (nI (kt))])), (t0, .inl (cC, 120, .inl gT))]) (_ : va_S A s.heap H locs) (ls : Array Slot) (_ : lv_has ls 4 [(3, .int (nI (i))), (0, .ref jR), (1, .int 0), (2, .int 0)]) (_ : 120 - i < n9), W p l e (headSpec w_s_truth4x_0_0 ({ frames := 46, cells := 0, slots := 0, locals := 2760 })).room s m (#[.ref jR, .int 0, .int 0] : Array Value) below meth c H locs 0 0 Q (F0 m 13 ls []) := by
      intro n9
      induction n9 with
      | zero => intro i xs1 xpn xwr xl ivk_9_0 ivk_9_1 ivk_9_2 ivk_9_3 ivk_9_4 ivk_9_5 ivk_9_6 ivk_9_7 H locs hP hD hS ls hl hm9; exact absurd hm9 (Nat.not_lt_zero _)
      | succ n9 ih_k_9 =>
        intro i xs1 xpn xwr xl ivk_9_0 ivk_9_1 ivk_9_2 ivk_9_3 ivk_9_4 ivk_9_5 ivk_9_6 ivk_9_7 H locs hP hD hS ls hl hm9
        refine lv_iload_n hx hb dX4_readTruth_13 rfl (lv_at hl 0 rfl) ?_
        refine lv_bipush (v := 120) hx hb dX4_readTruth_14 (by decide) ?_
        refine lv_icmp_ge (tgt := 65) hx hb dX4_readTruth_16 (by decide) (fun c_10 => ?_) (fun c_10 => ?_)
        · have hn_11 := kle (a := 120) (b := i) (by omega) (by omega) c_10
          refine lv_iconst (v := 1) hx hb dX4_readTruth_65 (by decide) ?_
          have hP9 := hP
          have hD9 := hD
          have hK9 := hK
          rw [hQ]
          exact W.zret (v := 1) hx hb hr rfl (fun t ht hW => ⟨⟨1, (xs1, xwr, xpn, true, xl), rfl, ⟨rfl, kPR_t (a := kTruD bt kt g7 n7 6) rfl (kTruD_good hz7 6) (by omega) (by rw [← ivk_9_3, show 120 - i = 0 by omega]; rfl) ivk_9_4 ivk_9_5, by omega⟩,  by rw [ht]; exact hP9, va_K.moved hW.alike hK9, hD9⟩, hS.F ht⟩) hS.2.2 dX4_readTruth_66
        · have hn_12 := knle (a := 120) (b := i) (by omega) (by omega) c_10
          refine lv_aload_n hx hb dX4_readTruth_19 rfl (lv_at hl 1 rfl) ?_
          obtain ⟨hPc, hDc, hFc⟩ := kCut (wc := [(jR, .inr (4, [.ref jT, .ref r1, .ref r2, .int (nI (xwr)), .int (nI (fi)), .int (nI (xpn)), .ref q6, .ref q7])), (r1, .inl (c1, 120, .inl xs1)), (r2, .inl (c2, 124, .inl s2)), (jT, .inr (8, [.ref t0, .int (nI (kt))])), (t0, .inl (cC, 120, .inl gT))]) hP hD hS hA [0, 1, 2, 3, 4] rfl (by decide) rfl
          have hKc := hK.sb (tys2 := [(c1, .int), (c2, .int), (cC, .char)]) [0, 1, 2] rfl
          refine va_calli (va_runV (As := []) (rest := []) ⟨hx, hb, hml, hown, hts⟩ (s_look4x l dC dI jT t0 cC gT kt (by omega) hgT bt hbt hb8 jR r1 r2 c1 c2 xs1 s2 xwr fi q6 q7 (by omega) (by omega) xpn (by omega) H.size) (cwV 0 hts (kG (List.forall_mem_cons.mpr ⟨(List.mem_cons_of_mem _ (List.mem_append_left _ (List.mem_of_getElem? (i := 3) rfl))), (List.forall_mem_cons.mpr ⟨(List.mem_cons_of_mem _ (List.mem_append_left _ (List.mem_of_getElem? (i := 2) rfl))), (List.forall_mem_cons.mpr ⟨(List.mem_cons_of_mem _ (List.mem_append_left _ (List.mem_of_getElem? (i := 1) rfl))), (List.forall_mem_cons.mpr ⟨(List.mem_cons_of_mem _ (List.mem_append_left _ (List.mem_of_getElem? (i := 0) rfl))), (fun _ h => absurd h List.not_mem_nil)⟩)⟩)⟩)⟩) (kGV _ _ _ _) (fun _ h => List.mem_cons_of_mem _ (List.mem_append_right _ (List.mem_append_left _ h))) gw_s_look4x) rfl rfl rfl ⟨rfl, hd_X4_look⟩ ⟨(Nat.le_of_ble_eq_true rfl), (Nat.le_of_ble_eq_true rfl)⟩) (kW_V kT_blind kT_give (va_recv hKc hPc (ci := 4) (q0 := 0) rfl rfl) hPc hKc hDc) rfl rfl hl.1 rfl (lv_room (Nat.le_of_ble_eq_true rfl)) dX4_readTruth_20 ⟨(Nat.le_of_ble_eq_true rfl), (Nat.le_of_ble_eq_true rfl)⟩) hS (fun q _ h => hFc q h) hFc (fun r_13 u t H1 locs ht hvm hw hB hz1 hk1 hS => ?_)
          obtain ⟨Pn_14, ch_15⟩ := u
          obtain ⟨hP1, hK1, hD1⟩ := hB
          rw [ht] at hP1
          try dsimp only at hw
          obtain ⟨hP, hD⟩ : kPD dC dI A [(jR, .inr (4, [.ref jT, .ref r1, .ref r2, .int (nI (xwr)), .int (nI (fi)), .int (nI (Pn_14)), .ref q6, .ref q7])), (r1, .inl (c1, 120, .inl xs1)), (r2, .inl (c2, 124, .inl s2)), (jT, .inr (8, [.ref t0, .int (nI (kt))])), (t0, .inl (cC, 120, .inl gT))] H1 := kJoinI hP hD [0, 1, 2, 3, 4] rfl hk1 hFc hP1 hD1 rfl [some 0, some 1, some 2, some 3, some 4] rfl rfl
          generalize H1 = H at hP hS ⊢
          obtain ⟨rfl, hw_16_0, hw_16_1, hw_16_2, hw_16_3, hw_16_4, hw_16_5, hw_16_6⟩ := hw
          refine lv_bipush (v := 38) hx hb dX4_readTruth_23 (by decide) ?_
          refine lv_icmp_ne (tgt := 65) hx hb dX4_readTruth_25 (by decide) (fun c_17 => ?_) (fun c_17 => ?_)
          · have hn_18 := kneq (a := ch_15) (b := 38) (by omega) (by omega) c_17
            refine lv_iconst (v := 1) hx hb dX4_readTruth_65 (by decide) ?_
            have hP9 := hP
            have hD9 := hD
            have hK9 := hK
            rw [hQ]
            exact W.zret (v := 1) hx hb hr rfl (fun t ht hW => ⟨⟨1, (xs1, xwr, Pn_14, true, xl), rfl, ⟨rfl, kPR_t (a := kTruD bt kt g7 n7 6) rfl (kTruD_good hz7 6) (by omega) (by rw [← ivk_9_3, show 120 - i = (119 - i) + 1 by omega, kLoop_e (by rw [← hw_16_0]; omega), ← hw_16_1]) ivk_9_4 ivk_9_5, by omega⟩,  by rw [ht]; exact hP9, va_K.moved hW.alike hK9, hD9⟩, hS.F ht⟩) hS.2.2 dX4_readTruth_66
          · have hn_19 := keq (a := ch_15) (b := 38) (by omega) (by omega) c_17
            refine lv_aload_n hx hb dX4_readTruth_28 rfl (lv_at hl 1 rfl) ?_
            refine lv_dup hx hb dX4_readTruth_29 rfl ?_
            refine va_get (D := (dC, dI)) (ci := 4) (v := .int (nI (Pn_14))) (C := RX4) (T := TX4) (N := 8) hx hb hts (fun _ h => List.mem_cons_of_mem _ (List.mem_append_right _ (List.mem_append_right _ (List.mem_append_right _ (List.mem_append_left _ h))))) hown hK hP 0 rfl rfl 5 (by decide) (hts (.fieldLink RX4 25 "NotEnded$Reader" "place" "I") (List.mem_cons_of_mem _ (List.mem_append_left _ (List.mem_of_getElem? (i := 11) rfl)))) (fun _ h9 => h9) rfl dX4_readTruth_30 ?_
            refine lv_iconst (v := 1) hx hb dX4_readTruth_33 (by decide) ?_
            refine lv_iadd hx hb dX4_readTruth_34 ?_
            refine lv_topi (fun y_20 ey_20 => ?_)
            obtain rfl : y_20 = nI (Pn_14 + 1) := ey_20.trans (nI_add (Pn_14) (1))
            refine va_put (D := (dC, dI)) (ci := 4) (v := .int (nI (Pn_14 + 1))) (ty := tyX4 5) (C := RX4) (T := TX4) (N := 8) hx hb hts (fun _ h => List.mem_cons_of_mem _ (List.mem_append_right _ (List.mem_append_right _ (List.mem_append_right _ (List.mem_append_left _ h))))) tyX4 tyX4_ok nmX4 hown hK hP hD hS 0 rfl rfl 5 (by decide) (hts (.fieldLink RX4 25 "NotEnded$Reader" "place" "I") (List.mem_cons_of_mem _ (List.mem_append_left _ (List.mem_of_getElem? (i := 11) rfl)))) (fun _ h9 => h9) rfl (tyX4_ok 5 (by decide)) rfl rfl (Nat.le_of_ble_eq_true rfl) dX4_readTruth_35 (fun H locs hP hD hS => ?_)
            obtain ⟨hP, hD⟩ : kPD dC dI A [(jR, .inr (4, [.ref jT, .ref r1, .ref r2, .int (nI (xwr)), .int (nI (fi)), .int (nI (Pn_14 + 1)), .ref q6, .ref q7])), (r1, .inl (c1, 120, .inl xs1)), (r2, .inl (c2, 124, .inl s2)), (jT, .inr (8, [.ref t0, .int (nI (kt))])), (t0, .inl (cC, 120, .inl gT))] H := ⟨hP, hD⟩
            refine lv_aload_n hx hb dX4_readTruth_38 rfl (lv_at hl 1 rfl) ?_
            refine lv_iload_n hx hb dX4_readTruth_39 rfl (lv_at hl 2 rfl) ?_
            refine lv_iconst (v := 0) hx hb dX4_readTruth_40 (by decide) ?_
            obtain ⟨hPc, hDc, hFc⟩ := kCut (wc := [(jR, .inr (4, [.ref jT, .ref r1, .ref r2, .int (nI (xwr)), .int (nI (fi)), .int (nI (Pn_14 + 1)), .ref q6, .ref q7])), (r1, .inl (c1, 120, .inl xs1)), (r2, .inl (c2, 124, .inl s2)), (jT, .inr (8, [.ref t0, .int (nI (kt))])), (t0, .inl (cC, 120, .inl gT))]) hP hD hS hA [0, 1, 2, 3, 4] rfl (by decide) rfl
            have hKc := hK.sb (tys2 := [(c1, .int), (c2, .int), (cC, .char)]) [0, 1, 2] rfl
            refine va_calli (va_runV (As := [.int 0, .int 0]) (rest := []) ⟨hx, hb, hml, hown, hts⟩ (s_unit4x_0_0 l dC dI jT t0 cC gT kt (by omega) hgT bt hbt hb8 jR r1 r2 c1 c2 xs1 s2 xwr fi q6 q7 (by omega) (by omega) (Pn_14 + 1) (by omega) (by omega) b6 n6 g6 (by omega) b7 n7 g7 (by omega) gn6 hz6 gn7 hz7 H.size) (cwV 2 hts (kG (List.forall_mem_cons.mpr ⟨(List.mem_cons_of_mem _ (List.mem_append_left _ (List.mem_of_getElem? (i := 38) rfl))), (List.forall_mem_cons.mpr ⟨(List.mem_cons_of_mem _ (List.mem_append_left _ (List.mem_of_getElem? (i := 37) rfl))), (List.forall_mem_cons.mpr ⟨(List.mem_cons_of_mem _ (List.mem_append_left _ (List.mem_of_getElem? (i := 36) rfl))), (List.forall_mem_cons.mpr ⟨(List.mem_cons_of_mem _ (List.mem_append_left _ (List.mem_of_getElem? (i := 0) rfl))), (fun _ h => absurd h List.not_mem_nil)⟩)⟩)⟩)⟩) (kGV _ _ _ _) (kFam (List.mem_cons_of_mem _ (List.mem_append_left _ (List.mem_of_getElem? (i := 35) rfl)))) gw_s_unit4x_0_0) rfl rfl rfl ⟨rfl, hd_X4_readUnit⟩ ⟨(Nat.le_of_ble_eq_true rfl), (Nat.le_of_ble_eq_true rfl)⟩) (kW_V kS2_blind (kS2_give hX hS hFc) (va_recv hKc hPc (ci := 4) (q0 := 0) rfl rfl) hPc hKc hDc) rfl rfl hl.1 rfl (lv_room (Nat.le_of_ble_eq_true rfl)) dX4_readTruth_41 ⟨(Nat.le_of_ble_eq_true rfl), (Nat.le_of_ble_eq_true rfl)⟩) hS (fun q _ h => hFc q h) hFc (fun r_21 u t H1 locs ht hvm hw hB hz1 hk1 hS => ?_)
            obtain ⟨S1_22, Wr_23, Pn_24, xo_25, xl_26⟩ := u
            obtain ⟨hP1, hK1, hD1⟩ := hB
            rw [ht] at hP1
            try dsimp only at hw
            obtain ⟨hP, hD⟩ : kPD dC dI A [(jR, .inr (4, [.ref jT, .ref r1, .ref r2, .int (nI (Wr_23)), .int (nI (fi)), .int (nI (Pn_24)), .ref q6, .ref q7])), (r1, .inl (c1, 120, .inl S1_22)), (r2, .inl (c2, 124, .inl s2)), (jT, .inr (8, [.ref t0, .int (nI (kt))])), (t0, .inl (cC, 120, .inl gT))] H1 := kJoinI hP hD [0, 1, 2, 3, 4] rfl hk1 hFc hP1 hD1 rfl [some 0, some 1, some 2, some 3, some 4] rfl rfl
            generalize H1 = H at hP hS ⊢
            have hw_27 := hw
            refine lv_if_eq (tgt := 57) hx hb dX4_readTruth_44 (by decide) (fun c_28 => ?_) (fun c_28 => ?_)
            · obtain rfl : xo_25 = false := kBo_f (kZr9 hw_27.1 c_28)
              have hw_27_k := hw_27.2.1.2.1
              refine lv_iconst (v := 0) hx hb dX4_readTruth_57 (by decide) ?_
              have hP9 := hP
              have hD9 := hD
              have hK9 := hK
              rw [hQ]
              exact W.zret (v := 0) hx hb hr rfl (fun t ht hW => ⟨⟨0, (S1_22, Wr_23, Pn_24, false, ([])), rfl, ⟨rfl, kPR_f (by rw [← ivk_9_3, show 120 - i = (119 - i) + 1 by omega]; exact kLoop_f (by rw [← hw_16_0]; omega) (by rw [← hw_16_1]; exact hw_27.2.1.1)) (by omega), by omega⟩,  by rw [ht]; exact hP9, va_K.moved hW.alike hK9, hD9⟩, hS.F ht⟩) hS.2.2 dX4_readTruth_58
            · obtain rfl : xo_25 = true := kBo_t (kNz9 hw_27.1 c_28)
              obtain ⟨hw_27_W, hw_27_S, hw_27_l, hw_27_p⟩ := hw_27.2.1.2.2 rfl
              have hw_27_k := hw_27.2.1.2.1
              refine lv_aload_n hx hb dX4_readTruth_47 rfl (lv_at hl 1 rfl) ?_
              refine lv_sipush (v := 20038) hx hb dX4_readTruth_48 (by decide) ?_
              obtain ⟨hPc, hDc, hFc⟩ := kCut (wc := [(jR, .inr (4, [.ref jT, .ref r1, .ref r2, .int (nI (Wr_23)), .int (nI (fi)), .int (nI (Pn_24)), .ref q6, .ref q7])), (r1, .inl (c1, 120, .inl S1_22)), (r2, .inl (c2, 124, .inl s2)), (jT, .inr (8, [.ref t0, .int (nI (kt))])), (t0, .inl (cC, 120, .inl gT))]) hP hD hS hA [0, 1, 2, 3, 4] rfl (by decide) rfl
              have hKc := hK.sb (tys2 := [(c1, .int), (c2, .int), (cC, .char)]) [0, 1, 2] rfl
              refine va_calli (va_runV (As := [.int 20038]) (rest := []) ⟨hx, hb, hml, hown, hts⟩ (s_write4x l dC dI jT t0 cC gT kt (by omega) hgT bt hbt hb8 jR r1 r2 c1 c2 S1_22 s2 Wr_23 fi q6 q7 (by omega) (by omega) Pn_24 (by omega) 20038 (by omega) H.size) (cwV 1 hts (kG (List.forall_mem_cons.mpr ⟨(List.mem_cons_of_mem _ (List.mem_append_left _ (List.mem_of_getElem? (i := 14) rfl))), (List.forall_mem_cons.mpr ⟨(List.mem_cons_of_mem _ (List.mem_append_left _ (List.mem_of_getElem? (i := 13) rfl))), (List.forall_mem_cons.mpr ⟨(List.mem_cons_of_mem _ (List.mem_append_left _ (List.mem_of_getElem? (i := 12) rfl))), (List.forall_mem_cons.mpr ⟨(List.mem_cons_of_mem _ (List.mem_append_left _ (List.mem_of_getElem? (i := 0) rfl))), (fun _ h => absurd h List.not_mem_nil)⟩)⟩)⟩)⟩) (kGV _ _ _ _) (fun _ h => List.mem_cons_of_mem _ (List.mem_append_right _ (List.mem_append_right _ (List.mem_append_right _ (List.mem_append_right _ (List.mem_append_right _ (List.mem_append_left _ h))))))) gw_s_write4x) rfl rfl rfl ⟨rfl, hd_X4_write⟩ ⟨(Nat.le_of_ble_eq_true rfl), (Nat.le_of_ble_eq_true rfl)⟩) (kW_V kT_blind kT_give (va_recv hKc hPc (ci := 4) (q0 := 0) rfl rfl) hPc hKc hDc) rfl rfl hl.1 rfl (lv_room (Nat.le_of_ble_eq_true rfl)) dX4_readTruth_51 ⟨(Nat.le_of_ble_eq_true rfl), (Nat.le_of_ble_eq_true rfl)⟩) hS (fun q _ h => hFc q h) hFc (fun r_29 u t H1 locs ht hvm hw hB hz1 hk1 hS => ?_)
              obtain ⟨S1_30, Wr_31⟩ := u
              obtain ⟨hP1, hK1, hD1⟩ := hB
              rw [ht] at hP1
              try dsimp only at hw
              obtain ⟨hP, hD⟩ : kPD dC dI A [(jR, .inr (4, [.ref jT, .ref r1, .ref r2, .int (nI (Wr_31)), .int (nI (fi)), .int (nI (Pn_24)), .ref q6, .ref q7])), (r1, .inl (c1, 120, .inl S1_30)), (r2, .inl (c2, 124, .inl s2)), (jT, .inr (8, [.ref t0, .int (nI (kt))])), (t0, .inl (cC, 120, .inl gT))] H1 := kJoinI hP hD [0, 1, 2, 3, 4] rfl hk1 hFc hP1 hD1 rfl [some 0, some 1, some 2, some 3, some 4] rfl rfl
              generalize H1 = H at hP hS ⊢
              obtain ⟨rfl, hw_32⟩ := hw
              refine lv_if_ne (tgt := 59) hx hb dX4_readTruth_54 (by decide) (fun c_33 => ?_) (fun c_33 => absurd c_33 (by decide))
              refine lv_iinc (v := nI (i + 1)) hx hb dX4_readTruth_59 hl (k := 0) rfl (kInc _ 1) (by decide) (kTo [(3, .int (nI (i + 1))), (0, .ref jR), (1, .int 0), (2, .int 0)]) (fun ls hl => ?_)
              refine lv_goto (tgt := 13) hx hb dX4_readTruth_62 (by decide) ?_
              exact ih_k_9 (i + 1) S1_30 Pn_24 Wr_31 (xl ++ xl_26 ++ [nI (20000 + 38)]) (by omega) (by omega) (by omega) (by have e9 := kLoop_t (b := bt) (n := kt) (c1 := 38) (c2 := 38) (a := kUnitD bt kt g7 n7 6) (f := 120 - (i + 1)) (p := xpn) (l := xl) (by rw [← hw_16_0]; omega) (by rw [← hw_16_1]; exact hw_27.2.1.1); rw [← hw_16_0] at e9; rw [show ch_15 = 38 by omega] at e9; rw [← e9, show (120 - (i + 1)) + 1 = 120 - i by omega]; exact ivk_9_3) (by simp only [List.length_append, List.length_cons, List.length_nil]; omega) (kWrt3 ivk_9_5 ivk_9_4 hw_27_S hw_27_W hw_32.2) (by simp only [List.length_append, List.length_cons, List.length_nil]; omega) (by omega) _ _ hP hD hS ls (lv_sub hl [0, 1, 2, 3] rfl) (by omega)
    exact lp_k_9 (120 - 0 + 1) 0 S1_2 Pn_4 Wr_3 xl_6 (by omega) (by omega) (by omega) (kMany_t hw_7.2.1.1).symm hw_7_W hw_7_S hw_7_l hw_7_p _ _ hP hD hS ls (lv_sub hl [0, 1, 2, 3] rfl) (by omega)
  · obtain rfl : xo_5 = false := kBo_f (kZr9 hw_7.1 c_8)
    have hw_7_k := hw_7.2.1.2.1
    refine lv_iconst (v := 0) hx hb dX4_readTruth_9 (by decide) ?_
    have hP9 := hP
    have hD9 := hD
    have hK9 := hK
    rw [hQ]
    exact W.zret (v := 0) hx hb hr rfl (fun t ht hW => ⟨⟨0, (S1_2, Wr_3, Pn_4, false, ([])), rfl, ⟨rfl, kPR_f (kMany_f hw_7.2.1.1) (by omega), by omega⟩,  by rw [ht]; exact hP9, va_K.moved hW.alike hK9, hD9⟩, hS.F ht⟩) hS.2.2 dX4_readTruth_10

def w_s_truth4x_0_1 : List Cond := .code yX4_readTruth cX4_readTruth 4 (some .boolean) :: wf_rq
theorem gw_s_truth4x_0_1 : (w_s_truth4x_0_1).all goodWord = true := kFamG rfl gf_rq
set_option maxHeartbeats 4000000 in
set_option maxRecDepth 100000 in
theorem s_truth4x_0_1 (l : Launch) (dC : Nat → ClassId) (dI : Nat → Nat → Nat) (jT : Nat) (t0 : Nat) (cC : ClassId) (gT : Nat → Int32) (kt : Nat) (hkt : kt ≤ 120) (hgT : ∀ j : Nat, narrow .char (.int (gT j)) = .int (gT j)) (bt : Nat → Nat) (hbt : ∀ j : Nat, gT j = nI (bt j)) (hb8 : ∀ j : Nat, bt j < 256) (jR : Nat) (r1 : Nat) (r2 : Nat) (c1 : ClassId) (c2 : ClassId) (s1 : Nat → Int32) (s2 : Nat → Int32) (wr : Nat) (fi : Nat) (q6 : Nat) (q7 : Nat) (hwr : wr ≤ 120) (hfi : fi ≤ 124) (pn : Nat) (hpn : pn ≤ kt) (hwp : wr ≤ pn) (b6 : Nat) (n6 : Nat) (g6 : Nat → Int32) (hn6 : n6 ≤ 8) (b7 : Nat) (n7 : Nat) (g7 : Nat → Int32) (hn7 : n7 ≤ 8) (gn6 : ∀ k : Nat, ∃ v : Nat, v < 128 ∧ g6 k = nI v) (hz6 : kIx g6 n6 (nI 0) = n6) (gn7 : ∀ k : Nat, ∃ v : Nat, v < 128 ∧ g7 k = nI v) (hz7 : kIx g7 n7 (nI 0) = n7) (sz : Nat) : Met l yX4_readTruth w_s_truth4x_0_1 ({ frames := 46, cells := 0, slots := 0, locals := 2760 }) (kW dC dI [.ref jR, .int 0, .int 1] [(jR, .inr (4, [.ref jT, .ref r1, .ref r2, .int (nI (wr)), .int (nI (fi)), .int (nI (pn)), .ref q6, .ref q7])), (r1, .inl (c1, 120, .inl s1)), (r2, .inl (c2, 124, .inl s2)), (jT, .inr (8, [.ref t0, .int (nI (kt))])), (t0, .inl (cC, 120, .inl gT))] [(c1, .int), (c2, .int), (cC, .char)] (kS2 q6 b6 n6 g6 q7 b7 n7 g7 (va_A [(jR, .inr (4, [.ref jT, .ref r1, .ref r2, .int (nI (wr)), .int (nI (fi)), .int (nI (pn)), .ref q6, .ref q7])), (r1, .inl (c1, 120, .inl s1)), (r2, .inl (c2, 124, .inl s2)), (jT, .inr (8, [.ref t0, .int (nI (kt))])), (t0, .inl (cC, 120, .inl gT))] sz)) sz) (va_Qi (fun (r : Int32) (u : (Nat → Int32) × Nat × Nat × Bool × (List Int32)) => match u with | (S1, Wr, Pn, xo, xl) => (r = kBo xo ∧ kPR (kTruZ bt kt g7 n7 6 pn) pn kt wr s1 xo Pn xl Wr S1 ∧ Wr ≤ 120)) (fun (u : (Nat → Int32) × Nat × Nat × Bool × (List Int32)) => match u with | (S1, Wr, Pn, xo, xl) => fun t : State => kB dC dI [(jR, .inr (4, [.ref jT, .ref r1, .ref r2, .int (nI (Wr)), .int (nI (fi)), .int (nI (Pn)), .ref q6, .ref q7])), (r1, .inl (c1, 120, .inl S1)), (r2, .inl (c2, 124, .inl s2)), (jT, .inr (8, [.ref t0, .int (nI (kt))])), (t0, .inl (cC, 120, .inl gT))] [(c1, .int), (c2, .int), (cC, .char)] (va_A [(jR, .inr (4, [.ref jT, .ref r1, .ref r2, .int (nI (wr)), .int (nI (fi)), .int (nI (pn)), .ref q6, .ref q7])), (r1, .inl (c1, 120, .inl s1)), (r2, .inl (c2, 124, .inl s2)), (jT, .inr (8, [.ref t0, .int (nI (kt))])), (t0, .inl (cC, 120, .inl gT))] sz) t) (va_A [(jR, .inr (4, [.ref jT, .ref r1, .ref r2, .int (nI (wr)), .int (nI (fi)), .int (nI (pn)), .ref q6, .ref q7])), (r1, .inl (c1, 120, .inl s1)), (r2, .inl (c2, 124, .inl s2)), (jT, .inr (8, [.ref t0, .int (nI (kt))])), (t0, .inl (cC, 120, .inl gT))] sz)) 0 0 (va_A [(jR, .inr (4, [.ref jT, .ref r1, .ref r2, .int (nI (wr)), .int (nI (fi)), .int (nI (pn)), .ref q6, .ref q7])), (r1, .inl (c1, 120, .inl s1)), (r2, .inl (c2, 124, .inl s2)), (jT, .inr (8, [.ref t0, .int (nI (kt))])), (t0, .inl (cC, 120, .inl gT))] sz) := by
  refine Met.ofW (cc := cX4_readTruth) (maxL := 4) (ret := (some .boolean)) (by decide) rfl ?_
  intro p e s m args below meth c s₁ B hml hv
  obtain ⟨rfl, hsz, hP, hK, hD0, hX⟩ := hv
  have hx := B.exec
  have hb := B.bytes
  have hr := B.returns
  have hts := atoms_spec (ws := w_s_truth4x_0_1) B.pre
  have hown : s.vm.findClass RX4 = some m.cls := findClass_of_methodNamed B.named
  have hlocks := B.notSynchronized
  subst hsz
  have hD := hD0.self (sz := s.heap.size)
  generalize hAe : va_A [(jR, .inr (4, [.ref jT, .ref r1, .ref r2, .int (nI (wr)), .int (nI (fi)), .int (nI (pn)), .ref q6, .ref q7])), (r1, .inl (c1, 120, .inl s1)), (r2, .inl (c2, 124, .inl s2)), (jT, .inr (8, [.ref t0, .int (nI (kt))])), (t0, .inl (cC, 120, .inl gT))] s.heap.size = A at hD hX ⊢
  have hA : ∀ q : Nat, s.heap.size ≤ q → A q := fun q h => by rw [← hAe]; exact Or.inr h
  have hS : va_S A s.heap s.heap [] := va_S.rf
  have hP : va_P (dC, dI) vwCl [(jR, .inr (4, [.ref jT, .ref r1, .ref r2, .int (nI (wr)), .int (nI (fi)), .int (nI (pn)), .ref q6, .ref q7])), (r1, .inl (c1, 120, .inl s1)), (r2, .inl (c2, 124, .inl s2)), (jT, .inr (8, [.ref t0, .int (nI (kt))])), (t0, .inl (cC, 120, .inl gT))] s.heap := hP
  have hl := lv_entry ([.ref jR, .int 0, .int 1]) (n := 4) (Nat.le_of_ble_eq_true rfl)
  rw [lg_entry_eq]
  generalize (lg_sl ([.ref jR, .int 0, .int 1]) ++ List.replicate (4 - (lg_sl ([.ref jR, .int 0, .int 1])).length) Slot.unset).toArray = ls at hl ⊢
  have hl : lv_has ls 4 [(0, .ref jR), (1, .int 0), (2, .int 1)] := hl
  refine kQ (fun Q hQ => ?_)
  refine lv_aload_n hx hb dX4_readTruth_0 rfl (lv_at hl 0 rfl) ?_
  refine lv_iload_n hx hb dX4_readTruth_1 rfl (lv_at hl 1 rfl) ?_
  refine lv_iload_n hx hb dX4_readTruth_2 rfl (lv_at hl 2 rfl) ?_
  obtain ⟨hPc, hDc, hFc⟩ := kCut (wc := [(jR, .inr (4, [.ref jT, .ref r1, .ref r2, .int (nI (wr)), .int (nI (fi)), .int (nI (pn)), .ref q6, .ref q7])), (r1, .inl (c1, 120, .inl s1)), (r2, .inl (c2, 124, .inl s2)), (jT, .inr (8, [.ref t0, .int (nI (kt))])), (t0, .inl (cC, 120, .inl gT))]) hP hD hS hA [0, 1, 2, 3, 4] rfl (by decide) rfl
  have hKc := hK.sb (tys2 := [(c1, .int), (c2, .int), (cC, .char)]) [0, 1, 2] rfl
  refine va_calli (va_runV (As := [.int 0, .int 1]) (rest := []) ⟨hx, hb, hml, hown, hts⟩ (s_unit4x_0_1 l dC dI jT t0 cC gT kt (by omega) hgT bt hbt hb8 jR r1 r2 c1 c2 s1 s2 wr fi q6 q7 (by omega) (by omega) pn (by omega) (by omega) b6 n6 g6 (by omega) b7 n7 g7 (by omega) gn6 hz6 gn7 hz7 s.heap.size) (cwV 2 hts (kG (List.forall_mem_cons.mpr ⟨(List.mem_cons_of_mem _ (List.mem_append_left _ (List.mem_of_getElem? (i := 38) rfl))), (List.forall_mem_cons.mpr ⟨(List.mem_cons_of_mem _ (List.mem_append_left _ (List.mem_of_getElem? (i := 37) rfl))), (List.forall_mem_cons.mpr ⟨(List.mem_cons_of_mem _ (List.mem_append_left _ (List.mem_of_getElem? (i := 36) rfl))), (List.forall_mem_cons.mpr ⟨(List.mem_cons_of_mem _ (List.mem_append_left _ (List.mem_of_getElem? (i := 0) rfl))), (fun _ h => absurd h List.not_mem_nil)⟩)⟩)⟩)⟩) (kGV _ _ _ _) (kFam (List.mem_cons_of_mem _ (List.mem_append_left _ (List.mem_of_getElem? (i := 35) rfl)))) gw_s_unit4x_0_1) rfl rfl rfl ⟨rfl, hd_X4_readUnit⟩ ⟨(Nat.le_of_ble_eq_true rfl), (Nat.le_of_ble_eq_true rfl)⟩) (kW_V kS2_blind (kS2_give hX hS hFc) (va_recv hKc hPc (ci := 4) (q0 := 0) rfl rfl) hPc hKc hDc) rfl rfl hl.1 rfl (lv_room (Nat.le_of_ble_eq_true rfl)) dX4_readTruth_3 ⟨(Nat.le_of_ble_eq_true rfl), (Nat.le_of_ble_eq_true rfl)⟩) hS (fun q _ h => hFc q h) hFc (fun r_1 u t H1 locs ht hvm hw hB hz1 hk1 hS => ?_)
  obtain ⟨S1_2, Wr_3, Pn_4, xo_5, xl_6⟩ := u
  obtain ⟨hP1, hK1, hD1⟩ := hB
  rw [ht] at hP1
  try dsimp only at hw
  obtain ⟨hP, hD⟩ : kPD dC dI A [(jR, .inr (4, [.ref jT, .ref r1, .ref r2, .int (nI (Wr_3)), .int (nI (fi)), .int (nI (Pn_4)), .ref q6, .ref q7])), (r1, .inl (c1, 120, .inl S1_2)), (r2, .inl (c2, 124, .inl s2)), (jT, .inr (8, [.ref t0, .int (nI (kt))])), (t0, .inl (cC, 120, .inl gT))] H1 := kJoinI hP hD [0, 1, 2, 3, 4] rfl hk1 hFc hP1 hD1 rfl [some 0, some 1, some 2, some 3, some 4] rfl rfl
  generalize H1 = H at hP hS ⊢
  have hw_7 := hw
  refine lv_if_ne (tgt := 11) hx hb dX4_readTruth_6 (by decide) (fun c_8 => ?_) (fun c_8 => ?_)
  · obtain rfl : xo_5 = true := kBo_t (kNz9 hw_7.1 c_8)
    obtain ⟨hw_7_W, hw_7_S, hw_7_l, hw_7_p⟩ := hw_7.2.1.2.2 rfl
    have hw_7_k := hw_7.2.1.2.1
    refine lv_iconst (v := 0) hx hb dX4_readTruth_11 (by decide) ?_
    refine lv_istore_n hx hb dX4_readTruth_12 rfl hl (by decide) (kTo [(3, .int 0), (0, .ref jR), (1, .int 0), (2, .int 1)]) (fun ls hl => ?_)
    have lp_k_9 : ∀ (n9 : Nat) (i : Nat) (xs1 : Nat → Int32) (xpn : Nat) (xwr : Nat) (xl : List Int32) (ivk_9_0 : i ≤ 120) (ivk_9_1 : xwr ≤ 120) (ivk_9_2 : xpn ≤ kt) (ivk_9_3 : kLoop bt kt 38 38 (kUnitD bt kt g7 n7 6) (120 - i) xpn xl = kTruZ bt kt g7 n7 6 pn) (ivk_9_4 : xwr = wr + xl.length) (ivk_9_5 : xs1 = kWrt s1 wr xl) (ivk_9_6 : pn + xl.length ≤ xpn) (ivk_9_7 : pn < xpn) (H : Heap) (locs : List Loc) (_ : va_P (dC, dI) vwCl [(jR, .inr (4, [.ref jT, .ref r1, .ref r2, .int (nI (xwr)), .int (nI (fi)), .int (nI (xpn)), .ref q6, .ref q7])), (r1, .inl (c1, 120, .inl xs1)), (r2, .inl (c2, 124, .inl s2)), (jT, .inr (8, [.ref t0, .int (nI (kt))])), (t0, .inl (cC, 120, .inl gT))] H) (_ : va_D A [(jR, .inr (4, [.ref jT, .ref r1, .ref r2, .int (nI (xwr)), .int (nI (fi)), .int (nI (xpn)), .ref q6, .ref q7])), (r1, .inl (c1, 120, .inl xs1)), (r2, .inl (c2, 124, .inl s2)), (jT, .inr (8, [.ref t0, .int (nI (kt))])), (t0, .inl (cC, 120, .inl gT))]) (_ : va_S A s.heap H locs) (ls : Array Slot) (_ : lv_has ls 4 [(3, .int (nI (i))), (0, .ref jR), (1, .int 0), (2, .int 1)]) (_ : 120 - i < n9), W p l e (headSpec w_s_truth4x_0_1 ({ frames := 46, cells := 0, slots := 0, locals := 2760 })).room s m (#[.ref jR, .int 0, .int 1] : Array Value) below meth c H locs 0 0 Q (F0 m 13 ls []) := by
      intro n9
      induction n9 with
      | zero => intro i xs1 xpn xwr xl ivk_9_0 ivk_9_1 ivk_9_2 ivk_9_3 ivk_9_4 ivk_9_5 ivk_9_6 ivk_9_7 H locs hP hD hS ls hl hm9; exact absurd hm9 (Nat.not_lt_zero _)
      | succ n9 ih_k_9 =>
        intro i xs1 xpn xwr xl ivk_9_0 ivk_9_1 ivk_9_2 ivk_9_3 ivk_9_4 ivk_9_5 ivk_9_6 ivk_9_7 H locs hP hD hS ls hl hm9
        refine lv_iload_n hx hb dX4_readTruth_13 rfl (lv_at hl 0 rfl) ?_
        refine lv_bipush (v := 120) hx hb dX4_readTruth_14 (by decide) ?_
        refine lv_icmp_ge (tgt := 65) hx hb dX4_readTruth_16 (by decide) (fun c_10 => ?_) (fun c_10 => ?_)
        · have hn_11 := kle (a := 120) (b := i) (by omega) (by omega) c_10
          refine lv_iconst (v := 1) hx hb dX4_readTruth_65 (by decide) ?_
          have hP9 := hP
          have hD9 := hD
          have hK9 := hK
          rw [hQ]
          exact W.zret (v := 1) hx hb hr rfl (fun t ht hW => ⟨⟨1, (xs1, xwr, xpn, true, xl), rfl, ⟨rfl, kPR_t (a := kTruZ bt kt g7 n7 6) rfl (kTruZ_good hz7 6) (by omega) (by rw [← ivk_9_3, show 120 - i = 0 by omega]; rfl) ivk_9_4 ivk_9_5, by omega⟩,  by rw [ht]; exact hP9, va_K.moved hW.alike hK9, hD9⟩, hS.F ht⟩) hS.2.2 dX4_readTruth_66
        · have hn_12 := knle (a := 120) (b := i) (by omega) (by omega) c_10
          refine lv_aload_n hx hb dX4_readTruth_19 rfl (lv_at hl 1 rfl) ?_
          obtain ⟨hPc, hDc, hFc⟩ := kCut (wc := [(jR, .inr (4, [.ref jT, .ref r1, .ref r2, .int (nI (xwr)), .int (nI (fi)), .int (nI (xpn)), .ref q6, .ref q7])), (r1, .inl (c1, 120, .inl xs1)), (r2, .inl (c2, 124, .inl s2)), (jT, .inr (8, [.ref t0, .int (nI (kt))])), (t0, .inl (cC, 120, .inl gT))]) hP hD hS hA [0, 1, 2, 3, 4] rfl (by decide) rfl
          have hKc := hK.sb (tys2 := [(c1, .int), (c2, .int), (cC, .char)]) [0, 1, 2] rfl
          refine va_calli (va_runV (As := []) (rest := []) ⟨hx, hb, hml, hown, hts⟩ (s_look4x l dC dI jT t0 cC gT kt (by omega) hgT bt hbt hb8 jR r1 r2 c1 c2 xs1 s2 xwr fi q6 q7 (by omega) (by omega) xpn (by omega) H.size) (cwV 0 hts (kG (List.forall_mem_cons.mpr ⟨(List.mem_cons_of_mem _ (List.mem_append_left _ (List.mem_of_getElem? (i := 3) rfl))), (List.forall_mem_cons.mpr ⟨(List.mem_cons_of_mem _ (List.mem_append_left _ (List.mem_of_getElem? (i := 2) rfl))), (List.forall_mem_cons.mpr ⟨(List.mem_cons_of_mem _ (List.mem_append_left _ (List.mem_of_getElem? (i := 1) rfl))), (List.forall_mem_cons.mpr ⟨(List.mem_cons_of_mem _ (List.mem_append_left _ (List.mem_of_getElem? (i := 0) rfl))), (fun _ h => absurd h List.not_mem_nil)⟩)⟩)⟩)⟩) (kGV _ _ _ _) (fun _ h => List.mem_cons_of_mem _ (List.mem_append_right _ (List.mem_append_left _ h))) gw_s_look4x) rfl rfl rfl ⟨rfl, hd_X4_look⟩ ⟨(Nat.le_of_ble_eq_true rfl), (Nat.le_of_ble_eq_true rfl)⟩) (kW_V kT_blind kT_give (va_recv hKc hPc (ci := 4) (q0 := 0) rfl rfl) hPc hKc hDc) rfl rfl hl.1 rfl (lv_room (Nat.le_of_ble_eq_true rfl)) dX4_readTruth_20 ⟨(Nat.le_of_ble_eq_true rfl), (Nat.le_of_ble_eq_true rfl)⟩) hS (fun q _ h => hFc q h) hFc (fun r_13 u t H1 locs ht hvm hw hB hz1 hk1 hS => ?_)
          obtain ⟨Pn_14, ch_15⟩ := u
          obtain ⟨hP1, hK1, hD1⟩ := hB
          rw [ht] at hP1
          try dsimp only at hw
          obtain ⟨hP, hD⟩ : kPD dC dI A [(jR, .inr (4, [.ref jT, .ref r1, .ref r2, .int (nI (xwr)), .int (nI (fi)), .int (nI (Pn_14)), .ref q6, .ref q7])), (r1, .inl (c1, 120, .inl xs1)), (r2, .inl (c2, 124, .inl s2)), (jT, .inr (8, [.ref t0, .int (nI (kt))])), (t0, .inl (cC, 120, .inl gT))] H1 := kJoinI hP hD [0, 1, 2, 3, 4] rfl hk1 hFc hP1 hD1 rfl [some 0, some 1, some 2, some 3, some 4] rfl rfl
          generalize H1 = H at hP hS ⊢
          obtain ⟨rfl, hw_16_0, hw_16_1, hw_16_2, hw_16_3, hw_16_4, hw_16_5, hw_16_6⟩ := hw
          refine lv_bipush (v := 38) hx hb dX4_readTruth_23 (by decide) ?_
          refine lv_icmp_ne (tgt := 65) hx hb dX4_readTruth_25 (by decide) (fun c_17 => ?_) (fun c_17 => ?_)
          · have hn_18 := kneq (a := ch_15) (b := 38) (by omega) (by omega) c_17
            refine lv_iconst (v := 1) hx hb dX4_readTruth_65 (by decide) ?_
            have hP9 := hP
            have hD9 := hD
            have hK9 := hK
            rw [hQ]
            exact W.zret (v := 1) hx hb hr rfl (fun t ht hW => ⟨⟨1, (xs1, xwr, Pn_14, true, xl), rfl, ⟨rfl, kPR_t (a := kTruZ bt kt g7 n7 6) rfl (kTruZ_good hz7 6) (by omega) (by rw [← ivk_9_3, show 120 - i = (119 - i) + 1 by omega, kLoop_e (by rw [← hw_16_0]; omega), ← hw_16_1]) ivk_9_4 ivk_9_5, by omega⟩,  by rw [ht]; exact hP9, va_K.moved hW.alike hK9, hD9⟩, hS.F ht⟩) hS.2.2 dX4_readTruth_66
          · have hn_19 := keq (a := ch_15) (b := 38) (by omega) (by omega) c_17
            refine lv_aload_n hx hb dX4_readTruth_28 rfl (lv_at hl 1 rfl) ?_
            refine lv_dup hx hb dX4_readTruth_29 rfl ?_
            refine va_get (D := (dC, dI)) (ci := 4) (v := .int (nI (Pn_14))) (C := RX4) (T := TX4) (N := 8) hx hb hts (fun _ h => List.mem_cons_of_mem _ (List.mem_append_right _ (List.mem_append_right _ (List.mem_append_right _ (List.mem_append_left _ h))))) hown hK hP 0 rfl rfl 5 (by decide) (hts (.fieldLink RX4 25 "NotEnded$Reader" "place" "I") (List.mem_cons_of_mem _ (List.mem_append_left _ (List.mem_of_getElem? (i := 11) rfl)))) (fun _ h9 => h9) rfl dX4_readTruth_30 ?_
            refine lv_iconst (v := 1) hx hb dX4_readTruth_33 (by decide) ?_
            refine lv_iadd hx hb dX4_readTruth_34 ?_
            refine lv_topi (fun y_20 ey_20 => ?_)
            obtain rfl : y_20 = nI (Pn_14 + 1) := ey_20.trans (nI_add (Pn_14) (1))
            refine va_put (D := (dC, dI)) (ci := 4) (v := .int (nI (Pn_14 + 1))) (ty := tyX4 5) (C := RX4) (T := TX4) (N := 8) hx hb hts (fun _ h => List.mem_cons_of_mem _ (List.mem_append_right _ (List.mem_append_right _ (List.mem_append_right _ (List.mem_append_left _ h))))) tyX4 tyX4_ok nmX4 hown hK hP hD hS 0 rfl rfl 5 (by decide) (hts (.fieldLink RX4 25 "NotEnded$Reader" "place" "I") (List.mem_cons_of_mem _ (List.mem_append_left _ (List.mem_of_getElem? (i := 11) rfl)))) (fun _ h9 => h9) rfl (tyX4_ok 5 (by decide)) rfl rfl (Nat.le_of_ble_eq_true rfl) dX4_readTruth_35 (fun H locs hP hD hS => ?_)
            obtain ⟨hP, hD⟩ : kPD dC dI A [(jR, .inr (4, [.ref jT, .ref r1, .ref r2, .int (nI (xwr)), .int (nI (fi)), .int (nI (Pn_14 + 1)), .ref q6, .ref q7])), (r1, .inl (c1, 120, .inl xs1)), (r2, .inl (c2, 124, .inl s2)), (jT, .inr (8, [.ref t0, .int (nI (kt))])), (t0, .inl (cC, 120, .inl gT))] H := ⟨hP, hD⟩
            refine lv_aload_n hx hb dX4_readTruth_38 rfl (lv_at hl 1 rfl) ?_
            refine lv_iload_n hx hb dX4_readTruth_39 rfl (lv_at hl 2 rfl) ?_
            refine lv_iconst (v := 0) hx hb dX4_readTruth_40 (by decide) ?_
            obtain ⟨hPc, hDc, hFc⟩ := kCut (wc := [(jR, .inr (4, [.ref jT, .ref r1, .ref r2, .int (nI (xwr)), .int (nI (fi)), .int (nI (Pn_14 + 1)), .ref q6, .ref q7])), (r1, .inl (c1, 120, .inl xs1)), (r2, .inl (c2, 124, .inl s2)), (jT, .inr (8, [.ref t0, .int (nI (kt))])), (t0, .inl (cC, 120, .inl gT))]) hP hD hS hA [0, 1, 2, 3, 4] rfl (by decide) rfl
            have hKc := hK.sb (tys2 := [(c1, .int), (c2, .int), (cC, .char)]) [0, 1, 2] rfl
            refine va_calli (va_runV (As := [.int 0, .int 0]) (rest := []) ⟨hx, hb, hml, hown, hts⟩ (s_unit4x_0_0 l dC dI jT t0 cC gT kt (by omega) hgT bt hbt hb8 jR r1 r2 c1 c2 xs1 s2 xwr fi q6 q7 (by omega) (by omega) (Pn_14 + 1) (by omega) (by omega) b6 n6 g6 (by omega) b7 n7 g7 (by omega) gn6 hz6 gn7 hz7 H.size) (cwV 2 hts (kG (List.forall_mem_cons.mpr ⟨(List.mem_cons_of_mem _ (List.mem_append_left _ (List.mem_of_getElem? (i := 38) rfl))), (List.forall_mem_cons.mpr ⟨(List.mem_cons_of_mem _ (List.mem_append_left _ (List.mem_of_getElem? (i := 37) rfl))), (List.forall_mem_cons.mpr ⟨(List.mem_cons_of_mem _ (List.mem_append_left _ (List.mem_of_getElem? (i := 36) rfl))), (List.forall_mem_cons.mpr ⟨(List.mem_cons_of_mem _ (List.mem_append_left _ (List.mem_of_getElem? (i := 0) rfl))), (fun _ h => absurd h List.not_mem_nil)⟩)⟩)⟩)⟩) (kGV _ _ _ _) (kFam (List.mem_cons_of_mem _ (List.mem_append_left _ (List.mem_of_getElem? (i := 35) rfl)))) gw_s_unit4x_0_0) rfl rfl rfl ⟨rfl, hd_X4_readUnit⟩ ⟨(Nat.le_of_ble_eq_true rfl), (Nat.le_of_ble_eq_true rfl)⟩) (kW_V kS2_blind (kS2_give hX hS hFc) (va_recv hKc hPc (ci := 4) (q0 := 0) rfl rfl) hPc hKc hDc) rfl rfl hl.1 rfl (lv_room (Nat.le_of_ble_eq_true rfl)) dX4_readTruth_41 ⟨(Nat.le_of_ble_eq_true rfl), (Nat.le_of_ble_eq_true rfl)⟩) hS (fun q _ h => hFc q h) hFc (fun r_21 u t H1 locs ht hvm hw hB hz1 hk1 hS => ?_)
            obtain ⟨S1_22, Wr_23, Pn_24, xo_25, xl_26⟩ := u
            obtain ⟨hP1, hK1, hD1⟩ := hB
            rw [ht] at hP1
            try dsimp only at hw
            obtain ⟨hP, hD⟩ : kPD dC dI A [(jR, .inr (4, [.ref jT, .ref r1, .ref r2, .int (nI (Wr_23)), .int (nI (fi)), .int (nI (Pn_24)), .ref q6, .ref q7])), (r1, .inl (c1, 120, .inl S1_22)), (r2, .inl (c2, 124, .inl s2)), (jT, .inr (8, [.ref t0, .int (nI (kt))])), (t0, .inl (cC, 120, .inl gT))] H1 := kJoinI hP hD [0, 1, 2, 3, 4] rfl hk1 hFc hP1 hD1 rfl [some 0, some 1, some 2, some 3, some 4] rfl rfl
            generalize H1 = H at hP hS ⊢
            have hw_27 := hw
            refine lv_if_eq (tgt := 57) hx hb dX4_readTruth_44 (by decide) (fun c_28 => ?_) (fun c_28 => ?_)
            · obtain rfl : xo_25 = false := kBo_f (kZr9 hw_27.1 c_28)
              have hw_27_k := hw_27.2.1.2.1
              refine lv_iconst (v := 0) hx hb dX4_readTruth_57 (by decide) ?_
              have hP9 := hP
              have hD9 := hD
              have hK9 := hK
              rw [hQ]
              exact W.zret (v := 0) hx hb hr rfl (fun t ht hW => ⟨⟨0, (S1_22, Wr_23, Pn_24, false, ([])), rfl, ⟨rfl, kPR_f (by rw [← ivk_9_3, show 120 - i = (119 - i) + 1 by omega]; exact kLoop_f (by rw [← hw_16_0]; omega) (by rw [← hw_16_1]; exact hw_27.2.1.1)) (by omega), by omega⟩,  by rw [ht]; exact hP9, va_K.moved hW.alike hK9, hD9⟩, hS.F ht⟩) hS.2.2 dX4_readTruth_58
            · obtain rfl : xo_25 = true := kBo_t (kNz9 hw_27.1 c_28)
              obtain ⟨hw_27_W, hw_27_S, hw_27_l, hw_27_p⟩ := hw_27.2.1.2.2 rfl
              have hw_27_k := hw_27.2.1.2.1
              refine lv_aload_n hx hb dX4_readTruth_47 rfl (lv_at hl 1 rfl) ?_
              refine lv_sipush (v := 20038) hx hb dX4_readTruth_48 (by decide) ?_
              obtain ⟨hPc, hDc, hFc⟩ := kCut (wc := [(jR, .inr (4, [.ref jT, .ref r1, .ref r2, .int (nI (Wr_23)), .int (nI (fi)), .int (nI (Pn_24)), .ref q6, .ref q7])), (r1, .inl (c1, 120, .inl S1_22)), (r2, .inl (c2, 124, .inl s2)), (jT, .inr (8, [.ref t0, .int (nI (kt))])), (t0, .inl (cC, 120, .inl gT))]) hP hD hS hA [0, 1, 2, 3, 4] rfl (by decide) rfl
              have hKc := hK.sb (tys2 := [(c1, .int), (c2, .int), (cC, .char)]) [0, 1, 2] rfl
              refine va_calli (va_runV (As := [.int 20038]) (rest := []) ⟨hx, hb, hml, hown, hts⟩ (s_write4x l dC dI jT t0 cC gT kt (by omega) hgT bt hbt hb8 jR r1 r2 c1 c2 S1_22 s2 Wr_23 fi q6 q7 (by omega) (by omega) Pn_24 (by omega) 20038 (by omega) H.size) (cwV 1 hts (kG (List.forall_mem_cons.mpr ⟨(List.mem_cons_of_mem _ (List.mem_append_left _ (List.mem_of_getElem? (i := 14) rfl))), (List.forall_mem_cons.mpr ⟨(List.mem_cons_of_mem _ (List.mem_append_left _ (List.mem_of_getElem? (i := 13) rfl))), (List.forall_mem_cons.mpr ⟨(List.mem_cons_of_mem _ (List.mem_append_left _ (List.mem_of_getElem? (i := 12) rfl))), (List.forall_mem_cons.mpr ⟨(List.mem_cons_of_mem _ (List.mem_append_left _ (List.mem_of_getElem? (i := 0) rfl))), (fun _ h => absurd h List.not_mem_nil)⟩)⟩)⟩)⟩) (kGV _ _ _ _) (fun _ h => List.mem_cons_of_mem _ (List.mem_append_right _ (List.mem_append_right _ (List.mem_append_right _ (List.mem_append_right _ (List.mem_append_right _ (List.mem_append_left _ h))))))) gw_s_write4x) rfl rfl rfl ⟨rfl, hd_X4_write⟩ ⟨(Nat.le_of_ble_eq_true rfl), (Nat.le_of_ble_eq_true rfl)⟩) (kW_V kT_blind kT_give (va_recv hKc hPc (ci := 4) (q0 := 0) rfl rfl) hPc hKc hDc) rfl rfl hl.1 rfl (lv_room (Nat.le_of_ble_eq_true rfl)) dX4_readTruth_51 ⟨(Nat.le_of_ble_eq_true rfl), (Nat.le_of_ble_eq_true rfl)⟩) hS (fun q _ h => hFc q h) hFc (fun r_29 u t H1 locs ht hvm hw hB hz1 hk1 hS => ?_)
              obtain ⟨S1_30, Wr_31⟩ := u
              obtain ⟨hP1, hK1, hD1⟩ := hB
              rw [ht] at hP1
              try dsimp only at hw
              obtain ⟨hP, hD⟩ : kPD dC dI A [(jR, .inr (4, [.ref jT, .ref r1, .ref r2, .int (nI (Wr_31)), .int (nI (fi)), .int (nI (Pn_24)), .ref q6, .ref q7])), (r1, .inl (c1, 120, .inl S1_30)), (r2, .inl (c2, 124, .inl s2)), (jT, .inr (8, [.ref t0, .int (nI (kt))])), (t0, .inl (cC, 120, .inl gT))] H1 := kJoinI hP hD [0, 1, 2, 3, 4] rfl hk1 hFc hP1 hD1 rfl [some 0, some 1, some 2, some 3, some 4] rfl rfl
              generalize H1 = H at hP hS ⊢
              obtain ⟨rfl, hw_32⟩ := hw
              refine lv_if_ne (tgt := 59) hx hb dX4_readTruth_54 (by decide) (fun c_33 => ?_) (fun c_33 => absurd c_33 (by decide))
              refine lv_iinc (v := nI (i + 1)) hx hb dX4_readTruth_59 hl (k := 0) rfl (kInc _ 1) (by decide) (kTo [(3, .int (nI (i + 1))), (0, .ref jR), (1, .int 0), (2, .int 1)]) (fun ls hl => ?_)
              refine lv_goto (tgt := 13) hx hb dX4_readTruth_62 (by decide) ?_
              exact ih_k_9 (i + 1) S1_30 Pn_24 Wr_31 (xl ++ xl_26 ++ [nI (20000 + 38)]) (by omega) (by omega) (by omega) (by have e9 := kLoop_t (b := bt) (n := kt) (c1 := 38) (c2 := 38) (a := kUnitD bt kt g7 n7 6) (f := 120 - (i + 1)) (p := xpn) (l := xl) (by rw [← hw_16_0]; omega) (by rw [← hw_16_1]; exact hw_27.2.1.1); rw [← hw_16_0] at e9; rw [show ch_15 = 38 by omega] at e9; rw [← e9, show (120 - (i + 1)) + 1 = 120 - i by omega]; exact ivk_9_3) (by simp only [List.length_append, List.length_cons, List.length_nil]; omega) (kWrt3 ivk_9_5 ivk_9_4 hw_27_S hw_27_W hw_32.2) (by simp only [List.length_append, List.length_cons, List.length_nil]; omega) (by omega) _ _ hP hD hS ls (lv_sub hl [0, 1, 2, 3] rfl) (by omega)
    exact lp_k_9 (120 - 0 + 1) 0 S1_2 Pn_4 Wr_3 xl_6 (by omega) (by omega) (by omega) (kMany_t hw_7.2.1.1).symm hw_7_W hw_7_S hw_7_l hw_7_p _ _ hP hD hS ls (lv_sub hl [0, 1, 2, 3] rfl) (by omega)
  · obtain rfl : xo_5 = false := kBo_f (kZr9 hw_7.1 c_8)
    have hw_7_k := hw_7.2.1.2.1
    refine lv_iconst (v := 0) hx hb dX4_readTruth_9 (by decide) ?_
    have hP9 := hP
    have hD9 := hD
    have hK9 := hK
    rw [hQ]
    exact W.zret (v := 0) hx hb hr rfl (fun t ht hW => ⟨⟨0, (S1_2, Wr_3, Pn_4, false, ([])), rfl, ⟨rfl, kPR_f (kMany_f hw_7.2.1.1) (by omega), by omega⟩,  by rw [ht]; exact hP9, va_K.moved hW.alike hK9, hD9⟩, hS.F ht⟩) hS.2.2 dX4_readTruth_10

def w_s_cond4x_0_0 : List Cond := .code yX4_readCondition cX4_readCondition 4 (some .boolean) :: wf_rq
theorem gw_s_cond4x_0_0 : (w_s_cond4x_0_0).all goodWord = true := kFamG rfl gf_rq
set_option maxHeartbeats 4000000 in
set_option maxRecDepth 100000 in
theorem s_cond4x_0_0 (l : Launch) (dC : Nat → ClassId) (dI : Nat → Nat → Nat) (jT : Nat) (t0 : Nat) (cC : ClassId) (gT : Nat → Int32) (kt : Nat) (hkt : kt ≤ 120) (hgT : ∀ j : Nat, narrow .char (.int (gT j)) = .int (gT j)) (bt : Nat → Nat) (hbt : ∀ j : Nat, gT j = nI (bt j)) (hb8 : ∀ j : Nat, bt j < 256) (jR : Nat) (r1 : Nat) (r2 : Nat) (c1 : ClassId) (c2 : ClassId) (s1 : Nat → Int32) (s2 : Nat → Int32) (wr : Nat) (fi : Nat) (q6 : Nat) (q7 : Nat) (hwr : wr ≤ 120) (hfi : fi ≤ 124) (pn : Nat) (hpn : pn ≤ kt) (hwp : wr ≤ pn) (b6 : Nat) (n6 : Nat) (g6 : Nat → Int32) (hn6 : n6 ≤ 8) (b7 : Nat) (n7 : Nat) (g7 : Nat → Int32) (hn7 : n7 ≤ 8) (gn6 : ∀ k : Nat, ∃ v : Nat, v < 128 ∧ g6 k = nI v) (hz6 : kIx g6 n6 (nI 0) = n6) (gn7 : ∀ k : Nat, ∃ v : Nat, v < 128 ∧ g7 k = nI v) (hz7 : kIx g7 n7 (nI 0) = n7) (sz : Nat) : Met l yX4_readCondition w_s_cond4x_0_0 ({ frames := 47, cells := 0, slots := 0, locals := 2820 }) (kW dC dI [.ref jR, .int 0, .int 0] [(jR, .inr (4, [.ref jT, .ref r1, .ref r2, .int (nI (wr)), .int (nI (fi)), .int (nI (pn)), .ref q6, .ref q7])), (r1, .inl (c1, 120, .inl s1)), (r2, .inl (c2, 124, .inl s2)), (jT, .inr (8, [.ref t0, .int (nI (kt))])), (t0, .inl (cC, 120, .inl gT))] [(c1, .int), (c2, .int), (cC, .char)] (kS2 q6 b6 n6 g6 q7 b7 n7 g7 (va_A [(jR, .inr (4, [.ref jT, .ref r1, .ref r2, .int (nI (wr)), .int (nI (fi)), .int (nI (pn)), .ref q6, .ref q7])), (r1, .inl (c1, 120, .inl s1)), (r2, .inl (c2, 124, .inl s2)), (jT, .inr (8, [.ref t0, .int (nI (kt))])), (t0, .inl (cC, 120, .inl gT))] sz)) sz) (va_Qi (fun (r : Int32) (u : (Nat → Int32) × Nat × Nat × Bool × (List Int32)) => match u with | (S1, Wr, Pn, xo, xl) => (r = kBo xo ∧ kPR (kConD bt kt g7 n7 6 pn) pn kt wr s1 xo Pn xl Wr S1 ∧ Wr ≤ 120)) (fun (u : (Nat → Int32) × Nat × Nat × Bool × (List Int32)) => match u with | (S1, Wr, Pn, xo, xl) => fun t : State => kB dC dI [(jR, .inr (4, [.ref jT, .ref r1, .ref r2, .int (nI (Wr)), .int (nI (fi)), .int (nI (Pn)), .ref q6, .ref q7])), (r1, .inl (c1, 120, .inl S1)), (r2, .inl (c2, 124, .inl s2)), (jT, .inr (8, [.ref t0, .int (nI (kt))])), (t0, .inl (cC, 120, .inl gT))] [(c1, .int), (c2, .int), (cC, .char)] (va_A [(jR, .inr (4, [.ref jT, .ref r1, .ref r2, .int (nI (wr)), .int (nI (fi)), .int (nI (pn)), .ref q6, .ref q7])), (r1, .inl (c1, 120, .inl s1)), (r2, .inl (c2, 124, .inl s2)), (jT, .inr (8, [.ref t0, .int (nI (kt))])), (t0, .inl (cC, 120, .inl gT))] sz) t) (va_A [(jR, .inr (4, [.ref jT, .ref r1, .ref r2, .int (nI (wr)), .int (nI (fi)), .int (nI (pn)), .ref q6, .ref q7])), (r1, .inl (c1, 120, .inl s1)), (r2, .inl (c2, 124, .inl s2)), (jT, .inr (8, [.ref t0, .int (nI (kt))])), (t0, .inl (cC, 120, .inl gT))] sz)) 0 0 (va_A [(jR, .inr (4, [.ref jT, .ref r1, .ref r2, .int (nI (wr)), .int (nI (fi)), .int (nI (pn)), .ref q6, .ref q7])), (r1, .inl (c1, 120, .inl s1)), (r2, .inl (c2, 124, .inl s2)), (jT, .inr (8, [.ref t0, .int (nI (kt))])), (t0, .inl (cC, 120, .inl gT))] sz) := by
  refine Met.ofW (cc := cX4_readCondition) (maxL := 4) (ret := (some .boolean)) (by decide) rfl ?_
  intro p e s m args below meth c s₁ B hml hv
  obtain ⟨rfl, hsz, hP, hK, hD0, hX⟩ := hv
  have hx := B.exec
  have hb := B.bytes
  have hr := B.returns
  have hts := atoms_spec (ws := w_s_cond4x_0_0) B.pre
  have hown : s.vm.findClass RX4 = some m.cls := findClass_of_methodNamed B.named
  have hlocks := B.notSynchronized
  subst hsz
  have hD := hD0.self (sz := s.heap.size)
  generalize hAe : va_A [(jR, .inr (4, [.ref jT, .ref r1, .ref r2, .int (nI (wr)), .int (nI (fi)), .int (nI (pn)), .ref q6, .ref q7])), (r1, .inl (c1, 120, .inl s1)), (r2, .inl (c2, 124, .inl s2)), (jT, .inr (8, [.ref t0, .int (nI (kt))])), (t0, .inl (cC, 120, .inl gT))] s.heap.size = A at hD hX ⊢
  have hA : ∀ q : Nat, s.heap.size ≤ q → A q := fun q h => by rw [← hAe]; exact Or.inr h
  have hS : va_S A s.heap s.heap [] := va_S.rf
  have hP : va_P (dC, dI) vwCl [(jR, .inr (4, [.ref jT, .ref r1, .ref r2, .int (nI (wr)), .int (nI (fi)), .int (nI (pn)), .ref q6, .ref q7])), (r1, .inl (c1, 120, .inl s1)), (r2, .inl (c2, 124, .inl s2)), (jT, .inr (8, [.ref t0, .int (nI (kt))])), (t0, .inl (cC, 120, .inl gT))] s.heap := hP
  have hl := lv_entry ([.ref jR, .int 0, .int 0]) (n := 4) (Nat.le_of_ble_eq_true rfl)
  rw [lg_entry_eq]
  generalize (lg_sl ([.ref jR, .int 0, .int 0]) ++ List.replicate (4 - (lg_sl ([.ref jR, .int 0, .int 0])).length) Slot.unset).toArray = ls at hl ⊢
  have hl : lv_has ls 4 [(0, .ref jR), (1, .int 0), (2, .int 0)] := hl
  refine kQ (fun Q hQ => ?_)
  refine lv_aload_n hx hb dX4_readCondition_0 rfl (lv_at hl 0 rfl) ?_
  refine lv_iload_n hx hb dX4_readCondition_1 rfl (lv_at hl 1 rfl) ?_
  refine lv_iload_n hx hb dX4_readCondition_2 rfl (lv_at hl 2 rfl) ?_
  obtain ⟨hPc, hDc, hFc⟩ := kCut (wc := [(jR, .inr (4, [.ref jT, .ref r1, .ref r2, .int (nI (wr)), .int (nI (fi)), .int (nI (pn)), .ref q6, .ref q7])), (r1, .inl (c1, 120, .inl s1)), (r2, .inl (c2, 124, .inl s2)), (jT, .inr (8, [.ref t0, .int (nI (kt))])), (t0, .inl (cC, 120, .inl gT))]) hP hD hS hA [0, 1, 2, 3, 4] rfl (by decide) rfl
  have hKc := hK.sb (tys2 := [(c1, .int), (c2, .int), (cC, .char)]) [0, 1, 2] rfl
  refine va_calli (va_runV (As := [.int 0, .int 0]) (rest := []) ⟨hx, hb, hml, hown, hts⟩ (s_truth4x_0_0 l dC dI jT t0 cC gT kt (by omega) hgT bt hbt hb8 jR r1 r2 c1 c2 s1 s2 wr fi q6 q7 (by omega) (by omega) pn (by omega) (by omega) b6 n6 g6 (by omega) b7 n7 g7 (by omega) gn6 hz6 gn7 hz7 s.heap.size) (cwV 2 hts (kG (List.forall_mem_cons.mpr ⟨(List.mem_cons_of_mem _ (List.mem_append_left _ (List.mem_of_getElem? (i := 42) rfl))), (List.forall_mem_cons.mpr ⟨(List.mem_cons_of_mem _ (List.mem_append_left _ (List.mem_of_getElem? (i := 41) rfl))), (List.forall_mem_cons.mpr ⟨(List.mem_cons_of_mem _ (List.mem_append_left _ (List.mem_of_getElem? (i := 40) rfl))), (List.forall_mem_cons.mpr ⟨(List.mem_cons_of_mem _ (List.mem_append_left _ (List.mem_of_getElem? (i := 0) rfl))), (fun _ h => absurd h List.not_mem_nil)⟩)⟩)⟩)⟩) (kGV _ _ _ _) (kFam (List.mem_cons_of_mem _ (List.mem_append_left _ (List.mem_of_getElem? (i := 39) rfl)))) gw_s_truth4x_0_0) rfl rfl rfl ⟨rfl, hd_X4_readTruth⟩ ⟨(Nat.le_of_ble_eq_true rfl), (Nat.le_of_ble_eq_true rfl)⟩) (kW_V kS2_blind (kS2_give hX hS hFc) (va_recv hKc hPc (ci := 4) (q0 := 0) rfl rfl) hPc hKc hDc) rfl rfl hl.1 rfl (lv_room (Nat.le_of_ble_eq_true rfl)) dX4_readCondition_3 ⟨(Nat.le_of_ble_eq_true rfl), (Nat.le_of_ble_eq_true rfl)⟩) hS (fun q _ h => hFc q h) hFc (fun r_1 u t H1 locs ht hvm hw hB hz1 hk1 hS => ?_)
  obtain ⟨S1_2, Wr_3, Pn_4, xo_5, xl_6⟩ := u
  obtain ⟨hP1, hK1, hD1⟩ := hB
  rw [ht] at hP1
  try dsimp only at hw
  obtain ⟨hP, hD⟩ : kPD dC dI A [(jR, .inr (4, [.ref jT, .ref r1, .ref r2, .int (nI (Wr_3)), .int (nI (fi)), .int (nI (Pn_4)), .ref q6, .ref q7])), (r1, .inl (c1, 120, .inl S1_2)), (r2, .inl (c2, 124, .inl s2)), (jT, .inr (8, [.ref t0, .int (nI (kt))])), (t0, .inl (cC, 120, .inl gT))] H1 := kJoinI hP hD [0, 1, 2, 3, 4] rfl hk1 hFc hP1 hD1 rfl [some 0, some 1, some 2, some 3, some 4] rfl rfl
  generalize H1 = H at hP hS ⊢
  have hw_7 := hw
  refine lv_if_ne (tgt := 11) hx hb dX4_readCondition_6 (by decide) (fun c_8 => ?_) (fun c_8 => ?_)
  · obtain rfl : xo_5 = true := kBo_t (kNz9 hw_7.1 c_8)
    obtain ⟨hw_7_W, hw_7_S, hw_7_l, hw_7_p⟩ := hw_7.2.1.2.2 rfl
    have hw_7_k := hw_7.2.1.2.1
    refine lv_iconst (v := 0) hx hb dX4_readCondition_11 (by decide) ?_
    refine lv_istore_n hx hb dX4_readCondition_12 rfl hl (by decide) (kTo [(3, .int 0), (0, .ref jR), (1, .int 0), (2, .int 0)]) (fun ls hl => ?_)
    have lp_k_9 : ∀ (n9 : Nat) (i : Nat) (xs1 : Nat → Int32) (xpn : Nat) (xwr : Nat) (xl : List Int32) (ivk_9_0 : i ≤ 120) (ivk_9_1 : xwr ≤ 120) (ivk_9_2 : xpn ≤ kt) (ivk_9_3 : kLoop bt kt 124 124 (kTruD bt kt g7 n7 6) (120 - i) xpn xl = kConD bt kt g7 n7 6 pn) (ivk_9_4 : xwr = wr + xl.length) (ivk_9_5 : xs1 = kWrt s1 wr xl) (ivk_9_6 : pn + xl.length ≤ xpn) (ivk_9_7 : pn < xpn) (H : Heap) (locs : List Loc) (_ : va_P (dC, dI) vwCl [(jR, .inr (4, [.ref jT, .ref r1, .ref r2, .int (nI (xwr)), .int (nI (fi)), .int (nI (xpn)), .ref q6, .ref q7])), (r1, .inl (c1, 120, .inl xs1)), (r2, .inl (c2, 124, .inl s2)), (jT, .inr (8, [.ref t0, .int (nI (kt))])), (t0, .inl (cC, 120, .inl gT))] H) (_ : va_D A [(jR, .inr (4, [.ref jT, .ref r1, .ref r2, .int (nI (xwr)), .int (nI (fi)), .int (nI (xpn)), .ref q6, .ref q7])), (r1, .inl (c1, 120, .inl xs1)), (r2, .inl (c2, 124, .inl s2)), (jT, .inr (8, [.ref t0, .int (nI (kt))])), (t0, .inl (cC, 120, .inl gT))]) (_ : va_S A s.heap H locs) (ls : Array Slot) (_ : lv_has ls 4 [(3, .int (nI (i))), (0, .ref jR), (1, .int 0), (2, .int 0)]) (_ : 120 - i < n9), W p l e (headSpec w_s_cond4x_0_0 ({ frames := 47, cells := 0, slots := 0, locals := 2820 })).room s m (#[.ref jR, .int 0, .int 0] : Array Value) below meth c H locs 0 0 Q (F0 m 13 ls []) := by
      intro n9
      induction n9 with
      | zero => intro i xs1 xpn xwr xl ivk_9_0 ivk_9_1 ivk_9_2 ivk_9_3 ivk_9_4 ivk_9_5 ivk_9_6 ivk_9_7 H locs hP hD hS ls hl hm9; exact absurd hm9 (Nat.not_lt_zero _)
      | succ n9 ih_k_9 =>
        intro i xs1 xpn xwr xl ivk_9_0 ivk_9_1 ivk_9_2 ivk_9_3 ivk_9_4 ivk_9_5 ivk_9_6 ivk_9_7 H locs hP hD hS ls hl hm9
        refine lv_iload_n hx hb dX4_readCondition_13 rfl (lv_at hl 0 rfl) ?_
        refine lv_bipush (v := 120) hx hb dX4_readCondition_14 (by decide) ?_
        refine lv_icmp_ge (tgt := 65) hx hb dX4_readCondition_16 (by decide) (fun c_10 => ?_) (fun c_10 => ?_)
        · have hn_11 := kle (a := 120) (b := i) (by omega) (by omega) c_10
          refine lv_iconst (v := 1) hx hb dX4_readCondition_65 (by decide) ?_
          have hP9 := hP
          have hD9 := hD
          have hK9 := hK
          rw [hQ]
          exact W.zret (v := 1) hx hb hr rfl (fun t ht hW => ⟨⟨1, (xs1, xwr, xpn, true, xl), rfl, ⟨rfl, kPR_t (a := kConD bt kt g7 n7 6) rfl (kConD_good hz7 6) (by omega) (by rw [← ivk_9_3, show 120 - i = 0 by omega]; rfl) ivk_9_4 ivk_9_5, by omega⟩,  by rw [ht]; exact hP9, va_K.moved hW.alike hK9, hD9⟩, hS.F ht⟩) hS.2.2 dX4_readCondition_66
        · have hn_12 := knle (a := 120) (b := i) (by omega) (by omega) c_10
          refine lv_aload_n hx hb dX4_readCondition_19 rfl (lv_at hl 1 rfl) ?_
          obtain ⟨hPc, hDc, hFc⟩ := kCut (wc := [(jR, .inr (4, [.ref jT, .ref r1, .ref r2, .int (nI (xwr)), .int (nI (fi)), .int (nI (xpn)), .ref q6, .ref q7])), (r1, .inl (c1, 120, .inl xs1)), (r2, .inl (c2, 124, .inl s2)), (jT, .inr (8, [.ref t0, .int (nI (kt))])), (t0, .inl (cC, 120, .inl gT))]) hP hD hS hA [0, 1, 2, 3, 4] rfl (by decide) rfl
          have hKc := hK.sb (tys2 := [(c1, .int), (c2, .int), (cC, .char)]) [0, 1, 2] rfl
          refine va_calli (va_runV (As := []) (rest := []) ⟨hx, hb, hml, hown, hts⟩ (s_look4x l dC dI jT t0 cC gT kt (by omega) hgT bt hbt hb8 jR r1 r2 c1 c2 xs1 s2 xwr fi q6 q7 (by omega) (by omega) xpn (by omega) H.size) (cwV 0 hts (kG (List.forall_mem_cons.mpr ⟨(List.mem_cons_of_mem _ (List.mem_append_left _ (List.mem_of_getElem? (i := 3) rfl))), (List.forall_mem_cons.mpr ⟨(List.mem_cons_of_mem _ (List.mem_append_left _ (List.mem_of_getElem? (i := 2) rfl))), (List.forall_mem_cons.mpr ⟨(List.mem_cons_of_mem _ (List.mem_append_left _ (List.mem_of_getElem? (i := 1) rfl))), (List.forall_mem_cons.mpr ⟨(List.mem_cons_of_mem _ (List.mem_append_left _ (List.mem_of_getElem? (i := 0) rfl))), (fun _ h => absurd h List.not_mem_nil)⟩)⟩)⟩)⟩) (kGV _ _ _ _) (fun _ h => List.mem_cons_of_mem _ (List.mem_append_right _ (List.mem_append_left _ h))) gw_s_look4x) rfl rfl rfl ⟨rfl, hd_X4_look⟩ ⟨(Nat.le_of_ble_eq_true rfl), (Nat.le_of_ble_eq_true rfl)⟩) (kW_V kT_blind kT_give (va_recv hKc hPc (ci := 4) (q0 := 0) rfl rfl) hPc hKc hDc) rfl rfl hl.1 rfl (lv_room (Nat.le_of_ble_eq_true rfl)) dX4_readCondition_20 ⟨(Nat.le_of_ble_eq_true rfl), (Nat.le_of_ble_eq_true rfl)⟩) hS (fun q _ h => hFc q h) hFc (fun r_13 u t H1 locs ht hvm hw hB hz1 hk1 hS => ?_)
          obtain ⟨Pn_14, ch_15⟩ := u
          obtain ⟨hP1, hK1, hD1⟩ := hB
          rw [ht] at hP1
          try dsimp only at hw
          obtain ⟨hP, hD⟩ : kPD dC dI A [(jR, .inr (4, [.ref jT, .ref r1, .ref r2, .int (nI (xwr)), .int (nI (fi)), .int (nI (Pn_14)), .ref q6, .ref q7])), (r1, .inl (c1, 120, .inl xs1)), (r2, .inl (c2, 124, .inl s2)), (jT, .inr (8, [.ref t0, .int (nI (kt))])), (t0, .inl (cC, 120, .inl gT))] H1 := kJoinI hP hD [0, 1, 2, 3, 4] rfl hk1 hFc hP1 hD1 rfl [some 0, some 1, some 2, some 3, some 4] rfl rfl
          generalize H1 = H at hP hS ⊢
          obtain ⟨rfl, hw_16_0, hw_16_1, hw_16_2, hw_16_3, hw_16_4, hw_16_5, hw_16_6⟩ := hw
          refine lv_bipush (v := 124) hx hb dX4_readCondition_23 (by decide) ?_
          refine lv_icmp_ne (tgt := 65) hx hb dX4_readCondition_25 (by decide) (fun c_17 => ?_) (fun c_17 => ?_)
          · have hn_18 := kneq (a := ch_15) (b := 124) (by omega) (by omega) c_17
            refine lv_iconst (v := 1) hx hb dX4_readCondition_65 (by decide) ?_
            have hP9 := hP
            have hD9 := hD
            have hK9 := hK
            rw [hQ]
            exact W.zret (v := 1) hx hb hr rfl (fun t ht hW => ⟨⟨1, (xs1, xwr, Pn_14, true, xl), rfl, ⟨rfl, kPR_t (a := kConD bt kt g7 n7 6) rfl (kConD_good hz7 6) (by omega) (by rw [← ivk_9_3, show 120 - i = (119 - i) + 1 by omega, kLoop_e (by rw [← hw_16_0]; omega), ← hw_16_1]) ivk_9_4 ivk_9_5, by omega⟩,  by rw [ht]; exact hP9, va_K.moved hW.alike hK9, hD9⟩, hS.F ht⟩) hS.2.2 dX4_readCondition_66
          · have hn_19 := keq (a := ch_15) (b := 124) (by omega) (by omega) c_17
            refine lv_aload_n hx hb dX4_readCondition_28 rfl (lv_at hl 1 rfl) ?_
            refine lv_dup hx hb dX4_readCondition_29 rfl ?_
            refine va_get (D := (dC, dI)) (ci := 4) (v := .int (nI (Pn_14))) (C := RX4) (T := TX4) (N := 8) hx hb hts (fun _ h => List.mem_cons_of_mem _ (List.mem_append_right _ (List.mem_append_right _ (List.mem_append_right _ (List.mem_append_left _ h))))) hown hK hP 0 rfl rfl 5 (by decide) (hts (.fieldLink RX4 25 "NotEnded$Reader" "place" "I") (List.mem_cons_of_mem _ (List.mem_append_left _ (List.mem_of_getElem? (i := 11) rfl)))) (fun _ h9 => h9) rfl dX4_readCondition_30 ?_
            refine lv_iconst (v := 1) hx hb dX4_readCondition_33 (by decide) ?_
            refine lv_iadd hx hb dX4_readCondition_34 ?_
            refine lv_topi (fun y_20 ey_20 => ?_)
            obtain rfl : y_20 = nI (Pn_14 + 1) := ey_20.trans (nI_add (Pn_14) (1))
            refine va_put (D := (dC, dI)) (ci := 4) (v := .int (nI (Pn_14 + 1))) (ty := tyX4 5) (C := RX4) (T := TX4) (N := 8) hx hb hts (fun _ h => List.mem_cons_of_mem _ (List.mem_append_right _ (List.mem_append_right _ (List.mem_append_right _ (List.mem_append_left _ h))))) tyX4 tyX4_ok nmX4 hown hK hP hD hS 0 rfl rfl 5 (by decide) (hts (.fieldLink RX4 25 "NotEnded$Reader" "place" "I") (List.mem_cons_of_mem _ (List.mem_append_left _ (List.mem_of_getElem? (i := 11) rfl)))) (fun _ h9 => h9) rfl (tyX4_ok 5 (by decide)) rfl rfl (Nat.le_of_ble_eq_true rfl) dX4_readCondition_35 (fun H locs hP hD hS => ?_)
            obtain ⟨hP, hD⟩ : kPD dC dI A [(jR, .inr (4, [.ref jT, .ref r1, .ref r2, .int (nI (xwr)), .int (nI (fi)), .int (nI (Pn_14 + 1)), .ref q6, .ref q7])), (r1, .inl (c1, 120, .inl xs1)), (r2, .inl (c2, 124, .inl s2)), (jT, .inr (8, [.ref t0, .int (nI (kt))])), (t0, .inl (cC, 120, .inl gT))] H := ⟨hP, hD⟩
            refine lv_aload_n hx hb dX4_readCondition_38 rfl (lv_at hl 1 rfl) ?_
            refine lv_iload_n hx hb dX4_readCondition_39 rfl (lv_at hl 2 rfl) ?_
            refine lv_iconst (v := 0) hx hb dX4_readCondition_40 (by decide) ?_
            obtain ⟨hPc, hDc, hFc⟩ := kCut (wc := [(jR, .inr (4, [.ref jT, .ref r1, .ref r2, .int (nI (xwr)), .int (nI (fi)), .int (nI (Pn_14 + 1)), .ref q6, .ref q7])), (r1, .inl (c1, 120, .inl xs1)), (r2, .inl (c2, 124, .inl s2)), (jT, .inr (8, [.ref t0, .int (nI (kt))])), (t0, .inl (cC, 120, .inl gT))]) hP hD hS hA [0, 1, 2, 3, 4] rfl (by decide) rfl
            have hKc := hK.sb (tys2 := [(c1, .int), (c2, .int), (cC, .char)]) [0, 1, 2] rfl
            refine va_calli (va_runV (As := [.int 0, .int 0]) (rest := []) ⟨hx, hb, hml, hown, hts⟩ (s_truth4x_0_0 l dC dI jT t0 cC gT kt (by omega) hgT bt hbt hb8 jR r1 r2 c1 c2 xs1 s2 xwr fi q6 q7 (by omega) (by omega) (Pn_14 + 1) (by omega) (by omega) b6 n6 g6 (by omega) b7 n7 g7 (by omega) gn6 hz6 gn7 hz7 H.size) (cwV 2 hts (kG (List.forall_mem_cons.mpr ⟨(List.mem_cons_of_mem _ (List.mem_append_left _ (List.mem_of_getElem? (i := 42) rfl))), (List.forall_mem_cons.mpr ⟨(List.mem_cons_of_mem _ (List.mem_append_left _ (List.mem_of_getElem? (i := 41) rfl))), (List.forall_mem_cons.mpr ⟨(List.mem_cons_of_mem _ (List.mem_append_left _ (List.mem_of_getElem? (i := 40) rfl))), (List.forall_mem_cons.mpr ⟨(List.mem_cons_of_mem _ (List.mem_append_left _ (List.mem_of_getElem? (i := 0) rfl))), (fun _ h => absurd h List.not_mem_nil)⟩)⟩)⟩)⟩) (kGV _ _ _ _) (kFam (List.mem_cons_of_mem _ (List.mem_append_left _ (List.mem_of_getElem? (i := 39) rfl)))) gw_s_truth4x_0_0) rfl rfl rfl ⟨rfl, hd_X4_readTruth⟩ ⟨(Nat.le_of_ble_eq_true rfl), (Nat.le_of_ble_eq_true rfl)⟩) (kW_V kS2_blind (kS2_give hX hS hFc) (va_recv hKc hPc (ci := 4) (q0 := 0) rfl rfl) hPc hKc hDc) rfl rfl hl.1 rfl (lv_room (Nat.le_of_ble_eq_true rfl)) dX4_readCondition_41 ⟨(Nat.le_of_ble_eq_true rfl), (Nat.le_of_ble_eq_true rfl)⟩) hS (fun q _ h => hFc q h) hFc (fun r_21 u t H1 locs ht hvm hw hB hz1 hk1 hS => ?_)
            obtain ⟨S1_22, Wr_23, Pn_24, xo_25, xl_26⟩ := u
            obtain ⟨hP1, hK1, hD1⟩ := hB
            rw [ht] at hP1
            try dsimp only at hw
            obtain ⟨hP, hD⟩ : kPD dC dI A [(jR, .inr (4, [.ref jT, .ref r1, .ref r2, .int (nI (Wr_23)), .int (nI (fi)), .int (nI (Pn_24)), .ref q6, .ref q7])), (r1, .inl (c1, 120, .inl S1_22)), (r2, .inl (c2, 124, .inl s2)), (jT, .inr (8, [.ref t0, .int (nI (kt))])), (t0, .inl (cC, 120, .inl gT))] H1 := kJoinI hP hD [0, 1, 2, 3, 4] rfl hk1 hFc hP1 hD1 rfl [some 0, some 1, some 2, some 3, some 4] rfl rfl
            generalize H1 = H at hP hS ⊢
            have hw_27 := hw
            refine lv_if_eq (tgt := 57) hx hb dX4_readCondition_44 (by decide) (fun c_28 => ?_) (fun c_28 => ?_)
            · obtain rfl : xo_25 = false := kBo_f (kZr9 hw_27.1 c_28)
              have hw_27_k := hw_27.2.1.2.1
              refine lv_iconst (v := 0) hx hb dX4_readCondition_57 (by decide) ?_
              have hP9 := hP
              have hD9 := hD
              have hK9 := hK
              rw [hQ]
              exact W.zret (v := 0) hx hb hr rfl (fun t ht hW => ⟨⟨0, (S1_22, Wr_23, Pn_24, false, ([])), rfl, ⟨rfl, kPR_f (by rw [← ivk_9_3, show 120 - i = (119 - i) + 1 by omega]; exact kLoop_f (by rw [← hw_16_0]; omega) (by rw [← hw_16_1]; exact hw_27.2.1.1)) (by omega), by omega⟩,  by rw [ht]; exact hP9, va_K.moved hW.alike hK9, hD9⟩, hS.F ht⟩) hS.2.2 dX4_readCondition_58
            · obtain rfl : xo_25 = true := kBo_t (kNz9 hw_27.1 c_28)
              obtain ⟨hw_27_W, hw_27_S, hw_27_l, hw_27_p⟩ := hw_27.2.1.2.2 rfl
              have hw_27_k := hw_27.2.1.2.1
              refine lv_aload_n hx hb dX4_readCondition_47 rfl (lv_at hl 1 rfl) ?_
              refine lv_sipush (v := 20124) hx hb dX4_readCondition_48 (by decide) ?_
              obtain ⟨hPc, hDc, hFc⟩ := kCut (wc := [(jR, .inr (4, [.ref jT, .ref r1, .ref r2, .int (nI (Wr_23)), .int (nI (fi)), .int (nI (Pn_24)), .ref q6, .ref q7])), (r1, .inl (c1, 120, .inl S1_22)), (r2, .inl (c2, 124, .inl s2)), (jT, .inr (8, [.ref t0, .int (nI (kt))])), (t0, .inl (cC, 120, .inl gT))]) hP hD hS hA [0, 1, 2, 3, 4] rfl (by decide) rfl
              have hKc := hK.sb (tys2 := [(c1, .int), (c2, .int), (cC, .char)]) [0, 1, 2] rfl
              refine va_calli (va_runV (As := [.int 20124]) (rest := []) ⟨hx, hb, hml, hown, hts⟩ (s_write4x l dC dI jT t0 cC gT kt (by omega) hgT bt hbt hb8 jR r1 r2 c1 c2 S1_22 s2 Wr_23 fi q6 q7 (by omega) (by omega) Pn_24 (by omega) 20124 (by omega) H.size) (cwV 1 hts (kG (List.forall_mem_cons.mpr ⟨(List.mem_cons_of_mem _ (List.mem_append_left _ (List.mem_of_getElem? (i := 14) rfl))), (List.forall_mem_cons.mpr ⟨(List.mem_cons_of_mem _ (List.mem_append_left _ (List.mem_of_getElem? (i := 13) rfl))), (List.forall_mem_cons.mpr ⟨(List.mem_cons_of_mem _ (List.mem_append_left _ (List.mem_of_getElem? (i := 12) rfl))), (List.forall_mem_cons.mpr ⟨(List.mem_cons_of_mem _ (List.mem_append_left _ (List.mem_of_getElem? (i := 0) rfl))), (fun _ h => absurd h List.not_mem_nil)⟩)⟩)⟩)⟩) (kGV _ _ _ _) (fun _ h => List.mem_cons_of_mem _ (List.mem_append_right _ (List.mem_append_right _ (List.mem_append_right _ (List.mem_append_right _ (List.mem_append_right _ (List.mem_append_left _ h))))))) gw_s_write4x) rfl rfl rfl ⟨rfl, hd_X4_write⟩ ⟨(Nat.le_of_ble_eq_true rfl), (Nat.le_of_ble_eq_true rfl)⟩) (kW_V kT_blind kT_give (va_recv hKc hPc (ci := 4) (q0 := 0) rfl rfl) hPc hKc hDc) rfl rfl hl.1 rfl (lv_room (Nat.le_of_ble_eq_true rfl)) dX4_readCondition_51 ⟨(Nat.le_of_ble_eq_true rfl), (Nat.le_of_ble_eq_true rfl)⟩) hS (fun q _ h => hFc q h) hFc (fun r_29 u t H1 locs ht hvm hw hB hz1 hk1 hS => ?_)
              obtain ⟨S1_30, Wr_31⟩ := u
              obtain ⟨hP1, hK1, hD1⟩ := hB
              rw [ht] at hP1
              try dsimp only at hw
              obtain ⟨hP, hD⟩ : kPD dC dI A [(jR, .inr (4, [.ref jT, .ref r1, .ref r2, .int (nI (Wr_31)), .int (nI (fi)), .int (nI (Pn_24)), .ref q6, .ref q7])), (r1, .inl (c1, 120, .inl S1_30)), (r2, .inl (c2, 124, .inl s2)), (jT, .inr (8, [.ref t0, .int (nI (kt))])), (t0, .inl (cC, 120, .inl gT))] H1 := kJoinI hP hD [0, 1, 2, 3, 4] rfl hk1 hFc hP1 hD1 rfl [some 0, some 1, some 2, some 3, some 4] rfl rfl
              generalize H1 = H at hP hS ⊢
              obtain ⟨rfl, hw_32⟩ := hw
              refine lv_if_ne (tgt := 59) hx hb dX4_readCondition_54 (by decide) (fun c_33 => ?_) (fun c_33 => absurd c_33 (by decide))
              refine lv_iinc (v := nI (i + 1)) hx hb dX4_readCondition_59 hl (k := 0) rfl (kInc _ 1) (by decide) (kTo [(3, .int (nI (i + 1))), (0, .ref jR), (1, .int 0), (2, .int 0)]) (fun ls hl => ?_)
              refine lv_goto (tgt := 13) hx hb dX4_readCondition_62 (by decide) ?_
              exact ih_k_9 (i + 1) S1_30 Pn_24 Wr_31 (xl ++ xl_26 ++ [nI (20000 + 124)]) (by omega) (by omega) (by omega) (by have e9 := kLoop_t (b := bt) (n := kt) (c1 := 124) (c2 := 124) (a := kTruD bt kt g7 n7 6) (f := 120 - (i + 1)) (p := xpn) (l := xl) (by rw [← hw_16_0]; omega) (by rw [← hw_16_1]; exact hw_27.2.1.1); rw [← hw_16_0] at e9; rw [show ch_15 = 124 by omega] at e9; rw [← e9, show (120 - (i + 1)) + 1 = 120 - i by omega]; exact ivk_9_3) (by simp only [List.length_append, List.length_cons, List.length_nil]; omega) (kWrt3 ivk_9_5 ivk_9_4 hw_27_S hw_27_W hw_32.2) (by simp only [List.length_append, List.length_cons, List.length_nil]; omega) (by omega) _ _ hP hD hS ls (lv_sub hl [0, 1, 2, 3] rfl) (by omega)
    exact lp_k_9 (120 - 0 + 1) 0 S1_2 Pn_4 Wr_3 xl_6 (by omega) (by omega) (by omega) (kMany_t hw_7.2.1.1).symm hw_7_W hw_7_S hw_7_l hw_7_p _ _ hP hD hS ls (lv_sub hl [0, 1, 2, 3] rfl) (by omega)
  · obtain rfl : xo_5 = false := kBo_f (kZr9 hw_7.1 c_8)
    have hw_7_k := hw_7.2.1.2.1
    refine lv_iconst (v := 0) hx hb dX4_readCondition_9 (by decide) ?_
    have hP9 := hP
    have hD9 := hD
    have hK9 := hK
    rw [hQ]
    exact W.zret (v := 0) hx hb hr rfl (fun t ht hW => ⟨⟨0, (S1_2, Wr_3, Pn_4, false, ([])), rfl, ⟨rfl, kPR_f (kMany_f hw_7.2.1.1) (by omega), by omega⟩,  by rw [ht]; exact hP9, va_K.moved hW.alike hK9, hD9⟩, hS.F ht⟩) hS.2.2 dX4_readCondition_10

def w_s_cond4x_0_1 : List Cond := .code yX4_readCondition cX4_readCondition 4 (some .boolean) :: wf_rq
theorem gw_s_cond4x_0_1 : (w_s_cond4x_0_1).all goodWord = true := kFamG rfl gf_rq
set_option maxHeartbeats 4000000 in
set_option maxRecDepth 100000 in
theorem s_cond4x_0_1 (l : Launch) (dC : Nat → ClassId) (dI : Nat → Nat → Nat) (jT : Nat) (t0 : Nat) (cC : ClassId) (gT : Nat → Int32) (kt : Nat) (hkt : kt ≤ 120) (hgT : ∀ j : Nat, narrow .char (.int (gT j)) = .int (gT j)) (bt : Nat → Nat) (hbt : ∀ j : Nat, gT j = nI (bt j)) (hb8 : ∀ j : Nat, bt j < 256) (jR : Nat) (r1 : Nat) (r2 : Nat) (c1 : ClassId) (c2 : ClassId) (s1 : Nat → Int32) (s2 : Nat → Int32) (wr : Nat) (fi : Nat) (q6 : Nat) (q7 : Nat) (hwr : wr ≤ 120) (hfi : fi ≤ 124) (pn : Nat) (hpn : pn ≤ kt) (hwp : wr ≤ pn) (b6 : Nat) (n6 : Nat) (g6 : Nat → Int32) (hn6 : n6 ≤ 8) (b7 : Nat) (n7 : Nat) (g7 : Nat → Int32) (hn7 : n7 ≤ 8) (gn6 : ∀ k : Nat, ∃ v : Nat, v < 128 ∧ g6 k = nI v) (hz6 : kIx g6 n6 (nI 0) = n6) (gn7 : ∀ k : Nat, ∃ v : Nat, v < 128 ∧ g7 k = nI v) (hz7 : kIx g7 n7 (nI 0) = n7) (sz : Nat) : Met l yX4_readCondition w_s_cond4x_0_1 ({ frames := 47, cells := 0, slots := 0, locals := 2820 }) (kW dC dI [.ref jR, .int 0, .int 1] [(jR, .inr (4, [.ref jT, .ref r1, .ref r2, .int (nI (wr)), .int (nI (fi)), .int (nI (pn)), .ref q6, .ref q7])), (r1, .inl (c1, 120, .inl s1)), (r2, .inl (c2, 124, .inl s2)), (jT, .inr (8, [.ref t0, .int (nI (kt))])), (t0, .inl (cC, 120, .inl gT))] [(c1, .int), (c2, .int), (cC, .char)] (kS2 q6 b6 n6 g6 q7 b7 n7 g7 (va_A [(jR, .inr (4, [.ref jT, .ref r1, .ref r2, .int (nI (wr)), .int (nI (fi)), .int (nI (pn)), .ref q6, .ref q7])), (r1, .inl (c1, 120, .inl s1)), (r2, .inl (c2, 124, .inl s2)), (jT, .inr (8, [.ref t0, .int (nI (kt))])), (t0, .inl (cC, 120, .inl gT))] sz)) sz) (va_Qi (fun (r : Int32) (u : (Nat → Int32) × Nat × Nat × Bool × (List Int32)) => match u with | (S1, Wr, Pn, xo, xl) => (r = kBo xo ∧ kPR (kConZ bt kt g7 n7 6 pn) pn kt wr s1 xo Pn xl Wr S1 ∧ Wr ≤ 120)) (fun (u : (Nat → Int32) × Nat × Nat × Bool × (List Int32)) => match u with | (S1, Wr, Pn, xo, xl) => fun t : State => kB dC dI [(jR, .inr (4, [.ref jT, .ref r1, .ref r2, .int (nI (Wr)), .int (nI (fi)), .int (nI (Pn)), .ref q6, .ref q7])), (r1, .inl (c1, 120, .inl S1)), (r2, .inl (c2, 124, .inl s2)), (jT, .inr (8, [.ref t0, .int (nI (kt))])), (t0, .inl (cC, 120, .inl gT))] [(c1, .int), (c2, .int), (cC, .char)] (va_A [(jR, .inr (4, [.ref jT, .ref r1, .ref r2, .int (nI (wr)), .int (nI (fi)), .int (nI (pn)), .ref q6, .ref q7])), (r1, .inl (c1, 120, .inl s1)), (r2, .inl (c2, 124, .inl s2)), (jT, .inr (8, [.ref t0, .int (nI (kt))])), (t0, .inl (cC, 120, .inl gT))] sz) t) (va_A [(jR, .inr (4, [.ref jT, .ref r1, .ref r2, .int (nI (wr)), .int (nI (fi)), .int (nI (pn)), .ref q6, .ref q7])), (r1, .inl (c1, 120, .inl s1)), (r2, .inl (c2, 124, .inl s2)), (jT, .inr (8, [.ref t0, .int (nI (kt))])), (t0, .inl (cC, 120, .inl gT))] sz)) 0 0 (va_A [(jR, .inr (4, [.ref jT, .ref r1, .ref r2, .int (nI (wr)), .int (nI (fi)), .int (nI (pn)), .ref q6, .ref q7])), (r1, .inl (c1, 120, .inl s1)), (r2, .inl (c2, 124, .inl s2)), (jT, .inr (8, [.ref t0, .int (nI (kt))])), (t0, .inl (cC, 120, .inl gT))] sz) := by
  refine Met.ofW (cc := cX4_readCondition) (maxL := 4) (ret := (some .boolean)) (by decide) rfl ?_
  intro p e s m args below meth c s₁ B hml hv
  obtain ⟨rfl, hsz, hP, hK, hD0, hX⟩ := hv
  have hx := B.exec
  have hb := B.bytes
  have hr := B.returns
  have hts := atoms_spec (ws := w_s_cond4x_0_1) B.pre
  have hown : s.vm.findClass RX4 = some m.cls := findClass_of_methodNamed B.named
  have hlocks := B.notSynchronized
  subst hsz
  have hD := hD0.self (sz := s.heap.size)
  generalize hAe : va_A [(jR, .inr (4, [.ref jT, .ref r1, .ref r2, .int (nI (wr)), .int (nI (fi)), .int (nI (pn)), .ref q6, .ref q7])), (r1, .inl (c1, 120, .inl s1)), (r2, .inl (c2, 124, .inl s2)), (jT, .inr (8, [.ref t0, .int (nI (kt))])), (t0, .inl (cC, 120, .inl gT))] s.heap.size = A at hD hX ⊢
  have hA : ∀ q : Nat, s.heap.size ≤ q → A q := fun q h => by rw [← hAe]; exact Or.inr h
  have hS : va_S A s.heap s.heap [] := va_S.rf
  have hP : va_P (dC, dI) vwCl [(jR, .inr (4, [.ref jT, .ref r1, .ref r2, .int (nI (wr)), .int (nI (fi)), .int (nI (pn)), .ref q6, .ref q7])), (r1, .inl (c1, 120, .inl s1)), (r2, .inl (c2, 124, .inl s2)), (jT, .inr (8, [.ref t0, .int (nI (kt))])), (t0, .inl (cC, 120, .inl gT))] s.heap := hP
  have hl := lv_entry ([.ref jR, .int 0, .int 1]) (n := 4) (Nat.le_of_ble_eq_true rfl)
  rw [lg_entry_eq]
  generalize (lg_sl ([.ref jR, .int 0, .int 1]) ++ List.replicate (4 - (lg_sl ([.ref jR, .int 0, .int 1])).length) Slot.unset).toArray = ls at hl ⊢
  have hl : lv_has ls 4 [(0, .ref jR), (1, .int 0), (2, .int 1)] := hl
  refine kQ (fun Q hQ => ?_)
  refine lv_aload_n hx hb dX4_readCondition_0 rfl (lv_at hl 0 rfl) ?_
  refine lv_iload_n hx hb dX4_readCondition_1 rfl (lv_at hl 1 rfl) ?_
  refine lv_iload_n hx hb dX4_readCondition_2 rfl (lv_at hl 2 rfl) ?_
  obtain ⟨hPc, hDc, hFc⟩ := kCut (wc := [(jR, .inr (4, [.ref jT, .ref r1, .ref r2, .int (nI (wr)), .int (nI (fi)), .int (nI (pn)), .ref q6, .ref q7])), (r1, .inl (c1, 120, .inl s1)), (r2, .inl (c2, 124, .inl s2)), (jT, .inr (8, [.ref t0, .int (nI (kt))])), (t0, .inl (cC, 120, .inl gT))]) hP hD hS hA [0, 1, 2, 3, 4] rfl (by decide) rfl
  have hKc := hK.sb (tys2 := [(c1, .int), (c2, .int), (cC, .char)]) [0, 1, 2] rfl
  refine va_calli (va_runV (As := [.int 0, .int 1]) (rest := []) ⟨hx, hb, hml, hown, hts⟩ (s_truth4x_0_1 l dC dI jT t0 cC gT kt (by omega) hgT bt hbt hb8 jR r1 r2 c1 c2 s1 s2 wr fi q6 q7 (by omega) (by omega) pn (by omega) (by omega) b6 n6 g6 (by omega) b7 n7 g7 (by omega) gn6 hz6 gn7 hz7 s.heap.size) (cwV 2 hts (kG (List.forall_mem_cons.mpr ⟨(List.mem_cons_of_mem _ (List.mem_append_left _ (List.mem_of_getElem? (i := 42) rfl))), (List.forall_mem_cons.mpr ⟨(List.mem_cons_of_mem _ (List.mem_append_left _ (List.mem_of_getElem? (i := 41) rfl))), (List.forall_mem_cons.mpr ⟨(List.mem_cons_of_mem _ (List.mem_append_left _ (List.mem_of_getElem? (i := 40) rfl))), (List.forall_mem_cons.mpr ⟨(List.mem_cons_of_mem _ (List.mem_append_left _ (List.mem_of_getElem? (i := 0) rfl))), (fun _ h => absurd h List.not_mem_nil)⟩)⟩)⟩)⟩) (kGV _ _ _ _) (kFam (List.mem_cons_of_mem _ (List.mem_append_left _ (List.mem_of_getElem? (i := 39) rfl)))) gw_s_truth4x_0_1) rfl rfl rfl ⟨rfl, hd_X4_readTruth⟩ ⟨(Nat.le_of_ble_eq_true rfl), (Nat.le_of_ble_eq_true rfl)⟩) (kW_V kS2_blind (kS2_give hX hS hFc) (va_recv hKc hPc (ci := 4) (q0 := 0) rfl rfl) hPc hKc hDc) rfl rfl hl.1 rfl (lv_room (Nat.le_of_ble_eq_true rfl)) dX4_readCondition_3 ⟨(Nat.le_of_ble_eq_true rfl), (Nat.le_of_ble_eq_true rfl)⟩) hS (fun q _ h => hFc q h) hFc (fun r_1 u t H1 locs ht hvm hw hB hz1 hk1 hS => ?_)
  obtain ⟨S1_2, Wr_3, Pn_4, xo_5, xl_6⟩ := u
  obtain ⟨hP1, hK1, hD1⟩ := hB
  rw [ht] at hP1
  try dsimp only at hw
  obtain ⟨hP, hD⟩ : kPD dC dI A [(jR, .inr (4, [.ref jT, .ref r1, .ref r2, .int (nI (Wr_3)), .int (nI (fi)), .int (nI (Pn_4)), .ref q6, .ref q7])), (r1, .inl (c1, 120, .inl S1_2)), (r2, .inl (c2, 124, .inl s2)), (jT, .inr (8, [.ref t0, .int (nI (kt))])), (t0, .inl (cC, 120, .inl gT))] H1 := kJoinI hP hD [0, 1, 2, 3, 4] rfl hk1 hFc hP1 hD1 rfl [some 0, some 1, some 2, some 3, some 4] rfl rfl
  generalize H1 = H at hP hS ⊢
  have hw_7 := hw
  refine lv_if_ne (tgt := 11) hx hb dX4_readCondition_6 (by decide) (fun c_8 => ?_) (fun c_8 => ?_)
  · obtain rfl : xo_5 = true := kBo_t (kNz9 hw_7.1 c_8)
    obtain ⟨hw_7_W, hw_7_S, hw_7_l, hw_7_p⟩ := hw_7.2.1.2.2 rfl
    have hw_7_k := hw_7.2.1.2.1
    refine lv_iconst (v := 0) hx hb dX4_readCondition_11 (by decide) ?_
    refine lv_istore_n hx hb dX4_readCondition_12 rfl hl (by decide) (kTo [(3, .int 0), (0, .ref jR), (1, .int 0), (2, .int 1)]) (fun ls hl => ?_)
    have lp_k_9 : ∀ (n9 : Nat) (i : Nat) (xs1 : Nat → Int32) (xpn : Nat) (xwr : Nat) (xl : List Int32) (ivk_9_0 : i ≤ 120) (ivk_9_1 : xwr ≤ 120) (ivk_9_2 : xpn ≤ kt) (ivk_9_3 : kLoop bt kt 124 124 (kTruD bt kt g7 n7 6) (120 - i) xpn xl = kConZ bt kt g7 n7 6 pn) (ivk_9_4 : xwr = wr + xl.length) (ivk_9_5 : xs1 = kWrt s1 wr xl) (ivk_9_6 : pn + xl.length ≤ xpn) (ivk_9_7 : pn < xpn) (H : Heap) (locs : List Loc) (_ : va_P (dC, dI) vwCl [(jR, .inr (4, [.ref jT, .ref r1, .ref r2, .int (nI (xwr)), .int (nI (fi)), .int (nI (xpn)), .ref q6, .ref q7])), (r1, .inl (c1, 120, .inl xs1)), (r2, .inl (c2, 124, .inl s2)), (jT, .inr (8, [.ref t0, .int (nI (kt))])), (t0, .inl (cC, 120, .inl gT))] H) (_ : va_D A [(jR, .inr (4, [.ref jT, .ref r1, .ref r2, .int (nI (xwr)), .int (nI (fi)), .int (nI (xpn)), .ref q6, .ref q7])), (r1, .inl (c1, 120, .inl xs1)), (r2, .inl (c2, 124, .inl s2)), (jT, .inr (8, [.ref t0, .int (nI (kt))])), (t0, .inl (cC, 120, .inl gT))]) (_ : va_S A s.heap H locs) (ls : Array Slot) (_ : lv_has ls 4 [(3, .int (nI (i))), (0, .ref jR), (1, .int 0), (2, .int 1)]) (_ : 120 - i < n9), W p l e (headSpec w_s_cond4x_0_1 ({ frames := 47, cells := 0, slots := 0, locals := 2820 })).room s m (#[.ref jR, .int 0, .int 1] : Array Value) below meth c H locs 0 0 Q (F0 m 13 ls []) := by
      intro n9
      induction n9 with
      | zero => intro i xs1 xpn xwr xl ivk_9_0 ivk_9_1 ivk_9_2 ivk_9_3 ivk_9_4 ivk_9_5 ivk_9_6 ivk_9_7 H locs hP hD hS ls hl hm9; exact absurd hm9 (Nat.not_lt_zero _)
      | succ n9 ih_k_9 =>
        intro i xs1 xpn xwr xl ivk_9_0 ivk_9_1 ivk_9_2 ivk_9_3 ivk_9_4 ivk_9_5 ivk_9_6 ivk_9_7 H locs hP hD hS ls hl hm9
        refine lv_iload_n hx hb dX4_readCondition_13 rfl (lv_at hl 0 rfl) ?_
        refine lv_bipush (v := 120) hx hb dX4_readCondition_14 (by decide) ?_
        refine lv_icmp_ge (tgt := 65) hx hb dX4_readCondition_16 (by decide) (fun c_10 => ?_) (fun c_10 => ?_)
        · have hn_11 := kle (a := 120) (b := i) (by omega) (by omega) c_10
          refine lv_iconst (v := 1) hx hb dX4_readCondition_65 (by decide) ?_
          have hP9 := hP
          have hD9 := hD
          have hK9 := hK
          rw [hQ]
          exact W.zret (v := 1) hx hb hr rfl (fun t ht hW => ⟨⟨1, (xs1, xwr, xpn, true, xl), rfl, ⟨rfl, kPR_t (a := kConZ bt kt g7 n7 6) rfl (kConZ_good hz7 6) (by omega) (by rw [← ivk_9_3, show 120 - i = 0 by omega]; rfl) ivk_9_4 ivk_9_5, by omega⟩,  by rw [ht]; exact hP9, va_K.moved hW.alike hK9, hD9⟩, hS.F ht⟩) hS.2.2 dX4_readCondition_66
        · have hn_12 := knle (a := 120) (b := i) (by omega) (by omega) c_10
          refine lv_aload_n hx hb dX4_readCondition_19 rfl (lv_at hl 1 rfl) ?_
          obtain ⟨hPc, hDc, hFc⟩ := kCut (wc := [(jR, .inr (4, [.ref jT, .ref r1, .ref r2, .int (nI (xwr)), .int (nI (fi)), .int (nI (xpn)), .ref q6, .ref q7])), (r1, .inl (c1, 120, .inl xs1)), (r2, .inl (c2, 124, .inl s2)), (jT, .inr (8, [.ref t0, .int (nI (kt))])), (t0, .inl (cC, 120, .inl gT))]) hP hD hS hA [0, 1, 2, 3, 4] rfl (by decide) rfl
          have hKc := hK.sb (tys2 := [(c1, .int), (c2, .int), (cC, .char)]) [0, 1, 2] rfl
          refine va_calli (va_runV (As := []) (rest := []) ⟨hx, hb, hml, hown, hts⟩ (s_look4x l dC dI jT t0 cC gT kt (by omega) hgT bt hbt hb8 jR r1 r2 c1 c2 xs1 s2 xwr fi q6 q7 (by omega) (by omega) xpn (by omega) H.size) (cwV 0 hts (kG (List.forall_mem_cons.mpr ⟨(List.mem_cons_of_mem _ (List.mem_append_left _ (List.mem_of_getElem? (i := 3) rfl))), (List.forall_mem_cons.mpr ⟨(List.mem_cons_of_mem _ (List.mem_append_left _ (List.mem_of_getElem? (i := 2) rfl))), (List.forall_mem_cons.mpr ⟨(List.mem_cons_of_mem _ (List.mem_append_left _ (List.mem_of_getElem? (i := 1) rfl))), (List.forall_mem_cons.mpr ⟨(List.mem_cons_of_mem _ (List.mem_append_left _ (List.mem_of_getElem? (i := 0) rfl))), (fun _ h => absurd h List.not_mem_nil)⟩)⟩)⟩)⟩) (kGV _ _ _ _) (fun _ h => List.mem_cons_of_mem _ (List.mem_append_right _ (List.mem_append_left _ h))) gw_s_look4x) rfl rfl rfl ⟨rfl, hd_X4_look⟩ ⟨(Nat.le_of_ble_eq_true rfl), (Nat.le_of_ble_eq_true rfl)⟩) (kW_V kT_blind kT_give (va_recv hKc hPc (ci := 4) (q0 := 0) rfl rfl) hPc hKc hDc) rfl rfl hl.1 rfl (lv_room (Nat.le_of_ble_eq_true rfl)) dX4_readCondition_20 ⟨(Nat.le_of_ble_eq_true rfl), (Nat.le_of_ble_eq_true rfl)⟩) hS (fun q _ h => hFc q h) hFc (fun r_13 u t H1 locs ht hvm hw hB hz1 hk1 hS => ?_)
          obtain ⟨Pn_14, ch_15⟩ := u
          obtain ⟨hP1, hK1, hD1⟩ := hB
          rw [ht] at hP1
          try dsimp only at hw
          obtain ⟨hP, hD⟩ : kPD dC dI A [(jR, .inr (4, [.ref jT, .ref r1, .ref r2, .int (nI (xwr)), .int (nI (fi)), .int (nI (Pn_14)), .ref q6, .ref q7])), (r1, .inl (c1, 120, .inl xs1)), (r2, .inl (c2, 124, .inl s2)), (jT, .inr (8, [.ref t0, .int (nI (kt))])), (t0, .inl (cC, 120, .inl gT))] H1 := kJoinI hP hD [0, 1, 2, 3, 4] rfl hk1 hFc hP1 hD1 rfl [some 0, some 1, some 2, some 3, some 4] rfl rfl
          generalize H1 = H at hP hS ⊢
          obtain ⟨rfl, hw_16_0, hw_16_1, hw_16_2, hw_16_3, hw_16_4, hw_16_5, hw_16_6⟩ := hw
          refine lv_bipush (v := 124) hx hb dX4_readCondition_23 (by decide) ?_
          refine lv_icmp_ne (tgt := 65) hx hb dX4_readCondition_25 (by decide) (fun c_17 => ?_) (fun c_17 => ?_)
          · have hn_18 := kneq (a := ch_15) (b := 124) (by omega) (by omega) c_17
            refine lv_iconst (v := 1) hx hb dX4_readCondition_65 (by decide) ?_
            have hP9 := hP
            have hD9 := hD
            have hK9 := hK
            rw [hQ]
            exact W.zret (v := 1) hx hb hr rfl (fun t ht hW => ⟨⟨1, (xs1, xwr, Pn_14, true, xl), rfl, ⟨rfl, kPR_t (a := kConZ bt kt g7 n7 6) rfl (kConZ_good hz7 6) (by omega) (by rw [← ivk_9_3, show 120 - i = (119 - i) + 1 by omega, kLoop_e (by rw [← hw_16_0]; omega), ← hw_16_1]) ivk_9_4 ivk_9_5, by omega⟩,  by rw [ht]; exact hP9, va_K.moved hW.alike hK9, hD9⟩, hS.F ht⟩) hS.2.2 dX4_readCondition_66
          · have hn_19 := keq (a := ch_15) (b := 124) (by omega) (by omega) c_17
            refine lv_aload_n hx hb dX4_readCondition_28 rfl (lv_at hl 1 rfl) ?_
            refine lv_dup hx hb dX4_readCondition_29 rfl ?_
            refine va_get (D := (dC, dI)) (ci := 4) (v := .int (nI (Pn_14))) (C := RX4) (T := TX4) (N := 8) hx hb hts (fun _ h => List.mem_cons_of_mem _ (List.mem_append_right _ (List.mem_append_right _ (List.mem_append_right _ (List.mem_append_left _ h))))) hown hK hP 0 rfl rfl 5 (by decide) (hts (.fieldLink RX4 25 "NotEnded$Reader" "place" "I") (List.mem_cons_of_mem _ (List.mem_append_left _ (List.mem_of_getElem? (i := 11) rfl)))) (fun _ h9 => h9) rfl dX4_readCondition_30 ?_
            refine lv_iconst (v := 1) hx hb dX4_readCondition_33 (by decide) ?_
            refine lv_iadd hx hb dX4_readCondition_34 ?_
            refine lv_topi (fun y_20 ey_20 => ?_)
            obtain rfl : y_20 = nI (Pn_14 + 1) := ey_20.trans (nI_add (Pn_14) (1))
            refine va_put (D := (dC, dI)) (ci := 4) (v := .int (nI (Pn_14 + 1))) (ty := tyX4 5) (C := RX4) (T := TX4) (N := 8) hx hb hts (fun _ h => List.mem_cons_of_mem _ (List.mem_append_right _ (List.mem_append_right _ (List.mem_append_right _ (List.mem_append_left _ h))))) tyX4 tyX4_ok nmX4 hown hK hP hD hS 0 rfl rfl 5 (by decide) (hts (.fieldLink RX4 25 "NotEnded$Reader" "place" "I") (List.mem_cons_of_mem _ (List.mem_append_left _ (List.mem_of_getElem? (i := 11) rfl)))) (fun _ h9 => h9) rfl (tyX4_ok 5 (by decide)) rfl rfl (Nat.le_of_ble_eq_true rfl) dX4_readCondition_35 (fun H locs hP hD hS => ?_)
            obtain ⟨hP, hD⟩ : kPD dC dI A [(jR, .inr (4, [.ref jT, .ref r1, .ref r2, .int (nI (xwr)), .int (nI (fi)), .int (nI (Pn_14 + 1)), .ref q6, .ref q7])), (r1, .inl (c1, 120, .inl xs1)), (r2, .inl (c2, 124, .inl s2)), (jT, .inr (8, [.ref t0, .int (nI (kt))])), (t0, .inl (cC, 120, .inl gT))] H := ⟨hP, hD⟩
            refine lv_aload_n hx hb dX4_readCondition_38 rfl (lv_at hl 1 rfl) ?_
            refine lv_iload_n hx hb dX4_readCondition_39 rfl (lv_at hl 2 rfl) ?_
            refine lv_iconst (v := 0) hx hb dX4_readCondition_40 (by decide) ?_
            obtain ⟨hPc, hDc, hFc⟩ := kCut (wc := [(jR, .inr (4, [.ref jT, .ref r1, .ref r2, .int (nI (xwr)), .int (nI (fi)), .int (nI (Pn_14 + 1)), .ref q6, .ref q7])), (r1, .inl (c1, 120, .inl xs1)), (r2, .inl (c2, 124, .inl s2)), (jT, .inr (8, [.ref t0, .int (nI (kt))])), (t0, .inl (cC, 120, .inl gT))]) hP hD hS hA [0, 1, 2, 3, 4] rfl (by decide) rfl
            have hKc := hK.sb (tys2 := [(c1, .int), (c2, .int), (cC, .char)]) [0, 1, 2] rfl
            refine va_calli (va_runV (As := [.int 0, .int 0]) (rest := []) ⟨hx, hb, hml, hown, hts⟩ (s_truth4x_0_0 l dC dI jT t0 cC gT kt (by omega) hgT bt hbt hb8 jR r1 r2 c1 c2 xs1 s2 xwr fi q6 q7 (by omega) (by omega) (Pn_14 + 1) (by omega) (by omega) b6 n6 g6 (by omega) b7 n7 g7 (by omega) gn6 hz6 gn7 hz7 H.size) (cwV 2 hts (kG (List.forall_mem_cons.mpr ⟨(List.mem_cons_of_mem _ (List.mem_append_left _ (List.mem_of_getElem? (i := 42) rfl))), (List.forall_mem_cons.mpr ⟨(List.mem_cons_of_mem _ (List.mem_append_left _ (List.mem_of_getElem? (i := 41) rfl))), (List.forall_mem_cons.mpr ⟨(List.mem_cons_of_mem _ (List.mem_append_left _ (List.mem_of_getElem? (i := 40) rfl))), (List.forall_mem_cons.mpr ⟨(List.mem_cons_of_mem _ (List.mem_append_left _ (List.mem_of_getElem? (i := 0) rfl))), (fun _ h => absurd h List.not_mem_nil)⟩)⟩)⟩)⟩) (kGV _ _ _ _) (kFam (List.mem_cons_of_mem _ (List.mem_append_left _ (List.mem_of_getElem? (i := 39) rfl)))) gw_s_truth4x_0_0) rfl rfl rfl ⟨rfl, hd_X4_readTruth⟩ ⟨(Nat.le_of_ble_eq_true rfl), (Nat.le_of_ble_eq_true rfl)⟩) (kW_V kS2_blind (kS2_give hX hS hFc) (va_recv hKc hPc (ci := 4) (q0 := 0) rfl rfl) hPc hKc hDc) rfl rfl hl.1 rfl (lv_room (Nat.le_of_ble_eq_true rfl)) dX4_readCondition_41 ⟨(Nat.le_of_ble_eq_true rfl), (Nat.le_of_ble_eq_true rfl)⟩) hS (fun q _ h => hFc q h) hFc (fun r_21 u t H1 locs ht hvm hw hB hz1 hk1 hS => ?_)
            obtain ⟨S1_22, Wr_23, Pn_24, xo_25, xl_26⟩ := u
            obtain ⟨hP1, hK1, hD1⟩ := hB
            rw [ht] at hP1
            try dsimp only at hw
            obtain ⟨hP, hD⟩ : kPD dC dI A [(jR, .inr (4, [.ref jT, .ref r1, .ref r2, .int (nI (Wr_23)), .int (nI (fi)), .int (nI (Pn_24)), .ref q6, .ref q7])), (r1, .inl (c1, 120, .inl S1_22)), (r2, .inl (c2, 124, .inl s2)), (jT, .inr (8, [.ref t0, .int (nI (kt))])), (t0, .inl (cC, 120, .inl gT))] H1 := kJoinI hP hD [0, 1, 2, 3, 4] rfl hk1 hFc hP1 hD1 rfl [some 0, some 1, some 2, some 3, some 4] rfl rfl
            generalize H1 = H at hP hS ⊢
            have hw_27 := hw
            refine lv_if_eq (tgt := 57) hx hb dX4_readCondition_44 (by decide) (fun c_28 => ?_) (fun c_28 => ?_)
            · obtain rfl : xo_25 = false := kBo_f (kZr9 hw_27.1 c_28)
              have hw_27_k := hw_27.2.1.2.1
              refine lv_iconst (v := 0) hx hb dX4_readCondition_57 (by decide) ?_
              have hP9 := hP
              have hD9 := hD
              have hK9 := hK
              rw [hQ]
              exact W.zret (v := 0) hx hb hr rfl (fun t ht hW => ⟨⟨0, (S1_22, Wr_23, Pn_24, false, ([])), rfl, ⟨rfl, kPR_f (by rw [← ivk_9_3, show 120 - i = (119 - i) + 1 by omega]; exact kLoop_f (by rw [← hw_16_0]; omega) (by rw [← hw_16_1]; exact hw_27.2.1.1)) (by omega), by omega⟩,  by rw [ht]; exact hP9, va_K.moved hW.alike hK9, hD9⟩, hS.F ht⟩) hS.2.2 dX4_readCondition_58
            · obtain rfl : xo_25 = true := kBo_t (kNz9 hw_27.1 c_28)
              obtain ⟨hw_27_W, hw_27_S, hw_27_l, hw_27_p⟩ := hw_27.2.1.2.2 rfl
              have hw_27_k := hw_27.2.1.2.1
              refine lv_aload_n hx hb dX4_readCondition_47 rfl (lv_at hl 1 rfl) ?_
              refine lv_sipush (v := 20124) hx hb dX4_readCondition_48 (by decide) ?_
              obtain ⟨hPc, hDc, hFc⟩ := kCut (wc := [(jR, .inr (4, [.ref jT, .ref r1, .ref r2, .int (nI (Wr_23)), .int (nI (fi)), .int (nI (Pn_24)), .ref q6, .ref q7])), (r1, .inl (c1, 120, .inl S1_22)), (r2, .inl (c2, 124, .inl s2)), (jT, .inr (8, [.ref t0, .int (nI (kt))])), (t0, .inl (cC, 120, .inl gT))]) hP hD hS hA [0, 1, 2, 3, 4] rfl (by decide) rfl
              have hKc := hK.sb (tys2 := [(c1, .int), (c2, .int), (cC, .char)]) [0, 1, 2] rfl
              refine va_calli (va_runV (As := [.int 20124]) (rest := []) ⟨hx, hb, hml, hown, hts⟩ (s_write4x l dC dI jT t0 cC gT kt (by omega) hgT bt hbt hb8 jR r1 r2 c1 c2 S1_22 s2 Wr_23 fi q6 q7 (by omega) (by omega) Pn_24 (by omega) 20124 (by omega) H.size) (cwV 1 hts (kG (List.forall_mem_cons.mpr ⟨(List.mem_cons_of_mem _ (List.mem_append_left _ (List.mem_of_getElem? (i := 14) rfl))), (List.forall_mem_cons.mpr ⟨(List.mem_cons_of_mem _ (List.mem_append_left _ (List.mem_of_getElem? (i := 13) rfl))), (List.forall_mem_cons.mpr ⟨(List.mem_cons_of_mem _ (List.mem_append_left _ (List.mem_of_getElem? (i := 12) rfl))), (List.forall_mem_cons.mpr ⟨(List.mem_cons_of_mem _ (List.mem_append_left _ (List.mem_of_getElem? (i := 0) rfl))), (fun _ h => absurd h List.not_mem_nil)⟩)⟩)⟩)⟩) (kGV _ _ _ _) (fun _ h => List.mem_cons_of_mem _ (List.mem_append_right _ (List.mem_append_right _ (List.mem_append_right _ (List.mem_append_right _ (List.mem_append_right _ (List.mem_append_left _ h))))))) gw_s_write4x) rfl rfl rfl ⟨rfl, hd_X4_write⟩ ⟨(Nat.le_of_ble_eq_true rfl), (Nat.le_of_ble_eq_true rfl)⟩) (kW_V kT_blind kT_give (va_recv hKc hPc (ci := 4) (q0 := 0) rfl rfl) hPc hKc hDc) rfl rfl hl.1 rfl (lv_room (Nat.le_of_ble_eq_true rfl)) dX4_readCondition_51 ⟨(Nat.le_of_ble_eq_true rfl), (Nat.le_of_ble_eq_true rfl)⟩) hS (fun q _ h => hFc q h) hFc (fun r_29 u t H1 locs ht hvm hw hB hz1 hk1 hS => ?_)
              obtain ⟨S1_30, Wr_31⟩ := u
              obtain ⟨hP1, hK1, hD1⟩ := hB
              rw [ht] at hP1
              try dsimp only at hw
              obtain ⟨hP, hD⟩ : kPD dC dI A [(jR, .inr (4, [.ref jT, .ref r1, .ref r2, .int (nI (Wr_31)), .int (nI (fi)), .int (nI (Pn_24)), .ref q6, .ref q7])), (r1, .inl (c1, 120, .inl S1_30)), (r2, .inl (c2, 124, .inl s2)), (jT, .inr (8, [.ref t0, .int (nI (kt))])), (t0, .inl (cC, 120, .inl gT))] H1 := kJoinI hP hD [0, 1, 2, 3, 4] rfl hk1 hFc hP1 hD1 rfl [some 0, some 1, some 2, some 3, some 4] rfl rfl
              generalize H1 = H at hP hS ⊢
              obtain ⟨rfl, hw_32⟩ := hw
              refine lv_if_ne (tgt := 59) hx hb dX4_readCondition_54 (by decide) (fun c_33 => ?_) (fun c_33 => absurd c_33 (by decide))
              refine lv_iinc (v := nI (i + 1)) hx hb dX4_readCondition_59 hl (k := 0) rfl (kInc _ 1) (by decide) (kTo [(3, .int (nI (i + 1))), (0, .ref jR), (1, .int 0), (2, .int 1)]) (fun ls hl => ?_)
              refine lv_goto (tgt := 13) hx hb dX4_readCondition_62 (by decide) ?_
              exact ih_k_9 (i + 1) S1_30 Pn_24 Wr_31 (xl ++ xl_26 ++ [nI (20000 + 124)]) (by omega) (by omega) (by omega) (by have e9 := kLoop_t (b := bt) (n := kt) (c1 := 124) (c2 := 124) (a := kTruD bt kt g7 n7 6) (f := 120 - (i + 1)) (p := xpn) (l := xl) (by rw [← hw_16_0]; omega) (by rw [← hw_16_1]; exact hw_27.2.1.1); rw [← hw_16_0] at e9; rw [show ch_15 = 124 by omega] at e9; rw [← e9, show (120 - (i + 1)) + 1 = 120 - i by omega]; exact ivk_9_3) (by simp only [List.length_append, List.length_cons, List.length_nil]; omega) (kWrt3 ivk_9_5 ivk_9_4 hw_27_S hw_27_W hw_32.2) (by simp only [List.length_append, List.length_cons, List.length_nil]; omega) (by omega) _ _ hP hD hS ls (lv_sub hl [0, 1, 2, 3] rfl) (by omega)
    exact lp_k_9 (120 - 0 + 1) 0 S1_2 Pn_4 Wr_3 xl_6 (by omega) (by omega) (by omega) (kMany_t hw_7.2.1.1).symm hw_7_W hw_7_S hw_7_l hw_7_p _ _ hP hD hS ls (lv_sub hl [0, 1, 2, 3] rfl) (by omega)
  · obtain rfl : xo_5 = false := kBo_f (kZr9 hw_7.1 c_8)
    have hw_7_k := hw_7.2.1.2.1
    refine lv_iconst (v := 0) hx hb dX4_readCondition_9 (by decide) ?_
    have hP9 := hP
    have hD9 := hD
    have hK9 := hK
    rw [hQ]
    exact W.zret (v := 0) hx hb hr rfl (fun t ht hW => ⟨⟨0, (S1_2, Wr_3, Pn_4, false, ([])), rfl, ⟨rfl, kPR_f (kMany_f hw_7.2.1.1) (by omega), by omega⟩,  by rw [ht]; exact hP9, va_K.moved hW.alike hK9, hD9⟩, hS.F ht⟩) hS.2.2 dX4_readCondition_10
